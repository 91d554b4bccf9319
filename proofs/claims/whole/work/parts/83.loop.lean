section LOOP
variable {d f g i N : Nat} {t : Option Nat} {I : Nat → Nat → Int32} {L : Nat → Nat → Int64} {X : Nat → Int32} {Q : Option Value → zMm → Prop}
theorem law_sw0 (hN : i + 6 ≤ N) (hN2 : N < 1000000) : zWp (d + 100) zi_217 (some (N, X)) 18 [.ref 1000000, .ref 0, .ref 80, .int (nI i)] [] (zSH, I, L, zP f g t) Q = zWp (d + 100) zi_217 (some (N, X)) 33 [.ref 1000000, .ref 0, .ref 80, .int (nI i)] [.int (X i &&& 63)] (zSH, I, L, zP f g t) Q := by
  have h1 : nI N - 6 = nI (N - 6) := by
    obtain ⟨q, rfl⟩ : ∃ q, N = q + 6 := ⟨N - 6, by omega⟩
    rw [show q + 6 - 6 = q by omega, ← zi_ak q 6]
    show nI q + 6 - 6 = nI q
    grind
  have h1 : Int32.ofNat N - 6 = nI (N - 6) := h1
  have h2 : ¬ N - 6 < i := by omega
  have h3 : i ≤ N - 6 := by omega
  have h4 : i < N := by omega
  obtain ⟨p1, p2, p3, p4, p5, p6, p7, p8, p9, p10, p11, p12, p13⟩ := R_law_16
  rw [H_law_18]
  simp (disch := first | assumption | rfl | omega | decide | exact zb_01 _) only [zabs_e, zmax_e, zmin_e, zrf_s, zpush_s, zpush_n, zw_app, upd_app, updL_app, Nat.reduceEqDiff, Nat.add_left_cancel_iff, Nat.add_eq_left, Nat.left_eq_add, ↓reduceIte, true_and, and_true, Int32.reduceToNatClampNeg, zin_O, zi_ltO, zi_leO, zi_Olt, zi_Ole, zi_eqO, Nat.not_lt_zero, Nat.zero_le, List.append_nil, zrn_n, zrn_s, List.cons_append, List.nil_append, zlg_lt, zlg_gt, zlg_le, zlg_ge, zlg_eq, Int32.toInt_toInt64, Int64.reduceToInt, zw_zw, zw_sw1, zw_sw2, zw_sw3, zw_sw4, zw_sw5, zw_sw6, zw_sw7, ne_eq, zi_in, zi_cl, zi_le, zi_lt, zi_eq, zi_neg, zi_0le, zb_0, if_true, if_false, eq_self, zb_T, zb_F, Bool.false_eq_true, zO_eq, zO_ne1, zO_ne2, zO_nn, zi_ne1, zi_ne2, zi_lt1, zi_le1, zi_lt2, zi_le2, Int32.reduceLT, Int32.reduceLE, Nat.reduceLT, Nat.reduceLeDiff, Int32.reduceMul, Int32.reduceAdd, Int32.reduceSub, not_false_eq_true, not_true_eq_false, Int32.reduceToInt, Int.reduceLE, Int.reduceLT, Int.reduceNeg, ite_self, p3, p4, p5, p6, p7, p8, p9, p10, p11, p12, h1, h2, h3, h4]
theorem law_sw (hN : i + 6 ≤ N) (hN2 : N < 1000000) : zWp (d + 100) zi_217 (some (N, X)) 18 [.ref 1000000, .ref 0, .ref 80, .int (nI i)] [] (zSH, I, L, zP f g t) Q = if X i &&& 63 = 0 then zWp (d + 100) zi_217 (some (N, X)) 204 [.ref 1000000, .ref 0, .ref 80, .int (nI i)] [] (zSH, I, L, zP f g t) Q else if X i &&& 63 = 1 then zWp (d + 100) zi_217 (some (N, X)) 237 [.ref 1000000, .ref 0, .ref 80, .int (nI i)] [] (zSH, I, L, zP f g t) Q else if X i &&& 63 = 2 then zWp (d + 100) zi_217 (some (N, X)) 250 [.ref 1000000, .ref 0, .ref 80, .int (nI i)] [] (zSH, I, L, zP f g t) Q else if X i &&& 63 = 3 then zWp (d + 100) zi_217 (some (N, X)) 293 [.ref 1000000, .ref 0, .ref 80, .int (nI i)] [] (zSH, I, L, zP f g t) Q else if X i &&& 63 = 4 then zWp (d + 100) zi_217 (some (N, X)) 316 [.ref 1000000, .ref 0, .ref 80, .int (nI i)] [] (zSH, I, L, zP f g t) Q else if X i &&& 63 = 5 then zWp (d + 100) zi_217 (some (N, X)) 359 [.ref 1000000, .ref 0, .ref 80, .int (nI i)] [] (zSH, I, L, zP f g t) Q else if X i &&& 63 = 6 then zWp (d + 100) zi_217 (some (N, X)) 392 [.ref 1000000, .ref 0, .ref 80, .int (nI i)] [] (zSH, I, L, zP f g t) Q else if X i &&& 63 = 7 then zWp (d + 100) zi_217 (some (N, X)) 415 [.ref 1000000, .ref 0, .ref 80, .int (nI i)] [] (zSH, I, L, zP f g t) Q else if X i &&& 63 = 8 then zWp (d + 100) zi_217 (some (N, X)) 428 [.ref 1000000, .ref 0, .ref 80, .int (nI i)] [] (zSH, I, L, zP f g t) Q else if X i &&& 63 = 9 then zWp (d + 100) zi_217 (some (N, X)) 451 [.ref 1000000, .ref 0, .ref 80, .int (nI i)] [] (zSH, I, L, zP f g t) Q else if X i &&& 63 = 10 then zWp (d + 100) zi_217 (some (N, X)) 474 [.ref 1000000, .ref 0, .ref 80, .int (nI i)] [] (zSH, I, L, zP f g t) Q else if X i &&& 63 = 11 then zWp (d + 100) zi_217 (some (N, X)) 497 [.ref 1000000, .ref 0, .ref 80, .int (nI i)] [] (zSH, I, L, zP f g t) Q else if X i &&& 63 = 12 then zWp (d + 100) zi_217 (some (N, X)) 530 [.ref 1000000, .ref 0, .ref 80, .int (nI i)] [] (zSH, I, L, zP f g t) Q else if X i &&& 63 = 13 then zWp (d + 100) zi_217 (some (N, X)) 543 [.ref 1000000, .ref 0, .ref 80, .int (nI i)] [] (zSH, I, L, zP f g t) Q else if X i &&& 63 = 14 then zWp (d + 100) zi_217 (some (N, X)) 556 [.ref 1000000, .ref 0, .ref 80, .int (nI i)] [] (zSH, I, L, zP f g t) Q else if X i &&& 63 = 15 then zWp (d + 100) zi_217 (some (N, X)) 589 [.ref 1000000, .ref 0, .ref 80, .int (nI i)] [] (zSH, I, L, zP f g t) Q else if X i &&& 63 = 16 then zWp (d + 100) zi_217 (some (N, X)) 612 [.ref 1000000, .ref 0, .ref 80, .int (nI i)] [] (zSH, I, L, zP f g t) Q else if X i &&& 63 = 17 then zWp (d + 100) zi_217 (some (N, X)) 645 [.ref 1000000, .ref 0, .ref 80, .int (nI i)] [] (zSH, I, L, zP f g t) Q else if X i &&& 63 = 18 then zWp (d + 100) zi_217 (some (N, X)) 678 [.ref 1000000, .ref 0, .ref 80, .int (nI i)] [] (zSH, I, L, zP f g t) Q else if X i &&& 63 = 19 then zWp (d + 100) zi_217 (some (N, X)) 701 [.ref 1000000, .ref 0, .ref 80, .int (nI i)] [] (zSH, I, L, zP f g t) Q else if X i &&& 63 = 20 then zWp (d + 100) zi_217 (some (N, X)) 734 [.ref 1000000, .ref 0, .ref 80, .int (nI i)] [] (zSH, I, L, zP f g t) Q else if X i &&& 63 = 21 then zWp (d + 100) zi_217 (some (N, X)) 767 [.ref 1000000, .ref 0, .ref 80, .int (nI i)] [] (zSH, I, L, zP f g t) Q else if X i &&& 63 = 22 then zWp (d + 100) zi_217 (some (N, X)) 810 [.ref 1000000, .ref 0, .ref 80, .int (nI i)] [] (zSH, I, L, zP f g t) Q else if X i &&& 63 = 23 then zWp (d + 100) zi_217 (some (N, X)) 833 [.ref 1000000, .ref 0, .ref 80, .int (nI i)] [] (zSH, I, L, zP f g t) Q else if X i &&& 63 = 24 then zWp (d + 100) zi_217 (some (N, X)) 866 [.ref 1000000, .ref 0, .ref 80, .int (nI i)] [] (zSH, I, L, zP f g t) Q else if X i &&& 63 = 25 then zWp (d + 100) zi_217 (some (N, X)) 889 [.ref 1000000, .ref 0, .ref 80, .int (nI i)] [] (zSH, I, L, zP f g t) Q else if X i &&& 63 = 26 then zWp (d + 100) zi_217 (some (N, X)) 902 [.ref 1000000, .ref 0, .ref 80, .int (nI i)] [] (zSH, I, L, zP f g t) Q else if X i &&& 63 = 27 then zWp (d + 100) zi_217 (some (N, X)) 915 [.ref 1000000, .ref 0, .ref 80, .int (nI i)] [] (zSH, I, L, zP f g t) Q else if X i &&& 63 = 28 then zWp (d + 100) zi_217 (some (N, X)) 928 [.ref 1000000, .ref 0, .ref 80, .int (nI i)] [] (zSH, I, L, zP f g t) Q else if X i &&& 63 = 29 then zWp (d + 100) zi_217 (some (N, X)) 941 [.ref 1000000, .ref 0, .ref 80, .int (nI i)] [] (zSH, I, L, zP f g t) Q else if X i &&& 63 = 30 then zWp (d + 100) zi_217 (some (N, X)) 964 [.ref 1000000, .ref 0, .ref 80, .int (nI i)] [] (zSH, I, L, zP f g t) Q else if X i &&& 63 = 31 then zWp (d + 100) zi_217 (some (N, X)) 1007 [.ref 1000000, .ref 0, .ref 80, .int (nI i)] [] (zSH, I, L, zP f g t) Q else if X i &&& 63 = 32 then zWp (d + 100) zi_217 (some (N, X)) 1030 [.ref 1000000, .ref 0, .ref 80, .int (nI i)] [] (zSH, I, L, zP f g t) Q else if X i &&& 63 = 33 then zWp (d + 100) zi_217 (some (N, X)) 1063 [.ref 1000000, .ref 0, .ref 80, .int (nI i)] [] (zSH, I, L, zP f g t) Q else if X i &&& 63 = 34 then zWp (d + 100) zi_217 (some (N, X)) 1106 [.ref 1000000, .ref 0, .ref 80, .int (nI i)] [] (zSH, I, L, zP f g t) Q else if X i &&& 63 = 35 then zWp (d + 100) zi_217 (some (N, X)) 1179 [.ref 1000000, .ref 0, .ref 80, .int (nI i)] [] (zSH, I, L, zP f g t) Q else if X i &&& 63 = 36 then zWp (d + 100) zi_217 (some (N, X)) 1213 [.ref 1000000, .ref 0, .ref 80, .int (nI i)] [] (zSH, I, L, zP f g t) Q else if X i &&& 63 = 37 then zWp (d + 100) zi_217 (some (N, X)) 1276 [.ref 1000000, .ref 0, .ref 80, .int (nI i)] [] (zSH, I, L, zP f g t) Q else if X i &&& 63 = 38 then zWp (d + 100) zi_217 (some (N, X)) 1309 [.ref 1000000, .ref 0, .ref 80, .int (nI i)] [] (zSH, I, L, zP f g t) Q else zWp (d + 100) zi_217 (some (N, X)) 1332 [.ref 1000000, .ref 0, .ref 80, .int (nI i)] [] (zSH, I, L, zP f g t) Q := by
  obtain ⟨p1, p2, p3, p4, p5, p6, p7, p8, p9, p10, p11, p12, p13⟩ := R_law_16
  rw [law_sw0 hN hN2]
  exact p13 _ _ _ _ _ _ _ _ _ _
theorem law_end (hN : N < i + 6) (hN2 : N < 1000000) (hi : i < 1000006) : zWp (d + 100) zi_217 (some (N, X)) 18 [.ref 1000000, .ref 0, .ref 80, .int (nI i)] [] (zSH, I, L, zP f g t) Q = Q (some (.int 1)) (zSH, I, L, zP f g t) := by
  have h1 : Int32.ofNat N - 6 < nI i := by
    have e : Int32.ofNat N = nI N := rfl
    have t6 : (6 : Int32).toInt = 6 := by decide
    rw [e, Int32.lt_iff_toInt_lt, zt_sub (by rw [zi_nt (by omega), t6]; omega) (by rw [zi_nt (by omega), t6]; omega), zi_nt (by omega), zi_nt (by omega), t6]
    omega
  have h2 : ¬ nI i ≤ Int32.ofNat N - 6 := Int32.not_le.mpr h1
  rw [H_law_18]
  simp (disch := first | assumption | rfl | omega | decide | exact zb_01 _) only [zabs_e, zmax_e, zmin_e, zrf_s, zpush_s, zpush_n, zw_app, upd_app, updL_app, Nat.reduceEqDiff, Nat.add_left_cancel_iff, Nat.add_eq_left, Nat.left_eq_add, ↓reduceIte, true_and, and_true, Int32.reduceToNatClampNeg, zin_O, zi_ltO, zi_leO, zi_Olt, zi_Ole, zi_eqO, Nat.not_lt_zero, Nat.zero_le, List.append_nil, zrn_n, zrn_s, List.cons_append, List.nil_append, zlg_lt, zlg_gt, zlg_le, zlg_ge, zlg_eq, Int32.toInt_toInt64, Int64.reduceToInt, zw_zw, zw_sw1, zw_sw2, zw_sw3, zw_sw4, zw_sw5, zw_sw6, zw_sw7, ne_eq, zi_in, zi_cl, zi_le, zi_lt, zi_eq, zi_neg, zi_0le, zb_0, if_true, if_false, eq_self, zb_T, zb_F, Bool.false_eq_true, zO_eq, zO_ne1, zO_ne2, zO_nn, zi_ne1, zi_ne2, zi_lt1, zi_le1, zi_lt2, zi_le2, Int32.reduceLT, Int32.reduceLE, Nat.reduceLT, Nat.reduceLeDiff, Int32.reduceMul, Int32.reduceAdd, Int32.reduceSub, not_false_eq_true, not_true_eq_false, Int32.reduceToInt, Int.reduceLE, Int.reduceLT, Int.reduceNeg, ite_self, R_law_16, R_law_1332, h1, h2]
theorem law_tl : zWp (d + 100) zi_217 (some (N, X)) 1332 [.ref 1000000, .ref 0, .ref 80, .int (nI i)] [] (zSH, I, L, zP f g t) Q = zWp (d + 100) zi_217 (some (N, X)) 18 [.ref 1000000, .ref 0, .ref 80, .int (nI (i + 6))] [] (zSH, I, L, zP f g t) Q := by
  have h6 : nI i + 6 = nI (i + 6) := zi_ak i 6
  simp (disch := first | assumption | rfl | omega | decide | exact zb_01 _) only [zabs_e, zmax_e, zmin_e, zrf_s, zpush_s, zpush_n, zw_app, upd_app, updL_app, Nat.reduceEqDiff, Nat.add_left_cancel_iff, Nat.add_eq_left, Nat.left_eq_add, ↓reduceIte, true_and, and_true, Int32.reduceToNatClampNeg, zin_O, zi_ltO, zi_leO, zi_Olt, zi_Ole, zi_eqO, Nat.not_lt_zero, Nat.zero_le, List.append_nil, zrn_n, zrn_s, List.cons_append, List.nil_append, zlg_lt, zlg_gt, zlg_le, zlg_ge, zlg_eq, Int32.toInt_toInt64, Int64.reduceToInt, zw_zw, zw_sw1, zw_sw2, zw_sw3, zw_sw4, zw_sw5, zw_sw6, zw_sw7, ne_eq, zi_in, zi_cl, zi_le, zi_lt, zi_eq, zi_neg, zi_0le, zb_0, if_true, if_false, eq_self, zb_T, zb_F, Bool.false_eq_true, zO_eq, zO_ne1, zO_ne2, zO_nn, zi_ne1, zi_ne2, zi_lt1, zi_le1, zi_lt2, zi_le2, Int32.reduceLT, Int32.reduceLE, Nat.reduceLT, Nat.reduceLeDiff, Int32.reduceMul, Int32.reduceAdd, Int32.reduceSub, not_false_eq_true, not_true_eq_false, Int32.reduceToInt, Int.reduceLE, Int.reduceLT, Int.reduceNeg, ite_self, R_law_1332, h6]
theorem law_step (hN : i + 6 ≤ N) (hN2 : N < 1000000) (hR : zRel I L f g) : ∃ I2 L2 f2 g2 t2, zRel I2 L2 f2 g2 ∧ ∀ d Q, zWp (d + 100) zi_217 (some (N, X)) 18 [.ref 1000000, .ref 0, .ref 80, .int (nI i)] [] (zSH, I, L, zP f g t) Q = zWp (d + 100) zi_217 (some (N, X)) 18 [.ref 1000000, .ref 0, .ref 80, .int (nI (i + 6))] [] (zSH, I2, L2, zP f2 g2 t2) Q := by
  have b2 : N < 2147483648 := by omega
  by_cases h0 : X i &&& 63 = 0
  · obtain ⟨I2, L2, f2, g2, t2, hR2, e⟩ := st_0 (t := t) (X := X) hN b2 hR
    refine ⟨I2, L2, f2, g2, t2, hR2, fun d Q => ?_⟩
    rw [law_sw hN hN2, if_pos h0, e, law_tl]
  by_cases h1 : X i &&& 63 = 1
  · obtain ⟨I2, L2, f2, g2, t2, hR2, e⟩ := st_1 (t := t) (X := X) hN b2 hR
    refine ⟨I2, L2, f2, g2, t2, hR2, fun d Q => ?_⟩
    rw [law_sw hN hN2, if_neg h0, if_pos h1, e, law_tl]
  by_cases h2 : X i &&& 63 = 2
  · obtain ⟨I2, L2, f2, g2, t2, hR2, e⟩ := st_2 (t := t) (X := X) hN b2 hR
    refine ⟨I2, L2, f2, g2, t2, hR2, fun d Q => ?_⟩
    rw [law_sw hN hN2, if_neg h0, if_neg h1, if_pos h2, e, law_tl]
  by_cases h3 : X i &&& 63 = 3
  · obtain ⟨I2, L2, f2, g2, t2, hR2, e⟩ := st_3 (t := t) (X := X) hN b2 hR
    refine ⟨I2, L2, f2, g2, t2, hR2, fun d Q => ?_⟩
    rw [law_sw hN hN2, if_neg h0, if_neg h1, if_neg h2, if_pos h3, e, law_tl]
  by_cases h4 : X i &&& 63 = 4
  · obtain ⟨I2, L2, f2, g2, t2, hR2, e⟩ := st_4 (t := t) (X := X) hN b2 hR
    refine ⟨I2, L2, f2, g2, t2, hR2, fun d Q => ?_⟩
    rw [law_sw hN hN2, if_neg h0, if_neg h1, if_neg h2, if_neg h3, if_pos h4, e, law_tl]
  by_cases h5 : X i &&& 63 = 5
  · obtain ⟨I2, L2, f2, g2, t2, hR2, e⟩ := st_5 (t := t) (X := X) hN b2 hR
    refine ⟨I2, L2, f2, g2, t2, hR2, fun d Q => ?_⟩
    rw [law_sw hN hN2, if_neg h0, if_neg h1, if_neg h2, if_neg h3, if_neg h4, if_pos h5, e, law_tl]
  by_cases h6 : X i &&& 63 = 6
  · obtain ⟨I2, L2, f2, g2, t2, hR2, e⟩ := st_6 (t := t) (X := X) hN b2 hR
    refine ⟨I2, L2, f2, g2, t2, hR2, fun d Q => ?_⟩
    rw [law_sw hN hN2, if_neg h0, if_neg h1, if_neg h2, if_neg h3, if_neg h4, if_neg h5, if_pos h6, e, law_tl]
  by_cases h7 : X i &&& 63 = 7
  · obtain ⟨I2, L2, f2, g2, t2, hR2, e⟩ := st_7 (t := t) (X := X) hN b2 hR
    refine ⟨I2, L2, f2, g2, t2, hR2, fun d Q => ?_⟩
    rw [law_sw hN hN2, if_neg h0, if_neg h1, if_neg h2, if_neg h3, if_neg h4, if_neg h5, if_neg h6, if_pos h7, e, law_tl]
  by_cases h8 : X i &&& 63 = 8
  · obtain ⟨I2, L2, f2, g2, t2, hR2, e⟩ := st_8 (t := t) (X := X) hN b2 hR
    refine ⟨I2, L2, f2, g2, t2, hR2, fun d Q => ?_⟩
    rw [law_sw hN hN2, if_neg h0, if_neg h1, if_neg h2, if_neg h3, if_neg h4, if_neg h5, if_neg h6, if_neg h7, if_pos h8, e, law_tl]
  by_cases h9 : X i &&& 63 = 9
  · obtain ⟨I2, L2, f2, g2, t2, hR2, e⟩ := st_9 (t := t) (X := X) hN b2 hR
    refine ⟨I2, L2, f2, g2, t2, hR2, fun d Q => ?_⟩
    rw [law_sw hN hN2, if_neg h0, if_neg h1, if_neg h2, if_neg h3, if_neg h4, if_neg h5, if_neg h6, if_neg h7, if_neg h8, if_pos h9, e, law_tl]
  by_cases h10 : X i &&& 63 = 10
  · obtain ⟨I2, L2, f2, g2, t2, hR2, e⟩ := st_10 (t := t) (X := X) hN b2 hR
    refine ⟨I2, L2, f2, g2, t2, hR2, fun d Q => ?_⟩
    rw [law_sw hN hN2, if_neg h0, if_neg h1, if_neg h2, if_neg h3, if_neg h4, if_neg h5, if_neg h6, if_neg h7, if_neg h8, if_neg h9, if_pos h10, e, law_tl]
  by_cases h11 : X i &&& 63 = 11
  · obtain ⟨I2, L2, f2, g2, t2, hR2, e⟩ := st_11 (t := t) (X := X) hN b2 hR
    refine ⟨I2, L2, f2, g2, t2, hR2, fun d Q => ?_⟩
    rw [law_sw hN hN2, if_neg h0, if_neg h1, if_neg h2, if_neg h3, if_neg h4, if_neg h5, if_neg h6, if_neg h7, if_neg h8, if_neg h9, if_neg h10, if_pos h11, e, law_tl]
  by_cases h12 : X i &&& 63 = 12
  · obtain ⟨I2, L2, f2, g2, t2, hR2, e⟩ := st_12 (t := t) (X := X) hN b2 hR
    refine ⟨I2, L2, f2, g2, t2, hR2, fun d Q => ?_⟩
    rw [law_sw hN hN2, if_neg h0, if_neg h1, if_neg h2, if_neg h3, if_neg h4, if_neg h5, if_neg h6, if_neg h7, if_neg h8, if_neg h9, if_neg h10, if_neg h11, if_pos h12, e, law_tl]
  by_cases h13 : X i &&& 63 = 13
  · obtain ⟨I2, L2, f2, g2, t2, hR2, e⟩ := st_13 (t := t) (X := X) hN b2 hR
    refine ⟨I2, L2, f2, g2, t2, hR2, fun d Q => ?_⟩
    rw [law_sw hN hN2, if_neg h0, if_neg h1, if_neg h2, if_neg h3, if_neg h4, if_neg h5, if_neg h6, if_neg h7, if_neg h8, if_neg h9, if_neg h10, if_neg h11, if_neg h12, if_pos h13, e, law_tl]
  by_cases h14 : X i &&& 63 = 14
  · obtain ⟨I2, L2, f2, g2, t2, hR2, e⟩ := st_14 (t := t) (X := X) hN b2 hR
    refine ⟨I2, L2, f2, g2, t2, hR2, fun d Q => ?_⟩
    rw [law_sw hN hN2, if_neg h0, if_neg h1, if_neg h2, if_neg h3, if_neg h4, if_neg h5, if_neg h6, if_neg h7, if_neg h8, if_neg h9, if_neg h10, if_neg h11, if_neg h12, if_neg h13, if_pos h14, e, law_tl]
  by_cases h15 : X i &&& 63 = 15
  · obtain ⟨I2, L2, f2, g2, t2, hR2, e⟩ := st_15 (t := t) (X := X) hN b2 hR
    refine ⟨I2, L2, f2, g2, t2, hR2, fun d Q => ?_⟩
    rw [law_sw hN hN2, if_neg h0, if_neg h1, if_neg h2, if_neg h3, if_neg h4, if_neg h5, if_neg h6, if_neg h7, if_neg h8, if_neg h9, if_neg h10, if_neg h11, if_neg h12, if_neg h13, if_neg h14, if_pos h15, e, law_tl]
  by_cases h16 : X i &&& 63 = 16
  · obtain ⟨I2, L2, f2, g2, t2, hR2, e⟩ := st_16 (t := t) (X := X) hN b2 hR
    refine ⟨I2, L2, f2, g2, t2, hR2, fun d Q => ?_⟩
    rw [law_sw hN hN2, if_neg h0, if_neg h1, if_neg h2, if_neg h3, if_neg h4, if_neg h5, if_neg h6, if_neg h7, if_neg h8, if_neg h9, if_neg h10, if_neg h11, if_neg h12, if_neg h13, if_neg h14, if_neg h15, if_pos h16, e, law_tl]
  by_cases h17 : X i &&& 63 = 17
  · obtain ⟨I2, L2, f2, g2, t2, hR2, e⟩ := st_17 (t := t) (X := X) hN b2 hR
    refine ⟨I2, L2, f2, g2, t2, hR2, fun d Q => ?_⟩
    rw [law_sw hN hN2, if_neg h0, if_neg h1, if_neg h2, if_neg h3, if_neg h4, if_neg h5, if_neg h6, if_neg h7, if_neg h8, if_neg h9, if_neg h10, if_neg h11, if_neg h12, if_neg h13, if_neg h14, if_neg h15, if_neg h16, if_pos h17, e, law_tl]
  by_cases h18 : X i &&& 63 = 18
  · obtain ⟨I2, L2, f2, g2, t2, hR2, e⟩ := st_18 (t := t) (X := X) hN b2 hR
    refine ⟨I2, L2, f2, g2, t2, hR2, fun d Q => ?_⟩
    rw [law_sw hN hN2, if_neg h0, if_neg h1, if_neg h2, if_neg h3, if_neg h4, if_neg h5, if_neg h6, if_neg h7, if_neg h8, if_neg h9, if_neg h10, if_neg h11, if_neg h12, if_neg h13, if_neg h14, if_neg h15, if_neg h16, if_neg h17, if_pos h18, e, law_tl]
  by_cases h19 : X i &&& 63 = 19
  · obtain ⟨I2, L2, f2, g2, t2, hR2, e⟩ := st_19 (t := t) (X := X) hN b2 hR
    refine ⟨I2, L2, f2, g2, t2, hR2, fun d Q => ?_⟩
    rw [law_sw hN hN2, if_neg h0, if_neg h1, if_neg h2, if_neg h3, if_neg h4, if_neg h5, if_neg h6, if_neg h7, if_neg h8, if_neg h9, if_neg h10, if_neg h11, if_neg h12, if_neg h13, if_neg h14, if_neg h15, if_neg h16, if_neg h17, if_neg h18, if_pos h19, e, law_tl]
  by_cases h20 : X i &&& 63 = 20
  · obtain ⟨I2, L2, f2, g2, t2, hR2, e⟩ := st_20 (t := t) (X := X) hN b2 hR
    refine ⟨I2, L2, f2, g2, t2, hR2, fun d Q => ?_⟩
    rw [law_sw hN hN2, if_neg h0, if_neg h1, if_neg h2, if_neg h3, if_neg h4, if_neg h5, if_neg h6, if_neg h7, if_neg h8, if_neg h9, if_neg h10, if_neg h11, if_neg h12, if_neg h13, if_neg h14, if_neg h15, if_neg h16, if_neg h17, if_neg h18, if_neg h19, if_pos h20, e, law_tl]
  by_cases h21 : X i &&& 63 = 21
  · obtain ⟨I2, L2, f2, g2, t2, hR2, e⟩ := st_21 (t := t) (X := X) hN b2 hR
    refine ⟨I2, L2, f2, g2, t2, hR2, fun d Q => ?_⟩
    rw [law_sw hN hN2, if_neg h0, if_neg h1, if_neg h2, if_neg h3, if_neg h4, if_neg h5, if_neg h6, if_neg h7, if_neg h8, if_neg h9, if_neg h10, if_neg h11, if_neg h12, if_neg h13, if_neg h14, if_neg h15, if_neg h16, if_neg h17, if_neg h18, if_neg h19, if_neg h20, if_pos h21, e, law_tl]
  by_cases h22 : X i &&& 63 = 22
  · obtain ⟨I2, L2, f2, g2, t2, hR2, e⟩ := st_22 (t := t) (X := X) hN b2 hR
    refine ⟨I2, L2, f2, g2, t2, hR2, fun d Q => ?_⟩
    rw [law_sw hN hN2, if_neg h0, if_neg h1, if_neg h2, if_neg h3, if_neg h4, if_neg h5, if_neg h6, if_neg h7, if_neg h8, if_neg h9, if_neg h10, if_neg h11, if_neg h12, if_neg h13, if_neg h14, if_neg h15, if_neg h16, if_neg h17, if_neg h18, if_neg h19, if_neg h20, if_neg h21, if_pos h22, e, law_tl]
  by_cases h23 : X i &&& 63 = 23
  · obtain ⟨I2, L2, f2, g2, t2, hR2, e⟩ := st_23 (t := t) (X := X) hN b2 hR
    refine ⟨I2, L2, f2, g2, t2, hR2, fun d Q => ?_⟩
    rw [law_sw hN hN2, if_neg h0, if_neg h1, if_neg h2, if_neg h3, if_neg h4, if_neg h5, if_neg h6, if_neg h7, if_neg h8, if_neg h9, if_neg h10, if_neg h11, if_neg h12, if_neg h13, if_neg h14, if_neg h15, if_neg h16, if_neg h17, if_neg h18, if_neg h19, if_neg h20, if_neg h21, if_neg h22, if_pos h23, e, law_tl]
  by_cases h24 : X i &&& 63 = 24
  · obtain ⟨I2, L2, f2, g2, t2, hR2, e⟩ := st_24 (t := t) (X := X) hN b2 hR
    refine ⟨I2, L2, f2, g2, t2, hR2, fun d Q => ?_⟩
    rw [law_sw hN hN2, if_neg h0, if_neg h1, if_neg h2, if_neg h3, if_neg h4, if_neg h5, if_neg h6, if_neg h7, if_neg h8, if_neg h9, if_neg h10, if_neg h11, if_neg h12, if_neg h13, if_neg h14, if_neg h15, if_neg h16, if_neg h17, if_neg h18, if_neg h19, if_neg h20, if_neg h21, if_neg h22, if_neg h23, if_pos h24, e, law_tl]
  by_cases h25 : X i &&& 63 = 25
  · obtain ⟨I2, L2, f2, g2, t2, hR2, e⟩ := st_25 (t := t) (X := X) hN b2 hR
    refine ⟨I2, L2, f2, g2, t2, hR2, fun d Q => ?_⟩
    rw [law_sw hN hN2, if_neg h0, if_neg h1, if_neg h2, if_neg h3, if_neg h4, if_neg h5, if_neg h6, if_neg h7, if_neg h8, if_neg h9, if_neg h10, if_neg h11, if_neg h12, if_neg h13, if_neg h14, if_neg h15, if_neg h16, if_neg h17, if_neg h18, if_neg h19, if_neg h20, if_neg h21, if_neg h22, if_neg h23, if_neg h24, if_pos h25, e, law_tl]
  by_cases h26 : X i &&& 63 = 26
  · obtain ⟨I2, L2, f2, g2, t2, hR2, e⟩ := st_26 (t := t) (X := X) hN b2 hR
    refine ⟨I2, L2, f2, g2, t2, hR2, fun d Q => ?_⟩
    rw [law_sw hN hN2, if_neg h0, if_neg h1, if_neg h2, if_neg h3, if_neg h4, if_neg h5, if_neg h6, if_neg h7, if_neg h8, if_neg h9, if_neg h10, if_neg h11, if_neg h12, if_neg h13, if_neg h14, if_neg h15, if_neg h16, if_neg h17, if_neg h18, if_neg h19, if_neg h20, if_neg h21, if_neg h22, if_neg h23, if_neg h24, if_neg h25, if_pos h26, e, law_tl]
  by_cases h27 : X i &&& 63 = 27
  · obtain ⟨I2, L2, f2, g2, t2, hR2, e⟩ := st_27 (t := t) (X := X) hN b2 hR
    refine ⟨I2, L2, f2, g2, t2, hR2, fun d Q => ?_⟩
    rw [law_sw hN hN2, if_neg h0, if_neg h1, if_neg h2, if_neg h3, if_neg h4, if_neg h5, if_neg h6, if_neg h7, if_neg h8, if_neg h9, if_neg h10, if_neg h11, if_neg h12, if_neg h13, if_neg h14, if_neg h15, if_neg h16, if_neg h17, if_neg h18, if_neg h19, if_neg h20, if_neg h21, if_neg h22, if_neg h23, if_neg h24, if_neg h25, if_neg h26, if_pos h27, e, law_tl]
  by_cases h28 : X i &&& 63 = 28
  · obtain ⟨I2, L2, f2, g2, t2, hR2, e⟩ := st_28 (t := t) (X := X) hN b2 hR
    refine ⟨I2, L2, f2, g2, t2, hR2, fun d Q => ?_⟩
    rw [law_sw hN hN2, if_neg h0, if_neg h1, if_neg h2, if_neg h3, if_neg h4, if_neg h5, if_neg h6, if_neg h7, if_neg h8, if_neg h9, if_neg h10, if_neg h11, if_neg h12, if_neg h13, if_neg h14, if_neg h15, if_neg h16, if_neg h17, if_neg h18, if_neg h19, if_neg h20, if_neg h21, if_neg h22, if_neg h23, if_neg h24, if_neg h25, if_neg h26, if_neg h27, if_pos h28, e, law_tl]
  by_cases h29 : X i &&& 63 = 29
  · obtain ⟨I2, L2, f2, g2, t2, hR2, e⟩ := st_29 (t := t) (X := X) hN b2 hR
    refine ⟨I2, L2, f2, g2, t2, hR2, fun d Q => ?_⟩
    rw [law_sw hN hN2, if_neg h0, if_neg h1, if_neg h2, if_neg h3, if_neg h4, if_neg h5, if_neg h6, if_neg h7, if_neg h8, if_neg h9, if_neg h10, if_neg h11, if_neg h12, if_neg h13, if_neg h14, if_neg h15, if_neg h16, if_neg h17, if_neg h18, if_neg h19, if_neg h20, if_neg h21, if_neg h22, if_neg h23, if_neg h24, if_neg h25, if_neg h26, if_neg h27, if_neg h28, if_pos h29, e, law_tl]
  by_cases h30 : X i &&& 63 = 30
  · obtain ⟨I2, L2, f2, g2, t2, hR2, e⟩ := st_30 (t := t) (X := X) hN b2 hR
    refine ⟨I2, L2, f2, g2, t2, hR2, fun d Q => ?_⟩
    rw [law_sw hN hN2, if_neg h0, if_neg h1, if_neg h2, if_neg h3, if_neg h4, if_neg h5, if_neg h6, if_neg h7, if_neg h8, if_neg h9, if_neg h10, if_neg h11, if_neg h12, if_neg h13, if_neg h14, if_neg h15, if_neg h16, if_neg h17, if_neg h18, if_neg h19, if_neg h20, if_neg h21, if_neg h22, if_neg h23, if_neg h24, if_neg h25, if_neg h26, if_neg h27, if_neg h28, if_neg h29, if_pos h30, e, law_tl]
  by_cases h31 : X i &&& 63 = 31
  · obtain ⟨I2, L2, f2, g2, t2, hR2, e⟩ := st_31 (t := t) (X := X) hN b2 hR
    refine ⟨I2, L2, f2, g2, t2, hR2, fun d Q => ?_⟩
    rw [law_sw hN hN2, if_neg h0, if_neg h1, if_neg h2, if_neg h3, if_neg h4, if_neg h5, if_neg h6, if_neg h7, if_neg h8, if_neg h9, if_neg h10, if_neg h11, if_neg h12, if_neg h13, if_neg h14, if_neg h15, if_neg h16, if_neg h17, if_neg h18, if_neg h19, if_neg h20, if_neg h21, if_neg h22, if_neg h23, if_neg h24, if_neg h25, if_neg h26, if_neg h27, if_neg h28, if_neg h29, if_neg h30, if_pos h31, e, law_tl]
  by_cases h32 : X i &&& 63 = 32
  · obtain ⟨I2, L2, f2, g2, t2, hR2, e⟩ := st_32 (t := t) (X := X) hN b2 hR
    refine ⟨I2, L2, f2, g2, t2, hR2, fun d Q => ?_⟩
    rw [law_sw hN hN2, if_neg h0, if_neg h1, if_neg h2, if_neg h3, if_neg h4, if_neg h5, if_neg h6, if_neg h7, if_neg h8, if_neg h9, if_neg h10, if_neg h11, if_neg h12, if_neg h13, if_neg h14, if_neg h15, if_neg h16, if_neg h17, if_neg h18, if_neg h19, if_neg h20, if_neg h21, if_neg h22, if_neg h23, if_neg h24, if_neg h25, if_neg h26, if_neg h27, if_neg h28, if_neg h29, if_neg h30, if_neg h31, if_pos h32, e, law_tl]
  by_cases h33 : X i &&& 63 = 33
  · obtain ⟨I2, L2, f2, g2, t2, hR2, e⟩ := st_33 (t := t) (X := X) hN b2 hR
    refine ⟨I2, L2, f2, g2, t2, hR2, fun d Q => ?_⟩
    rw [law_sw hN hN2, if_neg h0, if_neg h1, if_neg h2, if_neg h3, if_neg h4, if_neg h5, if_neg h6, if_neg h7, if_neg h8, if_neg h9, if_neg h10, if_neg h11, if_neg h12, if_neg h13, if_neg h14, if_neg h15, if_neg h16, if_neg h17, if_neg h18, if_neg h19, if_neg h20, if_neg h21, if_neg h22, if_neg h23, if_neg h24, if_neg h25, if_neg h26, if_neg h27, if_neg h28, if_neg h29, if_neg h30, if_neg h31, if_neg h32, if_pos h33, e, law_tl]
  by_cases h34 : X i &&& 63 = 34
  · obtain ⟨I2, L2, f2, g2, t2, hR2, e⟩ := st_34 (t := t) (X := X) hN b2 hR
    refine ⟨I2, L2, f2, g2, t2, hR2, fun d Q => ?_⟩
    rw [law_sw hN hN2, if_neg h0, if_neg h1, if_neg h2, if_neg h3, if_neg h4, if_neg h5, if_neg h6, if_neg h7, if_neg h8, if_neg h9, if_neg h10, if_neg h11, if_neg h12, if_neg h13, if_neg h14, if_neg h15, if_neg h16, if_neg h17, if_neg h18, if_neg h19, if_neg h20, if_neg h21, if_neg h22, if_neg h23, if_neg h24, if_neg h25, if_neg h26, if_neg h27, if_neg h28, if_neg h29, if_neg h30, if_neg h31, if_neg h32, if_neg h33, if_pos h34, e, law_tl]
  by_cases h35 : X i &&& 63 = 35
  · obtain ⟨I2, L2, f2, g2, t2, hR2, e⟩ := st_35 (t := t) (X := X) hN b2 hR
    refine ⟨I2, L2, f2, g2, t2, hR2, fun d Q => ?_⟩
    rw [law_sw hN hN2, if_neg h0, if_neg h1, if_neg h2, if_neg h3, if_neg h4, if_neg h5, if_neg h6, if_neg h7, if_neg h8, if_neg h9, if_neg h10, if_neg h11, if_neg h12, if_neg h13, if_neg h14, if_neg h15, if_neg h16, if_neg h17, if_neg h18, if_neg h19, if_neg h20, if_neg h21, if_neg h22, if_neg h23, if_neg h24, if_neg h25, if_neg h26, if_neg h27, if_neg h28, if_neg h29, if_neg h30, if_neg h31, if_neg h32, if_neg h33, if_neg h34, if_pos h35, e, law_tl]
  by_cases h36 : X i &&& 63 = 36
  · obtain ⟨I2, L2, f2, g2, t2, hR2, e⟩ := st_36 (t := t) (X := X) hN b2 hR
    refine ⟨I2, L2, f2, g2, t2, hR2, fun d Q => ?_⟩
    rw [law_sw hN hN2, if_neg h0, if_neg h1, if_neg h2, if_neg h3, if_neg h4, if_neg h5, if_neg h6, if_neg h7, if_neg h8, if_neg h9, if_neg h10, if_neg h11, if_neg h12, if_neg h13, if_neg h14, if_neg h15, if_neg h16, if_neg h17, if_neg h18, if_neg h19, if_neg h20, if_neg h21, if_neg h22, if_neg h23, if_neg h24, if_neg h25, if_neg h26, if_neg h27, if_neg h28, if_neg h29, if_neg h30, if_neg h31, if_neg h32, if_neg h33, if_neg h34, if_neg h35, if_pos h36, e, law_tl]
  by_cases h37 : X i &&& 63 = 37
  · obtain ⟨I2, L2, f2, g2, t2, hR2, e⟩ := st_37 (t := t) (X := X) hN b2 hR
    refine ⟨I2, L2, f2, g2, t2, hR2, fun d Q => ?_⟩
    rw [law_sw hN hN2, if_neg h0, if_neg h1, if_neg h2, if_neg h3, if_neg h4, if_neg h5, if_neg h6, if_neg h7, if_neg h8, if_neg h9, if_neg h10, if_neg h11, if_neg h12, if_neg h13, if_neg h14, if_neg h15, if_neg h16, if_neg h17, if_neg h18, if_neg h19, if_neg h20, if_neg h21, if_neg h22, if_neg h23, if_neg h24, if_neg h25, if_neg h26, if_neg h27, if_neg h28, if_neg h29, if_neg h30, if_neg h31, if_neg h32, if_neg h33, if_neg h34, if_neg h35, if_neg h36, if_pos h37, e, law_tl]
  by_cases h38 : X i &&& 63 = 38
  · obtain ⟨I2, L2, f2, g2, t2, hR2, e⟩ := st_38 (t := t) (X := X) hN b2 hR
    refine ⟨I2, L2, f2, g2, t2, hR2, fun d Q => ?_⟩
    rw [law_sw hN hN2, if_neg h0, if_neg h1, if_neg h2, if_neg h3, if_neg h4, if_neg h5, if_neg h6, if_neg h7, if_neg h8, if_neg h9, if_neg h10, if_neg h11, if_neg h12, if_neg h13, if_neg h14, if_neg h15, if_neg h16, if_neg h17, if_neg h18, if_neg h19, if_neg h20, if_neg h21, if_neg h22, if_neg h23, if_neg h24, if_neg h25, if_neg h26, if_neg h27, if_neg h28, if_neg h29, if_neg h30, if_neg h31, if_neg h32, if_neg h33, if_neg h34, if_neg h35, if_neg h36, if_neg h37, if_pos h38, e, law_tl]
  refine ⟨I, L, f, g, t, hR, fun d Q => ?_⟩
  rw [law_sw hN hN2, if_neg h0, if_neg h1, if_neg h2, if_neg h3, if_neg h4, if_neg h5, if_neg h6, if_neg h7, if_neg h8, if_neg h9, if_neg h10, if_neg h11, if_neg h12, if_neg h13, if_neg h14, if_neg h15, if_neg h16, if_neg h17, if_neg h18, if_neg h19, if_neg h20, if_neg h21, if_neg h22, if_neg h23, if_neg h24, if_neg h25, if_neg h26, if_neg h27, if_neg h28, if_neg h29, if_neg h30, if_neg h31, if_neg h32, if_neg h33, if_neg h34, if_neg h35, if_neg h36, if_neg h37, if_neg h38, law_tl]
theorem law_loop (hN2 : N < 1000000) : ∀ c i (I : Nat → Nat → Int32) (L : Nat → Nat → Int64) (f g : Nat) (t : Option Nat), N ≤ c + i → i < 1000006 → zRel I L f g → ∃ I2 L2 f2 g2 t2, ∀ d Q, zWp (d + 100) zi_217 (some (N, X)) 18 [.ref 1000000, .ref 0, .ref 80, .int (nI i)] [] (zSH, I, L, zP f g t) Q = Q (some (.int 1)) (zSH, I2, L2, zP f2 g2 t2) := by
  intro c
  induction c using Nat.strongRecOn with
  | ind c ih =>
    intro i I L f g t hc hi hR
    by_cases h : i + 6 ≤ N
    · obtain ⟨I2, L2, f2, g2, t2, hR2, e⟩ := law_step (t := t) (X := X) h hN2 hR
      obtain ⟨I3, L3, f3, g3, t3, e3⟩ := ih (c - 6) (by omega) (i + 6) I2 L2 f2 g2 t2 (by omega) (by omega) hR2
      exact ⟨I3, L3, f3, g3, t3, fun d Q => (e d Q).trans (e3 d Q)⟩
    · exact ⟨I, L, f, g, t, fun d Q => law_end (by omega) hN2 hi⟩
end LOOP
