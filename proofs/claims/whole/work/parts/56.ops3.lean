section OPS3
variable {d f g n : Nat} {t : Option Nat} {I : Nat → Nat → Int32} {L : Nat → Nat → Int64} {Q : Option Value → zMm → Prop}
theorem zb_c {P R : Prop} [Decidable P] [Decidable R] (h : P ↔ R) : zb P = zb R := by
  by_cases h1 : P
  · rw [zb_t h1, zb_t (h.mp h1)]
  · rw [zb_f h1, zb_f (fun z => h1 (h.mpr z))]
theorem c_fitsO (p dm x y : Int32) (h : zMm) : zWM (d + 1) 58 [.int p, .int dm, .int x, .int y] h Q = Q (some (.int (zb (zok1 p dm x y)))) h := by
  have t1 : (1 : Int32).toInt = 1 := by decide
  have t9 : (9 : Int32).toInt = 9 := by decide
  have t0 : (0 : Int32).toInt = 0 := by decide
  have t4 : (4 : Int32).toInt = 4 := by decide
  have t5 : (-4 : Int32).toInt = -4 := by decide
  have e : zb (1 ≤ p ∧ p ≤ 9 ∧ 0 ≤ dm ∧ dm ≤ p ∧ -4 ≤ x ∧ x ≤ 4 ∧ -4 ≤ y ∧ y ≤ 4) = zb (zok1 p dm x y) := zb_c (by
    simp only [Int32.le_iff_toInt_le, t1, t9, t0, t4, t5]
    omega)
  rw [c_fits, e]
theorem m_isOneO (p dm x y : Int32) (h : zMm) : zWM (d + 2) 132 [.long p.toInt64, .long dm.toInt64, .long x.toInt64, .long y.toInt64] h Q = Q (some (.int (zb (zok1 p dm x y)))) h := by
  have e : zb (1 ≤ p.toInt64.toInt ∧ p.toInt64.toInt ≤ 9 ∧ 0 ≤ dm.toInt64.toInt ∧ dm.toInt64.toInt ≤ p.toInt64.toInt ∧ -4 ≤ x.toInt64.toInt ∧ x.toInt64.toInt ≤ 4 ∧ -4 ≤ y.toInt64.toInt ∧ y.toInt64.toInt ≤ 4) = zb (zok1 p dm x y) := zb_c (by
    simp only [Int32.toInt_toInt64]
    omega)
  rw [m_isOne, e]
theorem m_adds (h8 : I 80 6 = nI n) (h24 : n < 24) (p dm x y : Int32) : zWM (d + 1) 133 [.ref 80, .int p, .int dm, .int x, .int y] (zSH, I, L, zP f g t) Q = Q none (zSH, zw (zw (zw I 85 (upd (I 85) n p)) 81 (upd (upd (upd (I 81) n x) (24 + n) y) (48 + n) dm)) 80 (upd (I 80) 6 (nI (n + 1))), L, zP f g t) := by
  simp (disch := first | assumption | rfl | omega | decide | exact zb_01 _) only [zabs_e, zmax_e, zmin_e, zrf_s, zpush_s, zpush_n, zw_app, upd_app, updL_app, Nat.reduceEqDiff, Nat.add_left_cancel_iff, Nat.add_eq_left, Nat.left_eq_add, ↓reduceIte, true_and, and_true, Int32.reduceToNatClampNeg, zin_O, zi_ltO, zi_leO, zi_Olt, zi_Ole, zi_eqO, Nat.not_lt_zero, Nat.zero_le, List.append_nil, zrn_n, zrn_s, List.cons_append, List.nil_append, zlg_lt, zlg_gt, zlg_le, zlg_ge, zlg_eq, Int32.toInt_toInt64, Int64.reduceToInt, zw_zw, zw_sw1, zw_sw2, zw_sw3, zw_sw4, zw_sw5, zw_sw6, zw_sw7, ne_eq, zi_in, zi_cl, zi_le, zi_lt, zi_eq, zi_neg, zi_0le, zb_0, if_true, if_false, eq_self, zb_T, zb_F, Bool.false_eq_true, zO_eq, zO_ne1, zO_ne2, zO_nn, zi_ne1, zi_ne2, zi_lt1, zi_le1, zi_lt2, zi_le2, Int32.reduceLT, Int32.reduceLE, Nat.reduceLT, Nat.reduceLeDiff, Int32.reduceMul, Int32.reduceAdd, Int32.reduceSub, not_false_eq_true, not_true_eq_false, Int32.reduceToInt, Int.reduceLE, Int.reduceLT, Int.reduceNeg, ite_self, E_X10_adds, R_X10_adds, SHF, PF, h8, zi_a24, zi_a48, zi_s]
theorem m_stored (x : Int32) (h : zMm) : zWM (d + 1) 135 [.int x] h Q = Q (some (.int (zmin 99 x))) h := by
  simp (disch := first | assumption | rfl | omega | decide | exact zb_01 _) only [zabs_e, zmax_e, zmin_e, zrf_s, zpush_s, zpush_n, zw_app, upd_app, updL_app, Nat.reduceEqDiff, Nat.add_left_cancel_iff, Nat.add_eq_left, Nat.left_eq_add, ↓reduceIte, true_and, and_true, Int32.reduceToNatClampNeg, zin_O, zi_ltO, zi_leO, zi_Olt, zi_Ole, zi_eqO, Nat.not_lt_zero, Nat.zero_le, List.append_nil, zrn_n, zrn_s, List.cons_append, List.nil_append, zlg_lt, zlg_gt, zlg_le, zlg_ge, zlg_eq, Int32.toInt_toInt64, Int64.reduceToInt, zw_zw, zw_sw1, zw_sw2, zw_sw3, zw_sw4, zw_sw5, zw_sw6, zw_sw7, ne_eq, zi_in, zi_cl, zi_le, zi_lt, zi_eq, zi_neg, zi_0le, zb_0, if_true, if_false, eq_self, zb_T, zb_F, Bool.false_eq_true, zO_eq, zO_ne1, zO_ne2, zO_nn, zi_ne1, zi_ne2, zi_lt1, zi_le1, zi_lt2, zi_le2, Int32.reduceLT, Int32.reduceLE, Nat.reduceLT, Nat.reduceLeDiff, Int32.reduceMul, Int32.reduceAdd, Int32.reduceSub, not_false_eq_true, not_true_eq_false, Int32.reduceToInt, Int.reduceLE, Int.reduceLT, Int.reduceNeg, ite_self, E_X10_stored, R_X10_stored]
  unfold zmin
  by_cases h1 : x ≤ 99
  · rw [if_pos h1]
    by_cases h2 : 99 < x
    · exact absurd h1 (Int32.not_le.mpr h2)
    · by_cases h3 : x < 99
      · rw [if_pos h3]
      · rw [if_neg h3, Int32.le_antisymm h1 (Int32.not_lt.mp h3)]
  · rw [if_neg h1, if_neg (fun z => h1 (Int32.le_of_lt z))]
theorem tSet_f {J X : Nat → Nat → Int32} (h1 : J 1 6 = X 1 6) (h2 : J 2 = X 2) (h5 : J 5 = X 5) (h6 : J 6 = X 6) (h8 : J 8 = X 8) (h9 : J 9 = X 9) (h10 : J 10 = X 10) (h12 : J 12 = X 12) (h13 : J 13 = X 13) (h : tSet X 1 n) : tSet J 1 n := by
  unfold tSet at *
  simp only [Nat.reduceAdd, h1, h2, h5, h6, h8, h9, h10, h12, h13] at *
  exact h
theorem zup_lt {F : Nat → Int32} {k j : Nat} {v : Int32} (h : j ≠ k) : upd F k v j = F j := if_neg h
theorem zup_at {F : Nat → Int32} {k : Nat} {v : Int32} : upd F k v k = v := if_pos rfl
/-- a ROUND more, in both -/
theorem zRt_up {X J : Nat → Nat → Int32} {p dm x y : Int32} (ht : zRt I n) (h24 : n < 24) (hok : zok1 p dm x y) (hX : ∀ a, a ≤ 13 → X a = tUp I 1 n p dm x y a) (h1 : ∀ a, a ≤ 13 → a ≠ 0 → J a = tW X 1 (n + 1) a) (h80 : J 80 6 = nI (n + 1)) (h85 : J 85 = upd (I 85) n p) (h81 : ∀ j, j < 72 → J 81 j = upd (upd (upd (I 81) n x) (24 + n) y) (48 + n) dm j) : zRt J (n + 1) := by
  have a2 : J 2 = upd (I 2) n p := by rw [h1 2 (by omega) (by omega), tW_o (by omega), hX 2 (by omega)]; rfl
  have a3 : J 3 = upd (I 3) n dm := by rw [h1 3 (by omega) (by omega), tW_o (by omega), hX 3 (by omega)]; rfl
  have a5 : J 5 = upd (I 5) n x := by rw [h1 5 (by omega) (by omega), tW_o (by omega), hX 5 (by omega)]; rfl
  have a6 : J 6 = upd (I 6) n y := by rw [h1 6 (by omega) (by omega), tW_o (by omega), hX 6 (by omega)]; rfl
  have a1 : J 1 6 = nI (n + 1) := by rw [h1 1 (by omega) (by omega), tW_o (by omega), hX 1 (by omega)]; rfl
  have x1 : X 1 6 = nI (n + 1) := by rw [hX 1 (by omega)]; rfl
  have hs := tW_set (b := 1) x1 (by omega)
  refine ⟨a1, h80, by omega, tSet_f ?_ ?_ ?_ ?_ ?_ ?_ ?_ ?_ ?_ hs, fun j hj => ?_⟩
  · rw [h1 1 (by omega) (by omega)]
  · exact h1 2 (by omega) (by omega)
  · exact h1 5 (by omega) (by omega)
  · exact h1 6 (by omega) (by omega)
  · exact h1 8 (by omega) (by omega)
  · exact h1 9 (by omega) (by omega)
  · exact h1 10 (by omega) (by omega)
  · exact h1 12 (by omega) (by omega)
  · exact h1 13 (by omega) (by omega)
  · rw [a2, a3, a5, a6, h85, h81 _ (by omega), h81 _ (by omega), h81 _ (by omega)]
    by_cases e : j = n
    · subst e
      rw [zup_at, zup_at, zup_at, zup_at, zup_at, zup_lt (by omega), zup_lt (by omega), zup_at, zup_lt (by omega), zup_at, zup_at]
      exact ⟨rfl, rfl, rfl, rfl, hok⟩
    · have z1 : upd (I 85) n p j = I 85 j := zup_lt e
      have z2 : upd (upd (upd (I 81) n x) (24 + n) y) (48 + n) dm j = I 81 j := by rw [zup_lt (by omega), zup_lt (by omega), zup_lt e]
      have z3 : upd (upd (upd (I 81) n x) (24 + n) y) (48 + n) dm (24 + j) = I 81 (24 + j) := by rw [zup_lt (by omega), zup_lt (by omega), zup_lt (by omega)]
      have z4 : upd (upd (upd (I 81) n x) (24 + n) y) (48 + n) dm (48 + j) = I 81 (48 + j) := by rw [zup_lt (by omega), zup_lt (by omega), zup_lt (by omega)]
      rw [z1, z2, z3, z4, zup_lt e, zup_lt e, zup_lt e, zup_lt e]
      exact ht.2.2.2.2 j (by omega)
theorem tUp_o {b : Nat} {p dm x y : Int32} {a : Nat} (h : a < b ∨ b + 5 < a) : tUp I b n p dm x y a = I a := by
  unfold tUp
  rw [zw_n (by omega), zw_n (by omega), zw_n (by omega), zw_n (by omega), zw_n (by omega)]
theorem op_build (hR : zRel I L f g) (pd xy : Int32) : zOp 73 134 [.int pd, .int xy] I L f g t := by
  obtain ⟨law, n, k, a, b, z, bb, hfg, ht, hw, hp, hs, hi, hc, hy, hl, hb, hr, hh, hf⟩ := id hR
  obtain ⟨s1, s2, s3, s4, s5, s6, s7⟩ := id hs
  have hn := ht.1
  have hn8 := ht.2.1
  have h24 := ht.2.2.1
  have tb : zTb 1 := Or.inl rfl
  have t0 : (0 : Int32).toInt = 0 := by decide
  have t4 : (4 : Int32).toInt = 4 := by decide
  by_cases p0 : pd < 0
  · have p1 : pd < 10 := Int32.lt_iff_toInt_lt.mpr (by have := Int32.lt_iff_toInt_lt.mp p0; have t10 : (10 : Int32).toInt = 10 := (by decide); omega)
    refine zOp_s hR (.int (-1)) (fun d Q => ?_) (fun d Q => ?_)
    · simp (disch := first | assumption | rfl | omega | decide | exact zb_01 _) only [zabs_e, zmax_e, zmin_e, zrf_s, zpush_s, zpush_n, zw_app, upd_app, updL_app, Nat.reduceEqDiff, Nat.add_left_cancel_iff, Nat.add_eq_left, Nat.left_eq_add, ↓reduceIte, true_and, and_true, Int32.reduceToNatClampNeg, zin_O, zi_ltO, zi_leO, zi_Olt, zi_Ole, zi_eqO, Nat.not_lt_zero, Nat.zero_le, List.append_nil, zrn_n, zrn_s, List.cons_append, List.nil_append, zlg_lt, zlg_gt, zlg_le, zlg_ge, zlg_eq, Int32.toInt_toInt64, Int64.reduceToInt, zw_zw, zw_sw1, zw_sw2, zw_sw3, zw_sw4, zw_sw5, zw_sw6, zw_sw7, ne_eq, zi_in, zi_cl, zi_le, zi_lt, zi_eq, zi_neg, zi_0le, zb_0, if_true, if_false, eq_self, zb_T, zb_F, Bool.false_eq_true, zO_eq, zO_ne1, zO_ne2, zO_nn, zi_ne1, zi_ne2, zi_lt1, zi_le1, zi_lt2, zi_le2, Int32.reduceLT, Int32.reduceLE, Nat.reduceLT, Nat.reduceLeDiff, Int32.reduceMul, Int32.reduceAdd, Int32.reduceSub, not_false_eq_true, not_true_eq_false, Int32.reduceToInt, Int.reduceLE, Int.reduceLT, Int.reduceNeg, ite_self, E_X9_build, R_X9_build, SHF, PF, p1]
    · simp (disch := first | assumption | rfl | omega | decide | exact zb_01 _) only [zabs_e, zmax_e, zmin_e, zrf_s, zpush_s, zpush_n, zw_app, upd_app, updL_app, Nat.reduceEqDiff, Nat.add_left_cancel_iff, Nat.add_eq_left, Nat.left_eq_add, ↓reduceIte, true_and, and_true, Int32.reduceToNatClampNeg, zin_O, zi_ltO, zi_leO, zi_Olt, zi_Ole, zi_eqO, Nat.not_lt_zero, Nat.zero_le, List.append_nil, zrn_n, zrn_s, List.cons_append, List.nil_append, zlg_lt, zlg_gt, zlg_le, zlg_ge, zlg_eq, Int32.toInt_toInt64, Int64.reduceToInt, zw_zw, zw_sw1, zw_sw2, zw_sw3, zw_sw4, zw_sw5, zw_sw6, zw_sw7, ne_eq, zi_in, zi_cl, zi_le, zi_lt, zi_eq, zi_neg, zi_0le, zb_0, if_true, if_false, eq_self, zb_T, zb_F, Bool.false_eq_true, zO_eq, zO_ne1, zO_ne2, zO_nn, zi_ne1, zi_ne2, zi_lt1, zi_le1, zi_lt2, zi_le2, Int32.reduceLT, Int32.reduceLE, Nat.reduceLT, Nat.reduceLeDiff, Int32.reduceMul, Int32.reduceAdd, Int32.reduceSub, not_false_eq_true, not_true_eq_false, Int32.reduceToInt, Int.reduceLE, Int.reduceLT, Int.reduceNeg, ite_self, E_X10_build, R_X10_build, SHF, PF, p0]
  by_cases y0 : xy < 0
  · refine zOp_s hR (.int (-1)) (fun d Q => ?_) (fun d Q => ?_)
    · simp (disch := first | assumption | rfl | omega | decide | exact zb_01 _) only [zabs_e, zmax_e, zmin_e, zrf_s, zpush_s, zpush_n, zw_app, upd_app, updL_app, Nat.reduceEqDiff, Nat.add_left_cancel_iff, Nat.add_eq_left, Nat.left_eq_add, ↓reduceIte, true_and, and_true, Int32.reduceToNatClampNeg, zin_O, zi_ltO, zi_leO, zi_Olt, zi_Ole, zi_eqO, Nat.not_lt_zero, Nat.zero_le, List.append_nil, zrn_n, zrn_s, List.cons_append, List.nil_append, zlg_lt, zlg_gt, zlg_le, zlg_ge, zlg_eq, Int32.toInt_toInt64, Int64.reduceToInt, zw_zw, zw_sw1, zw_sw2, zw_sw3, zw_sw4, zw_sw5, zw_sw6, zw_sw7, ne_eq, zi_in, zi_cl, zi_le, zi_lt, zi_eq, zi_neg, zi_0le, zb_0, if_true, if_false, eq_self, zb_T, zb_F, Bool.false_eq_true, zO_eq, zO_ne1, zO_ne2, zO_nn, zi_ne1, zi_ne2, zi_lt1, zi_le1, zi_lt2, zi_le2, Int32.reduceLT, Int32.reduceLE, Nat.reduceLT, Nat.reduceLeDiff, Int32.reduceMul, Int32.reduceAdd, Int32.reduceSub, not_false_eq_true, not_true_eq_false, Int32.reduceToInt, Int.reduceLE, Int.reduceLT, Int.reduceNeg, ite_self, E_X9_build, R_X9_build, SHF, PF, y0]
    · simp (disch := first | assumption | rfl | omega | decide | exact zb_01 _) only [zabs_e, zmax_e, zmin_e, zrf_s, zpush_s, zpush_n, zw_app, upd_app, updL_app, Nat.reduceEqDiff, Nat.add_left_cancel_iff, Nat.add_eq_left, Nat.left_eq_add, ↓reduceIte, true_and, and_true, Int32.reduceToNatClampNeg, zin_O, zi_ltO, zi_leO, zi_Olt, zi_Ole, zi_eqO, Nat.not_lt_zero, Nat.zero_le, List.append_nil, zrn_n, zrn_s, List.cons_append, List.nil_append, zlg_lt, zlg_gt, zlg_le, zlg_ge, zlg_eq, Int32.toInt_toInt64, Int64.reduceToInt, zw_zw, zw_sw1, zw_sw2, zw_sw3, zw_sw4, zw_sw5, zw_sw6, zw_sw7, ne_eq, zi_in, zi_cl, zi_le, zi_lt, zi_eq, zi_neg, zi_0le, zb_0, if_true, if_false, eq_self, zb_T, zb_F, Bool.false_eq_true, zO_eq, zO_ne1, zO_ne2, zO_nn, zi_ne1, zi_ne2, zi_lt1, zi_le1, zi_lt2, zi_le2, Int32.reduceLT, Int32.reduceLE, Nat.reduceLT, Nat.reduceLeDiff, Int32.reduceMul, Int32.reduceAdd, Int32.reduceSub, not_false_eq_true, not_true_eq_false, Int32.reduceToInt, Int.reduceLE, Int.reduceLT, Int.reduceNeg, ite_self, E_X10_build, R_X10_build, SHF, PF, p0, y0]
  obtain ⟨u, hu, rfl⟩ := nI_of p0
  obtain ⟨v, hv, rfl⟩ := nI_of y0
  have q1 : nI u / 10 = nI (u / 10) := zdivN hu (by decide)
  have q2 : nI u - nI (u / 10) * 10 = nI (u % 10) := by rw [← q1]; exact zremN hu (by decide)
  have q3 : nI v / 10 = nI (v / 10) := zdivN hv (by decide)
  have q4 : nI v - nI (v / 10) * 10 = nI (v % 10) := by rw [← q3]; exact zremN hv (by decide)
  have e1 := zi_nt (n := u / 10) (by omega)
  have e2 := zi_nt (n := u % 10) (by omega)
  have e3 : (nI (v / 10) - 4).toInt = (v / 10 : Nat) - 4 := by rw [zt_sub (by rw [zi_nt (by omega)]; omega) (by rw [zi_nt (by omega)]; omega), zi_nt (by omega), t4]
  have e4 : (nI (v % 10) - 4).toInt = (v % 10 : Nat) - 4 := by rw [zt_sub (by rw [zi_nt (by omega)]; omega) (by rw [zi_nt (by omega)]; omega), zi_nt (by omega), t4]
  by_cases hg : zok1 (nI (u / 10)) (nI (u % 10)) (nI (v / 10) - 4) (nI (v % 10) - 4)
  · have u1 : ¬ u < 10 := by omega
    have u2 : ¬ 99 < u := by omega
    have v1 : ¬ 88 < v := by omega
    have v2 : v ≤ 88 := by omega
    by_cases n24 : n = 24
    · subst n24
      refine zOp_s hR (.int (-3)) (fun d Q => ?_) (fun d Q => ?_)
      · simp (disch := first | assumption | rfl | omega | decide | exact zb_01 _) only [zabs_e, zmax_e, zmin_e, zrf_s, zpush_s, zpush_n, zw_app, upd_app, updL_app, Nat.reduceEqDiff, Nat.add_left_cancel_iff, Nat.add_eq_left, Nat.left_eq_add, ↓reduceIte, true_and, and_true, Int32.reduceToNatClampNeg, zin_O, zi_ltO, zi_leO, zi_Olt, zi_Ole, zi_eqO, Nat.not_lt_zero, Nat.zero_le, List.append_nil, zrn_n, zrn_s, List.cons_append, List.nil_append, zlg_lt, zlg_gt, zlg_le, zlg_ge, zlg_eq, Int32.toInt_toInt64, Int64.reduceToInt, zw_zw, zw_sw1, zw_sw2, zw_sw3, zw_sw4, zw_sw5, zw_sw6, zw_sw7, ne_eq, zi_in, zi_cl, zi_le, zi_lt, zi_eq, zi_neg, zi_0le, zb_0, if_true, if_false, eq_self, zb_T, zb_F, Bool.false_eq_true, zO_eq, zO_ne1, zO_ne2, zO_nn, zi_ne1, zi_ne2, zi_lt1, zi_le1, zi_lt2, zi_le2, Int32.reduceLT, Int32.reduceLE, Nat.reduceLT, Nat.reduceLeDiff, Int32.reduceMul, Int32.reduceAdd, Int32.reduceSub, not_false_eq_true, not_true_eq_false, Int32.reduceToInt, Int.reduceLE, Int.reduceLT, Int.reduceNeg, ite_self, E_X9_build, R_X9_build, SHF, PF, u1, u2, v1, v2, q1, q2, q3, q4, c_fitsO, zb_t hg, hn]
      · simp (disch := first | assumption | rfl | omega | decide | exact zb_01 _) only [zabs_e, zmax_e, zmin_e, zrf_s, zpush_s, zpush_n, zw_app, upd_app, updL_app, Nat.reduceEqDiff, Nat.add_left_cancel_iff, Nat.add_eq_left, Nat.left_eq_add, ↓reduceIte, true_and, and_true, Int32.reduceToNatClampNeg, zin_O, zi_ltO, zi_leO, zi_Olt, zi_Ole, zi_eqO, Nat.not_lt_zero, Nat.zero_le, List.append_nil, zrn_n, zrn_s, List.cons_append, List.nil_append, zlg_lt, zlg_gt, zlg_le, zlg_ge, zlg_eq, Int32.toInt_toInt64, Int64.reduceToInt, zw_zw, zw_sw1, zw_sw2, zw_sw3, zw_sw4, zw_sw5, zw_sw6, zw_sw7, ne_eq, zi_in, zi_cl, zi_le, zi_lt, zi_eq, zi_neg, zi_0le, zb_0, if_true, if_false, eq_self, zb_T, zb_F, Bool.false_eq_true, zO_eq, zO_ne1, zO_ne2, zO_nn, zi_ne1, zi_ne2, zi_lt1, zi_le1, zi_lt2, zi_le2, Int32.reduceLT, Int32.reduceLE, Nat.reduceLT, Nat.reduceLeDiff, Int32.reduceMul, Int32.reduceAdd, Int32.reduceSub, not_false_eq_true, not_true_eq_false, Int32.reduceToInt, Int.reduceLE, Int.reduceLT, Int.reduceNeg, ite_self, E_X10_build, R_X10_build, SHF, PF, q1, q2, q3, q4, m_isOneO, zb_t hg, hn8]
    have n1 : n < 24 := by omega
    have n2 : ¬ 24 ≤ n := by omega
    by_cases c1 : I 51 0 < nI (u / 10) - nI (u % 10)
    · refine zOp_s hR (.int (-5)) (fun d Q => ?_) (fun d Q => ?_)
      · simp (disch := first | assumption | rfl | omega | decide | exact zb_01 _) only [zabs_e, zmax_e, zmin_e, zrf_s, zpush_s, zpush_n, zw_app, upd_app, updL_app, Nat.reduceEqDiff, Nat.add_left_cancel_iff, Nat.add_eq_left, Nat.left_eq_add, ↓reduceIte, true_and, and_true, Int32.reduceToNatClampNeg, zin_O, zi_ltO, zi_leO, zi_Olt, zi_Ole, zi_eqO, Nat.not_lt_zero, Nat.zero_le, List.append_nil, zrn_n, zrn_s, List.cons_append, List.nil_append, zlg_lt, zlg_gt, zlg_le, zlg_ge, zlg_eq, Int32.toInt_toInt64, Int64.reduceToInt, zw_zw, zw_sw1, zw_sw2, zw_sw3, zw_sw4, zw_sw5, zw_sw6, zw_sw7, ne_eq, zi_in, zi_cl, zi_le, zi_lt, zi_eq, zi_neg, zi_0le, zb_0, if_true, if_false, eq_self, zb_T, zb_F, Bool.false_eq_true, zO_eq, zO_ne1, zO_ne2, zO_nn, zi_ne1, zi_ne2, zi_lt1, zi_le1, zi_lt2, zi_le2, Int32.reduceLT, Int32.reduceLE, Nat.reduceLT, Nat.reduceLeDiff, Int32.reduceMul, Int32.reduceAdd, Int32.reduceSub, not_false_eq_true, not_true_eq_false, Int32.reduceToInt, Int.reduceLE, Int.reduceLT, Int.reduceNeg, ite_self, E_X9_build, R_X9_build, SHF, PF, u1, u2, v1, v2, q1, q2, q3, q4, c_fitsO, zb_t hg, hn, n1, n2, c1]
      · simp (disch := first | assumption | rfl | omega | decide | exact zb_01 _) only [zabs_e, zmax_e, zmin_e, zrf_s, zpush_s, zpush_n, zw_app, upd_app, updL_app, Nat.reduceEqDiff, Nat.add_left_cancel_iff, Nat.add_eq_left, Nat.left_eq_add, ↓reduceIte, true_and, and_true, Int32.reduceToNatClampNeg, zin_O, zi_ltO, zi_leO, zi_Olt, zi_Ole, zi_eqO, Nat.not_lt_zero, Nat.zero_le, List.append_nil, zrn_n, zrn_s, List.cons_append, List.nil_append, zlg_lt, zlg_gt, zlg_le, zlg_ge, zlg_eq, Int32.toInt_toInt64, Int64.reduceToInt, zw_zw, zw_sw1, zw_sw2, zw_sw3, zw_sw4, zw_sw5, zw_sw6, zw_sw7, ne_eq, zi_in, zi_cl, zi_le, zi_lt, zi_eq, zi_neg, zi_0le, zb_0, if_true, if_false, eq_self, zb_T, zb_F, Bool.false_eq_true, zO_eq, zO_ne1, zO_ne2, zO_nn, zi_ne1, zi_ne2, zi_lt1, zi_le1, zi_lt2, zi_le2, Int32.reduceLT, Int32.reduceLE, Nat.reduceLT, Nat.reduceLeDiff, Int32.reduceMul, Int32.reduceAdd, Int32.reduceSub, not_false_eq_true, not_true_eq_false, Int32.reduceToInt, Int.reduceLE, Int.reduceLT, Int.reduceNeg, ite_self, E_X10_build, R_X10_build, SHF, PF, q1, q2, q3, q4, m_isOneO, zb_t hg, hn8, n24, s1, c1]
    by_cases c2 : I 51 1 < nI (u % 10)
    · have c3 : ¬ nI (u % 10) ≤ I 51 1 := Int32.not_le.mpr c2
      refine zOp_s hR (.int (-5)) (fun d Q => ?_) (fun d Q => ?_)
      · simp (disch := first | assumption | rfl | omega | decide | exact zb_01 _) only [zabs_e, zmax_e, zmin_e, zrf_s, zpush_s, zpush_n, zw_app, upd_app, updL_app, Nat.reduceEqDiff, Nat.add_left_cancel_iff, Nat.add_eq_left, Nat.left_eq_add, ↓reduceIte, true_and, and_true, Int32.reduceToNatClampNeg, zin_O, zi_ltO, zi_leO, zi_Olt, zi_Ole, zi_eqO, Nat.not_lt_zero, Nat.zero_le, List.append_nil, zrn_n, zrn_s, List.cons_append, List.nil_append, zlg_lt, zlg_gt, zlg_le, zlg_ge, zlg_eq, Int32.toInt_toInt64, Int64.reduceToInt, zw_zw, zw_sw1, zw_sw2, zw_sw3, zw_sw4, zw_sw5, zw_sw6, zw_sw7, ne_eq, zi_in, zi_cl, zi_le, zi_lt, zi_eq, zi_neg, zi_0le, zb_0, if_true, if_false, eq_self, zb_T, zb_F, Bool.false_eq_true, zO_eq, zO_ne1, zO_ne2, zO_nn, zi_ne1, zi_ne2, zi_lt1, zi_le1, zi_lt2, zi_le2, Int32.reduceLT, Int32.reduceLE, Nat.reduceLT, Nat.reduceLeDiff, Int32.reduceMul, Int32.reduceAdd, Int32.reduceSub, not_false_eq_true, not_true_eq_false, Int32.reduceToInt, Int.reduceLE, Int.reduceLT, Int.reduceNeg, ite_self, E_X9_build, R_X9_build, SHF, PF, u1, u2, v1, v2, q1, q2, q3, q4, c_fitsO, zb_t hg, hn, n1, n2, c1, c3]
      · simp (disch := first | assumption | rfl | omega | decide | exact zb_01 _) only [zabs_e, zmax_e, zmin_e, zrf_s, zpush_s, zpush_n, zw_app, upd_app, updL_app, Nat.reduceEqDiff, Nat.add_left_cancel_iff, Nat.add_eq_left, Nat.left_eq_add, ↓reduceIte, true_and, and_true, Int32.reduceToNatClampNeg, zin_O, zi_ltO, zi_leO, zi_Olt, zi_Ole, zi_eqO, Nat.not_lt_zero, Nat.zero_le, List.append_nil, zrn_n, zrn_s, List.cons_append, List.nil_append, zlg_lt, zlg_gt, zlg_le, zlg_ge, zlg_eq, Int32.toInt_toInt64, Int64.reduceToInt, zw_zw, zw_sw1, zw_sw2, zw_sw3, zw_sw4, zw_sw5, zw_sw6, zw_sw7, ne_eq, zi_in, zi_cl, zi_le, zi_lt, zi_eq, zi_neg, zi_0le, zb_0, if_true, if_false, eq_self, zb_T, zb_F, Bool.false_eq_true, zO_eq, zO_ne1, zO_ne2, zO_nn, zi_ne1, zi_ne2, zi_lt1, zi_le1, zi_lt2, zi_le2, Int32.reduceLT, Int32.reduceLE, Nat.reduceLT, Nat.reduceLeDiff, Int32.reduceMul, Int32.reduceAdd, Int32.reduceSub, not_false_eq_true, not_true_eq_false, Int32.reduceToInt, Int.reduceLE, Int.reduceLT, Int.reduceNeg, ite_self, E_X10_build, R_X10_build, SHF, PF, q1, q2, q3, q4, m_isOneO, zb_t hg, hn8, n24, s1, c1, s2, c3]
    have c3 : nI (u % 10) ≤ I 51 1 := Int32.not_lt.mp c2
    have hp1 : nI (n + 1) - 1 = nI n := nI_pred n
    have qr : ∀ d Q, zWM (d + 2) 60 [.ref 1, .int (nI (u / 10)), .int (nI (u % 10)), .int (nI (v / 10) - 4), .int (nI (v % 10) - 4)] (zSH, zw I 51 (upd (upd (I 51) 0 (I 51 0 - (nI (u / 10) - nI (u % 10)))) 1 (I 51 1 - nI (u % 10))), L, zP f g t) Q = Q none (zSH, tW (tUp (zw I 51 (upd (upd (I 51) 0 (I 51 0 - (nI (u / 10) - nI (u % 10)))) 1 (I 51 1 - nI (u % 10)))) 1 n (nI (u / 10)) (nI (u % 10)) (nI (v / 10) - 4) (nI (v % 10) - 4)) 1 (n + 1), L, zP f g t) := fun d Q => c_raise (I := zw I 51 _) tb hn n1 _ _ _ _
    have hX : ∀ a, a ≤ 13 → tUp (zw I 51 (upd (upd (I 51) 0 (I 51 0 - (nI (u / 10) - nI (u % 10)))) 1 (I 51 1 - nI (u % 10)))) 1 n (nI (u / 10)) (nI (u % 10)) (nI (v / 10) - 4) (nI (v % 10) - 4) a = tUp I 1 n (nI (u / 10)) (nI (u % 10)) (nI (v / 10) - 4) (nI (v % 10) - 4) a := fun a ha => by
      simp only [tUp, zw]
      repeat' split
      all_goals first | rfl | omega
    have hX1 : tUp (zw I 51 (upd (upd (I 51) 0 (I 51 0 - (nI (u / 10) - nI (u % 10)))) 1 (I 51 1 - nI (u % 10)))) 1 n (nI (u / 10)) (nI (u % 10)) (nI (v / 10) - 4) (nI (v % 10) - 4) 1 6 = nI (n + 1) := rfl
    have hXo : ∀ a, 13 < a ∨ a = 0 → a ≠ 51 → tUp (zw I 51 (upd (upd (I 51) 0 (I 51 0 - (nI (u / 10) - nI (u % 10)))) 1 (I 51 1 - nI (u % 10)))) 1 n (nI (u / 10)) (nI (u % 10)) (nI (v / 10) - 4) (nI (v % 10) - 4) a = I a := fun a ha hb => by rw [tUp_o (by omega), zw_n hb]
    have hX5 : tUp (zw I 51 (upd (upd (I 51) 0 (I 51 0 - (nI (u / 10) - nI (u % 10)))) 1 (I 51 1 - nI (u % 10)))) 1 n (nI (u / 10)) (nI (u % 10)) (nI (v / 10) - 4) (nI (v % 10) - 4) 51 = upd (upd (I 51) 0 (I 51 0 - (nI (u / 10) - nI (u % 10)))) 1 (I 51 1 - nI (u % 10)) := rfl
    generalize tUp (zw I 51 (upd (upd (I 51) 0 (I 51 0 - (nI (u / 10) - nI (u % 10)))) 1 (I 51 1 - nI (u % 10)))) 1 n (nI (u / 10)) (nI (u % 10)) (nI (v / 10) - 4) (nI (v % 10) - 4) = X at *
    have w33 : tW X 1 (n + 1) 33 = I 33 := by rw [tW_o (by omega)]; exact hXo 33 (by omega) (by omega)
    have w1 : tW X 1 (n + 1) 1 6 = nI (n + 1) := by rw [tW_o (by omega)]; exact hX1
    have w80 : tW X 1 (n + 1) 80 = I 80 := by rw [tW_o (by omega)]; exact hXo 80 (by omega) (by omega)
    have w81 : tW X 1 (n + 1) 81 = I 81 := by rw [tW_o (by omega)]; exact hXo 81 (by omega) (by omega)
    have w85 : tW X 1 (n + 1) 85 = I 85 := by rw [tW_o (by omega)]; exact hXo 85 (by omega) (by omega)
    have w51 : tW X 1 (n + 1) 51 = upd (upd (I 51) 0 (I 51 0 - (nI (u / 10) - nI (u % 10)))) 1 (I 51 1 - nI (u % 10)) := by rw [tW_o (by omega)]; exact hX5
    have qa : ∀ d Q Y F, Y 80 = F → F 6 = nI n → Y 85 = I 85 → Y 81 = I 81 → zWM (d + 1) 133 [.ref 80, .int (nI (u / 10)), .int (nI (u % 10)), .int (nI (v / 10) - 4), .int (nI (v % 10) - 4)] (zSH, Y, L, zP f g t) Q = Q none (zSH, zw (zw (zw Y 85 (upd (I 85) n (nI (u / 10)))) 81 (upd (upd (upd (I 81) n (nI (v / 10) - 4)) (24 + n) (nI (v % 10) - 4)) (48 + n) (nI (u % 10)))) 80 (upd F 6 (nI (n + 1))), L, zP f g t) := fun d Q Y F hY hF h85 h81 => by
      have e := m_adds (d := d) (f := f) (g := g) (t := t) (L := L) (Q := Q) (I := Y) (n := n) (by rw [hY]; exact hF) n1 (nI (u / 10)) (nI (u % 10)) (nI (v / 10) - 4) (nI (v % 10) - 4)
      rw [e, hY, h85, h81]
    refine zOp_m (.int (nI n)) (zw (tW X 1 (n + 1)) 33 (upd (I 33) 6 0)) (zw (zw (zw (zw (tW X 1 (n + 1)) 33 (upd (I 33) 6 0)) 80 (upd (upd (upd (I 80) 8 (I 51 0 - (nI (u / 10) - nI (u % 10)))) 9 (I 51 1 - nI (u % 10))) 6 (nI (n + 1)))) 85 (upd (I 85) n (nI (u / 10)))) 81 (upd (upd (upd (I 81) n (nI (v / 10) - 4)) (24 + n) (nI (v % 10) - 4)) (48 + n) (nI (u % 10)))) (fun d Q => ?_) (fun d Q => ?_) ?_
    · simp (disch := first | assumption | rfl | omega | decide | exact zb_01 _) only [zabs_e, zmax_e, zmin_e, zrf_s, zpush_s, zpush_n, zw_app, upd_app, updL_app, Nat.reduceEqDiff, Nat.add_left_cancel_iff, Nat.add_eq_left, Nat.left_eq_add, ↓reduceIte, true_and, and_true, Int32.reduceToNatClampNeg, zin_O, zi_ltO, zi_leO, zi_Olt, zi_Ole, zi_eqO, Nat.not_lt_zero, Nat.zero_le, List.append_nil, zrn_n, zrn_s, List.cons_append, List.nil_append, zlg_lt, zlg_gt, zlg_le, zlg_ge, zlg_eq, Int32.toInt_toInt64, Int64.reduceToInt, zw_zw, zw_sw1, zw_sw2, zw_sw3, zw_sw4, zw_sw5, zw_sw6, zw_sw7, ne_eq, zi_in, zi_cl, zi_le, zi_lt, zi_eq, zi_neg, zi_0le, zb_0, if_true, if_false, eq_self, zb_T, zb_F, Bool.false_eq_true, zO_eq, zO_ne1, zO_ne2, zO_nn, zi_ne1, zi_ne2, zi_lt1, zi_le1, zi_lt2, zi_le2, Int32.reduceLT, Int32.reduceLE, Nat.reduceLT, Nat.reduceLeDiff, Int32.reduceMul, Int32.reduceAdd, Int32.reduceSub, not_false_eq_true, not_true_eq_false, Int32.reduceToInt, Int.reduceLE, Int.reduceLT, Int.reduceNeg, ite_self, E_X9_build, R_X9_build, SHF, PF, u1, u2, v1, v2, q1, q2, q3, q4, c_fitsO, zb_t hg, hn, n1, n2, c1, c3, qr, w33, w1, hp1]
    · have qa2 := fun d Q => qa d Q (zw (zw (tW X 1 (n + 1)) 33 (upd (I 33) 6 0)) 80 (upd (upd (I 80) 8 (I 51 0 - (nI (u / 10) - nI (u % 10)))) 9 (I 51 1 - nI (u % 10)))) _ rfl hn8 w85 w81
      simp (disch := first | assumption | rfl | omega | decide | exact zb_01 _) only [zabs_e, zmax_e, zmin_e, zrf_s, zpush_s, zpush_n, zw_app, upd_app, updL_app, Nat.reduceEqDiff, Nat.add_left_cancel_iff, Nat.add_eq_left, Nat.left_eq_add, ↓reduceIte, true_and, and_true, Int32.reduceToNatClampNeg, zin_O, zi_ltO, zi_leO, zi_Olt, zi_Ole, zi_eqO, Nat.not_lt_zero, Nat.zero_le, List.append_nil, zrn_n, zrn_s, List.cons_append, List.nil_append, zlg_lt, zlg_gt, zlg_le, zlg_ge, zlg_eq, Int32.toInt_toInt64, Int64.reduceToInt, zw_zw, zw_sw1, zw_sw2, zw_sw3, zw_sw4, zw_sw5, zw_sw6, zw_sw7, ne_eq, zi_in, zi_cl, zi_le, zi_lt, zi_eq, zi_neg, zi_0le, zb_0, if_true, if_false, eq_self, zb_T, zb_F, Bool.false_eq_true, zO_eq, zO_ne1, zO_ne2, zO_nn, zi_ne1, zi_ne2, zi_lt1, zi_le1, zi_lt2, zi_le2, Int32.reduceLT, Int32.reduceLE, Nat.reduceLT, Nat.reduceLeDiff, Int32.reduceMul, Int32.reduceAdd, Int32.reduceSub, not_false_eq_true, not_true_eq_false, Int32.reduceToInt, Int.reduceLE, Int.reduceLT, Int.reduceNeg, ite_self, E_X10_build, R_X10_build, SHF, PF, q1, q2, q3, q4, m_isOneO, zb_t hg, w80, w85, w81, hn8, n24, s1, c1, s2, c3, qa2, hp1]
    · have r81 : ∀ j, 72 ≤ j → upd (upd (upd (I 81) n (nI (v / 10) - 4)) (24 + n) (nI (v % 10) - 4)) (48 + n) (nI (u % 10)) j = I 81 j := fun j hj => by rw [zup_lt (by omega), zup_lt (by omega), zup_lt (by omega)]
      have rX : ∀ a, a ≠ 33 → a ≠ 80 → a ≠ 85 → a ≠ 81 → a ≠ 51 → (13 < a ∨ a = 0) → zw (zw (zw (zw (tW X 1 (n + 1)) 33 (upd (I 33) 6 0)) 80 (upd (upd (upd (I 80) 8 (I 51 0 - (nI (u / 10) - nI (u % 10)))) 9 (I 51 1 - nI (u % 10))) 6 (nI (n + 1)))) 85 (upd (I 85) n (nI (u / 10)))) 81 (upd (upd (upd (I 81) n (nI (v / 10) - 4)) (24 + n) (nI (v % 10) - 4)) (48 + n) (nI (u % 10))) a = I a := fun a h1 h2 h3 h4 h5 h6 => by
        rw [zw_n h4, zw_n h3, zw_n h2, zw_n h1, tW_o (by omega)]
        exact hXo a h6 h5
      refine ⟨law, n + 1, k, a, b, z, bb, hfg, zRt_up ht n1 hg hX (fun a h1 h2 => by rw [zw_n (by omega), zw_n (by omega), zw_n (by omega), zw_n (by omega)]) rfl rfl (fun _ _ => rfl), zRw_f (I := I) (r81 72 (by omega)) (r81 73 (by omega)) (r81 82 (by omega)) (r81 83 (by omega)) ?_ ?_ ?_ ?_ hw, zRp_f (I := I) ?_ rfl ?_ ?_ ?_ ?_ ?_ (fun j h1 h2 => r81 j (by omega)) hp, ?_, zRi_f (I := I) ?_ rfl ?_ ?_ hi, zRc_f (I := I) ?_ ?_ rfl rfl ?_ ?_ ?_ ?_ hc, zRy_f (I := I) ?_ rfl ?_ ?_ hy, zRl_f (I := I) hfg ?_ ?_ ?_ ?_ ?_ ?_ rfl ?_ hl, zRb_f (I := I) ?_ rfl ?_ ?_ hb, zRr_f (I := I) ?_ rfl ?_ ?_ hr, zRh_f (I := I) ?_ ?_ ?_ ?_ ?_ ?_ ?_ ?_ hh, zRf_0 rfl⟩
      all_goals first
        | exact rX _ (by decide) (by decide) (by decide) (by decide) (by decide) (by decide)
        | (rw [rX _ (by decide) (by decide) (by decide) (by decide) (by decide) (by decide)]; done)
        | skip
      · refine ⟨?_, ?_, (by show _ = tW X 1 (n + 1) 51 2; rw [w51]; exact s3), (by show _ = tW X 1 (n + 1) 51 3; rw [w51]; exact s4), (by show _ = tW X 1 (n + 1) 51 4; rw [w51]; exact s5), (by show _ = tW X 1 (n + 1) 51 5; rw [w51]; exact s6), ?_⟩
        · show _ = tW X 1 (n + 1) 51 0
          rw [w51]
          rfl
        · show _ = tW X 1 (n + 1) 51 1
          rw [w51]
          rfl
        · show zst (tW X 1 (n + 1) 51)
          rw [w51]
          have c1' := Int32.le_iff_toInt_le.mp (Int32.not_lt.mp c1)
          have c3' := Int32.le_iff_toInt_le.mp c3
          have e5 : (nI (u / 10) - nI (u % 10)).toInt = (nI (u / 10)).toInt - (nI (u % 10)).toInt := zt_sub (by omega) (by omega)
          have e6 : (I 51 0 - (nI (u / 10) - nI (u % 10))).toInt = (I 51 0).toInt - (nI (u / 10) - nI (u % 10)).toInt := zt_sub (by omega) (by omega)
          have e7 : (I 51 1 - nI (u % 10)).toInt = (I 51 1).toInt - (nI (u % 10)).toInt := zt_sub (by omega) (by omega)
          refine ⟨?_, ?_, s7.2.2⟩
          · show 0 ≤ (I 51 0 - (nI (u / 10) - nI (u % 10))).toInt ∧ (I 51 0 - (nI (u / 10) - nI (u % 10))).toInt ≤ 99
            omega
          · show 0 ≤ (I 51 1 - nI (u % 10)).toInt ∧ (I 51 1 - nI (u % 10)).toInt ≤ 99
            omega
  · refine zOp_s hR (.int (-1)) (fun d Q => ?_) (fun d Q => ?_)
    · by_cases u1 : u < 10
      · simp (disch := first | assumption | rfl | omega | decide | exact zb_01 _) only [zabs_e, zmax_e, zmin_e, zrf_s, zpush_s, zpush_n, zw_app, upd_app, updL_app, Nat.reduceEqDiff, Nat.add_left_cancel_iff, Nat.add_eq_left, Nat.left_eq_add, ↓reduceIte, true_and, and_true, Int32.reduceToNatClampNeg, zin_O, zi_ltO, zi_leO, zi_Olt, zi_Ole, zi_eqO, Nat.not_lt_zero, Nat.zero_le, List.append_nil, zrn_n, zrn_s, List.cons_append, List.nil_append, zlg_lt, zlg_gt, zlg_le, zlg_ge, zlg_eq, Int32.toInt_toInt64, Int64.reduceToInt, zw_zw, zw_sw1, zw_sw2, zw_sw3, zw_sw4, zw_sw5, zw_sw6, zw_sw7, ne_eq, zi_in, zi_cl, zi_le, zi_lt, zi_eq, zi_neg, zi_0le, zb_0, if_true, if_false, eq_self, zb_T, zb_F, Bool.false_eq_true, zO_eq, zO_ne1, zO_ne2, zO_nn, zi_ne1, zi_ne2, zi_lt1, zi_le1, zi_lt2, zi_le2, Int32.reduceLT, Int32.reduceLE, Nat.reduceLT, Nat.reduceLeDiff, Int32.reduceMul, Int32.reduceAdd, Int32.reduceSub, not_false_eq_true, not_true_eq_false, Int32.reduceToInt, Int.reduceLE, Int.reduceLT, Int.reduceNeg, ite_self, E_X9_build, R_X9_build, SHF, PF, u1]
      by_cases u2 : 99 < u
      · simp (disch := first | assumption | rfl | omega | decide | exact zb_01 _) only [zabs_e, zmax_e, zmin_e, zrf_s, zpush_s, zpush_n, zw_app, upd_app, updL_app, Nat.reduceEqDiff, Nat.add_left_cancel_iff, Nat.add_eq_left, Nat.left_eq_add, ↓reduceIte, true_and, and_true, Int32.reduceToNatClampNeg, zin_O, zi_ltO, zi_leO, zi_Olt, zi_Ole, zi_eqO, Nat.not_lt_zero, Nat.zero_le, List.append_nil, zrn_n, zrn_s, List.cons_append, List.nil_append, zlg_lt, zlg_gt, zlg_le, zlg_ge, zlg_eq, Int32.toInt_toInt64, Int64.reduceToInt, zw_zw, zw_sw1, zw_sw2, zw_sw3, zw_sw4, zw_sw5, zw_sw6, zw_sw7, ne_eq, zi_in, zi_cl, zi_le, zi_lt, zi_eq, zi_neg, zi_0le, zb_0, if_true, if_false, eq_self, zb_T, zb_F, Bool.false_eq_true, zO_eq, zO_ne1, zO_ne2, zO_nn, zi_ne1, zi_ne2, zi_lt1, zi_le1, zi_lt2, zi_le2, Int32.reduceLT, Int32.reduceLE, Nat.reduceLT, Nat.reduceLeDiff, Int32.reduceMul, Int32.reduceAdd, Int32.reduceSub, not_false_eq_true, not_true_eq_false, Int32.reduceToInt, Int.reduceLE, Int.reduceLT, Int.reduceNeg, ite_self, E_X9_build, R_X9_build, SHF, PF, u1, u2]
      by_cases v1 : 88 < v
      · have v2 : ¬ v ≤ 88 := by omega
        simp (disch := first | assumption | rfl | omega | decide | exact zb_01 _) only [zabs_e, zmax_e, zmin_e, zrf_s, zpush_s, zpush_n, zw_app, upd_app, updL_app, Nat.reduceEqDiff, Nat.add_left_cancel_iff, Nat.add_eq_left, Nat.left_eq_add, ↓reduceIte, true_and, and_true, Int32.reduceToNatClampNeg, zin_O, zi_ltO, zi_leO, zi_Olt, zi_Ole, zi_eqO, Nat.not_lt_zero, Nat.zero_le, List.append_nil, zrn_n, zrn_s, List.cons_append, List.nil_append, zlg_lt, zlg_gt, zlg_le, zlg_ge, zlg_eq, Int32.toInt_toInt64, Int64.reduceToInt, zw_zw, zw_sw1, zw_sw2, zw_sw3, zw_sw4, zw_sw5, zw_sw6, zw_sw7, ne_eq, zi_in, zi_cl, zi_le, zi_lt, zi_eq, zi_neg, zi_0le, zb_0, if_true, if_false, eq_self, zb_T, zb_F, Bool.false_eq_true, zO_eq, zO_ne1, zO_ne2, zO_nn, zi_ne1, zi_ne2, zi_lt1, zi_le1, zi_lt2, zi_le2, Int32.reduceLT, Int32.reduceLE, Nat.reduceLT, Nat.reduceLeDiff, Int32.reduceMul, Int32.reduceAdd, Int32.reduceSub, not_false_eq_true, not_true_eq_false, Int32.reduceToInt, Int.reduceLE, Int.reduceLT, Int.reduceNeg, ite_self, E_X9_build, R_X9_build, SHF, PF, u1, u2, v1, v2]
      · have v2 : v ≤ 88 := by omega
        simp (disch := first | assumption | rfl | omega | decide | exact zb_01 _) only [zabs_e, zmax_e, zmin_e, zrf_s, zpush_s, zpush_n, zw_app, upd_app, updL_app, Nat.reduceEqDiff, Nat.add_left_cancel_iff, Nat.add_eq_left, Nat.left_eq_add, ↓reduceIte, true_and, and_true, Int32.reduceToNatClampNeg, zin_O, zi_ltO, zi_leO, zi_Olt, zi_Ole, zi_eqO, Nat.not_lt_zero, Nat.zero_le, List.append_nil, zrn_n, zrn_s, List.cons_append, List.nil_append, zlg_lt, zlg_gt, zlg_le, zlg_ge, zlg_eq, Int32.toInt_toInt64, Int64.reduceToInt, zw_zw, zw_sw1, zw_sw2, zw_sw3, zw_sw4, zw_sw5, zw_sw6, zw_sw7, ne_eq, zi_in, zi_cl, zi_le, zi_lt, zi_eq, zi_neg, zi_0le, zb_0, if_true, if_false, eq_self, zb_T, zb_F, Bool.false_eq_true, zO_eq, zO_ne1, zO_ne2, zO_nn, zi_ne1, zi_ne2, zi_lt1, zi_le1, zi_lt2, zi_le2, Int32.reduceLT, Int32.reduceLE, Nat.reduceLT, Nat.reduceLeDiff, Int32.reduceMul, Int32.reduceAdd, Int32.reduceSub, not_false_eq_true, not_true_eq_false, Int32.reduceToInt, Int.reduceLE, Int.reduceLT, Int.reduceNeg, ite_self, E_X9_build, R_X9_build, SHF, PF, u1, u2, v1, v2, q1, q2, q3, q4, c_fitsO, zb_f hg]
    · simp (disch := first | assumption | rfl | omega | decide | exact zb_01 _) only [zabs_e, zmax_e, zmin_e, zrf_s, zpush_s, zpush_n, zw_app, upd_app, updL_app, Nat.reduceEqDiff, Nat.add_left_cancel_iff, Nat.add_eq_left, Nat.left_eq_add, ↓reduceIte, true_and, and_true, Int32.reduceToNatClampNeg, zin_O, zi_ltO, zi_leO, zi_Olt, zi_Ole, zi_eqO, Nat.not_lt_zero, Nat.zero_le, List.append_nil, zrn_n, zrn_s, List.cons_append, List.nil_append, zlg_lt, zlg_gt, zlg_le, zlg_ge, zlg_eq, Int32.toInt_toInt64, Int64.reduceToInt, zw_zw, zw_sw1, zw_sw2, zw_sw3, zw_sw4, zw_sw5, zw_sw6, zw_sw7, ne_eq, zi_in, zi_cl, zi_le, zi_lt, zi_eq, zi_neg, zi_0le, zb_0, if_true, if_false, eq_self, zb_T, zb_F, Bool.false_eq_true, zO_eq, zO_ne1, zO_ne2, zO_nn, zi_ne1, zi_ne2, zi_lt1, zi_le1, zi_lt2, zi_le2, Int32.reduceLT, Int32.reduceLE, Nat.reduceLT, Nat.reduceLeDiff, Int32.reduceMul, Int32.reduceAdd, Int32.reduceSub, not_false_eq_true, not_true_eq_false, Int32.reduceToInt, Int.reduceLE, Int.reduceLT, Int.reduceNeg, ite_self, E_X10_build, R_X10_build, SHF, PF, q1, q2, q3, q4, m_isOneO, zb_f hg]
end OPS3
