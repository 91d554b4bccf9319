theorem zi_gt1 {x : Int32} (h : 2 ≤ x) : ¬ x ≤ 1 := fun q => by
  have t1 : (1 : Int32).toInt = 1 := by decide
  have t2 : (2 : Int32).toInt = 2 := by decide
  simp only [Int32.le_iff_toInt_le, t1, t2] at h q
  omega
theorem zi_le1' {x : Int32} (h : ¬ 2 ≤ x) : x ≤ 1 := by
  have t1 : (1 : Int32).toInt = 1 := by decide
  have t2 : (2 : Int32).toInt = 2 := by decide
  simp only [Int32.le_iff_toInt_le, t1, t2] at h ⊢
  omega
section THOUGHT
variable {d f g n k a b z bb : Nat} {t : Option Nat} {I J K : Nat → Nat → Int32} {L : Nat → Nat → Int64} {Q : Option Value → zMm → Prop}
/-- away from the tower that is thought -/
def zth (K J : Nat → Nat → Int32) : Prop := ∀ a, (a < 14 ∨ 26 < a) → K a = J a
theorem th_copy (hn : J 1 6 = nI n) (h24 : n ≤ 24) : ∃ K, (∀ d Q, zWM (d + 2) 63 [.ref 14, .ref 1] (zSH, J, L, zP f g t) Q = Q none (zSH, K, L, zP f g t)) ∧ zth K J ∧ tSet K 14 n ∧ ∀ j, j < n → K 15 j = J 2 j ∧ K 18 j = J 5 j ∧ K 19 j = J 6 j := by
  have h6 : tCp J 14 n 14 6 = nI n := rfl
  have e15 : tCp J 14 n 15 = zfl n (J 2) (J 15) := rfl
  have e18 : tCp J 14 n 18 = zfl n (J 5) (J 18) := rfl
  have e19 : tCp J 14 n 19 = zfl n (J 6) (J 19) := rfl
  refine ⟨tW (tCp J 14 n) 14 n, fun d Q => c_copy14 hn h24, fun a ha => ?_, tW_set h6 h24, fun j hj => ?_⟩
  · rw [tW_o (by omega)]
    unfold tCp
    rw [zw_n (by omega), zw_n (by omega), zw_n (by omega), zw_n (by omega), zw_n (by omega)]
  · rw [tW_o (by omega), tW_o (by omega), tW_o (by omega), e15, e18, e19, zfl_lt hj, zfl_lt hj, zfl_lt hj]
    exact ⟨rfl, rfl, rfl⟩
theorem th_settle (hn : K 14 6 = nI n) (h24 : n ≤ 24) : ∃ K', (∀ d Q, zWM (d + 1) 64 [.ref 14] (zSH, K, L, zP f g t) Q = Q none (zSH, K', L, zP f g t)) ∧ zth K' K ∧ tSet K' 14 n ∧ K' 15 = K 15 ∧ K' 18 = K 18 ∧ K' 19 = K 19 :=
  ⟨tW K 14 n, fun d Q => c_settle (Or.inr (Or.inl rfl)) hn h24, fun a ha => tW_o (by omega), tW_set hn h24, tW_o (by omega), tW_o (by omega), tW_o (by omega)⟩
theorem th_raise (hn : K 14 6 = nI n) (h24 : n < 24) (p dm x y : Int32) : ∃ K', (∀ d Q, zWM (d + 2) 60 [.ref 14, .int p, .int dm, .int x, .int y] (zSH, K, L, zP f g t) Q = Q none (zSH, K', L, zP f g t)) ∧ zth K' K ∧ tSet K' 14 (n + 1) ∧ K' 15 = upd (K 15) n p ∧ K' 18 = upd (K 18) n x ∧ K' 19 = upd (K 19) n y := by
  have h6 : tUp K 14 n p dm x y 14 6 = nI (n + 1) := rfl
  refine ⟨tW (tUp K 14 n p dm x y) 14 (n + 1), fun d Q => c_raise (Or.inr (Or.inl rfl)) hn h24 p dm x y, fun a ha => ?_, tW_set h6 h24, ?_, ?_, ?_⟩
  · rw [tW_o (by omega), tUp_o (by omega)]
  · rw [tW_o (by omega)]; rfl
  · rw [tW_o (by omega)]; rfl
  · rw [tW_o (by omega)]; rfl
/-- which ROUNDS may lack one -/
def zwm (n : Nat) (p sx sy : Nat → Int32) (wx wy : Int32) : Nat → Int32
  | 0 => 0
  | i + 1 => if 2 ≤ p i ∧ zFa n (upd p i (p i - 1)) sx sy wx wy = -2 then zwm n p sx sy wx wy i ||| (1 <<< (nI i &&& 31)) else zwm n p sx sy wx wy i
theorem c_without_l (hn : I 1 6 = nI n) (h24 : n ≤ 24) : ∀ c i J, c + i = n → zth J I → ∃ J', zth J' I ∧ ∀ d Q, zWp (d + 98) zi_92 none 4 [.ref 0, .int (zwm n (I 2) (I 5) (I 6) (I 0 14) (I 0 15) i), .int (nI i)] [] (zSH, J, L, zP f g t) Q = Q (some (.int (zwm n (I 2) (I 5) (I 6) (I 0 14) (I 0 15) n))) (zSH, J', L, zP f g t) := by
  intro c
  induction c with
  | zero =>
    intro i J hi hJ
    have hi : i = n := by omega
    subst hi
    refine ⟨J, hJ, fun d Q => ?_⟩
    have j1 : J 1 = I 1 := hJ 1 (by omega)
    rw [H_X9_without_4]
    simp (disch := first | assumption | rfl | omega | decide | exact zb_01 _) only [zabs_e, zmax_e, zmin_e, zrf_s, zpush_s, zpush_n, zw_app, upd_app, updL_app, Nat.reduceEqDiff, Nat.add_left_cancel_iff, Nat.add_eq_left, Nat.left_eq_add, ↓reduceIte, true_and, and_true, Int32.reduceToNatClampNeg, zin_O, zi_ltO, zi_leO, zi_Olt, zi_Ole, zi_eqO, Nat.not_lt_zero, Nat.zero_le, List.append_nil, zrn_n, zrn_s, List.cons_append, List.nil_append, zlg_lt, zlg_gt, zlg_le, zlg_ge, zlg_eq, Int32.toInt_toInt64, Int64.reduceToInt, zw_zw, zw_sw1, zw_sw2, zw_sw3, zw_sw4, zw_sw5, zw_sw6, zw_sw7, ne_eq, zi_in, zi_cl, zi_le, zi_lt, zi_eq, zi_neg, zi_0le, zb_0, if_true, if_false, eq_self, zb_T, zb_F, Bool.false_eq_true, zO_eq, zO_ne1, zO_ne2, zO_nn, zi_ne1, zi_ne2, zi_lt1, zi_le1, zi_lt2, zi_le2, Int32.reduceLT, Int32.reduceLE, Nat.reduceLT, Nat.reduceLeDiff, Int32.reduceMul, Int32.reduceAdd, Int32.reduceSub, not_false_eq_true, not_true_eq_false, Int32.reduceToInt, Int.reduceLE, Int.reduceLT, Int.reduceNeg, ite_self, R_X9_without, SHF, PF, j1, hn, Nat.le_refl]
  | succ c ih =>
    intro i J hi hJ
    have h1 : ¬ n ≤ i := by omega
    have h2 : i < n := by omega
    have h3 : i < 24 := by omega
    have j1 : J 1 = I 1 := hJ 1 (by omega)
    have j2 : J 2 = I 2 := hJ 2 (by omega)
    by_cases h4 : 2 ≤ I 2 i
    · have h4' : ¬ I 2 i < 2 := Int32.not_lt.mpr h4
      obtain ⟨K, q1, k1, k2, k3⟩ := th_copy (f := f) (g := g) (t := t) (L := L) (J := J) (by rw [j1]; exact hn) h24
      obtain ⟨K', q2, k4, k5, k6, k7, k8⟩ := th_settle (f := f) (g := g) (t := t) (L := L) (K := zw K 15 (upd (K 15) i (K 15 i - 1))) (n := n) k2.1 h24
      have z1 : ∀ a, (a < 14 ∨ 26 < a) → K' a = I a := fun a ha => (k4 a ha).trans ((zw_n (by omega)).trans ((k1 a ha).trans (hJ a ha)))
      have q3 : ∀ d Q, zWM (d + 4) 69 [.ref 14, .int (I 0 14), .int (I 0 15)] (zSH, K', L, zP f g t) Q = Q (some (.int (zFa n (upd (I 2) i (I 2 i - 1)) (I 5) (I 6) (I 0 14) (I 0 15)))) (zSH, K', L, zP f g t) := by
        intro d Q
        rw [c_fallsAt (I := K') (Or.inr (Or.inl rfl)) k5, zFa_congr (p' := upd (I 2) i (I 2 i - 1)) (sx' := I 5) (sy' := I 6) (fun j hj => ?_) (fun j hj => ?_) (fun j hj => ?_)]
        · show K' 15 j = _
          rw [k6, zw_s, (k3 i h2).1, j2]
          simp only [upd]
          split
          · rfl
          · rw [(k3 j hj).1, j2]
        · show K' 18 j = _
          rw [k7, zw_n (by decide), (k3 j hj).2.1, hJ 5 (by omega)]
        · show K' 19 j = _
          rw [k8, zw_n (by decide), (k3 j hj).2.2, hJ 6 (by omega)]
      obtain ⟨J', z2, q4⟩ := ih (i + 1) K' (by omega) z1
      refine ⟨J', z2, fun d Q => ?_⟩
      have y0 : K' 0 = I 0 := z1 0 (by omega)
      rw [H_X9_without_4, ← q4 d Q]
      by_cases h5 : zFa n (upd (I 2) i (I 2 i - 1)) (I 5) (I 6) (I 0 14) (I 0 15) = -2
      · rw [show zwm n (I 2) (I 5) (I 6) (I 0 14) (I 0 15) (i + 1) = _ from if_pos ⟨h4, h5⟩]
        simp (disch := first | assumption | rfl | omega | decide | exact zb_01 _) only [zabs_e, zmax_e, zmin_e, zrf_s, zpush_s, zpush_n, zw_app, upd_app, updL_app, Nat.reduceEqDiff, Nat.add_left_cancel_iff, Nat.add_eq_left, Nat.left_eq_add, ↓reduceIte, true_and, and_true, Int32.reduceToNatClampNeg, zin_O, zi_ltO, zi_leO, zi_Olt, zi_Ole, zi_eqO, Nat.not_lt_zero, Nat.zero_le, List.append_nil, zrn_n, zrn_s, List.cons_append, List.nil_append, zlg_lt, zlg_gt, zlg_le, zlg_ge, zlg_eq, Int32.toInt_toInt64, Int64.reduceToInt, zw_zw, zw_sw1, zw_sw2, zw_sw3, zw_sw4, zw_sw5, zw_sw6, zw_sw7, ne_eq, zi_in, zi_cl, zi_le, zi_lt, zi_eq, zi_neg, zi_0le, zb_0, if_true, if_false, eq_self, zb_T, zb_F, Bool.false_eq_true, zO_eq, zO_ne1, zO_ne2, zO_nn, zi_ne1, zi_ne2, zi_lt1, zi_le1, zi_lt2, zi_le2, Int32.reduceLT, Int32.reduceLE, Nat.reduceLT, Nat.reduceLeDiff, Int32.reduceMul, Int32.reduceAdd, Int32.reduceSub, not_false_eq_true, not_true_eq_false, Int32.reduceToInt, Int.reduceLE, Int.reduceLT, Int.reduceNeg, ite_self, R_X9_without, SHF, PF, j1, j2, hn, h1, h2, h3, h4', q1, q2, q3, y0, h5, zi_s]
      · rw [show zwm n (I 2) (I 5) (I 6) (I 0 14) (I 0 15) (i + 1) = _ from if_neg (fun z => h5 z.2)]
        simp (disch := first | assumption | rfl | omega | decide | exact zb_01 _) only [zabs_e, zmax_e, zmin_e, zrf_s, zpush_s, zpush_n, zw_app, upd_app, updL_app, Nat.reduceEqDiff, Nat.add_left_cancel_iff, Nat.add_eq_left, Nat.left_eq_add, ↓reduceIte, true_and, and_true, Int32.reduceToNatClampNeg, zin_O, zi_ltO, zi_leO, zi_Olt, zi_Ole, zi_eqO, Nat.not_lt_zero, Nat.zero_le, List.append_nil, zrn_n, zrn_s, List.cons_append, List.nil_append, zlg_lt, zlg_gt, zlg_le, zlg_ge, zlg_eq, Int32.toInt_toInt64, Int64.reduceToInt, zw_zw, zw_sw1, zw_sw2, zw_sw3, zw_sw4, zw_sw5, zw_sw6, zw_sw7, ne_eq, zi_in, zi_cl, zi_le, zi_lt, zi_eq, zi_neg, zi_0le, zb_0, if_true, if_false, eq_self, zb_T, zb_F, Bool.false_eq_true, zO_eq, zO_ne1, zO_ne2, zO_nn, zi_ne1, zi_ne2, zi_lt1, zi_le1, zi_lt2, zi_le2, Int32.reduceLT, Int32.reduceLE, Nat.reduceLT, Nat.reduceLeDiff, Int32.reduceMul, Int32.reduceAdd, Int32.reduceSub, not_false_eq_true, not_true_eq_false, Int32.reduceToInt, Int.reduceLE, Int.reduceLT, Int.reduceNeg, ite_self, R_X9_without, SHF, PF, j1, j2, hn, h1, h2, h3, h4', q1, q2, q3, y0, h5, zi_s]
    · have h4' : I 2 i < 2 := Int32.not_le.mp h4
      obtain ⟨J', z2, q4⟩ := ih (i + 1) J (by omega) hJ
      refine ⟨J', z2, fun d Q => ?_⟩
      rw [H_X9_without_4, ← q4 d Q]
      rw [show zwm n (I 2) (I 5) (I 6) (I 0 14) (I 0 15) (i + 1) = _ from if_neg (fun z => h4 z.1)]
      simp (disch := first | assumption | rfl | omega | decide | exact zb_01 _) only [zabs_e, zmax_e, zmin_e, zrf_s, zpush_s, zpush_n, zw_app, upd_app, updL_app, Nat.reduceEqDiff, Nat.add_left_cancel_iff, Nat.add_eq_left, Nat.left_eq_add, ↓reduceIte, true_and, and_true, Int32.reduceToNatClampNeg, zin_O, zi_ltO, zi_leO, zi_Olt, zi_Ole, zi_eqO, Nat.not_lt_zero, Nat.zero_le, List.append_nil, zrn_n, zrn_s, List.cons_append, List.nil_append, zlg_lt, zlg_gt, zlg_le, zlg_ge, zlg_eq, Int32.toInt_toInt64, Int64.reduceToInt, zw_zw, zw_sw1, zw_sw2, zw_sw3, zw_sw4, zw_sw5, zw_sw6, zw_sw7, ne_eq, zi_in, zi_cl, zi_le, zi_lt, zi_eq, zi_neg, zi_0le, zb_0, if_true, if_false, eq_self, zb_T, zb_F, Bool.false_eq_true, zO_eq, zO_ne1, zO_ne2, zO_nn, zi_ne1, zi_ne2, zi_lt1, zi_le1, zi_lt2, zi_le2, Int32.reduceLT, Int32.reduceLE, Nat.reduceLT, Nat.reduceLeDiff, Int32.reduceMul, Int32.reduceAdd, Int32.reduceSub, not_false_eq_true, not_true_eq_false, Int32.reduceToInt, Int.reduceLE, Int.reduceLT, Int.reduceNeg, ite_self, R_X9_without, SHF, PF, j1, j2, hn, h1, h2, h3, h4', zi_s]
theorem m_without_l (hn : I 80 6 = nI n) (h24 : n ≤ 24) : ∀ c i X, c + i = n → ∃ X', ∀ d Q, zWp (d + 98) zi_167 none 4 [.ref 80, .int (zwm n (I 85) (I 81) (mSy I) (I 81 72) (I 81 73) i), .int (nI i)] [] (zSH, zw I 91 X, L, zP f g t) Q = Q (some (.int (zwm n (I 85) (I 81) (mSy I) (I 81 72) (I 81 73) n))) (zSH, zw I 91 X', L, zP f g t) := by
  intro c
  induction c with
  | zero =>
    intro i X hi
    have hi : i = n := by omega
    subst hi
    refine ⟨X, fun d Q => ?_⟩
    rw [H_X10_without_4]
    simp (disch := first | assumption | rfl | omega | decide | exact zb_01 _) only [zabs_e, zmax_e, zmin_e, zrf_s, zpush_s, zpush_n, zw_app, upd_app, updL_app, Nat.reduceEqDiff, Nat.add_left_cancel_iff, Nat.add_eq_left, Nat.left_eq_add, ↓reduceIte, true_and, and_true, Int32.reduceToNatClampNeg, zin_O, zi_ltO, zi_leO, zi_Olt, zi_Ole, zi_eqO, Nat.not_lt_zero, Nat.zero_le, List.append_nil, zrn_n, zrn_s, List.cons_append, List.nil_append, zlg_lt, zlg_gt, zlg_le, zlg_ge, zlg_eq, Int32.toInt_toInt64, Int64.reduceToInt, zw_zw, zw_sw1, zw_sw2, zw_sw3, zw_sw4, zw_sw5, zw_sw6, zw_sw7, ne_eq, zi_in, zi_cl, zi_le, zi_lt, zi_eq, zi_neg, zi_0le, zb_0, if_true, if_false, eq_self, zb_T, zb_F, Bool.false_eq_true, zO_eq, zO_ne1, zO_ne2, zO_nn, zi_ne1, zi_ne2, zi_lt1, zi_le1, zi_lt2, zi_le2, Int32.reduceLT, Int32.reduceLE, Nat.reduceLT, Nat.reduceLeDiff, Int32.reduceMul, Int32.reduceAdd, Int32.reduceSub, not_false_eq_true, not_true_eq_false, Int32.reduceToInt, Int.reduceLE, Int.reduceLT, Int.reduceNeg, ite_self, R_X10_without, SHF, PF, hn, Nat.le_refl]
  | succ c ih =>
    intro i X hi
    have h1 : ¬ n ≤ i := by omega
    have h2 : i < n := by omega
    have h3 : i < 24 := by omega
    have q1 := fun d Q => m_countsAll (d := d) (f := f) (g := g) (t := t) (I := zw I 91 X) (L := L) (Q := Q) hn h24
    rw [zw_s, zw_n (show 85 ≠ 91 by decide), zw_zw] at q1
    obtain ⟨X', q4⟩ := ih (i + 1) (upd (zfl n (I 85) X) i (I 85 i - 1)) (by omega)
    have q3 : ∀ d Q, zWM (d + 4) 161 [.ref 80] (zSH, zw I 91 (upd (zfl n (I 85) X) i (I 85 i - 1)), L, zP f g t) Q = Q (some (.int (zFa n (upd (I 85) i (I 85 i - 1)) (I 81) (mSy I) (I 81 72) (I 81 73)))) (zSH, zw I 91 (upd (zfl n (I 85) X) i (I 85 i - 1)), L, zP f g t) := by
      intro d Q
      rw [m_fallsAt (I := zw I 91 (upd (zfl n (I 85) X) i (I 85 i - 1))) hn h24, zw_s, zmS I _ (by decide), zw_n (show 81 ≠ 91 by decide), zFa_congr (p' := upd (I 85) i (I 85 i - 1)) (sx' := I 81) (sy' := mSy I) (fun j hj => ?_) (fun j hj => rfl) (fun j hj => rfl)]
      simp only [upd]
      split
      · rfl
      · exact zfl_lt hj
    refine ⟨X', fun d Q => ?_⟩
    rw [H_X10_without_4, ← q4 d Q]
    by_cases h4 : 2 ≤ I 85 i
    · have h4' : ¬ I 85 i ≤ 1 := zi_gt1 h4
      rcases zFa_spec (n := n) (p := upd (I 85) i (I 85 i - 1)) (sx := I 81) (sy := mSy I) (wx := I 81 72) (wy := I 81 73) with e | ⟨j, hj, e, hno⟩
      · rw [show zwm n (I 85) (I 81) (mSy I) (I 81 72) (I 81 73) (i + 1) = _ from if_pos ⟨h4, e⟩]
        rw [e] at q3
        simp (disch := first | assumption | rfl | omega | decide | exact zb_01 _) only [zabs_e, zmax_e, zmin_e, zrf_s, zpush_s, zpush_n, zw_app, upd_app, updL_app, Nat.reduceEqDiff, Nat.add_left_cancel_iff, Nat.add_eq_left, Nat.left_eq_add, ↓reduceIte, true_and, and_true, Int32.reduceToNatClampNeg, zin_O, zi_ltO, zi_leO, zi_Olt, zi_Ole, zi_eqO, Nat.not_lt_zero, Nat.zero_le, List.append_nil, zrn_n, zrn_s, List.cons_append, List.nil_append, zlg_lt, zlg_gt, zlg_le, zlg_ge, zlg_eq, Int32.toInt_toInt64, Int64.reduceToInt, zw_zw, zw_sw1, zw_sw2, zw_sw3, zw_sw4, zw_sw5, zw_sw6, zw_sw7, ne_eq, zi_in, zi_cl, zi_le, zi_lt, zi_eq, zi_neg, zi_0le, zb_0, if_true, if_false, eq_self, zb_T, zb_F, Bool.false_eq_true, zO_eq, zO_ne1, zO_ne2, zO_nn, zi_ne1, zi_ne2, zi_lt1, zi_le1, zi_lt2, zi_le2, Int32.reduceLT, Int32.reduceLE, Nat.reduceLT, Nat.reduceLeDiff, Int32.reduceMul, Int32.reduceAdd, Int32.reduceSub, not_false_eq_true, not_true_eq_false, Int32.reduceToInt, Int.reduceLE, Int.reduceLT, Int.reduceNeg, ite_self, R_X10_without, SHF, PF, hn, h1, h2, h3, h4', q1, q3, zfl_lt, zi_s]
      · have hj2 : ¬ nI j = -2 := by rw [zi_ne1 (n := j) (m := 2) (by omega) (by omega) (by omega)]; exact not_false
        rw [show zwm n (I 85) (I 81) (mSy I) (I 81 72) (I 81 73) (i + 1) = _ from if_neg (fun z => hj2 (e.symm.trans z.2))]
        rw [e] at q3
        simp (disch := first | assumption | rfl | omega | decide | exact zb_01 _) only [zabs_e, zmax_e, zmin_e, zrf_s, zpush_s, zpush_n, zw_app, upd_app, updL_app, Nat.reduceEqDiff, Nat.add_left_cancel_iff, Nat.add_eq_left, Nat.left_eq_add, ↓reduceIte, true_and, and_true, Int32.reduceToNatClampNeg, zin_O, zi_ltO, zi_leO, zi_Olt, zi_Ole, zi_eqO, Nat.not_lt_zero, Nat.zero_le, List.append_nil, zrn_n, zrn_s, List.cons_append, List.nil_append, zlg_lt, zlg_gt, zlg_le, zlg_ge, zlg_eq, Int32.toInt_toInt64, Int64.reduceToInt, zw_zw, zw_sw1, zw_sw2, zw_sw3, zw_sw4, zw_sw5, zw_sw6, zw_sw7, ne_eq, zi_in, zi_cl, zi_le, zi_lt, zi_eq, zi_neg, zi_0le, zb_0, if_true, if_false, eq_self, zb_T, zb_F, Bool.false_eq_true, zO_eq, zO_ne1, zO_ne2, zO_nn, zi_ne1, zi_ne2, zi_lt1, zi_le1, zi_lt2, zi_le2, Int32.reduceLT, Int32.reduceLE, Nat.reduceLT, Nat.reduceLeDiff, Int32.reduceMul, Int32.reduceAdd, Int32.reduceSub, not_false_eq_true, not_true_eq_false, Int32.reduceToInt, Int.reduceLE, Int.reduceLT, Int.reduceNeg, ite_self, R_X10_without, SHF, PF, hn, h1, h2, h3, h4', q1, q3, zfl_lt, zi_s, Int32.or_zero]
    · have h4' : I 85 i ≤ 1 := zi_le1' h4
      rw [show zwm n (I 85) (I 81) (mSy I) (I 81 72) (I 81 73) (i + 1) = _ from if_neg (fun z => h4 z.1)]
      simp (disch := first | assumption | rfl | omega | decide | exact zb_01 _) only [zabs_e, zmax_e, zmin_e, zrf_s, zpush_s, zpush_n, zw_app, upd_app, updL_app, Nat.reduceEqDiff, Nat.add_left_cancel_iff, Nat.add_eq_left, Nat.left_eq_add, ↓reduceIte, true_and, and_true, Int32.reduceToNatClampNeg, zin_O, zi_ltO, zi_leO, zi_Olt, zi_Ole, zi_eqO, Nat.not_lt_zero, Nat.zero_le, List.append_nil, zrn_n, zrn_s, List.cons_append, List.nil_append, zlg_lt, zlg_gt, zlg_le, zlg_ge, zlg_eq, Int32.toInt_toInt64, Int64.reduceToInt, zw_zw, zw_sw1, zw_sw2, zw_sw3, zw_sw4, zw_sw5, zw_sw6, zw_sw7, ne_eq, zi_in, zi_cl, zi_le, zi_lt, zi_eq, zi_neg, zi_0le, zb_0, if_true, if_false, eq_self, zb_T, zb_F, Bool.false_eq_true, zO_eq, zO_ne1, zO_ne2, zO_nn, zi_ne1, zi_ne2, zi_lt1, zi_le1, zi_lt2, zi_le2, Int32.reduceLT, Int32.reduceLE, Nat.reduceLT, Nat.reduceLeDiff, Int32.reduceMul, Int32.reduceAdd, Int32.reduceSub, not_false_eq_true, not_true_eq_false, Int32.reduceToInt, Int.reduceLE, Int.reduceLT, Int.reduceNeg, ite_self, R_X10_without, SHF, PF, hn, h1, h2, h3, h4', q1, zfl_lt, zi_s, Int32.or_zero]
end THOUGHT
