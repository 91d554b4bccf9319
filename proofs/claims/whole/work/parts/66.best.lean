section BEST
variable {d f g N r n γ : Nat} {t : Option Nat} {I : Nat → Nat → Int32} {L : Nat → Nat → Int64} {Q : Option Value → zMm → Prop}
/-- how many dry ones, if night i is watched too -/
def zDr (s : Nat → Int32) (th seed : Int32) (N i : Nat) : Int32 := (zni (s 3 ||| (1 <<< (nI i &&& 31))) th N (s 0, s 1, s 2, s 4, s 5, seed)).1
theorem c_best_l (hN : N ≤ 30) (hγ : γ ≤ 30) (eγ : I 51 2 = nI γ) (seed wh : Int32) : ∀ c i (b m : Int32) (G : Nat → Int32), c + i = γ + N → ∃ G' : Nat → Int32, ∀ d Q, zWp (d + 2) zi_102 none 51 [.ref 0, .int seed, .int (nI N), .int wh, .int b, .int m, .int (nI i)] [] (zSH, zw I 53 G, L, zP f g t) Q = (if wh = 0 then Q (some (.int (zbe (zDr (I 51) (I 0 16) seed N) c i b m).1)) (zSH, zw I 53 G', L, zP f g t) else Q (some (.int (zbe (zDr (I 51) (I 0 16) seed N) c i b m).2)) (zSH, zw I 53 G', L, zP f g t)) := by
  intro c
  induction c with
  | zero =>
    intro i b m G hi
    have hi : i = γ + N := by omega
    subst hi
    refine ⟨G, fun d Q => ?_⟩
    rw [H_X9_best_51]
    simp (disch := first | assumption | rfl | omega | decide | exact zb_01 _) only [zabs_e, zmax_e, zmin_e, zrf_s, zpush_s, zpush_n, zw_app, upd_app, updL_app, Nat.reduceEqDiff, Nat.add_left_cancel_iff, Nat.add_eq_left, Nat.left_eq_add, ↓reduceIte, true_and, and_true, Int32.reduceToNatClampNeg, zin_O, zi_ltO, zi_leO, zi_Olt, zi_Ole, zi_eqO, Nat.not_lt_zero, Nat.zero_le, List.append_nil, zrn_n, zrn_s, List.cons_append, List.nil_append, zlg_lt, zlg_gt, zlg_le, zlg_ge, zlg_eq, Int32.toInt_toInt64, Int64.reduceToInt, zw_zw, zw_sw1, zw_sw2, zw_sw3, zw_sw4, zw_sw5, zw_sw6, zw_sw7, ne_eq, zi_in, zi_cl, zi_le, zi_lt, zi_eq, zi_neg, zi_0le, zb_0, if_true, if_false, eq_self, zb_T, zb_F, Bool.false_eq_true, zO_eq, zO_ne1, zO_ne2, zO_nn, zi_ne1, zi_ne2, zi_lt1, zi_le1, zi_lt2, zi_le2, Int32.reduceLT, Int32.reduceLE, Nat.reduceLT, Nat.reduceLeDiff, Int32.reduceMul, Int32.reduceAdd, Int32.reduceSub, not_false_eq_true, not_true_eq_false, Int32.reduceToInt, Int.reduceLE, Int.reduceLT, Int.reduceNeg, ite_self, R_X9_best, SHF, PF, eγ, nI_add, Nat.le_refl, zbe]
  | succ c ih =>
    intro i b m G hi
    have h1 : ¬ γ + N ≤ i := by omega
    have qc : ∀ d G Q, zWM (d + 1) 55 [.ref 53, .ref 51] (zSH, zw I 53 G, L, zP f g t) Q = Q none (zSH, zw I 53 (upd (upd (upd (upd (upd (upd G 0 (I 51 0)) 1 (I 51 1)) 2 (I 51 2)) 3 (I 51 3)) 4 (I 51 4)) 5 (I 51 5)), L, zP f g t) := fun d G Q => by
      have q := c_Scopy (d := d) (p := 53) (q := 51) (f := f) (g := g) (t := t) (I := zw I 53 G) (L := L) (Q := Q) rfl rfl (by decide)
      rw [q, zw_s, zw_zw, zw_n (show 51 ≠ 53 by decide)]
    have qp : ∀ d G Q, zWM (d + 2) 56 [.ref 53, .int seed, .int (nI N), .int (I 0 16)] (zSH, zw I 53 G, L, zP f g t) Q = Q none (zSH, zw I 53 (zsF G (zni (G 3) (I 0 16) N (G 0, G 1, G 2, G 4, G 5, seed))), L, zP f g t) := fun d G Q => by
      have q := c_pass (d := d) (f := f) (g := g) (t := t) (I := zw I 53 G) (L := L) (Q := Q) (r := 53) (N := N) rfl (I 0 16) seed hN
      rw [q, zw_s, zw_zw]
    have qp2 := fun d Q => qp d (upd (upd (upd (upd (upd (upd (upd G 0 (I 51 0)) 1 (I 51 1)) 2 (I 51 2)) 3 (I 51 3)) 4 (I 51 4)) 5 (I 51 5)) 3 (I 51 3 ||| (1 <<< (nI i &&& 31)))) Q
    have eD : (zni ((upd (upd (upd (upd (upd (upd (upd G 0 (I 51 0)) 1 (I 51 1)) 2 (I 51 2)) 3 (I 51 3)) 4 (I 51 4)) 5 (I 51 5)) 3 (I 51 3 ||| (1 <<< (nI i &&& 31)))) 3) (I 0 16) N ((upd (upd (upd (upd (upd (upd (upd G 0 (I 51 0)) 1 (I 51 1)) 2 (I 51 2)) 3 (I 51 3)) 4 (I 51 4)) 5 (I 51 5)) 3 (I 51 3 ||| (1 <<< (nI i &&& 31)))) 0, (upd (upd (upd (upd (upd (upd (upd G 0 (I 51 0)) 1 (I 51 1)) 2 (I 51 2)) 3 (I 51 3)) 4 (I 51 4)) 5 (I 51 5)) 3 (I 51 3 ||| (1 <<< (nI i &&& 31)))) 1, (upd (upd (upd (upd (upd (upd (upd G 0 (I 51 0)) 1 (I 51 1)) 2 (I 51 2)) 3 (I 51 3)) 4 (I 51 4)) 5 (I 51 5)) 3 (I 51 3 ||| (1 <<< (nI i &&& 31)))) 2, (upd (upd (upd (upd (upd (upd (upd G 0 (I 51 0)) 1 (I 51 1)) 2 (I 51 2)) 3 (I 51 3)) 4 (I 51 4)) 5 (I 51 5)) 3 (I 51 3 ||| (1 <<< (nI i &&& 31)))) 4, (upd (upd (upd (upd (upd (upd (upd G 0 (I 51 0)) 1 (I 51 1)) 2 (I 51 2)) 3 (I 51 3)) 4 (I 51 4)) 5 (I 51 5)) 3 (I 51 3 ||| (1 <<< (nI i &&& 31)))) 5, seed)).1 = zDr (I 51) (I 0 16) seed N i := rfl
    generalize hG : upd (upd (upd (upd (upd (upd (upd G 0 (I 51 0)) 1 (I 51 1)) 2 (I 51 2)) 3 (I 51 3)) 4 (I 51 4)) 5 (I 51 5)) 3 (I 51 3 ||| (1 <<< (nI i &&& 31))) = G1 at qp2 eD
    generalize hq : zni (G1 3) (I 0 16) N (G1 0, G1 1, G1 2, G1 4, G1 5, seed) = q at qp2 eD
    rw [eγ] at hG
    have r0 : zsF G1 q 0 = zDr (I 51) (I 0 16) seed N i := eD
    have rG : ∀ x, upd (upd (upd (upd (upd (upd G 0 (I 51 0)) 1 (I 51 1)) 2 (I 51 2)) 3 (I 51 3)) 4 (I 51 4)) 5 x 3 = I 51 3 := fun _ => rfl
    rw [zbe]
    by_cases h2 : m < zDr (I 51) (I 0 16) seed N i
    · have h2' : ¬ zDr (I 51) (I 0 16) seed N i ≤ m := Int32.not_le.mpr h2
      obtain ⟨G', l⟩ := ih (i + 1) (nI i) (zDr (I 51) (I 0 16) seed N i) (zsF G1 q) (by omega)
      refine ⟨G', fun d Q => ?_⟩
      rw [if_pos h2, ← l d Q, H_X9_best_51]
      simp (disch := first | assumption | rfl | omega | decide | exact zb_01 _) only [zabs_e, zmax_e, zmin_e, zrf_s, zpush_s, zpush_n, zw_app, upd_app, updL_app, Nat.reduceEqDiff, Nat.add_left_cancel_iff, Nat.add_eq_left, Nat.left_eq_add, ↓reduceIte, true_and, and_true, Int32.reduceToNatClampNeg, zin_O, zi_ltO, zi_leO, zi_Olt, zi_Ole, zi_eqO, Nat.not_lt_zero, Nat.zero_le, List.append_nil, zrn_n, zrn_s, List.cons_append, List.nil_append, zlg_lt, zlg_gt, zlg_le, zlg_ge, zlg_eq, Int32.toInt_toInt64, Int64.reduceToInt, zw_zw, zw_sw1, zw_sw2, zw_sw3, zw_sw4, zw_sw5, zw_sw6, zw_sw7, ne_eq, zi_in, zi_cl, zi_le, zi_lt, zi_eq, zi_neg, zi_0le, zb_0, if_true, if_false, eq_self, zb_T, zb_F, Bool.false_eq_true, zO_eq, zO_ne1, zO_ne2, zO_nn, zi_ne1, zi_ne2, zi_lt1, zi_le1, zi_lt2, zi_le2, Int32.reduceLT, Int32.reduceLE, Nat.reduceLT, Nat.reduceLeDiff, Int32.reduceMul, Int32.reduceAdd, Int32.reduceSub, not_false_eq_true, not_true_eq_false, Int32.reduceToInt, Int.reduceLE, Int.reduceLT, Int.reduceNeg, ite_self, R_X9_best, SHF, PF, eγ, nI_add, h1, qc, hG, qp2, r0, h2, h2', zi_s]
    · have h2' : zDr (I 51) (I 0 16) seed N i ≤ m := Int32.not_lt.mp h2
      obtain ⟨G', l⟩ := ih (i + 1) b m (zsF G1 q) (by omega)
      refine ⟨G', fun d Q => ?_⟩
      rw [if_neg h2, ← l d Q, H_X9_best_51]
      simp (disch := first | assumption | rfl | omega | decide | exact zb_01 _) only [zabs_e, zmax_e, zmin_e, zrf_s, zpush_s, zpush_n, zw_app, upd_app, updL_app, Nat.reduceEqDiff, Nat.add_left_cancel_iff, Nat.add_eq_left, Nat.left_eq_add, ↓reduceIte, true_and, and_true, Int32.reduceToNatClampNeg, zin_O, zi_ltO, zi_leO, zi_Olt, zi_Ole, zi_eqO, Nat.not_lt_zero, Nat.zero_le, List.append_nil, zrn_n, zrn_s, List.cons_append, List.nil_append, zlg_lt, zlg_gt, zlg_le, zlg_ge, zlg_eq, Int32.toInt_toInt64, Int64.reduceToInt, zw_zw, zw_sw1, zw_sw2, zw_sw3, zw_sw4, zw_sw5, zw_sw6, zw_sw7, ne_eq, zi_in, zi_cl, zi_le, zi_lt, zi_eq, zi_neg, zi_0le, zb_0, if_true, if_false, eq_self, zb_T, zb_F, Bool.false_eq_true, zO_eq, zO_ne1, zO_ne2, zO_nn, zi_ne1, zi_ne2, zi_lt1, zi_le1, zi_lt2, zi_le2, Int32.reduceLT, Int32.reduceLE, Nat.reduceLT, Nat.reduceLeDiff, Int32.reduceMul, Int32.reduceAdd, Int32.reduceSub, not_false_eq_true, not_true_eq_false, Int32.reduceToInt, Int.reduceLE, Int.reduceLT, Int.reduceNeg, ite_self, R_X9_best, SHF, PF, eγ, nI_add, h1, qc, hG, qp2, r0, h2, h2', zi_s]
theorem m_best_in {F : Nat → Int32} (seed wh v4 v5 v6 v7 v8 v9 v10 : Int32) {i : Nat} (hN : N ≤ 30) : ∀ m k (q : zN6), m + k = N → zWp (d + 2) zi_187 none 88 [.ref 80, .int seed, .int (nI N), .int wh, .int v4, .int v5, .int v6, .int v7, .int v8, .int v9, .int v10, .int (nI i), .int (nI k)] [] (zSH, zw I 80 (zmF F q), L, zP f g t) Q = zWp (d + 2) zi_187 none 113 [.ref 80, .int seed, .int (nI N), .int wh, .int v4, .int v5, .int v6, .int v7, .int v8, .int v9, .int v10, .int (nI i), .int (nI N)] [] (zSH, zw I 80 (zmF F (zni (F 34 ||| (1 <<< (nI i &&& 31))) (I 81 83) m q)), L, zP f g t) Q := by
  intro m
  induction m with
  | zero =>
    intro k q hk
    have hk : k = N := by omega
    subst hk
    rw [H_X10_best_88]
    simp (disch := first | assumption | rfl | omega | decide | exact zb_01 _) only [zabs_e, zmax_e, zmin_e, zrf_s, zpush_s, zpush_n, zw_app, upd_app, updL_app, Nat.reduceEqDiff, Nat.add_left_cancel_iff, Nat.add_eq_left, Nat.left_eq_add, ↓reduceIte, true_and, and_true, Int32.reduceToNatClampNeg, zin_O, zi_ltO, zi_leO, zi_Olt, zi_Ole, zi_eqO, Nat.not_lt_zero, Nat.zero_le, List.append_nil, zrn_n, zrn_s, List.cons_append, List.nil_append, zlg_lt, zlg_gt, zlg_le, zlg_ge, zlg_eq, Int32.toInt_toInt64, Int64.reduceToInt, zw_zw, zw_sw1, zw_sw2, zw_sw3, zw_sw4, zw_sw5, zw_sw6, zw_sw7, ne_eq, zi_in, zi_cl, zi_le, zi_lt, zi_eq, zi_neg, zi_0le, zb_0, if_true, if_false, eq_self, zb_T, zb_F, Bool.false_eq_true, zO_eq, zO_ne1, zO_ne2, zO_nn, zi_ne1, zi_ne2, zi_lt1, zi_le1, zi_lt2, zi_le2, Int32.reduceLT, Int32.reduceLE, Nat.reduceLT, Nat.reduceLeDiff, Int32.reduceMul, Int32.reduceAdd, Int32.reduceSub, not_false_eq_true, not_true_eq_false, Int32.reduceToInt, Int.reduceLE, Int.reduceLT, Int.reduceNeg, ite_self, R_X10_best, SHF, PF, Nat.le_refl, zni]
  | succ m ih =>
    intro k q hk
    have h1 : ¬ N ≤ k := by omega
    obtain ⟨a, b, c, e, h, z⟩ := q
    have qn := fun w d Q => m_nightGoes (d := d) (f := f) (g := g) (t := t) (I := I) (L := L) (Q := Q) F w (a, b, c, e, h, z)
    rw [H_X10_best_88, zni, ← ih (k + 1) _ (by omega)]
    simp (disch := first | assumption | rfl | omega | decide | exact zb_01 _) only [zabs_e, zmax_e, zmin_e, zrf_s, zpush_s, zpush_n, zw_app, upd_app, updL_app, Nat.reduceEqDiff, Nat.add_left_cancel_iff, Nat.add_eq_left, Nat.left_eq_add, ↓reduceIte, true_and, and_true, Int32.reduceToNatClampNeg, zin_O, zi_ltO, zi_leO, zi_Olt, zi_Ole, zi_eqO, Nat.not_lt_zero, Nat.zero_le, List.append_nil, zrn_n, zrn_s, List.cons_append, List.nil_append, zlg_lt, zlg_gt, zlg_le, zlg_ge, zlg_eq, Int32.toInt_toInt64, Int64.reduceToInt, zw_zw, zw_sw1, zw_sw2, zw_sw3, zw_sw4, zw_sw5, zw_sw6, zw_sw7, ne_eq, zi_in, zi_cl, zi_le, zi_lt, zi_eq, zi_neg, zi_0le, zb_0, if_true, if_false, eq_self, zb_T, zb_F, Bool.false_eq_true, zO_eq, zO_ne1, zO_ne2, zO_nn, zi_ne1, zi_ne2, zi_lt1, zi_le1, zi_lt2, zi_le2, Int32.reduceLT, Int32.reduceLE, Nat.reduceLT, Nat.reduceLeDiff, Int32.reduceMul, Int32.reduceAdd, Int32.reduceSub, not_false_eq_true, not_true_eq_false, Int32.reduceToInt, Int.reduceLE, Int.reduceLT, Int.reduceNeg, ite_self, R_X10_best, SHF, PF, h1, zmF_app, qn, zi_s]
theorem m_best_l {F : Nat → Int32} {s : Nat → Int32} (hN : N ≤ 30) (hγ : γ ≤ 30) (eγ : s 2 = nI γ) (e34 : F 34 = s 3) (seed wh : Int32) : ∀ c i (b m e h z : Int32) (l12 : Value), c + i = γ + N → ∃ z' : Int32, ∀ d Q, zWp (d + 2) zi_187 none 71 [.ref 80, .int seed, .int (nI N), .int wh, .int (s 0), .int (s 1), .int (s 2), .int (s 4), .int (s 5), .int b, .int m, .int (nI i), l12] [] (zSH, zw I 80 (zmF F (s 0, s 1, s 2, e, h, z)), L, zP f g t) Q = (if wh = 0 then Q (some (.int (zbe (zDr s (I 81 83) seed N) c i b m).1)) (zSH, zw I 80 (zmF F (s 0, s 1, s 2, s 4, s 5, z')), L, zP f g t) else Q (some (.int (zbe (zDr s (I 81 83) seed N) c i b m).2)) (zSH, zw I 80 (zmF F (s 0, s 1, s 2, s 4, s 5, z')), L, zP f g t)) := by
  intro c
  induction c with
  | zero =>
    intro i b m e h z l12 hi
    have hi : i = γ + N := by omega
    subst hi
    refine ⟨z, fun d Q => ?_⟩
    rw [H_X10_best_71]
    simp (disch := first | assumption | rfl | omega | decide | exact zb_01 _) only [zabs_e, zmax_e, zmin_e, zrf_s, zpush_s, zpush_n, zw_app, upd_app, updL_app, Nat.reduceEqDiff, Nat.add_left_cancel_iff, Nat.add_eq_left, Nat.left_eq_add, ↓reduceIte, true_and, and_true, Int32.reduceToNatClampNeg, zin_O, zi_ltO, zi_leO, zi_Olt, zi_Ole, zi_eqO, Nat.not_lt_zero, Nat.zero_le, List.append_nil, zrn_n, zrn_s, List.cons_append, List.nil_append, zlg_lt, zlg_gt, zlg_le, zlg_ge, zlg_eq, Int32.toInt_toInt64, Int64.reduceToInt, zw_zw, zw_sw1, zw_sw2, zw_sw3, zw_sw4, zw_sw5, zw_sw6, zw_sw7, ne_eq, zi_in, zi_cl, zi_le, zi_lt, zi_eq, zi_neg, zi_0le, zb_0, if_true, if_false, eq_self, zb_T, zb_F, Bool.false_eq_true, zO_eq, zO_ne1, zO_ne2, zO_nn, zi_ne1, zi_ne2, zi_lt1, zi_le1, zi_lt2, zi_le2, Int32.reduceLT, Int32.reduceLE, Nat.reduceLT, Nat.reduceLeDiff, Int32.reduceMul, Int32.reduceAdd, Int32.reduceSub, not_false_eq_true, not_true_eq_false, Int32.reduceToInt, Int.reduceLE, Int.reduceLT, Int.reduceNeg, ite_self, R_X10_best, SHF, PF, eγ, nI_add, Nat.le_refl, zbe, zmF_35, zmF_36]
  | succ c ih =>
    intro i b m e h z l12 hi
    have h1 : ¬ γ + N ≤ i := by omega
    have qi := fun d Q => m_best_in (d := d) (f := f) (g := g) (t := t) (I := I) (L := L) (Q := Q) (N := N) (F := F) seed wh (s 0) (s 1) (s 2) (s 4) (s 5) b m (i := i) hN N 0 (s 0, s 1, s 2, e, h, seed) (by omega)
    rw [show nI 0 = 0 from rfl, e34] at qi
    have eD : (zni (s 3 ||| (1 <<< (nI i &&& 31))) (I 81 83) N (s 0, s 1, s 2, e, h, seed)).1 = zDr s (I 81 83) seed N i := zni_eh N _ _ _ _ _ _ _ _
    generalize hq : zni (s 3 ||| (1 <<< (nI i &&& 31))) (I 81 83) N (s 0, s 1, s 2, e, h, seed) = q at qi eD
    obtain ⟨qa, qb, qc, qe, qh, qz⟩ := q
    have eD : qa = zDr s (I 81 83) seed N i := eD
    rw [zbe]
    by_cases h2 : m < zDr s (I 81 83) seed N i
    · have h2' : ¬ zDr s (I 81 83) seed N i ≤ m := Int32.not_le.mpr h2
      obtain ⟨z', l⟩ := ih (i + 1) (nI i) (zDr s (I 81 83) seed N i) qe qh qz (.int (nI N)) (by omega)
      refine ⟨z', fun d Q => ?_⟩
      rw [if_pos h2, ← l d Q, H_X10_best_71]
      rw [eγ] at qi ⊢
      simp (disch := first | assumption | rfl | omega | decide | exact zb_01 _) only [zabs_e, zmax_e, zmin_e, zrf_s, zpush_s, zpush_n, zw_app, upd_app, updL_app, Nat.reduceEqDiff, Nat.add_left_cancel_iff, Nat.add_eq_left, Nat.left_eq_add, ↓reduceIte, true_and, and_true, Int32.reduceToNatClampNeg, zin_O, zi_ltO, zi_leO, zi_Olt, zi_Ole, zi_eqO, Nat.not_lt_zero, Nat.zero_le, List.append_nil, zrn_n, zrn_s, List.cons_append, List.nil_append, zlg_lt, zlg_gt, zlg_le, zlg_ge, zlg_eq, Int32.toInt_toInt64, Int64.reduceToInt, zw_zw, zw_sw1, zw_sw2, zw_sw3, zw_sw4, zw_sw5, zw_sw6, zw_sw7, ne_eq, zi_in, zi_cl, zi_le, zi_lt, zi_eq, zi_neg, zi_0le, zb_0, if_true, if_false, eq_self, zb_T, zb_F, Bool.false_eq_true, zO_eq, zO_ne1, zO_ne2, zO_nn, zi_ne1, zi_ne2, zi_lt1, zi_le1, zi_lt2, zi_le2, Int32.reduceLT, Int32.reduceLE, Nat.reduceLT, Nat.reduceLeDiff, Int32.reduceMul, Int32.reduceAdd, Int32.reduceSub, not_false_eq_true, not_true_eq_false, Int32.reduceToInt, Int.reduceLE, Int.reduceLT, Int.reduceNeg, ite_self, R_X10_best, SHF, PF, nI_add, h1, zmF_37, qi, zmF_app, eD, h2, h2', zmF_8, zmF_9, zmF_33, zi_s]
    · have h2' : zDr s (I 81 83) seed N i ≤ m := Int32.not_lt.mp h2
      obtain ⟨z', l⟩ := ih (i + 1) b m qe qh qz (.int (nI N)) (by omega)
      refine ⟨z', fun d Q => ?_⟩
      rw [if_neg h2, ← l d Q, H_X10_best_71]
      rw [eγ] at qi ⊢
      simp (disch := first | assumption | rfl | omega | decide | exact zb_01 _) only [zabs_e, zmax_e, zmin_e, zrf_s, zpush_s, zpush_n, zw_app, upd_app, updL_app, Nat.reduceEqDiff, Nat.add_left_cancel_iff, Nat.add_eq_left, Nat.left_eq_add, ↓reduceIte, true_and, and_true, Int32.reduceToNatClampNeg, zin_O, zi_ltO, zi_leO, zi_Olt, zi_Ole, zi_eqO, Nat.not_lt_zero, Nat.zero_le, List.append_nil, zrn_n, zrn_s, List.cons_append, List.nil_append, zlg_lt, zlg_gt, zlg_le, zlg_ge, zlg_eq, Int32.toInt_toInt64, Int64.reduceToInt, zw_zw, zw_sw1, zw_sw2, zw_sw3, zw_sw4, zw_sw5, zw_sw6, zw_sw7, ne_eq, zi_in, zi_cl, zi_le, zi_lt, zi_eq, zi_neg, zi_0le, zb_0, if_true, if_false, eq_self, zb_T, zb_F, Bool.false_eq_true, zO_eq, zO_ne1, zO_ne2, zO_nn, zi_ne1, zi_ne2, zi_lt1, zi_le1, zi_lt2, zi_le2, Int32.reduceLT, Int32.reduceLE, Nat.reduceLT, Nat.reduceLeDiff, Int32.reduceMul, Int32.reduceAdd, Int32.reduceSub, not_false_eq_true, not_true_eq_false, Int32.reduceToInt, Int.reduceLE, Int.reduceLT, Int.reduceNeg, ite_self, R_X10_best, SHF, PF, nI_add, h1, zmF_37, qi, zmF_app, eD, h2, h2', zmF_8, zmF_9, zmF_33, zi_s]
theorem op_best (hR : zRel I L f g) (seed x wh : Int32) : zOp 102 187 [.int seed, .int x, .int wh] I L f g t := by
  obtain ⟨law, n, k, a, b, z, bb, hfg, ht, hw, hp, hs, hi, hc, hy, hl, hb, hr, hh, hf⟩ := id hR
  obtain ⟨s1, s2, s3, s4, s5, s6, s7⟩ := id hs
  have t30 : (30 : Int32).toInt = 30 := by decide
  have t0 : (0 : Int32).toInt = 0 := by decide
  have t1 : (1 : Int32).toInt = 1 := by decide
  obtain ⟨γ, hγ, eγ⟩ := nI_of2 (x := I 51 2) (M := 30) (n := 30) (by decide) (fun z => by have := Int32.lt_iff_toInt_lt.mp z; omega) (Int32.le_iff_toInt_le.mpr (by omega))
  have e3 : (30 - nI γ : Int32).toInt = 30 - γ := by rw [zt_sub (by rw [zi_nt (by omega)]; omega) (by rw [zi_nt (by omega)]; omega), zi_nt (by omega), t30]
  by_cases hx : 1 ≤ x.toInt ∧ x.toInt ≤ 30 - γ
  · have hx' : 1 ≤ x.toInt ∧ x.toInt ≤ (30 - nI γ : Int32).toInt := by rw [e3]; exact hx
    have c0 : ¬ x < 1 := fun z => by have := Int32.lt_iff_toInt_lt.mp z; omega
    have c1 : ¬ 30 - nI γ < x := fun z => by have := Int32.lt_iff_toInt_lt.mp z; omega
    have c2 : x ≤ 30 - nI γ := Int32.not_lt.mp c1
    have c3 : 1 ≤ x := Int32.not_lt.mp c0
    rcases zrg wh (0) (1) (0) (1) (by decide) (by decide) with ⟨h1, h2, h3, h4, h5⟩ | ⟨h1, h2⟩
    · obtain ⟨N, hN, rfl⟩ := nI_of2 (x := x) (M := 30) (n := 30) (by decide) (fun z => by have := Int32.lt_iff_toInt_lt.mp z; omega) (Int32.le_iff_toInt_le.mpr (by omega))
      have tN := zi_nt (n := N) (by omega)
      have hN1 : 1 ≤ N := by omega
      have hNγ : γ + N ≤ 30 := by omega
      obtain ⟨G', qc⟩ := c_best_l (f := f) (g := g) (t := t) (I := I) (L := L) hN hγ eγ seed wh N γ (nI γ) (-1) (I 53) (by omega)
      rw [zw_id] at qc
      have eF : I 80 = zmF (I 80) (I 51 0, I 51 1, I 51 2, I 51 4, I 51 5, I 80 37) := by
        have e := zmF_id (I 80)
        rw [s1, s2, s3, s5, s6] at e
        exact e.symm
      obtain ⟨z', qm⟩ := m_best_l (f := f) (g := g) (t := t) (I := zw I 53 G') (L := L) (F := I 80) (s := I 51) (N := N) (γ := γ) hN hγ eγ s4 seed wh N γ (-2) (-2) (I 51 4) (I 51 5) (I 80 37) (.retAddr 0) (by omega)
      have e81 : zw I 53 G' 81 83 = I 0 16 := hw.1.2.2.2
      rw [e81, ← eF] at qm
      have e80 : zw (zw I 53 G') 80 (I 80) = zw I 53 G' := zw_same (zw_n (by decide))
      rw [e80] at qm
      -- the first night in question is better than none
      have hD : ∀ i, 0 ≤ (zDr (I 51) (I 0 16) seed N i).toInt := fun i => (zst_it N _ ⟨s7.1, s7.2.1⟩).1.1
      have eb : zbe (zDr (I 51) (I 0 16) seed N) N γ (nI γ) (-1) = zbe (zDr (I 51) (I 0 16) seed N) N γ (-2) (-2) := by
        obtain ⟨M, rfl⟩ : ∃ M, N = M + 1 := ⟨N - 1, by omega⟩
        have u1 : (-1 : Int32).toInt = -1 := by decide
        have u2 : (-2 : Int32).toInt = -2 := by decide
        have d0 := hD γ
        rw [zbe, zbe, if_pos (Int32.lt_iff_toInt_lt.mpr (by omega)), if_pos (Int32.lt_iff_toInt_lt.mpr (by omega))]
      rw [← eb] at qm
      have eL : zw (zw I 53 G') 80 (zmF (I 80) (I 51 0, I 51 1, I 51 2, I 51 4, I 51 5, z')) = zw (zw I 53 G') 80 (upd (I 80) 37 z') := by
        have e := zmF_37 (I 80) (I 51 0) (I 51 1) (I 51 2) (I 51 4) (I 51 5) (I 80 37) z'
        rw [← eF] at e
        rw [e]
      rw [eL] at qm
      have hR2 : zRel (zw (zw I 53 G') 80 (upd (I 80) 37 z')) L f g := zRel_s (fun a ha => by rw [zw_n (fun e => ha (by unfold zsc; omega)), zw_n (fun e => ha (by unfold zsc; omega))]) (fun k hk => by
        show upd (I 80) 37 z' k = _
        exact zup_lt (fun e => hk (by unfold zsf; omega))) hR
      have c0' : ¬ N < 1 := by omega
      have c3' : 1 ≤ N := hN1
      rcases zen1 h1 with rfl | rfl
      · simp only [↓reduceIte] at qm qc
        refine zOp_m (.int (zbe (zDr (I 51) (I 0 16) seed N) N γ (nI γ) (-1)).1) (zw I 53 G') (zw (zw I 53 G') 80 (upd (I 80) 37 z')) (fun d Q => ?_) (fun d Q => ?_) hR2
        · have l := qc (d + 97) Q
          simp (disch := first | assumption | rfl | omega | decide | exact zb_01 _) only [zabs_e, zmax_e, zmin_e, zrf_s, zpush_s, zpush_n, zw_app, upd_app, updL_app, Nat.reduceEqDiff, Nat.add_left_cancel_iff, Nat.add_eq_left, Nat.left_eq_add, ↓reduceIte, true_and, and_true, Int32.reduceToNatClampNeg, zin_O, zi_ltO, zi_leO, zi_Olt, zi_Ole, zi_eqO, Nat.not_lt_zero, Nat.zero_le, List.append_nil, zrn_n, zrn_s, List.cons_append, List.nil_append, zlg_lt, zlg_gt, zlg_le, zlg_ge, zlg_eq, Int32.toInt_toInt64, Int64.reduceToInt, zw_zw, zw_sw1, zw_sw2, zw_sw3, zw_sw4, zw_sw5, zw_sw6, zw_sw7, ne_eq, zi_in, zi_cl, zi_le, zi_lt, zi_eq, zi_neg, zi_0le, zb_0, if_true, if_false, eq_self, zb_T, zb_F, Bool.false_eq_true, zO_eq, zO_ne1, zO_ne2, zO_nn, zi_ne1, zi_ne2, zi_lt1, zi_le1, zi_lt2, zi_le2, Int32.reduceLT, Int32.reduceLE, Nat.reduceLT, Nat.reduceLeDiff, Int32.reduceMul, Int32.reduceAdd, Int32.reduceSub, not_false_eq_true, not_true_eq_false, Int32.reduceToInt, Int.reduceLE, Int.reduceLT, Int.reduceNeg, ite_self, E_X9_best, R_X9_best, SHF, PF, c0', c3', eγ, c1, c2]
          exact l
        · have l := qm (d + 97) Q
          rw [eγ] at l
          simp (disch := first | assumption | rfl | omega | decide | exact zb_01 _) only [zabs_e, zmax_e, zmin_e, zrf_s, zpush_s, zpush_n, zw_app, upd_app, updL_app, Nat.reduceEqDiff, Nat.add_left_cancel_iff, Nat.add_eq_left, Nat.left_eq_add, ↓reduceIte, true_and, and_true, Int32.reduceToNatClampNeg, zin_O, zi_ltO, zi_leO, zi_Olt, zi_Ole, zi_eqO, Nat.not_lt_zero, Nat.zero_le, List.append_nil, zrn_n, zrn_s, List.cons_append, List.nil_append, zlg_lt, zlg_gt, zlg_le, zlg_ge, zlg_eq, Int32.toInt_toInt64, Int64.reduceToInt, zw_zw, zw_sw1, zw_sw2, zw_sw3, zw_sw4, zw_sw5, zw_sw6, zw_sw7, ne_eq, zi_in, zi_cl, zi_le, zi_lt, zi_eq, zi_neg, zi_0le, zb_0, if_true, if_false, eq_self, zb_T, zb_F, Bool.false_eq_true, zO_eq, zO_ne1, zO_ne2, zO_nn, zi_ne1, zi_ne2, zi_lt1, zi_le1, zi_lt2, zi_le2, Int32.reduceLT, Int32.reduceLE, Nat.reduceLT, Nat.reduceLeDiff, Int32.reduceMul, Int32.reduceAdd, Int32.reduceSub, not_false_eq_true, not_true_eq_false, Int32.reduceToInt, Int.reduceLE, Int.reduceLT, Int.reduceNeg, ite_self, E_X10_best, R_X10_best, SHF, PF, m_within, s3, eγ, hx', s1, s2, s5, s6]
          exact l
      · simp only [show ¬ (1 : Int32) = 0 by decide, if_false, ↓reduceIte] at qm qc
        refine zOp_m (.int (zbe (zDr (I 51) (I 0 16) seed N) N γ (nI γ) (-1)).2) (zw I 53 G') (zw (zw I 53 G') 80 (upd (I 80) 37 z')) (fun d Q => ?_) (fun d Q => ?_) hR2
        · have l := qc (d + 97) Q
          simp (disch := first | assumption | rfl | omega | decide | exact zb_01 _) only [zabs_e, zmax_e, zmin_e, zrf_s, zpush_s, zpush_n, zw_app, upd_app, updL_app, Nat.reduceEqDiff, Nat.add_left_cancel_iff, Nat.add_eq_left, Nat.left_eq_add, ↓reduceIte, true_and, and_true, Int32.reduceToNatClampNeg, zin_O, zi_ltO, zi_leO, zi_Olt, zi_Ole, zi_eqO, Nat.not_lt_zero, Nat.zero_le, List.append_nil, zrn_n, zrn_s, List.cons_append, List.nil_append, zlg_lt, zlg_gt, zlg_le, zlg_ge, zlg_eq, Int32.toInt_toInt64, Int64.reduceToInt, zw_zw, zw_sw1, zw_sw2, zw_sw3, zw_sw4, zw_sw5, zw_sw6, zw_sw7, ne_eq, zi_in, zi_cl, zi_le, zi_lt, zi_eq, zi_neg, zi_0le, zb_0, if_true, if_false, eq_self, zb_T, zb_F, Bool.false_eq_true, zO_eq, zO_ne1, zO_ne2, zO_nn, zi_ne1, zi_ne2, zi_lt1, zi_le1, zi_lt2, zi_le2, Int32.reduceLT, Int32.reduceLE, Nat.reduceLT, Nat.reduceLeDiff, Int32.reduceMul, Int32.reduceAdd, Int32.reduceSub, not_false_eq_true, not_true_eq_false, Int32.reduceToInt, Int.reduceLE, Int.reduceLT, Int.reduceNeg, ite_self, E_X9_best, R_X9_best, SHF, PF, c0', c3', eγ, c1, c2]
          exact l
        · have l := qm (d + 97) Q
          rw [eγ] at l
          simp (disch := first | assumption | rfl | omega | decide | exact zb_01 _) only [zabs_e, zmax_e, zmin_e, zrf_s, zpush_s, zpush_n, zw_app, upd_app, updL_app, Nat.reduceEqDiff, Nat.add_left_cancel_iff, Nat.add_eq_left, Nat.left_eq_add, ↓reduceIte, true_and, and_true, Int32.reduceToNatClampNeg, zin_O, zi_ltO, zi_leO, zi_Olt, zi_Ole, zi_eqO, Nat.not_lt_zero, Nat.zero_le, List.append_nil, zrn_n, zrn_s, List.cons_append, List.nil_append, zlg_lt, zlg_gt, zlg_le, zlg_ge, zlg_eq, Int32.toInt_toInt64, Int64.reduceToInt, zw_zw, zw_sw1, zw_sw2, zw_sw3, zw_sw4, zw_sw5, zw_sw6, zw_sw7, ne_eq, zi_in, zi_cl, zi_le, zi_lt, zi_eq, zi_neg, zi_0le, zb_0, if_true, if_false, eq_self, zb_T, zb_F, Bool.false_eq_true, zO_eq, zO_ne1, zO_ne2, zO_nn, zi_ne1, zi_ne2, zi_lt1, zi_le1, zi_lt2, zi_le2, Int32.reduceLT, Int32.reduceLE, Nat.reduceLT, Nat.reduceLeDiff, Int32.reduceMul, Int32.reduceAdd, Int32.reduceSub, not_false_eq_true, not_true_eq_false, Int32.reduceToInt, Int.reduceLE, Int.reduceLT, Int.reduceNeg, ite_self, E_X10_best, R_X10_best, SHF, PF, m_within, s3, eγ, hx', s1, s2, s5, s6]
          exact l
    · refine zOp_s hR (.int (-1)) (fun d Q => ?_) (fun d Q => ?_)
      · rcases h2 with ⟨h2, h3⟩ | ⟨h2, h3, h4, h5⟩
        · simp (disch := first | assumption | rfl | omega | decide | exact zb_01 _) only [zabs_e, zmax_e, zmin_e, zrf_s, zpush_s, zpush_n, zw_app, upd_app, updL_app, Nat.reduceEqDiff, Nat.add_left_cancel_iff, Nat.add_eq_left, Nat.left_eq_add, ↓reduceIte, true_and, and_true, Int32.reduceToNatClampNeg, zin_O, zi_ltO, zi_leO, zi_Olt, zi_Ole, zi_eqO, Nat.not_lt_zero, Nat.zero_le, List.append_nil, zrn_n, zrn_s, List.cons_append, List.nil_append, zlg_lt, zlg_gt, zlg_le, zlg_ge, zlg_eq, Int32.toInt_toInt64, Int64.reduceToInt, zw_zw, zw_sw1, zw_sw2, zw_sw3, zw_sw4, zw_sw5, zw_sw6, zw_sw7, ne_eq, zi_in, zi_cl, zi_le, zi_lt, zi_eq, zi_neg, zi_0le, zb_0, if_true, if_false, eq_self, zb_T, zb_F, Bool.false_eq_true, zO_eq, zO_ne1, zO_ne2, zO_nn, zi_ne1, zi_ne2, zi_lt1, zi_le1, zi_lt2, zi_le2, Int32.reduceLT, Int32.reduceLE, Nat.reduceLT, Nat.reduceLeDiff, Int32.reduceMul, Int32.reduceAdd, Int32.reduceSub, not_false_eq_true, not_true_eq_false, Int32.reduceToInt, Int.reduceLE, Int.reduceLT, Int.reduceNeg, ite_self, E_X9_best, R_X9_best, SHF, PF, c0, c3, eγ, c1, c2, h2, h3]
        · simp (disch := first | assumption | rfl | omega | decide | exact zb_01 _) only [zabs_e, zmax_e, zmin_e, zrf_s, zpush_s, zpush_n, zw_app, upd_app, updL_app, Nat.reduceEqDiff, Nat.add_left_cancel_iff, Nat.add_eq_left, Nat.left_eq_add, ↓reduceIte, true_and, and_true, Int32.reduceToNatClampNeg, zin_O, zi_ltO, zi_leO, zi_Olt, zi_Ole, zi_eqO, Nat.not_lt_zero, Nat.zero_le, List.append_nil, zrn_n, zrn_s, List.cons_append, List.nil_append, zlg_lt, zlg_gt, zlg_le, zlg_ge, zlg_eq, Int32.toInt_toInt64, Int64.reduceToInt, zw_zw, zw_sw1, zw_sw2, zw_sw3, zw_sw4, zw_sw5, zw_sw6, zw_sw7, ne_eq, zi_in, zi_cl, zi_le, zi_lt, zi_eq, zi_neg, zi_0le, zb_0, if_true, if_false, eq_self, zb_T, zb_F, Bool.false_eq_true, zO_eq, zO_ne1, zO_ne2, zO_nn, zi_ne1, zi_ne2, zi_lt1, zi_le1, zi_lt2, zi_le2, Int32.reduceLT, Int32.reduceLE, Nat.reduceLT, Nat.reduceLeDiff, Int32.reduceMul, Int32.reduceAdd, Int32.reduceSub, not_false_eq_true, not_true_eq_false, Int32.reduceToInt, Int.reduceLE, Int.reduceLT, Int.reduceNeg, ite_self, E_X9_best, R_X9_best, SHF, PF, c0, c3, eγ, c1, c2, h2, h3, h4, h5]
      · simp (disch := first | assumption | rfl | omega | decide | exact zb_01 _) only [zabs_e, zmax_e, zmin_e, zrf_s, zpush_s, zpush_n, zw_app, upd_app, updL_app, Nat.reduceEqDiff, Nat.add_left_cancel_iff, Nat.add_eq_left, Nat.left_eq_add, ↓reduceIte, true_and, and_true, Int32.reduceToNatClampNeg, zin_O, zi_ltO, zi_leO, zi_Olt, zi_Ole, zi_eqO, Nat.not_lt_zero, Nat.zero_le, List.append_nil, zrn_n, zrn_s, List.cons_append, List.nil_append, zlg_lt, zlg_gt, zlg_le, zlg_ge, zlg_eq, Int32.toInt_toInt64, Int64.reduceToInt, zw_zw, zw_sw1, zw_sw2, zw_sw3, zw_sw4, zw_sw5, zw_sw6, zw_sw7, ne_eq, zi_in, zi_cl, zi_le, zi_lt, zi_eq, zi_neg, zi_0le, zb_0, if_true, if_false, eq_self, zb_T, zb_F, Bool.false_eq_true, zO_eq, zO_ne1, zO_ne2, zO_nn, zi_ne1, zi_ne2, zi_lt1, zi_le1, zi_lt2, zi_le2, Int32.reduceLT, Int32.reduceLE, Nat.reduceLT, Nat.reduceLeDiff, Int32.reduceMul, Int32.reduceAdd, Int32.reduceSub, not_false_eq_true, not_true_eq_false, Int32.reduceToInt, Int.reduceLE, Int.reduceLT, Int.reduceNeg, ite_self, E_X10_best, R_X10_best, SHF, PF, m_within, s3, eγ, hx', h1]
  · have hx' : ¬ (1 ≤ x.toInt ∧ x.toInt ≤ (30 - nI γ : Int32).toInt) := by rw [e3]; exact hx
    refine zOp_s hR (.int (-1)) (fun d Q => ?_) (fun d Q => ?_)
    · by_cases c0 : x < 1
      · have c3 : ¬ 1 ≤ x := Int32.not_le.mpr c0
        simp (disch := first | assumption | rfl | omega | decide | exact zb_01 _) only [zabs_e, zmax_e, zmin_e, zrf_s, zpush_s, zpush_n, zw_app, upd_app, updL_app, Nat.reduceEqDiff, Nat.add_left_cancel_iff, Nat.add_eq_left, Nat.left_eq_add, ↓reduceIte, true_and, and_true, Int32.reduceToNatClampNeg, zin_O, zi_ltO, zi_leO, zi_Olt, zi_Ole, zi_eqO, Nat.not_lt_zero, Nat.zero_le, List.append_nil, zrn_n, zrn_s, List.cons_append, List.nil_append, zlg_lt, zlg_gt, zlg_le, zlg_ge, zlg_eq, Int32.toInt_toInt64, Int64.reduceToInt, zw_zw, zw_sw1, zw_sw2, zw_sw3, zw_sw4, zw_sw5, zw_sw6, zw_sw7, ne_eq, zi_in, zi_cl, zi_le, zi_lt, zi_eq, zi_neg, zi_0le, zb_0, if_true, if_false, eq_self, zb_T, zb_F, Bool.false_eq_true, zO_eq, zO_ne1, zO_ne2, zO_nn, zi_ne1, zi_ne2, zi_lt1, zi_le1, zi_lt2, zi_le2, Int32.reduceLT, Int32.reduceLE, Nat.reduceLT, Nat.reduceLeDiff, Int32.reduceMul, Int32.reduceAdd, Int32.reduceSub, not_false_eq_true, not_true_eq_false, Int32.reduceToInt, Int.reduceLE, Int.reduceLT, Int.reduceNeg, ite_self, E_X9_best, R_X9_best, SHF, PF, c0, c3]
      · have c3 : 1 ≤ x := Int32.not_lt.mp c0
        have c1 : 30 - nI γ < x := Int32.lt_iff_toInt_lt.mpr (by have := Int32.le_iff_toInt_le.mp c3; omega)
        have c2 : ¬ x ≤ 30 - nI γ := Int32.not_le.mpr c1
        simp (disch := first | assumption | rfl | omega | decide | exact zb_01 _) only [zabs_e, zmax_e, zmin_e, zrf_s, zpush_s, zpush_n, zw_app, upd_app, updL_app, Nat.reduceEqDiff, Nat.add_left_cancel_iff, Nat.add_eq_left, Nat.left_eq_add, ↓reduceIte, true_and, and_true, Int32.reduceToNatClampNeg, zin_O, zi_ltO, zi_leO, zi_Olt, zi_Ole, zi_eqO, Nat.not_lt_zero, Nat.zero_le, List.append_nil, zrn_n, zrn_s, List.cons_append, List.nil_append, zlg_lt, zlg_gt, zlg_le, zlg_ge, zlg_eq, Int32.toInt_toInt64, Int64.reduceToInt, zw_zw, zw_sw1, zw_sw2, zw_sw3, zw_sw4, zw_sw5, zw_sw6, zw_sw7, ne_eq, zi_in, zi_cl, zi_le, zi_lt, zi_eq, zi_neg, zi_0le, zb_0, if_true, if_false, eq_self, zb_T, zb_F, Bool.false_eq_true, zO_eq, zO_ne1, zO_ne2, zO_nn, zi_ne1, zi_ne2, zi_lt1, zi_le1, zi_lt2, zi_le2, Int32.reduceLT, Int32.reduceLE, Nat.reduceLT, Nat.reduceLeDiff, Int32.reduceMul, Int32.reduceAdd, Int32.reduceSub, not_false_eq_true, not_true_eq_false, Int32.reduceToInt, Int.reduceLE, Int.reduceLT, Int.reduceNeg, ite_self, E_X9_best, R_X9_best, SHF, PF, c0, c3, eγ, c1, c2]
    · simp (disch := first | assumption | rfl | omega | decide | exact zb_01 _) only [zabs_e, zmax_e, zmin_e, zrf_s, zpush_s, zpush_n, zw_app, upd_app, updL_app, Nat.reduceEqDiff, Nat.add_left_cancel_iff, Nat.add_eq_left, Nat.left_eq_add, ↓reduceIte, true_and, and_true, Int32.reduceToNatClampNeg, zin_O, zi_ltO, zi_leO, zi_Olt, zi_Ole, zi_eqO, Nat.not_lt_zero, Nat.zero_le, List.append_nil, zrn_n, zrn_s, List.cons_append, List.nil_append, zlg_lt, zlg_gt, zlg_le, zlg_ge, zlg_eq, Int32.toInt_toInt64, Int64.reduceToInt, zw_zw, zw_sw1, zw_sw2, zw_sw3, zw_sw4, zw_sw5, zw_sw6, zw_sw7, ne_eq, zi_in, zi_cl, zi_le, zi_lt, zi_eq, zi_neg, zi_0le, zb_0, if_true, if_false, eq_self, zb_T, zb_F, Bool.false_eq_true, zO_eq, zO_ne1, zO_ne2, zO_nn, zi_ne1, zi_ne2, zi_lt1, zi_le1, zi_lt2, zi_le2, Int32.reduceLT, Int32.reduceLE, Nat.reduceLT, Nat.reduceLeDiff, Int32.reduceMul, Int32.reduceAdd, Int32.reduceSub, not_false_eq_true, not_true_eq_false, Int32.reduceToInt, Int.reduceLE, Int.reduceLT, Int.reduceNeg, ite_self, E_X10_best, R_X10_best, SHF, PF, m_within, s3, eγ, hx']
end BEST
