def zbe (D : Nat → Int32) : Nat → Nat → Int32 → Int32 → Int32 × Int32
  | 0, _, b, m => (b, m)
  | c + 1, i, b, m => if m < D i then zbe D c (i + 1) (nI i) (D i) else zbe D c (i + 1) b m
def zri (n : Nat) : Nat → Nat → Nat → Int32 → Int32
  | 0, _, _, _ => -2
  | c + 1, i, l, z => if l = n then nI i else zri n c (i + 1) (if 4 < zd12 (znx z) then l + 1 else l) (znx z)
section STORE2
variable {d f g N r n : Nat} {t : Option Nat} {I : Nat → Nat → Int32} {L : Nat → Nat → Int64} {Q : Option Value → zMm → Prop}
theorem c_rival_l (hn : I 1 6 = nI n) (h24 : n ≤ 24) (seed : Int32) : ∀ c i l (z : Int32), c + i = 100 → l ≤ n → zWp (d + 1) zi_103 none 7 [.ref 0, .int seed, .int (nI l), .int z, .int (nI i)] [] (zSH, I, L, zP f g t) Q = Q (some (.int (zri n c i l z))) (zSH, I, L, zP f g t) := by
  intro c
  induction c with
  | zero =>
    intro i l z hi hl
    have hi : i = 100 := by omega
    subst hi
    rw [H_X9_rival_7]
    simp (disch := first | assumption | rfl | omega | decide | exact zb_01 _) only [zabs_e, zmax_e, zmin_e, zrf_s, zpush_s, zpush_n, zw_app, upd_app, updL_app, Nat.reduceEqDiff, Nat.add_left_cancel_iff, Nat.add_eq_left, Nat.left_eq_add, ↓reduceIte, true_and, and_true, Int32.reduceToNatClampNeg, zin_O, zi_ltO, zi_leO, zi_Olt, zi_Ole, zi_eqO, Nat.not_lt_zero, Nat.zero_le, List.append_nil, zrn_n, zrn_s, List.cons_append, List.nil_append, zlg_lt, zlg_gt, zlg_le, zlg_ge, zlg_eq, Int32.toInt_toInt64, Int64.reduceToInt, zw_zw, zw_sw1, zw_sw2, zw_sw3, zw_sw4, zw_sw5, zw_sw6, zw_sw7, ne_eq, zi_in, zi_cl, zi_le, zi_lt, zi_eq, zi_neg, zi_0le, zb_0, if_true, if_false, eq_self, zb_T, zb_F, Bool.false_eq_true, zO_eq, zO_ne1, zO_ne2, zO_nn, zi_ne1, zi_ne2, zi_lt1, zi_le1, zi_lt2, zi_le2, Int32.reduceLT, Int32.reduceLE, Nat.reduceLT, Nat.reduceLeDiff, Int32.reduceMul, Int32.reduceAdd, Int32.reduceSub, not_false_eq_true, not_true_eq_false, Int32.reduceToInt, Int.reduceLE, Int.reduceLT, Int.reduceNeg, ite_self, R_X9_rival, SHF, PF, zri]
  | succ c ih =>
    intro i l z hi hl
    have h1 : ¬ 99 < i := by omega
    rw [H_X9_rival_7, zri]
    by_cases h2 : l = n
    · rw [if_pos h2]
      simp (disch := first | assumption | rfl | omega | decide | exact zb_01 _) only [zabs_e, zmax_e, zmin_e, zrf_s, zpush_s, zpush_n, zw_app, upd_app, updL_app, Nat.reduceEqDiff, Nat.add_left_cancel_iff, Nat.add_eq_left, Nat.left_eq_add, ↓reduceIte, true_and, and_true, Int32.reduceToNatClampNeg, zin_O, zi_ltO, zi_leO, zi_Olt, zi_Ole, zi_eqO, Nat.not_lt_zero, Nat.zero_le, List.append_nil, zrn_n, zrn_s, List.cons_append, List.nil_append, zlg_lt, zlg_gt, zlg_le, zlg_ge, zlg_eq, Int32.toInt_toInt64, Int64.reduceToInt, zw_zw, zw_sw1, zw_sw2, zw_sw3, zw_sw4, zw_sw5, zw_sw6, zw_sw7, ne_eq, zi_in, zi_cl, zi_le, zi_lt, zi_eq, zi_neg, zi_0le, zb_0, if_true, if_false, eq_self, zb_T, zb_F, Bool.false_eq_true, zO_eq, zO_ne1, zO_ne2, zO_nn, zi_ne1, zi_ne2, zi_lt1, zi_le1, zi_lt2, zi_le2, Int32.reduceLT, Int32.reduceLE, Nat.reduceLT, Nat.reduceLeDiff, Int32.reduceMul, Int32.reduceAdd, Int32.reduceSub, not_false_eq_true, not_true_eq_false, Int32.reduceToInt, Int.reduceLE, Int.reduceLT, Int.reduceNeg, ite_self, R_X9_rival, SHF, PF, hn, h1, h2]
    · rw [if_neg h2]
      by_cases h3 : 4 < zd12 (znx z)
      · have h3' : ¬ zd12 (znx z) ≤ 4 := Int32.not_le.mpr h3
        rw [if_pos h3, ← ih (i + 1) (l + 1) (znx z) (by omega) (by omega)]
        simp (disch := first | assumption | rfl | omega | decide | exact zb_01 _) only [zabs_e, zmax_e, zmin_e, zrf_s, zpush_s, zpush_n, zw_app, upd_app, updL_app, Nat.reduceEqDiff, Nat.add_left_cancel_iff, Nat.add_eq_left, Nat.left_eq_add, ↓reduceIte, true_and, and_true, Int32.reduceToNatClampNeg, zin_O, zi_ltO, zi_leO, zi_Olt, zi_Ole, zi_eqO, Nat.not_lt_zero, Nat.zero_le, List.append_nil, zrn_n, zrn_s, List.cons_append, List.nil_append, zlg_lt, zlg_gt, zlg_le, zlg_ge, zlg_eq, Int32.toInt_toInt64, Int64.reduceToInt, zw_zw, zw_sw1, zw_sw2, zw_sw3, zw_sw4, zw_sw5, zw_sw6, zw_sw7, ne_eq, zi_in, zi_cl, zi_le, zi_lt, zi_eq, zi_neg, zi_0le, zb_0, if_true, if_false, eq_self, zb_T, zb_F, Bool.false_eq_true, zO_eq, zO_ne1, zO_ne2, zO_nn, zi_ne1, zi_ne2, zi_lt1, zi_le1, zi_lt2, zi_le2, Int32.reduceLT, Int32.reduceLE, Nat.reduceLT, Nat.reduceLeDiff, Int32.reduceMul, Int32.reduceAdd, Int32.reduceSub, not_false_eq_true, not_true_eq_false, Int32.reduceToInt, Int.reduceLE, Int.reduceLT, Int.reduceNeg, ite_self, R_X9_rival, SHF, PF, hn, h1, h2, c_next, c_drawn12, h3, h3', zi_s]
      · have h3' : zd12 (znx z) ≤ 4 := Int32.not_lt.mp h3
        rw [if_neg h3, ← ih (i + 1) l (znx z) (by omega) (by omega)]
        simp (disch := first | assumption | rfl | omega | decide | exact zb_01 _) only [zabs_e, zmax_e, zmin_e, zrf_s, zpush_s, zpush_n, zw_app, upd_app, updL_app, Nat.reduceEqDiff, Nat.add_left_cancel_iff, Nat.add_eq_left, Nat.left_eq_add, ↓reduceIte, true_and, and_true, Int32.reduceToNatClampNeg, zin_O, zi_ltO, zi_leO, zi_Olt, zi_Ole, zi_eqO, Nat.not_lt_zero, Nat.zero_le, List.append_nil, zrn_n, zrn_s, List.cons_append, List.nil_append, zlg_lt, zlg_gt, zlg_le, zlg_ge, zlg_eq, Int32.toInt_toInt64, Int64.reduceToInt, zw_zw, zw_sw1, zw_sw2, zw_sw3, zw_sw4, zw_sw5, zw_sw6, zw_sw7, ne_eq, zi_in, zi_cl, zi_le, zi_lt, zi_eq, zi_neg, zi_0le, zb_0, if_true, if_false, eq_self, zb_T, zb_F, Bool.false_eq_true, zO_eq, zO_ne1, zO_ne2, zO_nn, zi_ne1, zi_ne2, zi_lt1, zi_le1, zi_lt2, zi_le2, Int32.reduceLT, Int32.reduceLE, Nat.reduceLT, Nat.reduceLeDiff, Int32.reduceMul, Int32.reduceAdd, Int32.reduceSub, not_false_eq_true, not_true_eq_false, Int32.reduceToInt, Int.reduceLE, Int.reduceLT, Int.reduceNeg, ite_self, R_X9_rival, SHF, PF, hn, h1, h2, c_next, c_drawn12, h3, h3', zi_s]
theorem m_rival_l (hn : I 80 6 = nI n) (h24 : n ≤ 24) (seed : Int32) : ∀ c i l (z : Int32), c + i = 100 → l ≤ n → ∃ z' : Int32, ∀ d Q, zWp (d + 1) zi_188 none 9 [.ref 80, .int seed, .int (nI l), .int (nI i)] [] (zSH, zw I 80 (upd (I 80) 37 z), L, zP f g t) Q = Q (some (.int (zri n c i l z))) (zSH, zw I 80 (upd (I 80) 37 z'), L, zP f g t) := by
  intro c
  induction c with
  | zero =>
    intro i l z hi hl
    have hi : i = 100 := by omega
    subst hi
    refine ⟨z, fun d Q => ?_⟩
    rw [H_X10_rival_9]
    simp (disch := first | assumption | rfl | omega | decide | exact zb_01 _) only [zabs_e, zmax_e, zmin_e, zrf_s, zpush_s, zpush_n, zw_app, upd_app, updL_app, Nat.reduceEqDiff, Nat.add_left_cancel_iff, Nat.add_eq_left, Nat.left_eq_add, ↓reduceIte, true_and, and_true, Int32.reduceToNatClampNeg, zin_O, zi_ltO, zi_leO, zi_Olt, zi_Ole, zi_eqO, Nat.not_lt_zero, Nat.zero_le, List.append_nil, zrn_n, zrn_s, List.cons_append, List.nil_append, zlg_lt, zlg_gt, zlg_le, zlg_ge, zlg_eq, Int32.toInt_toInt64, Int64.reduceToInt, zw_zw, zw_sw1, zw_sw2, zw_sw3, zw_sw4, zw_sw5, zw_sw6, zw_sw7, ne_eq, zi_in, zi_cl, zi_le, zi_lt, zi_eq, zi_neg, zi_0le, zb_0, if_true, if_false, eq_self, zb_T, zb_F, Bool.false_eq_true, zO_eq, zO_ne1, zO_ne2, zO_nn, zi_ne1, zi_ne2, zi_lt1, zi_le1, zi_lt2, zi_le2, Int32.reduceLT, Int32.reduceLE, Nat.reduceLT, Nat.reduceLeDiff, Int32.reduceMul, Int32.reduceAdd, Int32.reduceSub, not_false_eq_true, not_true_eq_false, Int32.reduceToInt, Int.reduceLE, Int.reduceLT, Int.reduceNeg, ite_self, R_X10_rival, SHF, PF, zri]
  | succ c ih =>
    intro i l z hi hl
    have h1 : ¬ 99 < i := by omega
    have qd : ∀ d Q, zWM (d + 1) 183 [.ref 80, .int 12] (zSH, zw I 80 (upd (I 80) 37 z), L, zP f g t) Q = Q (some (.int (zd12 (znx z)))) (zSH, zw I 80 (upd (I 80) 37 (znx z)), L, zP f g t) := fun d Q => by
      have q := m_draws12 (d := d) (f := f) (g := g) (t := t) (I := zw I 80 (upd (I 80) 37 z)) (L := L) (Q := Q)
      rw [q, zw_s, zw_zw, upd_upd]
      rfl
    rw [zri]
    by_cases h2 : l = n
    · have h2' : ¬ l < n := by omega
      have h2'' : n ≤ l := by omega
      refine ⟨z, fun d Q => ?_⟩
      rw [if_pos h2, H_X10_rival_9]
      simp (disch := first | assumption | rfl | omega | decide | exact zb_01 _) only [zabs_e, zmax_e, zmin_e, zrf_s, zpush_s, zpush_n, zw_app, upd_app, updL_app, Nat.reduceEqDiff, Nat.add_left_cancel_iff, Nat.add_eq_left, Nat.left_eq_add, ↓reduceIte, true_and, and_true, Int32.reduceToNatClampNeg, zin_O, zi_ltO, zi_leO, zi_Olt, zi_Ole, zi_eqO, Nat.not_lt_zero, Nat.zero_le, List.append_nil, zrn_n, zrn_s, List.cons_append, List.nil_append, zlg_lt, zlg_gt, zlg_le, zlg_ge, zlg_eq, Int32.toInt_toInt64, Int64.reduceToInt, zw_zw, zw_sw1, zw_sw2, zw_sw3, zw_sw4, zw_sw5, zw_sw6, zw_sw7, ne_eq, zi_in, zi_cl, zi_le, zi_lt, zi_eq, zi_neg, zi_0le, zb_0, if_true, if_false, eq_self, zb_T, zb_F, Bool.false_eq_true, zO_eq, zO_ne1, zO_ne2, zO_nn, zi_ne1, zi_ne2, zi_lt1, zi_le1, zi_lt2, zi_le2, Int32.reduceLT, Int32.reduceLE, Nat.reduceLT, Nat.reduceLeDiff, Int32.reduceMul, Int32.reduceAdd, Int32.reduceSub, not_false_eq_true, not_true_eq_false, Int32.reduceToInt, Int.reduceLE, Int.reduceLT, Int.reduceNeg, ite_self, R_X10_rival, SHF, PF, hn, h1, h2', h2'']
    · have h2' : l < n := by omega
      have h2'' : ¬ n ≤ l := by omega
      rw [if_neg h2]
      by_cases h3 : 4 < zd12 (znx z)
      · have h3' : ¬ zd12 (znx z) ≤ 4 := Int32.not_le.mpr h3
        obtain ⟨z', q⟩ := ih (i + 1) (l + 1) (znx z) (by omega) (by omega)
        refine ⟨z', fun d Q => ?_⟩
        rw [if_pos h3, ← q d Q, H_X10_rival_9]
        simp (disch := first | assumption | rfl | omega | decide | exact zb_01 _) only [zabs_e, zmax_e, zmin_e, zrf_s, zpush_s, zpush_n, zw_app, upd_app, updL_app, Nat.reduceEqDiff, Nat.add_left_cancel_iff, Nat.add_eq_left, Nat.left_eq_add, ↓reduceIte, true_and, and_true, Int32.reduceToNatClampNeg, zin_O, zi_ltO, zi_leO, zi_Olt, zi_Ole, zi_eqO, Nat.not_lt_zero, Nat.zero_le, List.append_nil, zrn_n, zrn_s, List.cons_append, List.nil_append, zlg_lt, zlg_gt, zlg_le, zlg_ge, zlg_eq, Int32.toInt_toInt64, Int64.reduceToInt, zw_zw, zw_sw1, zw_sw2, zw_sw3, zw_sw4, zw_sw5, zw_sw6, zw_sw7, ne_eq, zi_in, zi_cl, zi_le, zi_lt, zi_eq, zi_neg, zi_0le, zb_0, if_true, if_false, eq_self, zb_T, zb_F, Bool.false_eq_true, zO_eq, zO_ne1, zO_ne2, zO_nn, zi_ne1, zi_ne2, zi_lt1, zi_le1, zi_lt2, zi_le2, Int32.reduceLT, Int32.reduceLE, Nat.reduceLT, Nat.reduceLeDiff, Int32.reduceMul, Int32.reduceAdd, Int32.reduceSub, not_false_eq_true, not_true_eq_false, Int32.reduceToInt, Int.reduceLE, Int.reduceLT, Int.reduceNeg, ite_self, R_X10_rival, SHF, PF, hn, h1, h2', h2'', qd, h3, h3', zi_s]
      · have h3' : zd12 (znx z) ≤ 4 := Int32.not_lt.mp h3
        obtain ⟨z', q⟩ := ih (i + 1) l (znx z) (by omega) (by omega)
        refine ⟨z', fun d Q => ?_⟩
        rw [if_neg h3, ← q d Q, H_X10_rival_9]
        simp (disch := first | assumption | rfl | omega | decide | exact zb_01 _) only [zabs_e, zmax_e, zmin_e, zrf_s, zpush_s, zpush_n, zw_app, upd_app, updL_app, Nat.reduceEqDiff, Nat.add_left_cancel_iff, Nat.add_eq_left, Nat.left_eq_add, ↓reduceIte, true_and, and_true, Int32.reduceToNatClampNeg, zin_O, zi_ltO, zi_leO, zi_Olt, zi_Ole, zi_eqO, Nat.not_lt_zero, Nat.zero_le, List.append_nil, zrn_n, zrn_s, List.cons_append, List.nil_append, zlg_lt, zlg_gt, zlg_le, zlg_ge, zlg_eq, Int32.toInt_toInt64, Int64.reduceToInt, zw_zw, zw_sw1, zw_sw2, zw_sw3, zw_sw4, zw_sw5, zw_sw6, zw_sw7, ne_eq, zi_in, zi_cl, zi_le, zi_lt, zi_eq, zi_neg, zi_0le, zb_0, if_true, if_false, eq_self, zb_T, zb_F, Bool.false_eq_true, zO_eq, zO_ne1, zO_ne2, zO_nn, zi_ne1, zi_ne2, zi_lt1, zi_le1, zi_lt2, zi_le2, Int32.reduceLT, Int32.reduceLE, Nat.reduceLT, Nat.reduceLeDiff, Int32.reduceMul, Int32.reduceAdd, Int32.reduceSub, not_false_eq_true, not_true_eq_false, Int32.reduceToInt, Int.reduceLE, Int.reduceLT, Int.reduceNeg, ite_self, R_X10_rival, SHF, PF, hn, h1, h2', h2'', qd, h3, h3', zi_s, Int32.add_zero]
theorem op_rival (hR : zRel I L f g) (x : Int32) : zOp 103 188 [.int x] I L f g t := by
  obtain ⟨law, n, k, a, b, z, bb, hfg, ht, hw, hp, hs, hi, hc, hy, hl, hb, hr, hh, hf⟩ := id hR
  obtain ⟨z', qm⟩ := m_rival_l (f := f) (g := g) (t := t) (I := I) (L := L) ht.2.1 ht.2.2.1 x 100 0 0 x (by omega) (by omega)
  refine zOp_m (.int (zri n 100 0 0 x)) I (zw I 80 (upd (I 80) 37 z')) (fun d Q => ?_) (fun d Q => ?_) (zRel_s (fun a ha => zw_n (fun e => ha (by unfold zsc; omega))) (fun k hk => by
    show upd (I 80) 37 z' k = _
    exact zup_lt (fun e => hk (by unfold zsf; omega))) hR)
  · have l := c_rival_l (d := d + 98) (f := f) (g := g) (t := t) (I := I) (L := L) (Q := Q) ht.1 ht.2.2.1 x 100 0 0 x (by omega) (by omega)
    rw [← l]
    simp (disch := first | assumption | rfl | omega | decide | exact zb_01 _) only [zabs_e, zmax_e, zmin_e, zrf_s, zpush_s, zpush_n, zw_app, upd_app, updL_app, Nat.reduceEqDiff, Nat.add_left_cancel_iff, Nat.add_eq_left, Nat.left_eq_add, ↓reduceIte, true_and, and_true, Int32.reduceToNatClampNeg, zin_O, zi_ltO, zi_leO, zi_Olt, zi_Ole, zi_eqO, Nat.not_lt_zero, Nat.zero_le, List.append_nil, zrn_n, zrn_s, List.cons_append, List.nil_append, zlg_lt, zlg_gt, zlg_le, zlg_ge, zlg_eq, Int32.toInt_toInt64, Int64.reduceToInt, zw_zw, zw_sw1, zw_sw2, zw_sw3, zw_sw4, zw_sw5, zw_sw6, zw_sw7, ne_eq, zi_in, zi_cl, zi_le, zi_lt, zi_eq, zi_neg, zi_0le, zb_0, if_true, if_false, eq_self, zb_T, zb_F, Bool.false_eq_true, zO_eq, zO_ne1, zO_ne2, zO_nn, zi_ne1, zi_ne2, zi_lt1, zi_le1, zi_lt2, zi_le2, Int32.reduceLT, Int32.reduceLE, Nat.reduceLT, Nat.reduceLeDiff, Int32.reduceMul, Int32.reduceAdd, Int32.reduceSub, not_false_eq_true, not_true_eq_false, Int32.reduceToInt, Int.reduceLE, Int.reduceLT, Int.reduceNeg, ite_self, E_X9_rival, R_X9_rival, SHF, PF]
    rfl
  · have l := qm (d + 98) Q
    rw [← l]
    simp (disch := first | assumption | rfl | omega | decide | exact zb_01 _) only [zabs_e, zmax_e, zmin_e, zrf_s, zpush_s, zpush_n, zw_app, upd_app, updL_app, Nat.reduceEqDiff, Nat.add_left_cancel_iff, Nat.add_eq_left, Nat.left_eq_add, ↓reduceIte, true_and, and_true, Int32.reduceToNatClampNeg, zin_O, zi_ltO, zi_leO, zi_Olt, zi_Ole, zi_eqO, Nat.not_lt_zero, Nat.zero_le, List.append_nil, zrn_n, zrn_s, List.cons_append, List.nil_append, zlg_lt, zlg_gt, zlg_le, zlg_ge, zlg_eq, Int32.toInt_toInt64, Int64.reduceToInt, zw_zw, zw_sw1, zw_sw2, zw_sw3, zw_sw4, zw_sw5, zw_sw6, zw_sw7, ne_eq, zi_in, zi_cl, zi_le, zi_lt, zi_eq, zi_neg, zi_0le, zb_0, if_true, if_false, eq_self, zb_T, zb_F, Bool.false_eq_true, zO_eq, zO_ne1, zO_ne2, zO_nn, zi_ne1, zi_ne2, zi_lt1, zi_le1, zi_lt2, zi_le2, Int32.reduceLT, Int32.reduceLE, Nat.reduceLT, Nat.reduceLeDiff, Int32.reduceMul, Int32.reduceAdd, Int32.reduceSub, not_false_eq_true, not_true_eq_false, Int32.reduceToInt, Int.reduceLE, Int.reduceLT, Int.reduceNeg, ite_self, E_X10_rival, R_X10_rival, SHF, PF]
    rfl
theorem m_nights_l {F : Nat → Int32} (seed : Int32) (hN : N ≤ 30) : ∀ m i (q : zN6), m + i = N → zWp (d + 2) zi_186 none 35 [.ref 80, .int seed, .int (nI N), .int (nI i)] [] (zSH, zw I 80 (zmF F q), L, zP f g t) Q = Q (some (.int (zni (F 34) (I 81 83) m q).1)) (zSH, zw I 80 (zmF F (zni (F 34) (I 81 83) m q)), L, zP f g t) := by
  intro m
  induction m with
  | zero =>
    intro i q hi
    have hi : i = N := by omega
    subst hi
    obtain ⟨a, b, c, e, h, z⟩ := q
    rw [H_X10_nights_35]
    simp (disch := first | assumption | rfl | omega | decide | exact zb_01 _) only [zabs_e, zmax_e, zmin_e, zrf_s, zpush_s, zpush_n, zw_app, upd_app, updL_app, Nat.reduceEqDiff, Nat.add_left_cancel_iff, Nat.add_eq_left, Nat.left_eq_add, ↓reduceIte, true_and, and_true, Int32.reduceToNatClampNeg, zin_O, zi_ltO, zi_leO, zi_Olt, zi_Ole, zi_eqO, Nat.not_lt_zero, Nat.zero_le, List.append_nil, zrn_n, zrn_s, List.cons_append, List.nil_append, zlg_lt, zlg_gt, zlg_le, zlg_ge, zlg_eq, Int32.toInt_toInt64, Int64.reduceToInt, zw_zw, zw_sw1, zw_sw2, zw_sw3, zw_sw4, zw_sw5, zw_sw6, zw_sw7, ne_eq, zi_in, zi_cl, zi_le, zi_lt, zi_eq, zi_neg, zi_0le, zb_0, if_true, if_false, eq_self, zb_T, zb_F, Bool.false_eq_true, zO_eq, zO_ne1, zO_ne2, zO_nn, zi_ne1, zi_ne2, zi_lt1, zi_le1, zi_lt2, zi_le2, Int32.reduceLT, Int32.reduceLE, Nat.reduceLT, Nat.reduceLeDiff, Int32.reduceMul, Int32.reduceAdd, Int32.reduceSub, not_false_eq_true, not_true_eq_false, Int32.reduceToInt, Int.reduceLE, Int.reduceLT, Int.reduceNeg, ite_self, R_X10_nights, SHF, PF, Nat.le_refl, zni, zmF_app]
  | succ m ih =>
    intro i q hi
    have h1 : ¬ N ≤ i := by omega
    obtain ⟨a, b, c, e, h, z⟩ := q
    have qn := fun w d Q => m_nightGoes (d := d) (f := f) (g := g) (t := t) (I := I) (L := L) (Q := Q) F w (a, b, c, e, h, z)
    rw [H_X10_nights_35, zni, ← ih (i + 1) _ (by omega)]
    simp (disch := first | assumption | rfl | omega | decide | exact zb_01 _) only [zabs_e, zmax_e, zmin_e, zrf_s, zpush_s, zpush_n, zw_app, upd_app, updL_app, Nat.reduceEqDiff, Nat.add_left_cancel_iff, Nat.add_eq_left, Nat.left_eq_add, ↓reduceIte, true_and, and_true, Int32.reduceToNatClampNeg, zin_O, zi_ltO, zi_leO, zi_Olt, zi_Ole, zi_eqO, Nat.not_lt_zero, Nat.zero_le, List.append_nil, zrn_n, zrn_s, List.cons_append, List.nil_append, zlg_lt, zlg_gt, zlg_le, zlg_ge, zlg_eq, Int32.toInt_toInt64, Int64.reduceToInt, zw_zw, zw_sw1, zw_sw2, zw_sw3, zw_sw4, zw_sw5, zw_sw6, zw_sw7, ne_eq, zi_in, zi_cl, zi_le, zi_lt, zi_eq, zi_neg, zi_0le, zb_0, if_true, if_false, eq_self, zb_T, zb_F, Bool.false_eq_true, zO_eq, zO_ne1, zO_ne2, zO_nn, zi_ne1, zi_ne2, zi_lt1, zi_le1, zi_lt2, zi_le2, Int32.reduceLT, Int32.reduceLE, Nat.reduceLT, Nat.reduceLeDiff, Int32.reduceMul, Int32.reduceAdd, Int32.reduceSub, not_false_eq_true, not_true_eq_false, Int32.reduceToInt, Int.reduceLE, Int.reduceLT, Int.reduceNeg, ite_self, R_X10_nights, SHF, PF, h1, zmF_app, qn, zi_s]
theorem op_nights (hR : zRel I L f g) (seed x : Int32) : zOp 101 186 [.int seed, .int x] I L f g t := by
  obtain ⟨law, n, k, a, b, z, bb, hfg, ht, hw, hp, hs, hi, hc, hy, hl, hb, hr, hh, hf⟩ := id hR
  obtain ⟨s1, s2, s3, s4, s5, s6, s7⟩ := id hs
  have t30 : (30 : Int32).toInt = 30 := by decide
  rcases zrg x (1) (30) (1) (30) (by decide) (by decide) with ⟨h1, h2, h3, h4, h5⟩ | ⟨h1, h2⟩
  · obtain ⟨γ, hγ, eγ⟩ := nI_of2 (x := I 51 2) (M := 30) (n := 30) (by decide) (fun z => by have := Int32.lt_iff_toInt_lt.mp z; have t0 : (0 : Int32).toInt = 0 := (by decide); omega) (Int32.le_iff_toInt_le.mpr (by omega))
    obtain ⟨N, hN, rfl⟩ := nI_of2 (x := x) (M := 30) (n := 30) (by decide) (fun z => by have := Int32.lt_iff_toInt_lt.mp z; have t0 : (0 : Int32).toInt = 0 := (by decide); omega) h5
    have hN1 : 1 ≤ N := by rw [zi_nt (by omega)] at h1; omega
    have n1 : ¬ N < 1 := by omega
    have n2 : ¬ 30 < N := by omega
    have e3 : (30 - nI γ : Int32).toInt = 30 - γ := by rw [zt_sub (by rw [zi_nt (by omega)]; omega) (by rw [zi_nt (by omega)]; omega), zi_nt (by omega), t30]
    by_cases hs30 : γ + N ≤ 30
    · have c1 : ¬ 30 - nI γ < nI N := fun z => by have := Int32.lt_iff_toInt_lt.mp z; rw [e3, zi_nt (by omega)] at this; omega
      have c2 : nI N ≤ 30 - nI γ := Int32.not_lt.mp c1
      have qp := fun d Q => c_pass (d := d) (f := f) (g := g) (t := t) (I := I) (L := L) (Q := Q) (r := 51) (N := N) rfl (I 0 16) seed hN
      have qm : ∀ d J Q, J 80 = I 80 → J 81 = I 81 → zWp (d + 2) zi_186 none 35 [.ref 80, .int seed, .int (nI N), .int (nI 0)] [] (zSH, zw J 80 (zmF (I 80) (I 80 8, I 80 9, I 80 33, I 80 35, I 80 36, seed)), L, zP f g t) Q = Q (some (.int (zni (I 51 3) (I 0 16) N (I 51 0, I 51 1, I 51 2, I 51 4, I 51 5, seed)).1)) (zSH, zw J 80 (zmF (I 80) (zni (I 51 3) (I 0 16) N (I 51 0, I 51 1, I 51 2, I 51 4, I 51 5, seed))), L, zP f g t) := fun d J Q j80 j81 => by
        have l := m_nights_l (d := d) (f := f) (g := g) (t := t) (I := J) (L := L) (Q := Q) (F := I 80) seed hN N 0 (I 80 8, I 80 9, I 80 33, I 80 35, I 80 36, seed) (by omega)
        rw [j81, s4, hw.1.2.2.2] at l
        rw [l, s1, s2, s3, s5, s6]
      have eF : upd (I 80) 37 seed = zmF (I 80) (I 80 8, I 80 9, I 80 33, I 80 35, I 80 36, seed) := by
        have e := zmF_37 (I 80) (I 80 8) (I 80 9) (I 80 33) (I 80 35) (I 80 36) (I 80 37) seed
        rw [zmF_id] at e
        exact e
      have hz := zst_it (w := I 51 3) (th := I 0 16) N (I 51 0, I 51 1, I 51 2, I 51 4, I 51 5, seed) ⟨s7.1, s7.2.1⟩
      have hg2 := zni_g (w := I 51 3) (th := I 0 16) N (I 51 0, I 51 1, I 51 2, I 51 4, I 51 5, seed) γ eγ
      generalize hq : zni (I 51 3) (I 0 16) N (I 51 0, I 51 1, I 51 2, I 51 4, I 51 5, seed) = q at *
      obtain ⟨qa, qb, qc, qe, qh, qz⟩ := q
      have r0 : zsF (I 51) (qa, qb, qc, qe, qh, qz) 0 = qa := rfl
      refine zOp_m (.int qa) (zw I 51 (zsF (I 51) (qa, qb, qc, qe, qh, qz))) (zw (zw I 51 (zsF (I 51) (qa, qb, qc, qe, qh, qz))) 80 (zmF (I 80) (qa, qb, qc, qe, qh, qz))) (fun d Q => ?_) (fun d Q => ?_) ⟨law, n, k, a, b, z, bb, hfg, (zRt_f (I := I)  rfl rfl rfl rfl rfl rfl rfl rfl rfl rfl rfl (fun _ _ => rfl) rfl ht), (zRw_f (I := I)  rfl rfl rfl rfl rfl rfl rfl rfl hw), (zRp_f (I := I)  rfl rfl rfl rfl rfl rfl rfl (fun _ _ _ => rfl) hp), ⟨rfl, rfl, rfl, s4, rfl, rfl, hz.1, hz.2, ?_⟩, (zRi_f (I := I)  rfl rfl rfl rfl hi), (zRc_f (I := I)  rfl rfl rfl rfl rfl rfl rfl rfl hc), (zRy_f (I := I)  rfl rfl rfl rfl hy), (zRl_f (I := I) hfg rfl rfl rfl rfl rfl rfl rfl rfl hl), (zRb_f (I := I)  rfl rfl rfl rfl hb), (zRr_f (I := I)  rfl rfl rfl rfl hr), (zRh_f (I := I)  rfl rfl rfl rfl rfl rfl rfl rfl hh), (zRf_f (I := I)  rfl rfl rfl rfl rfl rfl rfl rfl rfl hf)⟩
      · simp (disch := first | assumption | rfl | omega | decide | exact zb_01 _) only [zabs_e, zmax_e, zmin_e, zrf_s, zpush_s, zpush_n, zw_app, upd_app, updL_app, Nat.reduceEqDiff, Nat.add_left_cancel_iff, Nat.add_eq_left, Nat.left_eq_add, ↓reduceIte, true_and, and_true, Int32.reduceToNatClampNeg, zin_O, zi_ltO, zi_leO, zi_Olt, zi_Ole, zi_eqO, Nat.not_lt_zero, Nat.zero_le, List.append_nil, zrn_n, zrn_s, List.cons_append, List.nil_append, zlg_lt, zlg_gt, zlg_le, zlg_ge, zlg_eq, Int32.toInt_toInt64, Int64.reduceToInt, zw_zw, zw_sw1, zw_sw2, zw_sw3, zw_sw4, zw_sw5, zw_sw6, zw_sw7, ne_eq, zi_in, zi_cl, zi_le, zi_lt, zi_eq, zi_neg, zi_0le, zb_0, if_true, if_false, eq_self, zb_T, zb_F, Bool.false_eq_true, zO_eq, zO_ne1, zO_ne2, zO_nn, zi_ne1, zi_ne2, zi_lt1, zi_le1, zi_lt2, zi_le2, Int32.reduceLT, Int32.reduceLE, Nat.reduceLT, Nat.reduceLeDiff, Int32.reduceMul, Int32.reduceAdd, Int32.reduceSub, not_false_eq_true, not_true_eq_false, Int32.reduceToInt, Int.reduceLE, Int.reduceLT, Int.reduceNeg, ite_self, E_X9_nights, R_X9_nights, SHF, PF, n1, n2, hN, eγ, c1, c2, qp, r0]
      · have l := qm (d + 97) (zw I 51 (zsF (I 51) (qa, qb, qc, qe, qh, qz))) Q rfl rfl
        rw [← eF] at l
        have c3 : ¬ 30 < γ + N := by omega
        simp (disch := first | assumption | rfl | omega | decide | exact zb_01 _) only [zabs_e, zmax_e, zmin_e, zrf_s, zpush_s, zpush_n, zw_app, upd_app, updL_app, Nat.reduceEqDiff, Nat.add_left_cancel_iff, Nat.add_eq_left, Nat.left_eq_add, ↓reduceIte, true_and, and_true, Int32.reduceToNatClampNeg, zin_O, zi_ltO, zi_leO, zi_Olt, zi_Ole, zi_eqO, Nat.not_lt_zero, Nat.zero_le, List.append_nil, zrn_n, zrn_s, List.cons_append, List.nil_append, zlg_lt, zlg_gt, zlg_le, zlg_ge, zlg_eq, Int32.toInt_toInt64, Int64.reduceToInt, zw_zw, zw_sw1, zw_sw2, zw_sw3, zw_sw4, zw_sw5, zw_sw6, zw_sw7, ne_eq, zi_in, zi_cl, zi_le, zi_lt, zi_eq, zi_neg, zi_0le, zb_0, if_true, if_false, eq_self, zb_T, zb_F, Bool.false_eq_true, zO_eq, zO_ne1, zO_ne2, zO_nn, zi_ne1, zi_ne2, zi_lt1, zi_le1, zi_lt2, zi_le2, Int32.reduceLT, Int32.reduceLE, Nat.reduceLT, Nat.reduceLeDiff, Int32.reduceMul, Int32.reduceAdd, Int32.reduceSub, not_false_eq_true, not_true_eq_false, Int32.reduceToInt, Int.reduceLE, Int.reduceLT, Int.reduceNeg, ite_self, E_X10_nights, R_X10_nights, SHF, PF, m_within, h1, s3, eγ, nI_add, c3, hs30]
        exact l
      · show 0 ≤ qc.toInt ∧ qc.toInt ≤ 30
        rw [show qc = nI (γ + N) from hg2, zi_nt (by omega)]
        omega
    · have c1 : 30 - nI γ < nI N := Int32.lt_iff_toInt_lt.mpr (by rw [e3, zi_nt (by omega)]; omega)
      have c2 : ¬ nI N ≤ 30 - nI γ := Int32.not_le.mpr c1
      have c3 : 30 < γ + N := by omega
      refine zOp_s hR (.int (-5)) (fun d Q => ?_) (fun d Q => ?_)
      · simp (disch := first | assumption | rfl | omega | decide | exact zb_01 _) only [zabs_e, zmax_e, zmin_e, zrf_s, zpush_s, zpush_n, zw_app, upd_app, updL_app, Nat.reduceEqDiff, Nat.add_left_cancel_iff, Nat.add_eq_left, Nat.left_eq_add, ↓reduceIte, true_and, and_true, Int32.reduceToNatClampNeg, zin_O, zi_ltO, zi_leO, zi_Olt, zi_Ole, zi_eqO, Nat.not_lt_zero, Nat.zero_le, List.append_nil, zrn_n, zrn_s, List.cons_append, List.nil_append, zlg_lt, zlg_gt, zlg_le, zlg_ge, zlg_eq, Int32.toInt_toInt64, Int64.reduceToInt, zw_zw, zw_sw1, zw_sw2, zw_sw3, zw_sw4, zw_sw5, zw_sw6, zw_sw7, ne_eq, zi_in, zi_cl, zi_le, zi_lt, zi_eq, zi_neg, zi_0le, zb_0, if_true, if_false, eq_self, zb_T, zb_F, Bool.false_eq_true, zO_eq, zO_ne1, zO_ne2, zO_nn, zi_ne1, zi_ne2, zi_lt1, zi_le1, zi_lt2, zi_le2, Int32.reduceLT, Int32.reduceLE, Nat.reduceLT, Nat.reduceLeDiff, Int32.reduceMul, Int32.reduceAdd, Int32.reduceSub, not_false_eq_true, not_true_eq_false, Int32.reduceToInt, Int.reduceLE, Int.reduceLT, Int.reduceNeg, ite_self, E_X9_nights, R_X9_nights, SHF, PF, n1, n2, hN, eγ, c1, c2]
      · simp (disch := first | assumption | rfl | omega | decide | exact zb_01 _) only [zabs_e, zmax_e, zmin_e, zrf_s, zpush_s, zpush_n, zw_app, upd_app, updL_app, Nat.reduceEqDiff, Nat.add_left_cancel_iff, Nat.add_eq_left, Nat.left_eq_add, ↓reduceIte, true_and, and_true, Int32.reduceToNatClampNeg, zin_O, zi_ltO, zi_leO, zi_Olt, zi_Ole, zi_eqO, Nat.not_lt_zero, Nat.zero_le, List.append_nil, zrn_n, zrn_s, List.cons_append, List.nil_append, zlg_lt, zlg_gt, zlg_le, zlg_ge, zlg_eq, Int32.toInt_toInt64, Int64.reduceToInt, zw_zw, zw_sw1, zw_sw2, zw_sw3, zw_sw4, zw_sw5, zw_sw6, zw_sw7, ne_eq, zi_in, zi_cl, zi_le, zi_lt, zi_eq, zi_neg, zi_0le, zb_0, if_true, if_false, eq_self, zb_T, zb_F, Bool.false_eq_true, zO_eq, zO_ne1, zO_ne2, zO_nn, zi_ne1, zi_ne2, zi_lt1, zi_le1, zi_lt2, zi_le2, Int32.reduceLT, Int32.reduceLE, Nat.reduceLT, Nat.reduceLeDiff, Int32.reduceMul, Int32.reduceAdd, Int32.reduceSub, not_false_eq_true, not_true_eq_false, Int32.reduceToInt, Int.reduceLE, Int.reduceLT, Int.reduceNeg, ite_self, E_X10_nights, R_X10_nights, SHF, PF, m_within, h1, s3, eγ, nI_add, c3, hs30]
  · refine zOp_s hR (.int (-1)) (fun d Q => ?_) (fun d Q => ?_)
    · rcases h2 with ⟨h2, h3⟩ | ⟨h2, h3, h4, h5⟩
      · simp (disch := first | assumption | rfl | omega | decide | exact zb_01 _) only [zabs_e, zmax_e, zmin_e, zrf_s, zpush_s, zpush_n, zw_app, upd_app, updL_app, Nat.reduceEqDiff, Nat.add_left_cancel_iff, Nat.add_eq_left, Nat.left_eq_add, ↓reduceIte, true_and, and_true, Int32.reduceToNatClampNeg, zin_O, zi_ltO, zi_leO, zi_Olt, zi_Ole, zi_eqO, Nat.not_lt_zero, Nat.zero_le, List.append_nil, zrn_n, zrn_s, List.cons_append, List.nil_append, zlg_lt, zlg_gt, zlg_le, zlg_ge, zlg_eq, Int32.toInt_toInt64, Int64.reduceToInt, zw_zw, zw_sw1, zw_sw2, zw_sw3, zw_sw4, zw_sw5, zw_sw6, zw_sw7, ne_eq, zi_in, zi_cl, zi_le, zi_lt, zi_eq, zi_neg, zi_0le, zb_0, if_true, if_false, eq_self, zb_T, zb_F, Bool.false_eq_true, zO_eq, zO_ne1, zO_ne2, zO_nn, zi_ne1, zi_ne2, zi_lt1, zi_le1, zi_lt2, zi_le2, Int32.reduceLT, Int32.reduceLE, Nat.reduceLT, Nat.reduceLeDiff, Int32.reduceMul, Int32.reduceAdd, Int32.reduceSub, not_false_eq_true, not_true_eq_false, Int32.reduceToInt, Int.reduceLE, Int.reduceLT, Int.reduceNeg, ite_self, E_X9_nights, R_X9_nights, SHF, PF, h2, h3]
      · simp (disch := first | assumption | rfl | omega | decide | exact zb_01 _) only [zabs_e, zmax_e, zmin_e, zrf_s, zpush_s, zpush_n, zw_app, upd_app, updL_app, Nat.reduceEqDiff, Nat.add_left_cancel_iff, Nat.add_eq_left, Nat.left_eq_add, ↓reduceIte, true_and, and_true, Int32.reduceToNatClampNeg, zin_O, zi_ltO, zi_leO, zi_Olt, zi_Ole, zi_eqO, Nat.not_lt_zero, Nat.zero_le, List.append_nil, zrn_n, zrn_s, List.cons_append, List.nil_append, zlg_lt, zlg_gt, zlg_le, zlg_ge, zlg_eq, Int32.toInt_toInt64, Int64.reduceToInt, zw_zw, zw_sw1, zw_sw2, zw_sw3, zw_sw4, zw_sw5, zw_sw6, zw_sw7, ne_eq, zi_in, zi_cl, zi_le, zi_lt, zi_eq, zi_neg, zi_0le, zb_0, if_true, if_false, eq_self, zb_T, zb_F, Bool.false_eq_true, zO_eq, zO_ne1, zO_ne2, zO_nn, zi_ne1, zi_ne2, zi_lt1, zi_le1, zi_lt2, zi_le2, Int32.reduceLT, Int32.reduceLE, Nat.reduceLT, Nat.reduceLeDiff, Int32.reduceMul, Int32.reduceAdd, Int32.reduceSub, not_false_eq_true, not_true_eq_false, Int32.reduceToInt, Int.reduceLE, Int.reduceLT, Int.reduceNeg, ite_self, E_X9_nights, R_X9_nights, SHF, PF, h2, h3, h4, h5]
    · simp (disch := first | assumption | rfl | omega | decide | exact zb_01 _) only [zabs_e, zmax_e, zmin_e, zrf_s, zpush_s, zpush_n, zw_app, upd_app, updL_app, Nat.reduceEqDiff, Nat.add_left_cancel_iff, Nat.add_eq_left, Nat.left_eq_add, ↓reduceIte, true_and, and_true, Int32.reduceToNatClampNeg, zin_O, zi_ltO, zi_leO, zi_Olt, zi_Ole, zi_eqO, Nat.not_lt_zero, Nat.zero_le, List.append_nil, zrn_n, zrn_s, List.cons_append, List.nil_append, zlg_lt, zlg_gt, zlg_le, zlg_ge, zlg_eq, Int32.toInt_toInt64, Int64.reduceToInt, zw_zw, zw_sw1, zw_sw2, zw_sw3, zw_sw4, zw_sw5, zw_sw6, zw_sw7, ne_eq, zi_in, zi_cl, zi_le, zi_lt, zi_eq, zi_neg, zi_0le, zb_0, if_true, if_false, eq_self, zb_T, zb_F, Bool.false_eq_true, zO_eq, zO_ne1, zO_ne2, zO_nn, zi_ne1, zi_ne2, zi_lt1, zi_le1, zi_lt2, zi_le2, Int32.reduceLT, Int32.reduceLE, Nat.reduceLT, Nat.reduceLeDiff, Int32.reduceMul, Int32.reduceAdd, Int32.reduceSub, not_false_eq_true, not_true_eq_false, Int32.reduceToInt, Int.reduceLE, Int.reduceLT, Int.reduceNeg, ite_self, E_X10_nights, R_X10_nights, SHF, PF, m_within, h1]
end STORE2
