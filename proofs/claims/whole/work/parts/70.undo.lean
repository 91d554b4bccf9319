section UNDO
variable {d f g n k a b z bb w m : Nat} {t : Option Nat} {I J : Nat → Nat → Int32} {L : Nat → Nat → Int64} {Q : Option Value → zMm → Prop} {law : zLawT}
theorem op_undo (hR : zRel I L f g) : zOp 108 128 [] I L f g t := by
  obtain ⟨law, n, k, a, b, z, bb, hR9⟩ := id hR
  obtain ⟨hfg, ht, hw, hp, hs, hi, hc, hy, hl, hb, hr, hh, hf⟩ := id hR9
  obtain ⟨c1, c2, c3, c4, c5, c6, c7⟩ := id hc
  cases a with
  | zero =>
    have m1 : nI 0 - 1 < 0 := by decide
    have m2 : ¬ 0 ≤ nI 0 - 1 := by decide
    refine zOp_s hR (.int (-5)) (fun d Q => ?_) (fun d Q => ?_)
    · simp (disch := first | assumption | rfl | omega | decide | exact zb_01 _) only [zabs_e, zmax_e, zmin_e, zrf_s, zpush_s, zpush_n, zw_app, upd_app, updL_app, Nat.reduceEqDiff, Nat.add_left_cancel_iff, Nat.add_eq_left, Nat.left_eq_add, ↓reduceIte, true_and, and_true, Int32.reduceToNatClampNeg, zin_O, zi_ltO, zi_leO, zi_Olt, zi_Ole, zi_eqO, Nat.not_lt_zero, Nat.zero_le, List.append_nil, zrn_n, zrn_s, List.cons_append, List.nil_append, zlg_lt, zlg_gt, zlg_le, zlg_ge, zlg_eq, Int32.toInt_toInt64, Int64.reduceToInt, zw_zw, zw_sw1, zw_sw2, zw_sw3, zw_sw4, zw_sw5, zw_sw6, zw_sw7, ne_eq, zi_in, zi_cl, zi_le, zi_lt, zi_eq, zi_neg, zi_0le, zb_0, if_true, if_false, eq_self, zb_T, zb_F, Bool.false_eq_true, zO_eq, zO_ne1, zO_ne2, zO_nn, zi_ne1, zi_ne2, zi_lt1, zi_le1, zi_lt2, zi_le2, Int32.reduceLT, Int32.reduceLE, Nat.reduceLT, Nat.reduceLeDiff, Int32.reduceMul, Int32.reduceAdd, Int32.reduceSub, not_false_eq_true, not_true_eq_false, Int32.reduceToInt, Int.reduceLE, Int.reduceLT, Int.reduceNeg, ite_self, E_X9_undo, R_X9_undo, SHF, PF, c1, m1, m2]
    · simp (disch := first | assumption | rfl | omega | decide | exact zb_01 _) only [zabs_e, zmax_e, zmin_e, zrf_s, zpush_s, zpush_n, zw_app, upd_app, updL_app, Nat.reduceEqDiff, Nat.add_left_cancel_iff, Nat.add_eq_left, Nat.left_eq_add, ↓reduceIte, true_and, and_true, Int32.reduceToNatClampNeg, zin_O, zi_ltO, zi_leO, zi_Olt, zi_Ole, zi_eqO, Nat.not_lt_zero, Nat.zero_le, List.append_nil, zrn_n, zrn_s, List.cons_append, List.nil_append, zlg_lt, zlg_gt, zlg_le, zlg_ge, zlg_eq, Int32.toInt_toInt64, Int64.reduceToInt, zw_zw, zw_sw1, zw_sw2, zw_sw3, zw_sw4, zw_sw5, zw_sw6, zw_sw7, ne_eq, zi_in, zi_cl, zi_le, zi_lt, zi_eq, zi_neg, zi_0le, zb_0, if_true, if_false, eq_self, zb_T, zb_F, Bool.false_eq_true, zO_eq, zO_ne1, zO_ne2, zO_nn, zi_ne1, zi_ne2, zi_lt1, zi_le1, zi_lt2, zi_le2, Int32.reduceLT, Int32.reduceLE, Nat.reduceLT, Nat.reduceLeDiff, Int32.reduceMul, Int32.reduceAdd, Int32.reduceSub, not_false_eq_true, not_true_eq_false, Int32.reduceToInt, Int.reduceLE, Int.reduceLT, Int.reduceNeg, ite_self, E_X10_undo, R_X10_undo, SHF, PF, c3]
  | succ i =>
    obtain ⟨w, m, e1, e2, e3, e4, e5, e6, e7, e8, e9⟩ := c7 i (by omega)
    have q1 : nI (i + 1) - 1 = nI i := nI_pred i
    have n0 : ¬ i + 1 = 0 := by omega
    have n1 : ¬ nI i < 0 := nI_pos (by omega)
    have n2 : 0 ≤ nI i := nI_pos' (by omega)
    have i40 : i < 40 := by omega
    have i1 : 4 * i < 160 := by omega
    have i2 : 4 * i + 1 < 160 := by omega
    have i3 : 4 * i + 2 < 160 := by omega
    have it := fun d Q => c_isThere (d := d) (t := t) (Q := Q) hR9 e1 e2
    have mt := fun d Q => m_isThere (d := d) (f := f) (g := g) (t := t) (L := L) (Q := Q) (I := I) (n := n) (k := k) (w := w) (m := m) ht.2.1 ht.2.2.1 hp.2.2.1 e1 e2
    by_cases hv : m < zcl w n k
    · simp only [zb_t hv] at it mt
      obtain ⟨J, run, hJ, rest⟩ := zLay (t := t) hR9 e1 hv e8
      have jo : ∀ a, 33 < a → J a = I a := fun a h => hJ a (by unfold zlS; omega)
      have j54 := jo 54 (by omega)
      have j80 := jo 80 (by omega)
      have ml := fun d Q => m_lays (d := d) (f := f) (g := g) (t := t) (L := L) (Q := Q) (I := zw (zw J 54 (upd (I 54) 1 (nI i))) 80 (upd (I 80) 5 (nI i))) (n := n) (k := k) (w := w) (m := m) ht.2.2.1 hp.2.2.1 e1 hv (I 83 i)
      have ev : (if w = 2 then zmin (I 83 i) (I 85 m) else I 83 i) = zlv I w m (I 83 i) := by
        unfold zlv
        by_cases h2 : w = 2
        · subst h2
          rw [if_pos rfl, if_pos rfl, (ht.2.2.2.2 m hv).1]
        · rw [if_neg h2, if_neg h2]
      rw [zw_n (show 85 ≠ 80 by decide), zw_n (show 85 ≠ 54 by decide), jo 85 (by omega), ev, zw_n (show 81 ≠ 80 by decide), zw_n (show 81 ≠ 54 by decide), jo 81 (by omega)] at ml
      have j82 := jo 82 (by omega)
      have j83 := jo 83 (by omega)
      have b1 : i + 1 - 1 = i := by omega
      have mt2 : ∀ d Q, zWM (d + 1) 126 [.ref 80, .int (nI (zcb w + m))] (zSH, zw J 54 (upd (I 54) 1 (nI i)), L, zP f g t) Q = Q (some (.int 1)) (zSH, zw J 54 (upd (I 54) 1 (nI i)), L, zP f g t) := fun d Q => by
        have q := m_isThere (d := d) (f := f) (g := g) (t := t) (L := L) (Q := Q) (I := zw J 54 (upd (I 54) 1 (nI i))) (n := n) (k := k) (w := w) (m := m) (by rw [zw_n (by decide), j80]; exact ht.2.1) ht.2.2.1 hp.2.2.1 e1 e2
        rw [zb_t hv] at q
        exact q
      obtain ⟨x1, x2, x3, x4, x5, x6, x7, x8, x9, x10, x11⟩ := rest (zw (zw (zw J 54 (upd (I 54) 1 (nI i))) 80 (upd (I 80) 5 (nI i))) 81 (upd (I 81) (zcb w + m) (zlv I w m (I 83 i)))) (fun a h1 h2 h3 => by rw [zw_n (by omega), zw_n (by omega), zw_n h1]) rfl (fun q h1 h2 => by
        show upd (I 80) 5 (nI i) q = _
        exact zup_lt h2)
      refine zOp_m (.int (nI i)) (zw J 54 (upd (I 54) 1 (nI i))) (zw (zw (zw J 54 (upd (I 54) 1 (nI i))) 80 (upd (I 80) 5 (nI i))) 81 (upd (I 81) (zcb w + m) (zlv I w m (I 83 i)))) (fun d Q => ?_) (fun d Q => ?_) ⟨law, n, k, i, b, z, bb, hfg, x1, x2, x3, x4, x5, ⟨rfl, c2, rfl, by show upd (I 80) 5 (nI i) 4 = nI b; exact c4, by omega, c6, fun j hj => ?_⟩, x6, x7, x8, x9, x10, x11⟩
      · simp (disch := first | assumption | rfl | omega | decide | exact zb_01 _) only [zabs_e, zmax_e, zmin_e, zrf_s, zpush_s, zpush_n, zw_app, upd_app, updL_app, Nat.reduceEqDiff, Nat.add_left_cancel_iff, Nat.add_eq_left, Nat.left_eq_add, ↓reduceIte, true_and, and_true, Int32.reduceToNatClampNeg, zin_O, zi_ltO, zi_leO, zi_Olt, zi_Ole, zi_eqO, Nat.not_lt_zero, Nat.zero_le, List.append_nil, zrn_n, zrn_s, List.cons_append, List.nil_append, zlg_lt, zlg_gt, zlg_le, zlg_ge, zlg_eq, Int32.toInt_toInt64, Int64.reduceToInt, zw_zw, zw_sw1, zw_sw2, zw_sw3, zw_sw4, zw_sw5, zw_sw6, zw_sw7, ne_eq, zi_in, zi_cl, zi_le, zi_lt, zi_eq, zi_neg, zi_0le, zb_0, if_true, if_false, eq_self, zb_T, zb_F, Bool.false_eq_true, zO_eq, zO_ne1, zO_ne2, zO_nn, zi_ne1, zi_ne2, zi_lt1, zi_le1, zi_lt2, zi_le2, Int32.reduceLT, Int32.reduceLE, Nat.reduceLT, Nat.reduceLeDiff, Int32.reduceMul, Int32.reduceAdd, Int32.reduceSub, not_false_eq_true, not_true_eq_false, Int32.reduceToInt, Int.reduceLE, Int.reduceLT, Int.reduceNeg, ite_self, E_X9_undo, R_X9_undo, E_X1_number, R_X1_number, E_X1_what, R_X1_what, E_X1_before, R_X1_before, SHF, PF, c1, q1, n1, n2, zi_m4, zi_s, zi_p2, i1, i2, i3, e3, e4, e6, it, run, j54]
      · simp (disch := first | assumption | rfl | omega | decide | exact zb_01 _) only [zabs_e, zmax_e, zmin_e, zrf_s, zpush_s, zpush_n, zw_app, upd_app, updL_app, Nat.reduceEqDiff, Nat.add_left_cancel_iff, Nat.add_eq_left, Nat.left_eq_add, ↓reduceIte, true_and, and_true, Int32.reduceToNatClampNeg, zin_O, zi_ltO, zi_leO, zi_Olt, zi_Ole, zi_eqO, Nat.not_lt_zero, Nat.zero_le, List.append_nil, zrn_n, zrn_s, List.cons_append, List.nil_append, zlg_lt, zlg_gt, zlg_le, zlg_ge, zlg_eq, Int32.toInt_toInt64, Int64.reduceToInt, zw_zw, zw_sw1, zw_sw2, zw_sw3, zw_sw4, zw_sw5, zw_sw6, zw_sw7, ne_eq, zi_in, zi_cl, zi_le, zi_lt, zi_eq, zi_neg, zi_0le, zb_0, if_true, if_false, eq_self, zb_T, zb_F, Bool.false_eq_true, zO_eq, zO_ne1, zO_ne2, zO_nn, zi_ne1, zi_ne2, zi_lt1, zi_le1, zi_lt2, zi_le2, Int32.reduceLT, Int32.reduceLE, Nat.reduceLT, Nat.reduceLeDiff, Int32.reduceMul, Int32.reduceAdd, Int32.reduceSub, not_false_eq_true, not_true_eq_false, Int32.reduceToInt, Int.reduceLE, Int.reduceLT, Int.reduceNeg, ite_self, E_X10_undo, R_X10_undo, SHF, PF, j80, c3, n0, q1, i40, j82, e5, mt2, j83, ml]
      · have o : ∀ q, (q = 55 ∨ q = 82 ∨ q = 83 ∨ q = 84) → zw (zw (zw J 54 (upd (I 54) 1 (nI i))) 80 (upd (I 80) 5 (nI i))) 81 (upd (I 81) (zcb w + m) (zlv I w m (I 83 i))) q = I q := fun q h => by
          rw [zw_n (by omega), zw_n (by omega), zw_n (by omega)]
          exact jo q (by omega)
        rw [o 55 (by omega), o 82 (by omega), o 83 (by omega), o 84 (by omega)]
        exact c7 j hj
    · simp only [zb_f hv] at it mt
      refine zOp_s hR (.int (-5)) (fun d Q => ?_) (fun d Q => ?_)
      · simp (disch := first | assumption | rfl | omega | decide | exact zb_01 _) only [zabs_e, zmax_e, zmin_e, zrf_s, zpush_s, zpush_n, zw_app, upd_app, updL_app, Nat.reduceEqDiff, Nat.add_left_cancel_iff, Nat.add_eq_left, Nat.left_eq_add, ↓reduceIte, true_and, and_true, Int32.reduceToNatClampNeg, zin_O, zi_ltO, zi_leO, zi_Olt, zi_Ole, zi_eqO, Nat.not_lt_zero, Nat.zero_le, List.append_nil, zrn_n, zrn_s, List.cons_append, List.nil_append, zlg_lt, zlg_gt, zlg_le, zlg_ge, zlg_eq, Int32.toInt_toInt64, Int64.reduceToInt, zw_zw, zw_sw1, zw_sw2, zw_sw3, zw_sw4, zw_sw5, zw_sw6, zw_sw7, ne_eq, zi_in, zi_cl, zi_le, zi_lt, zi_eq, zi_neg, zi_0le, zb_0, if_true, if_false, eq_self, zb_T, zb_F, Bool.false_eq_true, zO_eq, zO_ne1, zO_ne2, zO_nn, zi_ne1, zi_ne2, zi_lt1, zi_le1, zi_lt2, zi_le2, Int32.reduceLT, Int32.reduceLE, Nat.reduceLT, Nat.reduceLeDiff, Int32.reduceMul, Int32.reduceAdd, Int32.reduceSub, not_false_eq_true, not_true_eq_false, Int32.reduceToInt, Int.reduceLE, Int.reduceLT, Int.reduceNeg, ite_self, E_X9_undo, R_X9_undo, E_X1_number, R_X1_number, E_X1_what, R_X1_what, SHF, PF, c1, q1, n1, n2, zi_m4, zi_s, i1, i2, e3, e4, it]
      · simp (disch := first | assumption | rfl | omega | decide | exact zb_01 _) only [zabs_e, zmax_e, zmin_e, zrf_s, zpush_s, zpush_n, zw_app, upd_app, updL_app, Nat.reduceEqDiff, Nat.add_left_cancel_iff, Nat.add_eq_left, Nat.left_eq_add, ↓reduceIte, true_and, and_true, Int32.reduceToNatClampNeg, zin_O, zi_ltO, zi_leO, zi_Olt, zi_Ole, zi_eqO, Nat.not_lt_zero, Nat.zero_le, List.append_nil, zrn_n, zrn_s, List.cons_append, List.nil_append, zlg_lt, zlg_gt, zlg_le, zlg_ge, zlg_eq, Int32.toInt_toInt64, Int64.reduceToInt, zw_zw, zw_sw1, zw_sw2, zw_sw3, zw_sw4, zw_sw5, zw_sw6, zw_sw7, ne_eq, zi_in, zi_cl, zi_le, zi_lt, zi_eq, zi_neg, zi_0le, zb_0, if_true, if_false, eq_self, zb_T, zb_F, Bool.false_eq_true, zO_eq, zO_ne1, zO_ne2, zO_nn, zi_ne1, zi_ne2, zi_lt1, zi_le1, zi_lt2, zi_le2, Int32.reduceLT, Int32.reduceLE, Nat.reduceLT, Nat.reduceLeDiff, Int32.reduceMul, Int32.reduceAdd, Int32.reduceSub, not_false_eq_true, not_true_eq_false, Int32.reduceToInt, Int.reduceLE, Int.reduceLT, Int.reduceNeg, ite_self, E_X10_undo, R_X10_undo, SHF, PF, c3, n0, q1, i40, e5, mt]
theorem op_redo (hR : zRel I L f g) : zOp 109 129 [] I L f g t := by
  obtain ⟨law, n, k, i, b, z, bb, hR9⟩ := id hR
  obtain ⟨hfg, ht, hw, hp, hs, hi, hc, hy, hl, hb, hr, hh, hf⟩ := id hR9
  obtain ⟨c1, c2, c3, c4, c5, c6, c7⟩ := id hc
  by_cases hib : i = b
  · subst hib
    refine zOp_s hR (.int (-5)) (fun d Q => ?_) (fun d Q => ?_)
    · simp (disch := first | assumption | rfl | omega | decide | exact zb_01 _) only [zabs_e, zmax_e, zmin_e, zrf_s, zpush_s, zpush_n, zw_app, upd_app, updL_app, Nat.reduceEqDiff, Nat.add_left_cancel_iff, Nat.add_eq_left, Nat.left_eq_add, ↓reduceIte, true_and, and_true, Int32.reduceToNatClampNeg, zin_O, zi_ltO, zi_leO, zi_Olt, zi_Ole, zi_eqO, Nat.not_lt_zero, Nat.zero_le, List.append_nil, zrn_n, zrn_s, List.cons_append, List.nil_append, zlg_lt, zlg_gt, zlg_le, zlg_ge, zlg_eq, Int32.toInt_toInt64, Int64.reduceToInt, zw_zw, zw_sw1, zw_sw2, zw_sw3, zw_sw4, zw_sw5, zw_sw6, zw_sw7, ne_eq, zi_in, zi_cl, zi_le, zi_lt, zi_eq, zi_neg, zi_0le, zb_0, if_true, if_false, eq_self, zb_T, zb_F, Bool.false_eq_true, zO_eq, zO_ne1, zO_ne2, zO_nn, zi_ne1, zi_ne2, zi_lt1, zi_le1, zi_lt2, zi_le2, Int32.reduceLT, Int32.reduceLE, Nat.reduceLT, Nat.reduceLeDiff, Int32.reduceMul, Int32.reduceAdd, Int32.reduceSub, not_false_eq_true, not_true_eq_false, Int32.reduceToInt, Int.reduceLE, Int.reduceLT, Int.reduceNeg, ite_self, E_X9_redo, R_X9_redo, SHF, PF, c1, c2, Nat.le_refl]
    · simp (disch := first | assumption | rfl | omega | decide | exact zb_01 _) only [zabs_e, zmax_e, zmin_e, zrf_s, zpush_s, zpush_n, zw_app, upd_app, updL_app, Nat.reduceEqDiff, Nat.add_left_cancel_iff, Nat.add_eq_left, Nat.left_eq_add, ↓reduceIte, true_and, and_true, Int32.reduceToNatClampNeg, zin_O, zi_ltO, zi_leO, zi_Olt, zi_Ole, zi_eqO, Nat.not_lt_zero, Nat.zero_le, List.append_nil, zrn_n, zrn_s, List.cons_append, List.nil_append, zlg_lt, zlg_gt, zlg_le, zlg_ge, zlg_eq, Int32.toInt_toInt64, Int64.reduceToInt, zw_zw, zw_sw1, zw_sw2, zw_sw3, zw_sw4, zw_sw5, zw_sw6, zw_sw7, ne_eq, zi_in, zi_cl, zi_le, zi_lt, zi_eq, zi_neg, zi_0le, zb_0, if_true, if_false, eq_self, zb_T, zb_F, Bool.false_eq_true, zO_eq, zO_ne1, zO_ne2, zO_nn, zi_ne1, zi_ne2, zi_lt1, zi_le1, zi_lt2, zi_le2, Int32.reduceLT, Int32.reduceLE, Nat.reduceLT, Nat.reduceLeDiff, Int32.reduceMul, Int32.reduceAdd, Int32.reduceSub, not_false_eq_true, not_true_eq_false, Int32.reduceToInt, Int.reduceLE, Int.reduceLT, Int.reduceNeg, ite_self, E_X10_redo, R_X10_redo, SHF, PF, c3, c4]
  · obtain ⟨w, m, e1, e2, e3, e4, e5, e6, e7, e8, e9⟩ := c7 i (by omega)
    have n0 : ¬ b ≤ i := by omega
    have n1 : i < b := by omega
    have i40 : i < 40 := by omega
    have i1 : 4 * i < 160 := by omega
    have i2 : 4 * i + 1 < 160 := by omega
    have i3 : 4 * i + 3 < 160 := by omega
    have it := fun d Q => c_isThere (d := d) (t := t) (Q := Q) hR9 e1 e2
    have mt := fun d Q => m_isThere (d := d) (f := f) (g := g) (t := t) (L := L) (Q := Q) (I := I) (n := n) (k := k) (w := w) (m := m) ht.2.1 ht.2.2.1 hp.2.2.1 e1 e2
    by_cases hv : m < zcl w n k
    · simp only [zb_t hv] at it mt
      obtain ⟨J, run, hJ, rest⟩ := zLay (t := t) hR9 e1 hv e9
      have jo : ∀ a, 33 < a → J a = I a := fun a h => hJ a (by unfold zlS; omega)
      have j54 := jo 54 (by omega)
      have j80 := jo 80 (by omega)
      have ml := fun d Q => m_lays (d := d) (f := f) (g := g) (t := t) (L := L) (Q := Q) (I := zw J 54 (upd (I 54) 1 (nI (i + 1)))) (n := n) (k := k) (w := w) (m := m) ht.2.2.1 hp.2.2.1 e1 hv (I 84 i)
      have ev : (if w = 2 then zmin (I 84 i) (I 85 m) else I 84 i) = zlv I w m (I 84 i) := by
        unfold zlv
        by_cases h2 : w = 2
        · subst h2
          rw [if_pos rfl, if_pos rfl, (ht.2.2.2.2 m hv).1]
        · rw [if_neg h2, if_neg h2]
      rw [zw_n (show 85 ≠ 54 by decide), jo 85 (by omega), ev, zw_n (show 81 ≠ 54 by decide), jo 81 (by omega)] at ml
      have j82 := jo 82 (by omega)
      have j84 := jo 84 (by omega)
      have mt2 : ∀ d Q, zWM (d + 1) 126 [.ref 80, .int (nI (zcb w + m))] (zSH, zw J 54 (upd (I 54) 1 (nI (i + 1))), L, zP f g t) Q = Q (some (.int 1)) (zSH, zw J 54 (upd (I 54) 1 (nI (i + 1))), L, zP f g t) := fun d Q => by
        have q := m_isThere (d := d) (f := f) (g := g) (t := t) (L := L) (Q := Q) (I := zw J 54 (upd (I 54) 1 (nI (i + 1)))) (n := n) (k := k) (w := w) (m := m) (by rw [zw_n (by decide), j80]; exact ht.2.1) ht.2.2.1 hp.2.2.1 e1 e2
        rw [zb_t hv] at q
        exact q
      obtain ⟨x1, x2, x3, x4, x5, x6, x7, x8, x9, x10, x11⟩ := rest (zw (zw (zw J 54 (upd (I 54) 1 (nI (i + 1)))) 81 (upd (I 81) (zcb w + m) (zlv I w m (I 84 i)))) 80 (upd (I 80) 5 (nI (i + 1)))) (fun a h1 h2 h3 => by rw [zw_n (by omega), zw_n (by omega), zw_n h1]) rfl (fun q h1 h2 => by
        show upd (I 80) 5 (nI (i + 1)) q = _
        exact zup_lt h2)
      refine zOp_m (.int (nI b - nI (i + 1))) (zw J 54 (upd (I 54) 1 (nI (i + 1)))) (zw (zw (zw J 54 (upd (I 54) 1 (nI (i + 1)))) 81 (upd (I 81) (zcb w + m) (zlv I w m (I 84 i)))) 80 (upd (I 80) 5 (nI (i + 1)))) (fun d Q => ?_) (fun d Q => ?_) ⟨law, n, k, i + 1, b, z, bb, hfg, x1, x2, x3, x4, x5, ⟨rfl, c2, rfl, by show upd (I 80) 5 (nI (i + 1)) 4 = nI b; exact c4, by omega, c6, fun j hj => ?_⟩, x6, x7, x8, x9, x10, x11⟩
      · simp (disch := first | assumption | rfl | omega | decide | exact zb_01 _) only [zabs_e, zmax_e, zmin_e, zrf_s, zpush_s, zpush_n, zw_app, upd_app, updL_app, Nat.reduceEqDiff, Nat.add_left_cancel_iff, Nat.add_eq_left, Nat.left_eq_add, ↓reduceIte, true_and, and_true, Int32.reduceToNatClampNeg, zin_O, zi_ltO, zi_leO, zi_Olt, zi_Ole, zi_eqO, Nat.not_lt_zero, Nat.zero_le, List.append_nil, zrn_n, zrn_s, List.cons_append, List.nil_append, zlg_lt, zlg_gt, zlg_le, zlg_ge, zlg_eq, Int32.toInt_toInt64, Int64.reduceToInt, zw_zw, zw_sw1, zw_sw2, zw_sw3, zw_sw4, zw_sw5, zw_sw6, zw_sw7, ne_eq, zi_in, zi_cl, zi_le, zi_lt, zi_eq, zi_neg, zi_0le, zb_0, if_true, if_false, eq_self, zb_T, zb_F, Bool.false_eq_true, zO_eq, zO_ne1, zO_ne2, zO_nn, zi_ne1, zi_ne2, zi_lt1, zi_le1, zi_lt2, zi_le2, Int32.reduceLT, Int32.reduceLE, Nat.reduceLT, Nat.reduceLeDiff, Int32.reduceMul, Int32.reduceAdd, Int32.reduceSub, not_false_eq_true, not_true_eq_false, Int32.reduceToInt, Int.reduceLE, Int.reduceLT, Int.reduceNeg, ite_self, E_X9_redo, R_X9_redo, E_X1_number, R_X1_number, E_X1_what, R_X1_what, E_X1_after, R_X1_after, SHF, PF, c1, c2, n0, n1, zi_m4, zi_s, zi_p3, i1, i2, i3, e3, e4, e7, it, run, j54]
      · simp (disch := first | assumption | rfl | omega | decide | exact zb_01 _) only [zabs_e, zmax_e, zmin_e, zrf_s, zpush_s, zpush_n, zw_app, upd_app, updL_app, Nat.reduceEqDiff, Nat.add_left_cancel_iff, Nat.add_eq_left, Nat.left_eq_add, ↓reduceIte, true_and, and_true, Int32.reduceToNatClampNeg, zin_O, zi_ltO, zi_leO, zi_Olt, zi_Ole, zi_eqO, Nat.not_lt_zero, Nat.zero_le, List.append_nil, zrn_n, zrn_s, List.cons_append, List.nil_append, zlg_lt, zlg_gt, zlg_le, zlg_ge, zlg_eq, Int32.toInt_toInt64, Int64.reduceToInt, zw_zw, zw_sw1, zw_sw2, zw_sw3, zw_sw4, zw_sw5, zw_sw6, zw_sw7, ne_eq, zi_in, zi_cl, zi_le, zi_lt, zi_eq, zi_neg, zi_0le, zb_0, if_true, if_false, eq_self, zb_T, zb_F, Bool.false_eq_true, zO_eq, zO_ne1, zO_ne2, zO_nn, zi_ne1, zi_ne2, zi_lt1, zi_le1, zi_lt2, zi_le2, Int32.reduceLT, Int32.reduceLE, Nat.reduceLT, Nat.reduceLeDiff, Int32.reduceMul, Int32.reduceAdd, Int32.reduceSub, not_false_eq_true, not_true_eq_false, Int32.reduceToInt, Int.reduceLE, Int.reduceLT, Int.reduceNeg, ite_self, E_X10_redo, R_X10_redo, SHF, PF, j80, c3, c4, hib, i40, j82, e5, mt2, j84, ml, zi_s]
      · have o : ∀ q, (q = 55 ∨ q = 82 ∨ q = 83 ∨ q = 84) → zw (zw (zw J 54 (upd (I 54) 1 (nI (i + 1)))) 81 (upd (I 81) (zcb w + m) (zlv I w m (I 84 i)))) 80 (upd (I 80) 5 (nI (i + 1))) q = I q := fun q h => by
          rw [zw_n (by omega), zw_n (by omega), zw_n (by omega)]
          exact jo q (by omega)
        rw [o 55 (by omega), o 82 (by omega), o 83 (by omega), o 84 (by omega)]
        exact c7 j hj
    · simp only [zb_f hv] at it mt
      refine zOp_s hR (.int (-5)) (fun d Q => ?_) (fun d Q => ?_)
      · simp (disch := first | assumption | rfl | omega | decide | exact zb_01 _) only [zabs_e, zmax_e, zmin_e, zrf_s, zpush_s, zpush_n, zw_app, upd_app, updL_app, Nat.reduceEqDiff, Nat.add_left_cancel_iff, Nat.add_eq_left, Nat.left_eq_add, ↓reduceIte, true_and, and_true, Int32.reduceToNatClampNeg, zin_O, zi_ltO, zi_leO, zi_Olt, zi_Ole, zi_eqO, Nat.not_lt_zero, Nat.zero_le, List.append_nil, zrn_n, zrn_s, List.cons_append, List.nil_append, zlg_lt, zlg_gt, zlg_le, zlg_ge, zlg_eq, Int32.toInt_toInt64, Int64.reduceToInt, zw_zw, zw_sw1, zw_sw2, zw_sw3, zw_sw4, zw_sw5, zw_sw6, zw_sw7, ne_eq, zi_in, zi_cl, zi_le, zi_lt, zi_eq, zi_neg, zi_0le, zb_0, if_true, if_false, eq_self, zb_T, zb_F, Bool.false_eq_true, zO_eq, zO_ne1, zO_ne2, zO_nn, zi_ne1, zi_ne2, zi_lt1, zi_le1, zi_lt2, zi_le2, Int32.reduceLT, Int32.reduceLE, Nat.reduceLT, Nat.reduceLeDiff, Int32.reduceMul, Int32.reduceAdd, Int32.reduceSub, not_false_eq_true, not_true_eq_false, Int32.reduceToInt, Int.reduceLE, Int.reduceLT, Int.reduceNeg, ite_self, E_X9_redo, R_X9_redo, E_X1_number, R_X1_number, E_X1_what, R_X1_what, SHF, PF, c1, c2, n0, n1, zi_m4, zi_s, i1, i2, e3, e4, it]
      · simp (disch := first | assumption | rfl | omega | decide | exact zb_01 _) only [zabs_e, zmax_e, zmin_e, zrf_s, zpush_s, zpush_n, zw_app, upd_app, updL_app, Nat.reduceEqDiff, Nat.add_left_cancel_iff, Nat.add_eq_left, Nat.left_eq_add, ↓reduceIte, true_and, and_true, Int32.reduceToNatClampNeg, zin_O, zi_ltO, zi_leO, zi_Olt, zi_Ole, zi_eqO, Nat.not_lt_zero, Nat.zero_le, List.append_nil, zrn_n, zrn_s, List.cons_append, List.nil_append, zlg_lt, zlg_gt, zlg_le, zlg_ge, zlg_eq, Int32.toInt_toInt64, Int64.reduceToInt, zw_zw, zw_sw1, zw_sw2, zw_sw3, zw_sw4, zw_sw5, zw_sw6, zw_sw7, ne_eq, zi_in, zi_cl, zi_le, zi_lt, zi_eq, zi_neg, zi_0le, zb_0, if_true, if_false, eq_self, zb_T, zb_F, Bool.false_eq_true, zO_eq, zO_ne1, zO_ne2, zO_nn, zi_ne1, zi_ne2, zi_lt1, zi_le1, zi_lt2, zi_le2, Int32.reduceLT, Int32.reduceLE, Nat.reduceLT, Nat.reduceLeDiff, Int32.reduceMul, Int32.reduceAdd, Int32.reduceSub, not_false_eq_true, not_true_eq_false, Int32.reduceToInt, Int.reduceLE, Int.reduceLT, Int.reduceNeg, ite_self, E_X10_redo, R_X10_redo, SHF, PF, c3, c4, hib, i40, e5, mt]
end UNDO
