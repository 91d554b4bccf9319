section MWORK
variable {d f g N : Nat} {t : Option Nat} {I : Nat → Nat → Int32} {L : Nat → Nat → Int64} {s : Nat → Int32} {Q : Option Value → zMm → Prop}
theorem m_wkC1 (hR : zmR I s N) (l1 l2 l3 l6 l7 : Value) (v : Int32) {p q : Nat} (o : Int32) (hq : q < 2147483648) : zWp (d + 2) zi_156 none 96 [.ref 80, l1, l2, l3, .int v, .int 1, l6, l7] [] (zSH, zw I 80 (zAc (I 80) (p) (nI q) (o)), L, zP f g t) Q = Q (some (.int v)) (zSH, zw I 80 (zAc (I 80) (p) (nI q) (o)), L, zP f g t) := by
  simp (disch := first | assumption | rfl | omega | decide | exact zb_01 _) only [zabs_e, zmax_e, zmin_e, zrf_s, zpush_s, zpush_n, zw_app, upd_app, updL_app, Nat.reduceEqDiff, Nat.add_left_cancel_iff, Nat.add_eq_left, Nat.left_eq_add, ↓reduceIte, true_and, and_true, Int32.reduceToNatClampNeg, zin_O, zi_ltO, zi_leO, zi_Olt, zi_Ole, zi_eqO, Nat.not_lt_zero, Nat.zero_le, List.append_nil, zrn_n, zrn_s, List.cons_append, List.nil_append, zlg_lt, zlg_gt, zlg_le, zlg_ge, zlg_eq, Int32.toInt_toInt64, Int64.reduceToInt, zw_zw, zw_sw1, zw_sw2, zw_sw3, zw_sw4, zw_sw5, zw_sw6, zw_sw7, ne_eq, zi_in, zi_cl, zi_le, zi_lt, zi_eq, zi_neg, zi_0le, zb_0, if_true, if_false, eq_self, zb_T, zb_F, Bool.false_eq_true, zO_eq, zO_ne1, zO_ne2, zO_nn, zi_ne1, zi_ne2, zi_lt1, zi_le1, zi_lt2, zi_le2, Int32.reduceLT, Int32.reduceLE, Nat.reduceLT, Nat.reduceLeDiff, Int32.reduceMul, Int32.reduceAdd, Int32.reduceSub, not_false_eq_true, not_true_eq_false, R_X10_workOut, SHF, PF, m_takes1, H_X10_workOut_33, zAc_app]
theorem m_wkC0 (hR : zmR I s N) (l1 l2 l3 l6 l7 : Value) (v : Int32) {p : Nat} (o : Int32) (hp : p ≤ N) (h : ¬ zah s N p = 59) : zWp (d + 2) zi_156 none 96 [.ref 80, l1, l2, l3, .int v, .int 1, l6, l7] [] (zSH, zw I 80 (zAc (I 80) (p) (-1) (o)), L, zP f g t) Q = if p < N then Q (some (.int 0)) (zSH, zw I 80 (zAc (I 80) (p) (nI p) (o)), L, zP f g t) else Q (some (.int v)) (zSH, zw I 80 (zAc (I 80) (p) (-1) (o)), L, zP f g t) := by
  have h120 := hR.2.1
  have h1 := hR.1
  simp (disch := first | assumption | rfl | omega | decide | exact zb_01 _) only [zabs_e, zmax_e, zmin_e, zrf_s, zpush_s, zpush_n, zw_app, upd_app, updL_app, Nat.reduceEqDiff, Nat.add_left_cancel_iff, Nat.add_eq_left, Nat.left_eq_add, ↓reduceIte, true_and, and_true, Int32.reduceToNatClampNeg, zin_O, zi_ltO, zi_leO, zi_Olt, zi_Ole, zi_eqO, Nat.not_lt_zero, Nat.zero_le, List.append_nil, zrn_n, zrn_s, List.cons_append, List.nil_append, zlg_lt, zlg_gt, zlg_le, zlg_ge, zlg_eq, Int32.toInt_toInt64, Int64.reduceToInt, zw_zw, zw_sw1, zw_sw2, zw_sw3, zw_sw4, zw_sw5, zw_sw6, zw_sw7, ne_eq, zi_in, zi_cl, zi_le, zi_lt, zi_eq, zi_neg, zi_0le, zb_0, if_true, if_false, eq_self, zb_T, zb_F, Bool.false_eq_true, zO_eq, zO_ne1, zO_ne2, zO_nn, zi_ne1, zi_ne2, zi_lt1, zi_le1, zi_lt2, zi_le2, Int32.reduceLT, Int32.reduceLE, Nat.reduceLT, Nat.reduceLeDiff, Int32.reduceMul, Int32.reduceAdd, Int32.reduceSub, not_false_eq_true, not_true_eq_false, R_X10_workOut, SHF, PF, m_takes0 hR, h, H_X10_workOut_33, zAc_app, Int32.reduceLE, h1, m_wrong0]
  by_cases h : p < N
  · rw [if_pos h, if_neg (by omega)]
  · rw [if_neg h, if_pos (by omega)]
/-- a LINE -/
theorem zbT : zb (true = true) = 1 := rfl
theorem zbF : zb (false = true) = 0 := rfl
theorem m_wkL (hR : zmR I s N) {p : Nat} (hp : p ≤ N) (gv : Bool) (v : Int32) : (((zline (zah s N) (I 90) p).1 = true → ∃ l6 l7 : Int32, ∀ d l1 l2 l6' l7' Q, zWp (d + 44) zi_156 none 33 [.ref 80, .int l1, .int l2, .int (zb (gv = true)), .int v, .int 1, l6', l7'] [] (zSH, zw I 80 (zAc (I 80) (p) (-1) (0)), L, zP f g t) Q = zWp (d + 44) zi_156 none 96 [.ref 80, .int l1, .int l2, .int (zb ((gv || (zline (zah s N) (I 90) p).2.2.2.1) = true)), .int (if (zline (zah s N) (I 90) p).2.2.2.1 = true ∧ gv = false then (zline (zah s N) (I 90) p).2.2.2.2 else v), .int 1, .int l6, .int l7] [] (zSH, zw I 80 (zAc (I 80) ((zline (zah s N) (I 90) p).2.1) (-1) (0)), L, zP f g t) Q)) ∧ (¬ (zline (zah s N) (I 90) p).1 = true → ∃ l6 l7 o : Int32, ∀ d l1 l2 l6' l7' Q, zWp (d + 44) zi_156 none 33 [.ref 80, .int l1, .int l2, .int (zb (gv = true)), .int v, .int 1, l6', l7'] [] (zSH, zw I 80 (zAc (I 80) (p) (-1) (0)), L, zP f g t) Q = zWp (d + 44) zi_156 none 96 [.ref 80, .int l1, .int l2, .int (zb (gv = true)), .int v, .int 1, .int l6, .int l7] [] (zSH, zw I 80 (zAc (I 80) ((zline (zah s N) (I 90) p).2.1) (nI (zline (zah s N) (I 90) p).2.1) (o)), L, zP f g t) Q) := by
  have h120 := hR.2.1
  have hB := zall_bd (s := s) (nm := I 90) (N := N)
  have hO := zall_oo (s := s) (nm := I 90) (N := N)
  have hB1 := hB p hp
  have q1 := fun d Q => m_all (f := f) (g := g) (t := t) (L := L) hR d p Q hp
  unfold zline
  by_cases h1 : (zall (zah s N) (I 90) p).1 = true
  · have f1 : zft (zall (zah s N) (I 90) p) = -1 := if_pos h1
    simp only [f1, hO _ h1] at q1
    rw [if_pos h1]
    by_cases h2 : zah s N (zall (zah s N) (I 90) p).2.1 = 63
    · have hp2 := zah_lt (fun z => absurd (z.symm.trans h2) (by decide))
      have hB2 := hB ((zall (zah s N) (I 90) p).2.1 + 1) hp2
      have q2 := fun d Q => m_all (f := f) (g := g) (t := t) (L := L) hR d ((zall (zah s N) (I 90) p).2.1 + 1) Q hp2
      rw [if_pos h2]
      by_cases h3 : (zall (zah s N) (I 90) ((zall (zah s N) (I 90) p).2.1 + 1)).1 = true
      · have f2 : zft (zall (zah s N) (I 90) ((zall (zah s N) (I 90) p).2.1 + 1)) = -1 := if_pos h3
        simp only [f2, hO _ h3] at q2
        rw [if_pos h3]
        refine ⟨fun _ => ⟨(zall (zah s N) (I 90) ((zall (zah s N) (I 90) p).2.1 + 1)).2.2.2.1, zb (¬ (zall (zah s N) (I 90) p).2.2.2.1 = 0), fun d l1 l2 l6' l7' Q => ?_⟩, fun z => absurd rfl z⟩
        rw [H_X10_workOut_33]
        by_cases w0 : (zall (zah s N) (I 90) p).2.2.2.1 = 0
        · cases gv
          · simp (disch := first | assumption | rfl | omega | decide | exact zb_01 _) only [zabs_e, zmax_e, zmin_e, zrf_s, zpush_s, zpush_n, zw_app, upd_app, updL_app, Nat.reduceEqDiff, Nat.add_left_cancel_iff, Nat.add_eq_left, Nat.left_eq_add, ↓reduceIte, true_and, and_true, Int32.reduceToNatClampNeg, zin_O, zi_ltO, zi_leO, zi_Olt, zi_Ole, zi_eqO, Nat.not_lt_zero, Nat.zero_le, List.append_nil, zrn_n, zrn_s, List.cons_append, List.nil_append, zlg_lt, zlg_gt, zlg_le, zlg_ge, zlg_eq, Int32.toInt_toInt64, Int64.reduceToInt, zw_zw, zw_sw1, zw_sw2, zw_sw3, zw_sw4, zw_sw5, zw_sw6, zw_sw7, ne_eq, zi_in, zi_cl, zi_le, zi_lt, zi_eq, zi_neg, zi_0le, zb_0, if_true, if_false, eq_self, zb_T, zb_F, Bool.false_eq_true, zO_eq, zO_ne1, zO_ne2, zO_nn, zi_ne1, zi_ne2, zi_lt1, zi_le1, zi_lt2, zi_le2, Int32.reduceLT, Int32.reduceLE, Nat.reduceLT, Nat.reduceLeDiff, Int32.reduceMul, Int32.reduceAdd, Int32.reduceSub, not_false_eq_true, not_true_eq_false, R_X10_workOut, SHF, PF, q1, m_takes0 hR, h2, q2, w0, zAc_app, Int32.reduceLE, zb_t, zb_f, decide_false, decide_true, Bool.or_false, Bool.false_or, Bool.true_or, Bool.or_true, and_self, false_and, and_false, zbF, zbT, Bool.true_eq_false]
          · simp (disch := first | assumption | rfl | omega | decide | exact zb_01 _) only [zabs_e, zmax_e, zmin_e, zrf_s, zpush_s, zpush_n, zw_app, upd_app, updL_app, Nat.reduceEqDiff, Nat.add_left_cancel_iff, Nat.add_eq_left, Nat.left_eq_add, ↓reduceIte, true_and, and_true, Int32.reduceToNatClampNeg, zin_O, zi_ltO, zi_leO, zi_Olt, zi_Ole, zi_eqO, Nat.not_lt_zero, Nat.zero_le, List.append_nil, zrn_n, zrn_s, List.cons_append, List.nil_append, zlg_lt, zlg_gt, zlg_le, zlg_ge, zlg_eq, Int32.toInt_toInt64, Int64.reduceToInt, zw_zw, zw_sw1, zw_sw2, zw_sw3, zw_sw4, zw_sw5, zw_sw6, zw_sw7, ne_eq, zi_in, zi_cl, zi_le, zi_lt, zi_eq, zi_neg, zi_0le, zb_0, if_true, if_false, eq_self, zb_T, zb_F, Bool.false_eq_true, zO_eq, zO_ne1, zO_ne2, zO_nn, zi_ne1, zi_ne2, zi_lt1, zi_le1, zi_lt2, zi_le2, Int32.reduceLT, Int32.reduceLE, Nat.reduceLT, Nat.reduceLeDiff, Int32.reduceMul, Int32.reduceAdd, Int32.reduceSub, not_false_eq_true, not_true_eq_false, R_X10_workOut, SHF, PF, q1, m_takes0 hR, h2, q2, w0, zAc_app, Int32.reduceLE, zb_t, zb_f, decide_false, decide_true, Bool.or_false, Bool.false_or, Bool.true_or, Bool.or_true, and_self, false_and, and_false, zbF, zbT, Bool.true_eq_false]
        · cases gv
          · simp (disch := first | assumption | rfl | omega | decide | exact zb_01 _) only [zabs_e, zmax_e, zmin_e, zrf_s, zpush_s, zpush_n, zw_app, upd_app, updL_app, Nat.reduceEqDiff, Nat.add_left_cancel_iff, Nat.add_eq_left, Nat.left_eq_add, ↓reduceIte, true_and, and_true, Int32.reduceToNatClampNeg, zin_O, zi_ltO, zi_leO, zi_Olt, zi_Ole, zi_eqO, Nat.not_lt_zero, Nat.zero_le, List.append_nil, zrn_n, zrn_s, List.cons_append, List.nil_append, zlg_lt, zlg_gt, zlg_le, zlg_ge, zlg_eq, Int32.toInt_toInt64, Int64.reduceToInt, zw_zw, zw_sw1, zw_sw2, zw_sw3, zw_sw4, zw_sw5, zw_sw6, zw_sw7, ne_eq, zi_in, zi_cl, zi_le, zi_lt, zi_eq, zi_neg, zi_0le, zb_0, if_true, if_false, eq_self, zb_T, zb_F, Bool.false_eq_true, zO_eq, zO_ne1, zO_ne2, zO_nn, zi_ne1, zi_ne2, zi_lt1, zi_le1, zi_lt2, zi_le2, Int32.reduceLT, Int32.reduceLE, Nat.reduceLT, Nat.reduceLeDiff, Int32.reduceMul, Int32.reduceAdd, Int32.reduceSub, not_false_eq_true, not_true_eq_false, R_X10_workOut, SHF, PF, q1, m_takes0 hR, h2, q2, w0, zAc_app, Int32.reduceLE, zb_t, zb_f, decide_false, decide_true, Bool.or_false, Bool.false_or, Bool.true_or, Bool.or_true, and_self, false_and, and_false, zbF, zbT, Bool.true_eq_false]
          · simp (disch := first | assumption | rfl | omega | decide | exact zb_01 _) only [zabs_e, zmax_e, zmin_e, zrf_s, zpush_s, zpush_n, zw_app, upd_app, updL_app, Nat.reduceEqDiff, Nat.add_left_cancel_iff, Nat.add_eq_left, Nat.left_eq_add, ↓reduceIte, true_and, and_true, Int32.reduceToNatClampNeg, zin_O, zi_ltO, zi_leO, zi_Olt, zi_Ole, zi_eqO, Nat.not_lt_zero, Nat.zero_le, List.append_nil, zrn_n, zrn_s, List.cons_append, List.nil_append, zlg_lt, zlg_gt, zlg_le, zlg_ge, zlg_eq, Int32.toInt_toInt64, Int64.reduceToInt, zw_zw, zw_sw1, zw_sw2, zw_sw3, zw_sw4, zw_sw5, zw_sw6, zw_sw7, ne_eq, zi_in, zi_cl, zi_le, zi_lt, zi_eq, zi_neg, zi_0le, zb_0, if_true, if_false, eq_self, zb_T, zb_F, Bool.false_eq_true, zO_eq, zO_ne1, zO_ne2, zO_nn, zi_ne1, zi_ne2, zi_lt1, zi_le1, zi_lt2, zi_le2, Int32.reduceLT, Int32.reduceLE, Nat.reduceLT, Nat.reduceLeDiff, Int32.reduceMul, Int32.reduceAdd, Int32.reduceSub, not_false_eq_true, not_true_eq_false, R_X10_workOut, SHF, PF, q1, m_takes0 hR, h2, q2, w0, zAc_app, Int32.reduceLE, zb_t, zb_f, decide_false, decide_true, Bool.or_false, Bool.false_or, Bool.true_or, Bool.or_true, and_self, false_and, and_false, zbF, zbT, Bool.true_eq_false]
      · have f2 : zft (zall (zah s N) (I 90) ((zall (zah s N) (I 90) p).2.1 + 1)) = nI (zall (zah s N) (I 90) ((zall (zah s N) (I 90) p).2.1 + 1)).2.1 := if_neg h3
        simp only [f2] at q2
        rw [if_neg h3]
        refine ⟨fun z => Bool.noConfusion z, fun _ => ⟨(zall (zah s N) (I 90) ((zall (zah s N) (I 90) p).2.1 + 1)).2.2.2.1, zb (¬ (zall (zah s N) (I 90) p).2.2.2.1 = 0), (zall (zah s N) (I 90) ((zall (zah s N) (I 90) p).2.1 + 1)).2.2.2.2, fun d l1 l2 l6' l7' Q => ?_⟩⟩
        rw [H_X10_workOut_33]
        by_cases w0 : (zall (zah s N) (I 90) p).2.2.2.1 = 0
        · simp (disch := first | assumption | rfl | omega | decide | exact zb_01 _) only [zabs_e, zmax_e, zmin_e, zrf_s, zpush_s, zpush_n, zw_app, upd_app, updL_app, Nat.reduceEqDiff, Nat.add_left_cancel_iff, Nat.add_eq_left, Nat.left_eq_add, ↓reduceIte, true_and, and_true, Int32.reduceToNatClampNeg, zin_O, zi_ltO, zi_leO, zi_Olt, zi_Ole, zi_eqO, Nat.not_lt_zero, Nat.zero_le, List.append_nil, zrn_n, zrn_s, List.cons_append, List.nil_append, zlg_lt, zlg_gt, zlg_le, zlg_ge, zlg_eq, Int32.toInt_toInt64, Int64.reduceToInt, zw_zw, zw_sw1, zw_sw2, zw_sw3, zw_sw4, zw_sw5, zw_sw6, zw_sw7, ne_eq, zi_in, zi_cl, zi_le, zi_lt, zi_eq, zi_neg, zi_0le, zb_0, if_true, if_false, eq_self, zb_T, zb_F, Bool.false_eq_true, zO_eq, zO_ne1, zO_ne2, zO_nn, zi_ne1, zi_ne2, zi_lt1, zi_le1, zi_lt2, zi_le2, Int32.reduceLT, Int32.reduceLE, Nat.reduceLT, Nat.reduceLeDiff, Int32.reduceMul, Int32.reduceAdd, Int32.reduceSub, not_false_eq_true, not_true_eq_false, R_X10_workOut, SHF, PF, q1, m_takes0 hR, h2, q2, w0, zAc_app, Int32.reduceLE, zb_t, zb_f, decide_false, decide_true, Bool.or_false, Bool.false_or, Bool.true_or, Bool.or_true, and_self, false_and, and_false, zbF, zbT, Bool.true_eq_false]
        · simp (disch := first | assumption | rfl | omega | decide | exact zb_01 _) only [zabs_e, zmax_e, zmin_e, zrf_s, zpush_s, zpush_n, zw_app, upd_app, updL_app, Nat.reduceEqDiff, Nat.add_left_cancel_iff, Nat.add_eq_left, Nat.left_eq_add, ↓reduceIte, true_and, and_true, Int32.reduceToNatClampNeg, zin_O, zi_ltO, zi_leO, zi_Olt, zi_Ole, zi_eqO, Nat.not_lt_zero, Nat.zero_le, List.append_nil, zrn_n, zrn_s, List.cons_append, List.nil_append, zlg_lt, zlg_gt, zlg_le, zlg_ge, zlg_eq, Int32.toInt_toInt64, Int64.reduceToInt, zw_zw, zw_sw1, zw_sw2, zw_sw3, zw_sw4, zw_sw5, zw_sw6, zw_sw7, ne_eq, zi_in, zi_cl, zi_le, zi_lt, zi_eq, zi_neg, zi_0le, zb_0, if_true, if_false, eq_self, zb_T, zb_F, Bool.false_eq_true, zO_eq, zO_ne1, zO_ne2, zO_nn, zi_ne1, zi_ne2, zi_lt1, zi_le1, zi_lt2, zi_le2, Int32.reduceLT, Int32.reduceLE, Nat.reduceLT, Nat.reduceLeDiff, Int32.reduceMul, Int32.reduceAdd, Int32.reduceSub, not_false_eq_true, not_true_eq_false, R_X10_workOut, SHF, PF, q1, m_takes0 hR, h2, q2, w0, zAc_app, Int32.reduceLE, zb_t, zb_f, decide_false, decide_true, Bool.or_false, Bool.false_or, Bool.true_or, Bool.or_true, and_self, false_and, and_false, zbF, zbT, Bool.true_eq_false]
    · rw [if_neg h2]
      refine ⟨fun _ => ⟨(zall (zah s N) (I 90) p).2.2.2.1, 1, fun d l1 l2 l6' l7' Q => ?_⟩, fun z => absurd rfl z⟩
      rw [H_X10_workOut_33]
      cases gv
      · simp (disch := first | assumption | rfl | omega | decide | exact zb_01 _) only [zabs_e, zmax_e, zmin_e, zrf_s, zpush_s, zpush_n, zw_app, upd_app, updL_app, Nat.reduceEqDiff, Nat.add_left_cancel_iff, Nat.add_eq_left, Nat.left_eq_add, ↓reduceIte, true_and, and_true, Int32.reduceToNatClampNeg, zin_O, zi_ltO, zi_leO, zi_Olt, zi_Ole, zi_eqO, Nat.not_lt_zero, Nat.zero_le, List.append_nil, zrn_n, zrn_s, List.cons_append, List.nil_append, zlg_lt, zlg_gt, zlg_le, zlg_ge, zlg_eq, Int32.toInt_toInt64, Int64.reduceToInt, zw_zw, zw_sw1, zw_sw2, zw_sw3, zw_sw4, zw_sw5, zw_sw6, zw_sw7, ne_eq, zi_in, zi_cl, zi_le, zi_lt, zi_eq, zi_neg, zi_0le, zb_0, if_true, if_false, eq_self, zb_T, zb_F, Bool.false_eq_true, zO_eq, zO_ne1, zO_ne2, zO_nn, zi_ne1, zi_ne2, zi_lt1, zi_le1, zi_lt2, zi_le2, Int32.reduceLT, Int32.reduceLE, Nat.reduceLT, Nat.reduceLeDiff, Int32.reduceMul, Int32.reduceAdd, Int32.reduceSub, not_false_eq_true, not_true_eq_false, R_X10_workOut, SHF, PF, q1, m_takes0 hR, h2, zAc_app, Int32.reduceLE, zb_t, zb_f, decide_false, decide_true, Bool.or_false, Bool.false_or, Bool.true_or, Bool.or_true, and_self, false_and, and_false, zbF, zbT, Bool.true_eq_false]
      · simp (disch := first | assumption | rfl | omega | decide | exact zb_01 _) only [zabs_e, zmax_e, zmin_e, zrf_s, zpush_s, zpush_n, zw_app, upd_app, updL_app, Nat.reduceEqDiff, Nat.add_left_cancel_iff, Nat.add_eq_left, Nat.left_eq_add, ↓reduceIte, true_and, and_true, Int32.reduceToNatClampNeg, zin_O, zi_ltO, zi_leO, zi_Olt, zi_Ole, zi_eqO, Nat.not_lt_zero, Nat.zero_le, List.append_nil, zrn_n, zrn_s, List.cons_append, List.nil_append, zlg_lt, zlg_gt, zlg_le, zlg_ge, zlg_eq, Int32.toInt_toInt64, Int64.reduceToInt, zw_zw, zw_sw1, zw_sw2, zw_sw3, zw_sw4, zw_sw5, zw_sw6, zw_sw7, ne_eq, zi_in, zi_cl, zi_le, zi_lt, zi_eq, zi_neg, zi_0le, zb_0, if_true, if_false, eq_self, zb_T, zb_F, Bool.false_eq_true, zO_eq, zO_ne1, zO_ne2, zO_nn, zi_ne1, zi_ne2, zi_lt1, zi_le1, zi_lt2, zi_le2, Int32.reduceLT, Int32.reduceLE, Nat.reduceLT, Nat.reduceLeDiff, Int32.reduceMul, Int32.reduceAdd, Int32.reduceSub, not_false_eq_true, not_true_eq_false, R_X10_workOut, SHF, PF, q1, m_takes0 hR, h2, zAc_app, Int32.reduceLE, zb_t, zb_f, decide_false, decide_true, Bool.or_false, Bool.false_or, Bool.true_or, Bool.or_true, and_self, false_and, and_false, zbF, zbT, Bool.true_eq_false]
  · have f1 : zft (zall (zah s N) (I 90) p) = nI (zall (zah s N) (I 90) p).2.1 := if_neg h1
    simp only [f1] at q1
    rw [if_neg h1]
    refine ⟨fun z => Bool.noConfusion z, fun _ => ⟨(zall (zah s N) (I 90) p).2.2.2.1, 1, (zall (zah s N) (I 90) p).2.2.2.2, fun d l1 l2 l6' l7' Q => ?_⟩⟩
    rw [H_X10_workOut_33]
    simp (disch := first | assumption | rfl | omega | decide | exact zb_01 _) only [zabs_e, zmax_e, zmin_e, zrf_s, zpush_s, zpush_n, zw_app, upd_app, updL_app, Nat.reduceEqDiff, Nat.add_left_cancel_iff, Nat.add_eq_left, Nat.left_eq_add, ↓reduceIte, true_and, and_true, Int32.reduceToNatClampNeg, zin_O, zi_ltO, zi_leO, zi_Olt, zi_Ole, zi_eqO, Nat.not_lt_zero, Nat.zero_le, List.append_nil, zrn_n, zrn_s, List.cons_append, List.nil_append, zlg_lt, zlg_gt, zlg_le, zlg_ge, zlg_eq, Int32.toInt_toInt64, Int64.reduceToInt, zw_zw, zw_sw1, zw_sw2, zw_sw3, zw_sw4, zw_sw5, zw_sw6, zw_sw7, ne_eq, zi_in, zi_cl, zi_le, zi_lt, zi_eq, zi_neg, zi_0le, zb_0, if_true, if_false, eq_self, zb_T, zb_F, Bool.false_eq_true, zO_eq, zO_ne1, zO_ne2, zO_nn, zi_ne1, zi_ne2, zi_lt1, zi_le1, zi_lt2, zi_le2, Int32.reduceLT, Int32.reduceLE, Nat.reduceLT, Nat.reduceLeDiff, Int32.reduceMul, Int32.reduceAdd, Int32.reduceSub, not_false_eq_true, not_true_eq_false, R_X10_workOut, SHF, PF, q1, m_takes1, zAc_app]
/-- what working out gives -/
abbrev zwv (N : Nat) (r : zQ) : Int32 := if r.1 = true ∧ r.2.1 < N then 0 else r.2.2.2.2
abbrev zwft (N : Nat) (r : zQ) : Int32 := if r.1 = true ∧ r.2.1 = N then -1 else nI r.2.1
theorem m_wkA (hR : zmR I s N) : ∀ k p c gv v, N ≤ p + k → p ≤ N → ∃ o2 : Int32, ∀ d l1 l2 (l6 l7 : Int32) Q, zWp (d + 44) zi_156 none 96 [.ref 80, .int l1, .int l2, .int (zb (gv = true)), .int v, .int 1, .int l6, .int l7] [] (zSH, zw I 80 (zAc (I 80) (p) (-1) (0)), L, zP f g t) Q = Q (some (.int (zwv N (zlines (zah s N) (I 90) k p c gv v)))) (zSH, zw I 80 (zAc (I 80) ((zlines (zah s N) (I 90) k p c gv v).2.1) (zwft N (zlines (zah s N) (I 90) k p c gv v)) (o2)), L, zP f g t)
  | k, p, c, gv, v, hk, hp => by
    have h120 := hR.2.1
    by_cases h1 : zah s N p = 59
    · cases k with
      | zero => exact absurd (h1.symm.trans (zah_end hk)) (by decide)
      | succ k =>
        have hp2 : p + 1 ≤ N := zah_lt (fun z => absurd (z.symm.trans h1) (by decide))
        have hB := zline_bd (s := s) (nm := I 90) (N := N) (p + 1) hp2
        have e := m_wkL (f := f) (g := g) (t := t) (L := L) hR hp2 gv v
        unfold zlines
        rw [if_pos h1]
        by_cases h2 : (zline (zah s N) (I 90) (p + 1)).1 = true
        · obtain ⟨l6, l7, e2⟩ := e.1 h2
          rw [if_pos h2]
          obtain ⟨o2, e3⟩ := m_wkA hR k (zline (zah s N) (I 90) (p + 1)).2.1 (c ++ (zline (zah s N) (I 90) (p + 1)).2.2.1) (gv || (zline (zah s N) (I 90) (p + 1)).2.2.2.1) (if (zline (zah s N) (I 90) (p + 1)).2.2.2.1 = true ∧ gv = false then (zline (zah s N) (I 90) (p + 1)).2.2.2.2 else v) (by omega) hB.2.1
          refine ⟨o2, fun d l1 l2 l6' l7' Q => ?_⟩
          rw [← e3 d l1 l2 l6 l7 Q, ← e2 d l1 l2 (.int l6') (.int l7') Q]
          simp (disch := first | assumption | rfl | omega | decide | exact zb_01 _) only [zabs_e, zmax_e, zmin_e, zrf_s, zpush_s, zpush_n, zw_app, upd_app, updL_app, Nat.reduceEqDiff, Nat.add_left_cancel_iff, Nat.add_eq_left, Nat.left_eq_add, ↓reduceIte, true_and, and_true, Int32.reduceToNatClampNeg, zin_O, zi_ltO, zi_leO, zi_Olt, zi_Ole, zi_eqO, Nat.not_lt_zero, Nat.zero_le, List.append_nil, zrn_n, zrn_s, List.cons_append, List.nil_append, zlg_lt, zlg_gt, zlg_le, zlg_ge, zlg_eq, Int32.toInt_toInt64, Int64.reduceToInt, zw_zw, zw_sw1, zw_sw2, zw_sw3, zw_sw4, zw_sw5, zw_sw6, zw_sw7, ne_eq, zi_in, zi_cl, zi_le, zi_lt, zi_eq, zi_neg, zi_0le, zb_0, if_true, if_false, eq_self, zb_T, zb_F, Bool.false_eq_true, zO_eq, zO_ne1, zO_ne2, zO_nn, zi_ne1, zi_ne2, zi_lt1, zi_le1, zi_lt2, zi_le2, Int32.reduceLT, Int32.reduceLE, Nat.reduceLT, Nat.reduceLeDiff, Int32.reduceMul, Int32.reduceAdd, Int32.reduceSub, not_false_eq_true, not_true_eq_false, R_X10_workOut, SHF, PF, m_takes0 hR, h1]
        · obtain ⟨l6, l7, o, e2⟩ := e.2 h2
          rw [if_neg h2]
          refine ⟨o, fun d l1 l2 l6' l7' Q => ?_⟩
          have e4 : zwft N (false, (zline (zah s N) (I 90) (p + 1)).2.1, c ++ (zline (zah s N) (I 90) (p + 1)).2.2.1, gv, v) = nI (zline (zah s N) (I 90) (p + 1)).2.1 := if_neg (fun z => Bool.noConfusion z.1)
          have e5 : zwv N (false, (zline (zah s N) (I 90) (p + 1)).2.1, c ++ (zline (zah s N) (I 90) (p + 1)).2.2.1, gv, v) = v := if_neg (fun z => Bool.noConfusion z.1)
          rw [e4, e5, ← m_wkC1 (d := d + 42) (f := f) (g := g) (t := t) (L := L) (Q := Q) hR (.int l1) (.int l2) (.int (zb (gv = true))) (.int l6) (.int l7) v (p := (zline (zah s N) (I 90) (p + 1)).2.1) (q := (zline (zah s N) (I 90) (p + 1)).2.1) o (by omega)]
          rw [show d + 42 + 2 = d + 44 by omega, ← e2 d l1 l2 (.int l6') (.int l7') Q]
          simp (disch := first | assumption | rfl | omega | decide | exact zb_01 _) only [zabs_e, zmax_e, zmin_e, zrf_s, zpush_s, zpush_n, zw_app, upd_app, updL_app, Nat.reduceEqDiff, Nat.add_left_cancel_iff, Nat.add_eq_left, Nat.left_eq_add, ↓reduceIte, true_and, and_true, Int32.reduceToNatClampNeg, zin_O, zi_ltO, zi_leO, zi_Olt, zi_Ole, zi_eqO, Nat.not_lt_zero, Nat.zero_le, List.append_nil, zrn_n, zrn_s, List.cons_append, List.nil_append, zlg_lt, zlg_gt, zlg_le, zlg_ge, zlg_eq, Int32.toInt_toInt64, Int64.reduceToInt, zw_zw, zw_sw1, zw_sw2, zw_sw3, zw_sw4, zw_sw5, zw_sw6, zw_sw7, ne_eq, zi_in, zi_cl, zi_le, zi_lt, zi_eq, zi_neg, zi_0le, zb_0, if_true, if_false, eq_self, zb_T, zb_F, Bool.false_eq_true, zO_eq, zO_ne1, zO_ne2, zO_nn, zi_ne1, zi_ne2, zi_lt1, zi_le1, zi_lt2, zi_le2, Int32.reduceLT, Int32.reduceLE, Nat.reduceLT, Nat.reduceLeDiff, Int32.reduceMul, Int32.reduceAdd, Int32.reduceSub, not_false_eq_true, not_true_eq_false, R_X10_workOut, SHF, PF, m_takes0 hR, h1]
    · have e : zlines (zah s N) (I 90) k p c gv v = (true, p, c, gv, v) := by
        cases k with
        | zero => rfl
        | succ k => unfold zlines; rw [if_neg h1]
      rw [e]
      refine ⟨0, fun d l1 l2 l6 l7 Q => ?_⟩
      have e2 := m_wkC0 (d := d + 42) (f := f) (g := g) (t := t) (L := L) (Q := Q) hR (.int l1) (.int l2) (.int (zb (gv = true))) (.int l6) (.int l7) v 0 hp h1
      rw [show d + 42 + 2 = d + 44 by omega] at e2
      rw [e2]
      by_cases h3 : p < N
      · rw [if_pos h3, show zwv N (true, p, c, gv, v) = 0 from if_pos ⟨rfl, h3⟩, show zwft N (true, p, c, gv, v) = nI p from if_neg (fun z => by have := z.2; dsimp only at this; omega)]
      · rw [if_neg h3, show zwv N (true, p, c, gv, v) = v from if_neg (fun z => h3 z.2), show zwft N (true, p, c, gv, v) = -1 from if_pos ⟨rfl, by dsimp only; omega⟩]
/-- the reference's cell as it begins to read -/
def zm80 (c : Nat → Int32) (b : Int32) (N : Nat) : Nat → Int32 := upd (upd c 17 b) 19 (nI N)
theorem zm80_s (c : Nat → Int32) (b : Int32) (N : Nat) : upd (upd (upd (upd (upd c 17 b) 18 0) 19 (nI N)) 20 (-1)) 21 0 = zAc (zm80 c b N) 0 (-1) 0 := by
  funext k
  simp only [upd, zAc, zm80]
  by_cases h1 : k = 21
  · subst h1; rfl
  by_cases h2 : k = 20
  · subst h2; rfl
  by_cases h3 : k = 18
  · subst h3; rfl
  simp only [h1, h2, h3, ↓reduceIte]
theorem m_workOut {b : Int32} (hN : N ≤ 120) (hb : (b = -1 ∧ s = I 88) ∨ (b = 0 ∧ s = I 89)) : ∃ o2 : Int32, ∀ d Q, zWM (d + 45) 156 [.ref 80, .int b, .int (nI N)] (zSH, I, L, zP f g t) Q = Q (some (.int (zwv N (ztext (zah s N) (I 90))))) (zSH, zw I 80 (zAc (zm80 (I 80) b N) (ztext (zah s N) (I 90)).2.1 (zwft N (ztext (zah s N) (I 90))) o2), L, zP f g t) := by
  have hR : zmR (zw I 80 (zm80 (I 80) b N)) s N := ⟨rfl, hN, hb⟩
  have e := m_wkL (f := f) (g := g) (t := t) (L := L) hR (Nat.zero_le N) false 0
  have hB := zline_bd (s := s) (nm := I 90) (N := N) 0 (Nat.zero_le _)
  have n1 : (zw I 80 (zm80 (I 80) b N)) 90 = I 90 := rfl
  have n2 : (zw I 80 (zm80 (I 80) b N)) 80 = zm80 (I 80) b N := rfl
  simp only [n1, n2, zw_zw] at e
  unfold ztext
  by_cases h2 : (zline (zah s N) (I 90) 0).1 = true
  · obtain ⟨l6, l7, e2⟩ := e.1 h2
    rw [if_pos h2]
    obtain ⟨o2, e3⟩ := m_wkA (f := f) (g := g) (t := t) (L := L) hR 120 (zline (zah s N) (I 90) 0).2.1 (zline (zah s N) (I 90) 0).2.2.1 (zline (zah s N) (I 90) 0).2.2.2.1 (if (zline (zah s N) (I 90) 0).2.2.2.1 = true then (zline (zah s N) (I 90) 0).2.2.2.2 else 0) (by omega) hB.2.1
    simp only [n1, n2, zw_zw] at e3
    refine ⟨o2, fun d Q => ?_⟩
    rw [← e3 d b (nI N) l6 l7 Q]
    have e4 := e2 d b (nI N) (.retAddr 0) (.retAddr 0) Q
    simp only [Bool.false_or, and_true] at e4
    rw [← e4]
    simp (disch := first | assumption | rfl | omega | decide | exact zb_01 _) only [zabs_e, zmax_e, zmin_e, zrf_s, zpush_s, zpush_n, zw_app, upd_app, updL_app, Nat.reduceEqDiff, Nat.add_left_cancel_iff, Nat.add_eq_left, Nat.left_eq_add, ↓reduceIte, true_and, and_true, Int32.reduceToNatClampNeg, zin_O, zi_ltO, zi_leO, zi_Olt, zi_Ole, zi_eqO, Nat.not_lt_zero, Nat.zero_le, List.append_nil, zrn_n, zrn_s, List.cons_append, List.nil_append, zlg_lt, zlg_gt, zlg_le, zlg_ge, zlg_eq, Int32.toInt_toInt64, Int64.reduceToInt, zw_zw, zw_sw1, zw_sw2, zw_sw3, zw_sw4, zw_sw5, zw_sw6, zw_sw7, ne_eq, zi_in, zi_cl, zi_le, zi_lt, zi_eq, zi_neg, zi_0le, zb_0, if_true, if_false, eq_self, zb_T, zb_F, Bool.false_eq_true, zO_eq, zO_ne1, zO_ne2, zO_nn, zi_ne1, zi_ne2, zi_lt1, zi_le1, zi_lt2, zi_le2, Int32.reduceLT, Int32.reduceLE, Nat.reduceLT, Nat.reduceLeDiff, Int32.reduceMul, Int32.reduceAdd, Int32.reduceSub, not_false_eq_true, not_true_eq_false, E_X10_workOut, R_X10_workOut, SHF, PF, zm80_s]
    try rfl
  · obtain ⟨l6, l7, o, e2⟩ := e.2 h2
    rw [if_neg h2]
    refine ⟨o, fun d Q => ?_⟩
    have e4 : zwft N (false, (zline (zah s N) (I 90) 0).2.1, (zline (zah s N) (I 90) 0).2.2.1, false, 0) = nI (zline (zah s N) (I 90) 0).2.1 := if_neg (fun z => Bool.noConfusion z.1)
    have e5 : zwv N (false, (zline (zah s N) (I 90) 0).2.1, (zline (zah s N) (I 90) 0).2.2.1, false, 0) = 0 := if_neg (fun z => Bool.noConfusion z.1)
    have e6 := m_wkC1 (d := d + 42) (f := f) (g := g) (t := t) (L := L) (Q := Q) hR (.int b) (.int (nI N)) (.int (zb (false = true))) (.int l6) (.int l7) 0 (p := (zline (zah s N) (I 90) 0).2.1) (q := (zline (zah s N) (I 90) 0).2.1) o (by omega)
    simp only [n1, n2, zw_zw] at e6
    rw [e4, e5, ← e6]
    have e7 := e2 d b (nI N) (.retAddr 0) (.retAddr 0) Q
    rw [show d + 42 + 2 = d + 44 by omega, ← e7]
    simp (disch := first | assumption | rfl | omega | decide | exact zb_01 _) only [zabs_e, zmax_e, zmin_e, zrf_s, zpush_s, zpush_n, zw_app, upd_app, updL_app, Nat.reduceEqDiff, Nat.add_left_cancel_iff, Nat.add_eq_left, Nat.left_eq_add, ↓reduceIte, true_and, and_true, Int32.reduceToNatClampNeg, zin_O, zi_ltO, zi_leO, zi_Olt, zi_Ole, zi_eqO, Nat.not_lt_zero, Nat.zero_le, List.append_nil, zrn_n, zrn_s, List.cons_append, List.nil_append, zlg_lt, zlg_gt, zlg_le, zlg_ge, zlg_eq, Int32.toInt_toInt64, Int64.reduceToInt, zw_zw, zw_sw1, zw_sw2, zw_sw3, zw_sw4, zw_sw5, zw_sw6, zw_sw7, ne_eq, zi_in, zi_cl, zi_le, zi_lt, zi_eq, zi_neg, zi_0le, zb_0, if_true, if_false, eq_self, zb_T, zb_F, Bool.false_eq_true, zO_eq, zO_ne1, zO_ne2, zO_nn, zi_ne1, zi_ne2, zi_lt1, zi_le1, zi_lt2, zi_le2, Int32.reduceLT, Int32.reduceLE, Nat.reduceLT, Nat.reduceLeDiff, Int32.reduceMul, Int32.reduceAdd, Int32.reduceSub, not_false_eq_true, not_true_eq_false, E_X10_workOut, R_X10_workOut, SHF, PF, zm80_s]
    try rfl
end MWORK
