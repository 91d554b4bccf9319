section MONE
variable {d f g N : Nat} {t : Option Nat} {I : Nat → Nat → Int32} {L : Nat → Nat → Int64} {s : Nat → Int32} {Q : Option Value → zMm → Prop}
theorem zMC_exp (hR : zmR I s N) {K : Nat} {o : Int32} {X : Nat → zR} (hK : 2 ≤ K) (hB : zBd N X) (hO : zOo o X) (hX : zMC N f g t I L 155 K o X) : zMC N f g t I L 149 (K + 5) o (zexp (zah s N) X) := by
  have q4 := zMC_product hR hK hB hO hX
  have b4 : zBd N (zlev (zah s N) 4 120 X) := zlev_bd (by decide) hB
  have o4 : zOo o (zlev (zah s N) 4 120 X) := zlev_oo hO
  have q3 := zMC_sums hR (by omega) b4 o4 q4
  have b3 : zBd N (zlev (zah s N) 3 120 (zlev (zah s N) 4 120 X)) := zlev_bd (by decide) b4
  have o3 : zOo o (zlev (zah s N) 3 120 (zlev (zah s N) 4 120 X)) := zlev_oo o4
  have q2 := zMC_compared hR (by omega) b3 o3 q3
  have b2 : zBd N (zlev (zah s N) 2 1 (zlev (zah s N) 3 120 (zlev (zah s N) 4 120 X))) := zlev_bd (by decide) b3
  have o2 : zOo o (zlev (zah s N) 2 1 (zlev (zah s N) 3 120 (zlev (zah s N) 4 120 X))) := zlev_oo o3
  have q1 := zMC_both hR (by omega) b2 o2 q2
  have b1 : zBd N (zlev (zah s N) 1 120 (zlev (zah s N) 2 1 (zlev (zah s N) 3 120 (zlev (zah s N) 4 120 X)))) := zlev_bd (by decide) b2
  have o1 : zOo o (zlev (zah s N) 1 120 (zlev (zah s N) 2 1 (zlev (zah s N) 3 120 (zlev (zah s N) 4 120 X)))) := zlev_oo o2
  exact zMC_either hR (by omega) b1 o1 q1
theorem m_nameOf (x : Int32) (h : zMm) : zWM (d + 1) 154 [.int x] h Q = Q (some (.int (zmn x))) h := by
  rw [E_X10_nameOf, R_X10_nameOf.1, R_X10_nameOf.2.1]
  unfold zmn znm
  by_cases h1 : x = 100
  · subst h1; simp (disch := first | assumption | rfl | omega | decide | exact zb_01 _) only [R_X10_nameOf, if_true, zO_eq, zO_ne1, zO_ne2, Nat.reduceEqDiff, if_false, ↓reduceIte]
  by_cases h2 : x = 102
  · subst h2; simp (disch := first | assumption | rfl | omega | decide | exact zb_01 _) only [R_X10_nameOf, if_true, zO_eq, zO_ne1, zO_ne2, Nat.reduceEqDiff, if_false, ↓reduceIte]
  by_cases h3 : x = 107
  · subst h3; simp (disch := first | assumption | rfl | omega | decide | exact zb_01 _) only [R_X10_nameOf, if_true, zO_eq, zO_ne1, zO_ne2, Nat.reduceEqDiff, if_false, ↓reduceIte]
  by_cases h4 : x = 109
  · subst h4; simp (disch := first | assumption | rfl | omega | decide | exact zb_01 _) only [R_X10_nameOf, if_true, zO_eq, zO_ne1, zO_ne2, Nat.reduceEqDiff, if_false, ↓reduceIte]
  by_cases h5 : x = 112
  · subst h5; simp (disch := first | assumption | rfl | omega | decide | exact zb_01 _) only [R_X10_nameOf, if_true, zO_eq, zO_ne1, zO_ne2, Nat.reduceEqDiff, if_false, ↓reduceIte]
  by_cases h6 : x = 119
  · subst h6; simp (disch := first | assumption | rfl | omega | decide | exact zb_01 _) only [R_X10_nameOf, if_true, zO_eq, zO_ne1, zO_ne2, Nat.reduceEqDiff, if_false, ↓reduceIte]
  simp only [h1, h2, h3, h4, h5, h6, ↓reduceIte]
  simp only [R_X10_nameOf, ite_self]
theorem znm_6 (x : Int32) : znm x = -2 ∨ ∃ j, j < 6 ∧ znm x = nI j := by
  unfold znm
  repeat' split
  · exact Or.inr ⟨2, by omega, rfl⟩
  · exact Or.inr ⟨0, by omega, rfl⟩
  · exact Or.inr ⟨3, by omega, rfl⟩
  · exact Or.inr ⟨4, by omega, rfl⟩
  · exact Or.inr ⟨1, by omega, rfl⟩
  · exact Or.inr ⟨5, by omega, rfl⟩
  · exact Or.inl rfl
theorem m_digits (hR : zmR I s N) (o : Int32) (l1 l2 : Int32) : ∀ k p v, k ≤ 3 → p ≤ N → zWp (d + 1) zi_155 none 176 [.ref 80, .int l1, .int l2, .int v, .int (nI (4 - k))] [] (zSH, zw I 80 (zAc (I 80) (p) (-1) (o)), L, zP f g t) Q = Q (some (.int (zdig (zah s N) k p v).2)) (zSH, zw I 80 (zAc (I 80) ((zdig (zah s N) k p v).1) (-1) (o)), L, zP f g t) := by
  have h120 := hR.2.1
  intro k
  induction k with
  | zero =>
    intro p v _ hp
    rw [H_X10_one_176]
    simp (disch := first | assumption | rfl | omega | decide | exact zb_01 _) only [zabs_e, zmax_e, zmin_e, zrf_s, zpush_s, zpush_n, zw_app, upd_app, updL_app, Nat.reduceEqDiff, Nat.add_left_cancel_iff, Nat.add_eq_left, Nat.left_eq_add, ↓reduceIte, true_and, and_true, Int32.reduceToNatClampNeg, zin_O, zi_ltO, zi_leO, zi_Olt, zi_Ole, zi_eqO, Nat.not_lt_zero, Nat.zero_le, List.append_nil, zrn_n, zrn_s, List.cons_append, List.nil_append, zlg_lt, zlg_gt, zlg_le, zlg_ge, zlg_eq, Int32.toInt_toInt64, Int64.reduceToInt, zw_zw, zw_sw1, zw_sw2, zw_sw3, zw_sw4, zw_sw5, zw_sw6, zw_sw7, ne_eq, zi_in, zi_cl, zi_le, zi_lt, zi_eq, zi_neg, zi_0le, zb_0, if_true, if_false, eq_self, zb_T, zb_F, Bool.false_eq_true, zO_eq, zO_ne1, zO_ne2, zO_nn, zi_ne1, zi_ne2, zi_lt1, zi_le1, zi_lt2, zi_le2, Int32.reduceLT, Int32.reduceLE, Nat.reduceLT, Nat.reduceLeDiff, Int32.reduceMul, Int32.reduceAdd, Int32.reduceSub, not_false_eq_true, not_true_eq_false, R_X10_one, SHF, PF, Nat.sub_zero]
    rfl
  | succ k ih =>
    intro p v hk hp
    have e4 : ¬ 4 ≤ 4 - (k + 1) := by omega
    have e5 : 4 - (k + 1) + 1 = 4 - k := by omega
    have e6 : ¬ 4 - (k + 1) = 0 := by omega
    rw [H_X10_one_176]
    unfold zdig
    by_cases h : zdg (zah s N p)
    · have hp2 := zdg_lt h
      have g1 : ¬ zah s N p < 48 := Int32.not_lt.mpr h.1
      have g2 : ¬ 57 < zah s N p := Int32.not_lt.mpr h.2
      simp (disch := first | assumption | rfl | omega | decide | exact zb_01 _) only [zabs_e, zmax_e, zmin_e, zrf_s, zpush_s, zpush_n, zw_app, upd_app, updL_app, Nat.reduceEqDiff, Nat.add_left_cancel_iff, Nat.add_eq_left, Nat.left_eq_add, ↓reduceIte, true_and, and_true, Int32.reduceToNatClampNeg, zin_O, zi_ltO, zi_leO, zi_Olt, zi_Ole, zi_eqO, Nat.not_lt_zero, Nat.zero_le, List.append_nil, zrn_n, zrn_s, List.cons_append, List.nil_append, zlg_lt, zlg_gt, zlg_le, zlg_ge, zlg_eq, Int32.toInt_toInt64, Int64.reduceToInt, zw_zw, zw_sw1, zw_sw2, zw_sw3, zw_sw4, zw_sw5, zw_sw6, zw_sw7, ne_eq, zi_in, zi_cl, zi_le, zi_lt, zi_eq, zi_neg, zi_0le, zb_0, if_true, if_false, eq_self, zb_T, zb_F, Bool.false_eq_true, zO_eq, zO_ne1, zO_ne2, zO_nn, zi_ne1, zi_ne2, zi_lt1, zi_le1, zi_lt2, zi_le2, Int32.reduceLT, Int32.reduceLE, Nat.reduceLT, Nat.reduceLeDiff, Int32.reduceMul, Int32.reduceAdd, Int32.reduceSub, not_false_eq_true, not_true_eq_false, R_X10_one, SHF, PF, e4, e5, zAc_app, zAc_18, m_byteAt hR, zmb_lt hp2, g1, g2, zi_s]
      rw [if_pos h]
      exact ih _ _ (by omega) hp2
    · rw [if_neg h]
      by_cases g1 : zah s N p < 48
      · simp (disch := first | assumption | rfl | omega | decide | exact zb_01 _) only [zabs_e, zmax_e, zmin_e, zrf_s, zpush_s, zpush_n, zw_app, upd_app, updL_app, Nat.reduceEqDiff, Nat.add_left_cancel_iff, Nat.add_eq_left, Nat.left_eq_add, ↓reduceIte, true_and, and_true, Int32.reduceToNatClampNeg, zin_O, zi_ltO, zi_leO, zi_Olt, zi_Ole, zi_eqO, Nat.not_lt_zero, Nat.zero_le, List.append_nil, zrn_n, zrn_s, List.cons_append, List.nil_append, zlg_lt, zlg_gt, zlg_le, zlg_ge, zlg_eq, Int32.toInt_toInt64, Int64.reduceToInt, zw_zw, zw_sw1, zw_sw2, zw_sw3, zw_sw4, zw_sw5, zw_sw6, zw_sw7, ne_eq, zi_in, zi_cl, zi_le, zi_lt, zi_eq, zi_neg, zi_0le, zb_0, if_true, if_false, eq_self, zb_T, zb_F, Bool.false_eq_true, zO_eq, zO_ne1, zO_ne2, zO_nn, zi_ne1, zi_ne2, zi_lt1, zi_le1, zi_lt2, zi_le2, Int32.reduceLT, Int32.reduceLE, Nat.reduceLT, Nat.reduceLeDiff, Int32.reduceMul, Int32.reduceAdd, Int32.reduceSub, not_false_eq_true, not_true_eq_false, R_X10_one, SHF, PF, e4, e5, zAc_app, zAc_18, m_byteAt hR, zmb_lt48, zmb_gt57, g1, zi_s, e6]
      · have g2 : 57 < zah s N p := by
          refine Int32.not_le.mp (fun z => h ⟨Int32.not_lt.mp g1, z⟩)
        simp (disch := first | assumption | rfl | omega | decide | exact zb_01 _) only [zabs_e, zmax_e, zmin_e, zrf_s, zpush_s, zpush_n, zw_app, upd_app, updL_app, Nat.reduceEqDiff, Nat.add_left_cancel_iff, Nat.add_eq_left, Nat.left_eq_add, ↓reduceIte, true_and, and_true, Int32.reduceToNatClampNeg, zin_O, zi_ltO, zi_leO, zi_Olt, zi_Ole, zi_eqO, Nat.not_lt_zero, Nat.zero_le, List.append_nil, zrn_n, zrn_s, List.cons_append, List.nil_append, zlg_lt, zlg_gt, zlg_le, zlg_ge, zlg_eq, Int32.toInt_toInt64, Int64.reduceToInt, zw_zw, zw_sw1, zw_sw2, zw_sw3, zw_sw4, zw_sw5, zw_sw6, zw_sw7, ne_eq, zi_in, zi_cl, zi_le, zi_lt, zi_eq, zi_neg, zi_0le, zb_0, if_true, if_false, eq_self, zb_T, zb_F, Bool.false_eq_true, zO_eq, zO_ne1, zO_ne2, zO_nn, zi_ne1, zi_ne2, zi_lt1, zi_le1, zi_lt2, zi_le2, Int32.reduceLT, Int32.reduceLE, Nat.reduceLT, Nat.reduceLeDiff, Int32.reduceMul, Int32.reduceAdd, Int32.reduceSub, not_false_eq_true, not_true_eq_false, R_X10_one, SHF, PF, e4, e5, zAc_app, zAc_18, m_byteAt hR, zmb_lt48, zmb_gt57, g1, g2, zi_s, e6]
/-- what all operands have in common: digits, names, and what can't be one -/
theorem m_one_a (hR : zmR I s N) {p : Nat} (o : Int32) (hp : p ≤ N) (h40 : ¬ zah s N p = 40) (h33 : ¬ zah s N p = 33) (h45 : ¬ zah s N p = 45) : zWM (d + 2) 155 [.ref 80] (zSH, zw I 80 (zAc (I 80) (p) (-1) (o)), L, zP f g t) Q =
    if zdg (zah s N p) then Q (some (.int (zdig (zah s N) 4 p 0).2)) (zSH, zw I 80 (zAc (I 80) ((zdig (zah s N) 4 p 0).1) (-1) (o)), L, zP f g t)
    else if ¬ znm (zah s N p) = -2 then Q (some (.int (I 90 (znm (zah s N p)).toNatClampNeg))) (zSH, zw I 80 (zAc (I 80) (p + 1) (-1) (o)), L, zP f g t)
    else Q (some (.int 0)) (zSH, zw I 80 (zAc (I 80) (p) (nI p) (o)), L, zP f g t) := by
  have h120 := hR.2.1
  by_cases h : zdg (zah s N p)
  · have hp2 := zdg_lt h
    have g1 : ¬ zah s N p < 48 := Int32.not_lt.mpr h.1
    have g2 : ¬ 57 < zah s N p := Int32.not_lt.mpr h.2
    have g3 : zmn (zah s N p) = -1 := by
      have e : ∀ c : Int32, ¬ (48 ≤ c ∧ c ≤ 57) → ¬ zah s N p = c := fun c hc z => hc (z ▸ h)
      unfold zmn znm
      simp only [e 100 (by decide), e 102 (by decide), e 107 (by decide), e 109 (by decide), e 112 (by decide), e 119 (by decide), ↓reduceIte]
    rw [if_pos h]
    have e := m_digits (d := d) (f := f) (g := g) (t := t) (L := L) (Q := Q) hR o (zah s N p) (-1) 3 (p + 1) (10 * 0 + zah s N p - 48) (by omega) hp2
    rw [show nI (4 - 3) = 1 from rfl] at e
    rw [show zdig (zah s N) 4 p 0 = zdig (zah s N) 3 (p + 1) (10 * 0 + zah s N p - 48) by rw [zdig, if_pos h]]
    rw [← e]
    simp (disch := first | assumption | rfl | omega | decide | exact zb_01 _) only [zabs_e, zmax_e, zmin_e, zrf_s, zpush_s, zpush_n, zw_app, upd_app, updL_app, Nat.reduceEqDiff, Nat.add_left_cancel_iff, Nat.add_eq_left, Nat.left_eq_add, ↓reduceIte, true_and, and_true, Int32.reduceToNatClampNeg, zin_O, zi_ltO, zi_leO, zi_Olt, zi_Ole, zi_eqO, Nat.not_lt_zero, Nat.zero_le, List.append_nil, zrn_n, zrn_s, List.cons_append, List.nil_append, zlg_lt, zlg_gt, zlg_le, zlg_ge, zlg_eq, Int32.toInt_toInt64, Int64.reduceToInt, zw_zw, zw_sw1, zw_sw2, zw_sw3, zw_sw4, zw_sw5, zw_sw6, zw_sw7, ne_eq, zi_in, zi_cl, zi_le, zi_lt, zi_eq, zi_neg, zi_0le, zb_0, if_true, if_false, eq_self, zb_T, zb_F, Bool.false_eq_true, zO_eq, zO_ne1, zO_ne2, zO_nn, zi_ne1, zi_ne2, zi_lt1, zi_le1, zi_lt2, zi_le2, Int32.reduceLT, Int32.reduceLE, Nat.reduceLT, Nat.reduceLeDiff, Int32.reduceMul, Int32.reduceAdd, Int32.reduceSub, not_false_eq_true, not_true_eq_false, E_X10_one, R_X10_one, SHF, PF, zAc_app, zAc_18, m_byteAt hR, zmb_lt hp2, h40, h33, h45, m_nameOf, g3, zi_s, Int32.reduceLT]
    rw [H_X10_one_176]
    simp (disch := first | assumption | rfl | omega | decide | exact zb_01 _) only [zabs_e, zmax_e, zmin_e, zrf_s, zpush_s, zpush_n, zw_app, upd_app, updL_app, Nat.reduceEqDiff, Nat.add_left_cancel_iff, Nat.add_eq_left, Nat.left_eq_add, ↓reduceIte, true_and, and_true, Int32.reduceToNatClampNeg, zin_O, zi_ltO, zi_leO, zi_Olt, zi_Ole, zi_eqO, Nat.not_lt_zero, Nat.zero_le, List.append_nil, zrn_n, zrn_s, List.cons_append, List.nil_append, zlg_lt, zlg_gt, zlg_le, zlg_ge, zlg_eq, Int32.toInt_toInt64, Int64.reduceToInt, zw_zw, zw_sw1, zw_sw2, zw_sw3, zw_sw4, zw_sw5, zw_sw6, zw_sw7, ne_eq, zi_in, zi_cl, zi_le, zi_lt, zi_eq, zi_neg, zi_0le, zb_0, if_true, if_false, eq_self, zb_T, zb_F, Bool.false_eq_true, zO_eq, zO_ne1, zO_ne2, zO_nn, zi_ne1, zi_ne2, zi_lt1, zi_le1, zi_lt2, zi_le2, Int32.reduceLT, Int32.reduceLE, Nat.reduceLT, Nat.reduceLeDiff, Int32.reduceMul, Int32.reduceAdd, Int32.reduceSub, not_false_eq_true, not_true_eq_false, R_X10_one, SHF, PF, zAc_app, zAc_18, m_byteAt hR, zmb_lt hp2, g1, g2, zi_s]
  · rw [if_neg h]
    rcases znm_6 (zah s N p) with h2 | ⟨j, hj, h2⟩
    · have g3 : zmn (zah s N p) = -1 := if_pos h2
      rw [if_neg (not_not_intro h2)]
      simp (disch := first | assumption | rfl | omega | decide | exact zb_01 _) only [zabs_e, zmax_e, zmin_e, zrf_s, zpush_s, zpush_n, zw_app, upd_app, updL_app, Nat.reduceEqDiff, Nat.add_left_cancel_iff, Nat.add_eq_left, Nat.left_eq_add, ↓reduceIte, true_and, and_true, Int32.reduceToNatClampNeg, zin_O, zi_ltO, zi_leO, zi_Olt, zi_Ole, zi_eqO, Nat.not_lt_zero, Nat.zero_le, List.append_nil, zrn_n, zrn_s, List.cons_append, List.nil_append, zlg_lt, zlg_gt, zlg_le, zlg_ge, zlg_eq, Int32.toInt_toInt64, Int64.reduceToInt, zw_zw, zw_sw1, zw_sw2, zw_sw3, zw_sw4, zw_sw5, zw_sw6, zw_sw7, ne_eq, zi_in, zi_cl, zi_le, zi_lt, zi_eq, zi_neg, zi_0le, zb_0, if_true, if_false, eq_self, zb_T, zb_F, Bool.false_eq_true, zO_eq, zO_ne1, zO_ne2, zO_nn, zi_ne1, zi_ne2, zi_lt1, zi_le1, zi_lt2, zi_le2, Int32.reduceLT, Int32.reduceLE, Nat.reduceLT, Nat.reduceLeDiff, Int32.reduceMul, Int32.reduceAdd, Int32.reduceSub, not_false_eq_true, not_true_eq_false, E_X10_one, R_X10_one, SHF, PF, zAc_app, zAc_18, m_byteAt hR, zmb_eq, h40, h33, h45, m_nameOf, zmn_mb, g3, zi_s, Int32.reduceLT]
      rw [H_X10_one_176]
      by_cases g1 : zah s N p < 48
      · simp (disch := first | assumption | rfl | omega | decide | exact zb_01 _) only [zabs_e, zmax_e, zmin_e, zrf_s, zpush_s, zpush_n, zw_app, upd_app, updL_app, Nat.reduceEqDiff, Nat.add_left_cancel_iff, Nat.add_eq_left, Nat.left_eq_add, ↓reduceIte, true_and, and_true, Int32.reduceToNatClampNeg, zin_O, zi_ltO, zi_leO, zi_Olt, zi_Ole, zi_eqO, Nat.not_lt_zero, Nat.zero_le, List.append_nil, zrn_n, zrn_s, List.cons_append, List.nil_append, zlg_lt, zlg_gt, zlg_le, zlg_ge, zlg_eq, Int32.toInt_toInt64, Int64.reduceToInt, zw_zw, zw_sw1, zw_sw2, zw_sw3, zw_sw4, zw_sw5, zw_sw6, zw_sw7, ne_eq, zi_in, zi_cl, zi_le, zi_lt, zi_eq, zi_neg, zi_0le, zb_0, if_true, if_false, eq_self, zb_T, zb_F, Bool.false_eq_true, zO_eq, zO_ne1, zO_ne2, zO_nn, zi_ne1, zi_ne2, zi_lt1, zi_le1, zi_lt2, zi_le2, Int32.reduceLT, Int32.reduceLE, Nat.reduceLT, Nat.reduceLeDiff, Int32.reduceMul, Int32.reduceAdd, Int32.reduceSub, not_false_eq_true, not_true_eq_false, R_X10_one, SHF, PF, zAc_app, zAc_18, m_byteAt hR, zmb_lt48, zmb_gt57, g1, zi_s, m_wrong0]
      · have g2 : 57 < zah s N p := by
          refine Int32.not_le.mp (fun z => h ⟨Int32.not_lt.mp g1, z⟩)
        simp (disch := first | assumption | rfl | omega | decide | exact zb_01 _) only [zabs_e, zmax_e, zmin_e, zrf_s, zpush_s, zpush_n, zw_app, upd_app, updL_app, Nat.reduceEqDiff, Nat.add_left_cancel_iff, Nat.add_eq_left, Nat.left_eq_add, ↓reduceIte, true_and, and_true, Int32.reduceToNatClampNeg, zin_O, zi_ltO, zi_leO, zi_Olt, zi_Ole, zi_eqO, Nat.not_lt_zero, Nat.zero_le, List.append_nil, zrn_n, zrn_s, List.cons_append, List.nil_append, zlg_lt, zlg_gt, zlg_le, zlg_ge, zlg_eq, Int32.toInt_toInt64, Int64.reduceToInt, zw_zw, zw_sw1, zw_sw2, zw_sw3, zw_sw4, zw_sw5, zw_sw6, zw_sw7, ne_eq, zi_in, zi_cl, zi_le, zi_lt, zi_eq, zi_neg, zi_0le, zb_0, if_true, if_false, eq_self, zb_T, zb_F, Bool.false_eq_true, zO_eq, zO_ne1, zO_ne2, zO_nn, zi_ne1, zi_ne2, zi_lt1, zi_le1, zi_lt2, zi_le2, Int32.reduceLT, Int32.reduceLE, Nat.reduceLT, Nat.reduceLeDiff, Int32.reduceMul, Int32.reduceAdd, Int32.reduceSub, not_false_eq_true, not_true_eq_false, R_X10_one, SHF, PF, zAc_app, zAc_18, m_byteAt hR, zmb_lt48, zmb_gt57, g1, g2, zi_s, m_wrong0]
    · have h3 : ¬ znm (zah s N p) = -2 := fun z => by
        rw [z] at h2
        have e := zi_ne1 (n := j) (m := 2) (by omega) (by decide) (by decide)
        exact e ▸ h2.symm
      have g3 : zmn (zah s N p) = nI j := by unfold zmn; rw [if_neg h3, h2]
      rw [if_pos h3, h2]
      simp (disch := first | assumption | rfl | omega | decide | exact zb_01 _) only [zabs_e, zmax_e, zmin_e, zrf_s, zpush_s, zpush_n, zw_app, upd_app, updL_app, Nat.reduceEqDiff, Nat.add_left_cancel_iff, Nat.add_eq_left, Nat.left_eq_add, ↓reduceIte, true_and, and_true, Int32.reduceToNatClampNeg, zin_O, zi_ltO, zi_leO, zi_Olt, zi_Ole, zi_eqO, Nat.not_lt_zero, Nat.zero_le, List.append_nil, zrn_n, zrn_s, List.cons_append, List.nil_append, zlg_lt, zlg_gt, zlg_le, zlg_ge, zlg_eq, Int32.toInt_toInt64, Int64.reduceToInt, zw_zw, zw_sw1, zw_sw2, zw_sw3, zw_sw4, zw_sw5, zw_sw6, zw_sw7, ne_eq, zi_in, zi_cl, zi_le, zi_lt, zi_eq, zi_neg, zi_0le, zb_0, if_true, if_false, eq_self, zb_T, zb_F, Bool.false_eq_true, zO_eq, zO_ne1, zO_ne2, zO_nn, zi_ne1, zi_ne2, zi_lt1, zi_le1, zi_lt2, zi_le2, Int32.reduceLT, Int32.reduceLE, Nat.reduceLT, Nat.reduceLeDiff, Int32.reduceMul, Int32.reduceAdd, Int32.reduceSub, not_false_eq_true, not_true_eq_false, E_X10_one, R_X10_one, SHF, PF, zAc_app, zAc_18, m_byteAt hR, zmb_eq, h40, h33, h45, m_nameOf, zmn_mb, g3, zi_s, Int32.reduceLT]
theorem zdg_n {x : Int32} (h : zdg x) : ¬ x = 40 ∧ ¬ x = 33 ∧ ¬ x = 45 := ⟨fun z => by rw [z] at h; exact absurd h (by decide), fun z => by rw [z] at h; exact absurd h (by decide), fun z => by rw [z] at h; exact absurd h (by decide)⟩
theorem zMO_0 (hR : zmR I s N) : zMC N f g t I L 155 3 6 (zone (zah s N) (I 90) 0) := by
  intro d p Q hp
  have h120 := hR.2.1
  by_cases h : zah s N p = 40 ∨ zah s N p = 33 ∨ zah s N p = 45
  · have g1 : ¬ zdg (zah s N p) := fun z => by
      have e := zdg_n z
      rcases h with h | h | h
      · exact e.1 h
      · exact e.2.1 h
      · exact e.2.2 h
    have g2 : znm (zah s N p) = -2 := by rcases h with h | h | h <;> rw [h] <;> decide
    rw [zone, if_neg g1, if_neg (not_not_intro g2)]
    have f2 : zft (false, p, [], 0, 6) = nI p := if_neg (fun z => Bool.noConfusion z)
    rw [f2]
    rcases h with h | h | h
    · simp (disch := first | assumption | rfl | omega | decide | exact zb_01 _) only [zabs_e, zmax_e, zmin_e, zrf_s, zpush_s, zpush_n, zw_app, upd_app, updL_app, Nat.reduceEqDiff, Nat.add_left_cancel_iff, Nat.add_eq_left, Nat.left_eq_add, ↓reduceIte, true_and, and_true, Int32.reduceToNatClampNeg, zin_O, zi_ltO, zi_leO, zi_Olt, zi_Ole, zi_eqO, Nat.not_lt_zero, Nat.zero_le, List.append_nil, zrn_n, zrn_s, List.cons_append, List.nil_append, zlg_lt, zlg_gt, zlg_le, zlg_ge, zlg_eq, Int32.toInt_toInt64, Int64.reduceToInt, zw_zw, zw_sw1, zw_sw2, zw_sw3, zw_sw4, zw_sw5, zw_sw6, zw_sw7, ne_eq, zi_in, zi_cl, zi_le, zi_lt, zi_eq, zi_neg, zi_0le, zb_0, if_true, if_false, eq_self, zb_T, zb_F, Bool.false_eq_true, zO_eq, zO_ne1, zO_ne2, zO_nn, zi_ne1, zi_ne2, zi_lt1, zi_le1, zi_lt2, zi_le2, Int32.reduceLT, Int32.reduceLE, Nat.reduceLT, Nat.reduceLeDiff, Int32.reduceMul, Int32.reduceAdd, Int32.reduceSub, not_false_eq_true, not_true_eq_false, E_X10_one, R_X10_one, SHF, PF, zAc_app, m_byteAt hR, zmb_eq, h, m_wrong0, Int32.reduceLT]
    · simp (disch := first | assumption | rfl | omega | decide | exact zb_01 _) only [zabs_e, zmax_e, zmin_e, zrf_s, zpush_s, zpush_n, zw_app, upd_app, updL_app, Nat.reduceEqDiff, Nat.add_left_cancel_iff, Nat.add_eq_left, Nat.left_eq_add, ↓reduceIte, true_and, and_true, Int32.reduceToNatClampNeg, zin_O, zi_ltO, zi_leO, zi_Olt, zi_Ole, zi_eqO, Nat.not_lt_zero, Nat.zero_le, List.append_nil, zrn_n, zrn_s, List.cons_append, List.nil_append, zlg_lt, zlg_gt, zlg_le, zlg_ge, zlg_eq, Int32.toInt_toInt64, Int64.reduceToInt, zw_zw, zw_sw1, zw_sw2, zw_sw3, zw_sw4, zw_sw5, zw_sw6, zw_sw7, ne_eq, zi_in, zi_cl, zi_le, zi_lt, zi_eq, zi_neg, zi_0le, zb_0, if_true, if_false, eq_self, zb_T, zb_F, Bool.false_eq_true, zO_eq, zO_ne1, zO_ne2, zO_nn, zi_ne1, zi_ne2, zi_lt1, zi_le1, zi_lt2, zi_le2, Int32.reduceLT, Int32.reduceLE, Nat.reduceLT, Nat.reduceLeDiff, Int32.reduceMul, Int32.reduceAdd, Int32.reduceSub, not_false_eq_true, not_true_eq_false, E_X10_one, R_X10_one, SHF, PF, zAc_app, m_byteAt hR, zmb_eq, h, m_wrong0, Int32.reduceLT]
    · simp (disch := first | assumption | rfl | omega | decide | exact zb_01 _) only [zabs_e, zmax_e, zmin_e, zrf_s, zpush_s, zpush_n, zw_app, upd_app, updL_app, Nat.reduceEqDiff, Nat.add_left_cancel_iff, Nat.add_eq_left, Nat.left_eq_add, ↓reduceIte, true_and, and_true, Int32.reduceToNatClampNeg, zin_O, zi_ltO, zi_leO, zi_Olt, zi_Ole, zi_eqO, Nat.not_lt_zero, Nat.zero_le, List.append_nil, zrn_n, zrn_s, List.cons_append, List.nil_append, zlg_lt, zlg_gt, zlg_le, zlg_ge, zlg_eq, Int32.toInt_toInt64, Int64.reduceToInt, zw_zw, zw_sw1, zw_sw2, zw_sw3, zw_sw4, zw_sw5, zw_sw6, zw_sw7, ne_eq, zi_in, zi_cl, zi_le, zi_lt, zi_eq, zi_neg, zi_0le, zb_0, if_true, if_false, eq_self, zb_T, zb_F, Bool.false_eq_true, zO_eq, zO_ne1, zO_ne2, zO_nn, zi_ne1, zi_ne2, zi_lt1, zi_le1, zi_lt2, zi_le2, Int32.reduceLT, Int32.reduceLE, Nat.reduceLT, Nat.reduceLeDiff, Int32.reduceMul, Int32.reduceAdd, Int32.reduceSub, not_false_eq_true, not_true_eq_false, E_X10_one, R_X10_one, SHF, PF, zAc_app, m_byteAt hR, zmb_eq, h, m_wrong0, Int32.reduceLT]
  · have e := m_one_a (d := d + 1) (f := f) (g := g) (t := t) (L := L) (Q := Q) hR 6 hp (fun z => h (Or.inl z)) (fun z => h (Or.inr (Or.inl z))) (fun z => h (Or.inr (Or.inr z)))
    rw [show d + 3 = d + 1 + 2 by omega, e, zone]
    by_cases h1 : zdg (zah s N p)
    · rw [if_pos h1, if_pos h1]
      rfl
    rw [if_neg h1, if_neg h1]
    by_cases h2 : znm (zah s N p) = -2
    · rw [if_neg (not_not_intro h2), if_neg (not_not_intro h2)]
      rfl
    · rw [if_pos h2, if_pos h2]
      rfl
theorem zft_t (a : Nat) (b : List (Int32 × Int32)) (c e : Int32) : zft (true, a, b, c, e) = -1 := rfl
theorem zft_f (a : Nat) (b : List (Int32 × Int32)) (c e : Int32) : zft (false, a, b, c, e) = nI a := rfl
theorem zMO_s (hR : zmR I s N) {K r : Nat} (hK : 2 ≤ K) (hr : r < 6) (hX : zMC N f g t I L 155 K (nI (6 - r)) (zone (zah s N) (I 90) r)) : zMC N f g t I L 155 (K + 6) (nI (5 - r)) (zone (zah s N) (I 90) (r + 1)) := by
  intro d p Q hp
  have h120 := hR.2.1
  have hB := zone_bd (s := s) (N := N) (nm := I 90) r
  have hO := zone_oo (ah := zah s N) (nm := I 90) r (by omega)
  have hC := zMC_exp hR hK hB hO hX
  have hBC := zexp_bd (s := s) hB
  have hOC := zexp_oo (ah := zah s N) hO
  obtain ⟨K, rfl⟩ : ∃ j, K = j + 2 := ⟨K - 2, by omega⟩
  rw [show d + (K + 2 + 6) = d + K + 6 + 1 + 1 by omega]
  have o1 : 5 - r + 1 = 6 - r := by omega
  have o2 : ¬ 5 - r = 6 := by omega
  by_cases h : zah s N p = 40 ∨ zah s N p = 33 ∨ zah s N p = 45
  · have g1 : ¬ zdg (zah s N p) := fun z => by
      have e := zdg_n z
      rcases h with h | h | h
      · exact e.1 h
      · exact e.2.1 h
      · exact e.2.2 h
    have g2 : znm (zah s N p) = -2 := by rcases h with h | h | h <;> rw [h] <;> decide
    have hp2 : p < N := zah_lt (fun z => by rw [z] at h; exact absurd h (by decide))
    rw [zone, if_neg g1, if_neg (not_not_intro g2)]
    have q := fun Q => hC d (p + 1) Q hp2
    have q2 := fun Q => hX (d + 5) (p + 1) Q hp2
    have hB2 := hBC (p + 1) hp2
    have hB3 := hB (p + 1) hp2
    rw [show d + (K + 2 + 5) = d + K + 6 + 1 by omega] at q
    rw [show d + 5 + (K + 2) = d + K + 6 + 1 by omega] at q2
    rcases h with h | h | h
    · rw [if_pos h]
      by_cases h4 : (zexp (zah s N) (zone (zah s N) (I 90) r) (p + 1)).1 = true
      · have f1 : zft (zexp (zah s N) (zone (zah s N) (I 90) r) (p + 1)) = -1 := if_pos h4
        have f2 := hOC _ h4
        simp only [f1, f2] at q
        rw [if_pos h4, f2]
        by_cases h5 : zah s N (zexp (zah s N) (zone (zah s N) (I 90) r) (p + 1)).2.1 = 41
        · rw [if_pos h5]
          simp (disch := first | assumption | rfl | omega | decide | exact zb_01 _) only [zabs_e, zmax_e, zmin_e, zrf_s, zpush_s, zpush_n, zw_app, upd_app, updL_app, Nat.reduceEqDiff, Nat.add_left_cancel_iff, Nat.add_eq_left, Nat.left_eq_add, ↓reduceIte, true_and, and_true, Int32.reduceToNatClampNeg, zin_O, zi_ltO, zi_leO, zi_Olt, zi_Ole, zi_eqO, Nat.not_lt_zero, Nat.zero_le, List.append_nil, zrn_n, zrn_s, List.cons_append, List.nil_append, zlg_lt, zlg_gt, zlg_le, zlg_ge, zlg_eq, Int32.toInt_toInt64, Int64.reduceToInt, zw_zw, zw_sw1, zw_sw2, zw_sw3, zw_sw4, zw_sw5, zw_sw6, zw_sw7, ne_eq, zi_in, zi_cl, zi_le, zi_lt, zi_eq, zi_neg, zi_0le, zb_0, if_true, if_false, eq_self, zb_T, zb_F, Bool.false_eq_true, zO_eq, zO_ne1, zO_ne2, zO_nn, zi_ne1, zi_ne2, zi_lt1, zi_le1, zi_lt2, zi_le2, Int32.reduceLT, Int32.reduceLE, Nat.reduceLT, Nat.reduceLeDiff, Int32.reduceMul, Int32.reduceAdd, Int32.reduceSub, not_false_eq_true, not_true_eq_false, E_X10_one, R_X10_one, SHF, PF, zAc_app, zAc_18, zAc_21, zi_s, m_byteAt hR, zmb_lt hp2, h, o1, o2, zft_t, zft_f, q, m_takes0 hR, h5, Int32.reduceLT]
        · rw [if_neg h5]
          simp (disch := first | assumption | rfl | omega | decide | exact zb_01 _) only [zabs_e, zmax_e, zmin_e, zrf_s, zpush_s, zpush_n, zw_app, upd_app, updL_app, Nat.reduceEqDiff, Nat.add_left_cancel_iff, Nat.add_eq_left, Nat.left_eq_add, ↓reduceIte, true_and, and_true, Int32.reduceToNatClampNeg, zin_O, zi_ltO, zi_leO, zi_Olt, zi_Ole, zi_eqO, Nat.not_lt_zero, Nat.zero_le, List.append_nil, zrn_n, zrn_s, List.cons_append, List.nil_append, zlg_lt, zlg_gt, zlg_le, zlg_ge, zlg_eq, Int32.toInt_toInt64, Int64.reduceToInt, zw_zw, zw_sw1, zw_sw2, zw_sw3, zw_sw4, zw_sw5, zw_sw6, zw_sw7, ne_eq, zi_in, zi_cl, zi_le, zi_lt, zi_eq, zi_neg, zi_0le, zb_0, if_true, if_false, eq_self, zb_T, zb_F, Bool.false_eq_true, zO_eq, zO_ne1, zO_ne2, zO_nn, zi_ne1, zi_ne2, zi_lt1, zi_le1, zi_lt2, zi_le2, Int32.reduceLT, Int32.reduceLE, Nat.reduceLT, Nat.reduceLeDiff, Int32.reduceMul, Int32.reduceAdd, Int32.reduceSub, not_false_eq_true, not_true_eq_false, E_X10_one, R_X10_one, SHF, PF, zAc_app, zAc_18, zAc_21, zi_s, m_byteAt hR, zmb_lt hp2, h, o1, o2, zft_t, zft_f, q, m_takes0 hR, h5, m_wrong0, Int32.reduceLT]
      · have f1 : zft (zexp (zah s N) (zone (zah s N) (I 90) r) (p + 1)) = nI (zexp (zah s N) (zone (zah s N) (I 90) r) (p + 1)).2.1 := if_neg h4
        simp only [f1] at q
        rw [if_neg h4]
        simp (disch := first | assumption | rfl | omega | decide | exact zb_01 _) only [zabs_e, zmax_e, zmin_e, zrf_s, zpush_s, zpush_n, zw_app, upd_app, updL_app, Nat.reduceEqDiff, Nat.add_left_cancel_iff, Nat.add_eq_left, Nat.left_eq_add, ↓reduceIte, true_and, and_true, Int32.reduceToNatClampNeg, zin_O, zi_ltO, zi_leO, zi_Olt, zi_Ole, zi_eqO, Nat.not_lt_zero, Nat.zero_le, List.append_nil, zrn_n, zrn_s, List.cons_append, List.nil_append, zlg_lt, zlg_gt, zlg_le, zlg_ge, zlg_eq, Int32.toInt_toInt64, Int64.reduceToInt, zw_zw, zw_sw1, zw_sw2, zw_sw3, zw_sw4, zw_sw5, zw_sw6, zw_sw7, ne_eq, zi_in, zi_cl, zi_le, zi_lt, zi_eq, zi_neg, zi_0le, zb_0, if_true, if_false, eq_self, zb_T, zb_F, Bool.false_eq_true, zO_eq, zO_ne1, zO_ne2, zO_nn, zi_ne1, zi_ne2, zi_lt1, zi_le1, zi_lt2, zi_le2, Int32.reduceLT, Int32.reduceLE, Nat.reduceLT, Nat.reduceLeDiff, Int32.reduceMul, Int32.reduceAdd, Int32.reduceSub, not_false_eq_true, not_true_eq_false, E_X10_one, R_X10_one, SHF, PF, zAc_app, zAc_18, zAc_21, zi_s, m_byteAt hR, zmb_lt hp2, h, o1, o2, zft_t, zft_f, q, m_takes1, m_wrong1, Int32.reduceLT]
    · rw [h, if_neg (by decide), if_pos rfl]
      by_cases h4 : (zone (zah s N) (I 90) r (p + 1)).1 = true
      · have f1 : zft (zone (zah s N) (I 90) r (p + 1)) = -1 := if_pos h4
        have f2 := hO _ h4
        simp only [f1, f2] at q2
        rw [if_pos h4, f2]
        by_cases w0 : (zone (zah s N) (I 90) r (p + 1)).2.2.2.1 = 0
        · simp (disch := first | assumption | rfl | omega | decide | exact zb_01 _) only [zabs_e, zmax_e, zmin_e, zrf_s, zpush_s, zpush_n, zw_app, upd_app, updL_app, Nat.reduceEqDiff, Nat.add_left_cancel_iff, Nat.add_eq_left, Nat.left_eq_add, ↓reduceIte, true_and, and_true, Int32.reduceToNatClampNeg, zin_O, zi_ltO, zi_leO, zi_Olt, zi_Ole, zi_eqO, Nat.not_lt_zero, Nat.zero_le, List.append_nil, zrn_n, zrn_s, List.cons_append, List.nil_append, zlg_lt, zlg_gt, zlg_le, zlg_ge, zlg_eq, Int32.toInt_toInt64, Int64.reduceToInt, zw_zw, zw_sw1, zw_sw2, zw_sw3, zw_sw4, zw_sw5, zw_sw6, zw_sw7, ne_eq, zi_in, zi_cl, zi_le, zi_lt, zi_eq, zi_neg, zi_0le, zb_0, if_true, if_false, eq_self, zb_T, zb_F, Bool.false_eq_true, zO_eq, zO_ne1, zO_ne2, zO_nn, zi_ne1, zi_ne2, zi_lt1, zi_le1, zi_lt2, zi_le2, Int32.reduceLT, Int32.reduceLE, Nat.reduceLT, Nat.reduceLeDiff, Int32.reduceMul, Int32.reduceAdd, Int32.reduceSub, not_false_eq_true, not_true_eq_false, E_X10_one, R_X10_one, SHF, PF, zAc_app, zAc_18, zAc_21, zi_s, m_byteAt hR, zmb_lt hp2, h, o1, o2, zft_t, zft_f, q2, w0, Int32.reduceLT]
        · simp (disch := first | assumption | rfl | omega | decide | exact zb_01 _) only [zabs_e, zmax_e, zmin_e, zrf_s, zpush_s, zpush_n, zw_app, upd_app, updL_app, Nat.reduceEqDiff, Nat.add_left_cancel_iff, Nat.add_eq_left, Nat.left_eq_add, ↓reduceIte, true_and, and_true, Int32.reduceToNatClampNeg, zin_O, zi_ltO, zi_leO, zi_Olt, zi_Ole, zi_eqO, Nat.not_lt_zero, Nat.zero_le, List.append_nil, zrn_n, zrn_s, List.cons_append, List.nil_append, zlg_lt, zlg_gt, zlg_le, zlg_ge, zlg_eq, Int32.toInt_toInt64, Int64.reduceToInt, zw_zw, zw_sw1, zw_sw2, zw_sw3, zw_sw4, zw_sw5, zw_sw6, zw_sw7, ne_eq, zi_in, zi_cl, zi_le, zi_lt, zi_eq, zi_neg, zi_0le, zb_0, if_true, if_false, eq_self, zb_T, zb_F, Bool.false_eq_true, zO_eq, zO_ne1, zO_ne2, zO_nn, zi_ne1, zi_ne2, zi_lt1, zi_le1, zi_lt2, zi_le2, Int32.reduceLT, Int32.reduceLE, Nat.reduceLT, Nat.reduceLeDiff, Int32.reduceMul, Int32.reduceAdd, Int32.reduceSub, not_false_eq_true, not_true_eq_false, E_X10_one, R_X10_one, SHF, PF, zAc_app, zAc_18, zAc_21, zi_s, m_byteAt hR, zmb_lt hp2, h, o1, o2, zft_t, zft_f, q2, w0, Int32.reduceLT]
      · have f1 : zft (zone (zah s N) (I 90) r (p + 1)) = nI (zone (zah s N) (I 90) r (p + 1)).2.1 := if_neg h4
        simp only [f1] at q2
        rw [if_neg h4]
        by_cases w0 : (zone (zah s N) (I 90) r (p + 1)).2.2.2.1 = 0
        · simp (disch := first | assumption | rfl | omega | decide | exact zb_01 _) only [zabs_e, zmax_e, zmin_e, zrf_s, zpush_s, zpush_n, zw_app, upd_app, updL_app, Nat.reduceEqDiff, Nat.add_left_cancel_iff, Nat.add_eq_left, Nat.left_eq_add, ↓reduceIte, true_and, and_true, Int32.reduceToNatClampNeg, zin_O, zi_ltO, zi_leO, zi_Olt, zi_Ole, zi_eqO, Nat.not_lt_zero, Nat.zero_le, List.append_nil, zrn_n, zrn_s, List.cons_append, List.nil_append, zlg_lt, zlg_gt, zlg_le, zlg_ge, zlg_eq, Int32.toInt_toInt64, Int64.reduceToInt, zw_zw, zw_sw1, zw_sw2, zw_sw3, zw_sw4, zw_sw5, zw_sw6, zw_sw7, ne_eq, zi_in, zi_cl, zi_le, zi_lt, zi_eq, zi_neg, zi_0le, zb_0, if_true, if_false, eq_self, zb_T, zb_F, Bool.false_eq_true, zO_eq, zO_ne1, zO_ne2, zO_nn, zi_ne1, zi_ne2, zi_lt1, zi_le1, zi_lt2, zi_le2, Int32.reduceLT, Int32.reduceLE, Nat.reduceLT, Nat.reduceLeDiff, Int32.reduceMul, Int32.reduceAdd, Int32.reduceSub, not_false_eq_true, not_true_eq_false, E_X10_one, R_X10_one, SHF, PF, zAc_app, zAc_18, zAc_21, zi_s, m_byteAt hR, zmb_lt hp2, h, o1, o2, zft_t, zft_f, q2, w0, Int32.reduceLT]
        · simp (disch := first | assumption | rfl | omega | decide | exact zb_01 _) only [zabs_e, zmax_e, zmin_e, zrf_s, zpush_s, zpush_n, zw_app, upd_app, updL_app, Nat.reduceEqDiff, Nat.add_left_cancel_iff, Nat.add_eq_left, Nat.left_eq_add, ↓reduceIte, true_and, and_true, Int32.reduceToNatClampNeg, zin_O, zi_ltO, zi_leO, zi_Olt, zi_Ole, zi_eqO, Nat.not_lt_zero, Nat.zero_le, List.append_nil, zrn_n, zrn_s, List.cons_append, List.nil_append, zlg_lt, zlg_gt, zlg_le, zlg_ge, zlg_eq, Int32.toInt_toInt64, Int64.reduceToInt, zw_zw, zw_sw1, zw_sw2, zw_sw3, zw_sw4, zw_sw5, zw_sw6, zw_sw7, ne_eq, zi_in, zi_cl, zi_le, zi_lt, zi_eq, zi_neg, zi_0le, zb_0, if_true, if_false, eq_self, zb_T, zb_F, Bool.false_eq_true, zO_eq, zO_ne1, zO_ne2, zO_nn, zi_ne1, zi_ne2, zi_lt1, zi_le1, zi_lt2, zi_le2, Int32.reduceLT, Int32.reduceLE, Nat.reduceLT, Nat.reduceLeDiff, Int32.reduceMul, Int32.reduceAdd, Int32.reduceSub, not_false_eq_true, not_true_eq_false, E_X10_one, R_X10_one, SHF, PF, zAc_app, zAc_18, zAc_21, zi_s, m_byteAt hR, zmb_lt hp2, h, o1, o2, zft_t, zft_f, q2, w0, Int32.reduceLT]
    · rw [h, if_neg (by decide), if_neg (by decide), if_pos rfl]
      by_cases h4 : (zone (zah s N) (I 90) r (p + 1)).1 = true
      · have f1 : zft (zone (zah s N) (I 90) r (p + 1)) = -1 := if_pos h4
        have f2 := hO _ h4
        simp only [f1, f2] at q2
        rw [if_pos h4, f2]
        simp (disch := first | assumption | rfl | omega | decide | exact zb_01 _) only [zabs_e, zmax_e, zmin_e, zrf_s, zpush_s, zpush_n, zw_app, upd_app, updL_app, Nat.reduceEqDiff, Nat.add_left_cancel_iff, Nat.add_eq_left, Nat.left_eq_add, ↓reduceIte, true_and, and_true, Int32.reduceToNatClampNeg, zin_O, zi_ltO, zi_leO, zi_Olt, zi_Ole, zi_eqO, Nat.not_lt_zero, Nat.zero_le, List.append_nil, zrn_n, zrn_s, List.cons_append, List.nil_append, zlg_lt, zlg_gt, zlg_le, zlg_ge, zlg_eq, Int32.toInt_toInt64, Int64.reduceToInt, zw_zw, zw_sw1, zw_sw2, zw_sw3, zw_sw4, zw_sw5, zw_sw6, zw_sw7, ne_eq, zi_in, zi_cl, zi_le, zi_lt, zi_eq, zi_neg, zi_0le, zb_0, if_true, if_false, eq_self, zb_T, zb_F, Bool.false_eq_true, zO_eq, zO_ne1, zO_ne2, zO_nn, zi_ne1, zi_ne2, zi_lt1, zi_le1, zi_lt2, zi_le2, Int32.reduceLT, Int32.reduceLE, Nat.reduceLT, Nat.reduceLeDiff, Int32.reduceMul, Int32.reduceAdd, Int32.reduceSub, not_false_eq_true, not_true_eq_false, E_X10_one, R_X10_one, SHF, PF, zAc_app, zAc_18, zAc_21, zi_s, m_byteAt hR, zmb_lt hp2, h, o1, o2, zft_t, zft_f, q2, Int32.reduceLT]
      · have f1 : zft (zone (zah s N) (I 90) r (p + 1)) = nI (zone (zah s N) (I 90) r (p + 1)).2.1 := if_neg h4
        simp only [f1] at q2
        rw [if_neg h4]
        simp (disch := first | assumption | rfl | omega | decide | exact zb_01 _) only [zabs_e, zmax_e, zmin_e, zrf_s, zpush_s, zpush_n, zw_app, upd_app, updL_app, Nat.reduceEqDiff, Nat.add_left_cancel_iff, Nat.add_eq_left, Nat.left_eq_add, ↓reduceIte, true_and, and_true, Int32.reduceToNatClampNeg, zin_O, zi_ltO, zi_leO, zi_Olt, zi_Ole, zi_eqO, Nat.not_lt_zero, Nat.zero_le, List.append_nil, zrn_n, zrn_s, List.cons_append, List.nil_append, zlg_lt, zlg_gt, zlg_le, zlg_ge, zlg_eq, Int32.toInt_toInt64, Int64.reduceToInt, zw_zw, zw_sw1, zw_sw2, zw_sw3, zw_sw4, zw_sw5, zw_sw6, zw_sw7, ne_eq, zi_in, zi_cl, zi_le, zi_lt, zi_eq, zi_neg, zi_0le, zb_0, if_true, if_false, eq_self, zb_T, zb_F, Bool.false_eq_true, zO_eq, zO_ne1, zO_ne2, zO_nn, zi_ne1, zi_ne2, zi_lt1, zi_le1, zi_lt2, zi_le2, Int32.reduceLT, Int32.reduceLE, Nat.reduceLT, Nat.reduceLeDiff, Int32.reduceMul, Int32.reduceAdd, Int32.reduceSub, not_false_eq_true, not_true_eq_false, E_X10_one, R_X10_one, SHF, PF, zAc_app, zAc_18, zAc_21, zi_s, m_byteAt hR, zmb_lt hp2, h, o1, o2, zft_t, zft_f, q2, Int32.reduceLT]
  · have e := m_one_a (d := d + K + 6) (f := f) (g := g) (t := t) (L := L) (Q := Q) hR (nI (5 - r)) hp (fun z => h (Or.inl z)) (fun z => h (Or.inr (Or.inl z))) (fun z => h (Or.inr (Or.inr z)))
    rw [e, zone]
    by_cases h1 : zdg (zah s N p)
    · rw [if_pos h1, if_pos h1]
      rfl
    rw [if_neg h1, if_neg h1]
    by_cases h2 : znm (zah s N p) = -2
    · rw [if_neg (not_not_intro h2), if_neg (not_not_intro h2), if_neg (fun z => h (Or.inl z)), if_neg (fun z => h (Or.inr (Or.inl z))), if_neg (fun z => h (Or.inr (Or.inr z)))]
      rfl
    · rw [if_pos h2, if_pos h2]
      rfl
theorem zMO_r (hR : zmR I s N) : ∀ r, r ≤ 6 → zMC N f g t I L 155 (6 * r + 3) (nI (6 - r)) (zone (zah s N) (I 90) r)
  | 0, _ => zMO_0 hR
  | r + 1, hr => by
    have e := zMO_s (r := r) hR (by omega) (by omega) (zMO_r hR r (by omega))
    rw [show 6 * (r + 1) + 3 = 6 * r + 3 + 6 by omega, show 6 - (r + 1) = 5 - r by omega]
    exact e
theorem m_all (hR : zmR I s N) : zMC N f g t I L 149 44 0 (zall (zah s N) (I 90)) := by
  have e := zMC_exp hR (by omega) (zone_bd 6) (zone_oo 6 (by omega)) (zMO_r (f := f) (g := g) (t := t) (L := L) hR 6 (by omega))
  exact e
theorem zall_oo {nm : Nat → Int32} : zOo 0 (zall (zah s N) nm) := zexp_oo (zone_oo 6 (by omega))
end MONE
