section MEXP
variable {d f g N : Nat} {t : Option Nat} {I : Nat → Nat → Int32} {L : Nat → Nat → Int64} {s : Nat → Int32} {Q : Option Value → zMm → Prop}
/-- the fault behind a part -/
abbrev zft (r : zR) : Int32 := if r.1 = true then -1 else nI r.2.1
/-- what reads a part -/
def zMC (N f g : Nat) (t : Option Nat) (I : Nat → Nat → Int32) (L : Nat → Nat → Int64) (mi K : Nat) (o : Int32) (X : Nat → zR) : Prop := ∀ d p Q, p ≤ N → zWM (d + K) mi [.ref 80] (zSH, zw I 80 (zAc (I 80) (p) (-1) (o)), L, zP f g t) Q = Q (some (.int (X p).2.2.2.1)) (zSH, zw I 80 (zAc (I 80) ((X p).2.1) (zft (X p)) ((X p).2.2.2.2)), L, zP f g t)
theorem zlvl_0 (x : Int32) : (zlvl x = 0) ↔ (x = 124) := by
  unfold zlvl
  constructor
  · intro h
    repeat' split at h
    all_goals first | assumption | exact absurd h (by decide)
  · intro h; subst h; decide
theorem zlvl_1 (x : Int32) : (zlvl x = 1) ↔ (x = 38) := by
  unfold zlvl
  constructor
  · intro h
    repeat' split at h
    all_goals first | assumption | exact absurd h (by decide)
  · intro h; subst h; decide
theorem zlvl_2 (x : Int32) : (zlvl x = 2) ↔ (x = 60 ∨ x = 61 ∨ x = 62) := by
  unfold zlvl
  constructor
  · intro h
    repeat' split at h
    all_goals first | (simp only [*, true_or, or_true]; done) | exact absurd h (by decide)
  · rintro (h | h | h) <;> subst h <;> decide
theorem zlvl_3 (x : Int32) : (zlvl x = 3) ↔ (x = 43 ∨ x = 45) := by
  unfold zlvl
  constructor
  · intro h
    repeat' split at h
    all_goals first | (simp only [*, true_or, or_true]; done) | exact absurd h (by decide)
  · rintro (h | h) <;> subst h <;> decide
theorem zlvl_4 (x : Int32) : (zlvl x = 4) ↔ (x = 42 ∨ x = 47 ∨ x = 37) := by
  unfold zlvl
  constructor
  · intro h
    repeat' split at h
    all_goals first | (simp only [*, true_or, or_true]; done) | exact absurd h (by decide)
  · rintro (h | h | h) <;> subst h <;> decide
theorem zjn_124 (v w : Int32) : zjn 124 v w = if v = 0 then (if w = 0 then 0 else 1) else 1 := by
  unfold zjn
  rw [if_pos rfl]
  by_cases v0 : v = 0 <;> by_cases w0 : w = 0 <;> simp [v0, w0]
theorem zjn_38 (v w : Int32) : zjn 38 v w = if v = 0 then 0 else (if w = 0 then 0 else 1) := by
  unfold zjn
  rw [if_neg (by decide), if_pos rfl]
  by_cases v0 : v = 0 <;> by_cases w0 : w = 0 <;> simp [v0, w0]
theorem zjn_60 (v w : Int32) : zjn 60 v w = if v < w then 1 else 0 := by
  unfold zjn
  rw [if_neg (by decide), if_neg (by decide), if_pos rfl]
theorem zjn_61 (v w : Int32) : zjn 61 v w = if v = w then 1 else 0 := by
  unfold zjn
  rw [if_neg (by decide), if_neg (by decide), if_neg (by decide), if_pos rfl]
theorem zjn_62 (v w : Int32) : zjn 62 v w = if w < v then 1 else 0 := by
  unfold zjn
  rw [if_neg (by decide), if_neg (by decide), if_neg (by decide), if_neg (by decide), if_pos rfl]
theorem zjn_43 (v w : Int32) : zjn 43 v w = v + w := by
  unfold zjn
  rw [if_neg (by decide), if_neg (by decide), if_neg (by decide), if_neg (by decide), if_neg (by decide), if_pos rfl]
theorem zjn_45 (v w : Int32) : zjn 45 v w = v - w := by
  unfold zjn
  rw [if_neg (by decide), if_neg (by decide), if_neg (by decide), if_neg (by decide), if_neg (by decide), if_neg (by decide), if_pos rfl]
theorem zjn_42 (v w : Int32) : zjn 42 v w = v * w := by
  unfold zjn
  rw [if_neg (by decide), if_neg (by decide), if_neg (by decide), if_neg (by decide), if_neg (by decide), if_neg (by decide), if_neg (by decide), if_pos rfl]
theorem zjn_47 (v w : Int32) : zjn 47 v w = if w = 0 then 0 else v / w := by
  unfold zjn
  rw [if_neg (by decide), if_neg (by decide), if_neg (by decide), if_neg (by decide), if_neg (by decide), if_neg (by decide), if_neg (by decide), if_neg (by decide), if_pos rfl]
theorem zjn_37 (v w : Int32) : zjn 37 v w = if w = 0 then 0 else v - v / w * w := by
  unfold zjn
  rw [if_neg (by decide), if_neg (by decide), if_neg (by decide), if_neg (by decide), if_neg (by decide), if_neg (by decide), if_neg (by decide), if_neg (by decide), if_neg (by decide), if_pos rfl]
theorem zMC_either (hR : zmR I s N) {K : Nat} {o : Int32} {X : Nat → zR} (hK : 2 ≤ K) (hB : zBd N X) (hO : zOo o X) (hX : zMC N f g t I L 150 K o X) : zMC N f g t I L 149 (K + 1) o (zlev (zah s N) 0 120 X) := by
  intro d p Q hp
  have h120 := hR.2.1
  obtain ⟨K, rfl⟩ : ∃ j, K = j + 2 := ⟨K - 2, by omega⟩
  have hB1 := hB p hp
  have q := fun Q => hX d p Q hp
  have loop : ∀ k p c v (l2 : Value), N ≤ p + k → p ≤ N → zWp (d + (K + 2)) zi_149 none 5 [.ref 80, .int v, l2] [] (zSH, zw I 80 (zAc (I 80) (p) (-1) (o)), L, zP f g t) Q = Q (some (.int (zloop (zah s N) 0 X k p c v o).2.2.2.1)) (zSH, zw I 80 (zAc (I 80) ((zloop (zah s N) 0 X k p c v o).2.1) (zft (zloop (zah s N) 0 X k p c v o)) ((zloop (zah s N) 0 X k p c v o).2.2.2.2)), L, zP f g t) := by
    intro k
    induction k with
    | zero =>
      intro p c v l2 hk hp
      rw [H_X10_either_5, show d + (K + 2) = d + K + 2 by omega]
      simp (disch := first | assumption | rfl | omega | decide | exact zb_01 _) only [zabs_e, zmax_e, zmin_e, zrf_s, zpush_s, zpush_n, zw_app, upd_app, updL_app, Nat.reduceEqDiff, Nat.add_left_cancel_iff, Nat.add_eq_left, Nat.left_eq_add, ↓reduceIte, true_and, and_true, Int32.reduceToNatClampNeg, zin_O, zi_ltO, zi_leO, zi_Olt, zi_Ole, zi_eqO, Nat.not_lt_zero, Nat.zero_le, List.append_nil, zrn_n, zrn_s, List.cons_append, List.nil_append, zlg_lt, zlg_gt, zlg_le, zlg_ge, zlg_eq, Int32.toInt_toInt64, Int64.reduceToInt, zw_zw, zw_sw1, zw_sw2, zw_sw3, zw_sw4, zw_sw5, zw_sw6, zw_sw7, ne_eq, zi_in, zi_cl, zi_le, zi_lt, zi_eq, zi_neg, zi_0le, zb_0, if_true, if_false, eq_self, zb_T, zb_F, Bool.false_eq_true, zO_eq, zO_ne1, zO_ne2, zO_nn, zi_ne1, zi_ne2, zi_lt1, zi_le1, zi_lt2, zi_le2, Int32.reduceLT, Int32.reduceLE, Nat.reduceLT, Nat.reduceLeDiff, Int32.reduceMul, Int32.reduceAdd, Int32.reduceSub, not_false_eq_true, not_true_eq_false, R_X10_either, SHF, PF, m_takes0 hR, zah_end]
      rfl
    | succ k ih =>
      intro p c v l2 hk hp
      rw [H_X10_either_5]
      unfold zloop
      by_cases h1 : zah s N p = 124
      · have hp2 := zah_lt (fun z => absurd (z.symm.trans h1) (by decide))
        have hB2 := hB (p + 1) hp2
        have q2 := fun Q => hX d (p + 1) Q hp2
        rw [if_pos ((zlvl_0 _).mpr h1)]
        by_cases h2 : (X (p + 1)).1 = true
        · have f1 : zft (X (p + 1)) = -1 := if_pos h2
          have ih2 := fun v2 l2 => ih (X (p + 1)).2.1 (c ++ (X (p + 1)).2.2.1 ++ [(zah s N p, 0)]) v2 l2 (by omega) hB2.2.1
          simp only [f1, hO _ h2] at q2
          rw [if_pos h2, hO _ h2, h1, zjn_124]
          rw [h1] at ih2
          rw [show d + (K + 2) = d + K + 2 by omega] at q2 ih2 ⊢
          simp (disch := first | assumption | rfl | omega | decide | exact zb_01 _) only [zabs_e, zmax_e, zmin_e, zrf_s, zpush_s, zpush_n, zw_app, upd_app, updL_app, Nat.reduceEqDiff, Nat.add_left_cancel_iff, Nat.add_eq_left, Nat.left_eq_add, ↓reduceIte, true_and, and_true, Int32.reduceToNatClampNeg, zin_O, zi_ltO, zi_leO, zi_Olt, zi_Ole, zi_eqO, Nat.not_lt_zero, Nat.zero_le, List.append_nil, zrn_n, zrn_s, List.cons_append, List.nil_append, zlg_lt, zlg_gt, zlg_le, zlg_ge, zlg_eq, Int32.toInt_toInt64, Int64.reduceToInt, zw_zw, zw_sw1, zw_sw2, zw_sw3, zw_sw4, zw_sw5, zw_sw6, zw_sw7, ne_eq, zi_in, zi_cl, zi_le, zi_lt, zi_eq, zi_neg, zi_0le, zb_0, if_true, if_false, eq_self, zb_T, zb_F, Bool.false_eq_true, zO_eq, zO_ne1, zO_ne2, zO_nn, zi_ne1, zi_ne2, zi_lt1, zi_le1, zi_lt2, zi_le2, Int32.reduceLT, Int32.reduceLE, Nat.reduceLT, Nat.reduceLeDiff, Int32.reduceMul, Int32.reduceAdd, Int32.reduceSub, not_false_eq_true, not_true_eq_false, R_X10_either, SHF, PF, m_takes0 hR, h1, q2]
          by_cases v0 : v = 0 <;> by_cases w0 : (X (p + 1)).2.2.2.1 = 0 <;> simp only [v0, w0, ↓reduceIte] <;> exact ih2 _ _
        · have f1 : zft (X (p + 1)) = nI (X (p + 1)).2.1 := if_neg h2
          have f2 : zft (false, (X (p + 1)).2.1, c ++ (X (p + 1)).2.2.1, zjn 124 v (X (p + 1)).2.2.2.1, (X (p + 1)).2.2.2.2) = nI (X (p + 1)).2.1 := if_neg (fun z => Bool.noConfusion z)
          simp only [f1] at q2
          rw [if_neg h2, h1, f2]
          rw [show d + (K + 2) = d + K + 2 by omega] at q2 ⊢
          simp (disch := first | assumption | rfl | omega | decide | exact zb_01 _) only [zabs_e, zmax_e, zmin_e, zrf_s, zpush_s, zpush_n, zw_app, upd_app, updL_app, Nat.reduceEqDiff, Nat.add_left_cancel_iff, Nat.add_eq_left, Nat.left_eq_add, ↓reduceIte, true_and, and_true, Int32.reduceToNatClampNeg, zin_O, zi_ltO, zi_leO, zi_Olt, zi_Ole, zi_eqO, Nat.not_lt_zero, Nat.zero_le, List.append_nil, zrn_n, zrn_s, List.cons_append, List.nil_append, zlg_lt, zlg_gt, zlg_le, zlg_ge, zlg_eq, Int32.toInt_toInt64, Int64.reduceToInt, zw_zw, zw_sw1, zw_sw2, zw_sw3, zw_sw4, zw_sw5, zw_sw6, zw_sw7, ne_eq, zi_in, zi_cl, zi_le, zi_lt, zi_eq, zi_neg, zi_0le, zb_0, if_true, if_false, eq_self, zb_T, zb_F, Bool.false_eq_true, zO_eq, zO_ne1, zO_ne2, zO_nn, zi_ne1, zi_ne2, zi_lt1, zi_le1, zi_lt2, zi_le2, Int32.reduceLT, Int32.reduceLE, Nat.reduceLT, Nat.reduceLeDiff, Int32.reduceMul, Int32.reduceAdd, Int32.reduceSub, not_false_eq_true, not_true_eq_false, R_X10_either, SHF, PF, m_takes0 hR, h1, q2]
          simp only [H_X10_either_5]
          simp (disch := first | assumption | rfl | omega | decide | exact zb_01 _) only [zabs_e, zmax_e, zmin_e, zrf_s, zpush_s, zpush_n, zw_app, upd_app, updL_app, Nat.reduceEqDiff, Nat.add_left_cancel_iff, Nat.add_eq_left, Nat.left_eq_add, ↓reduceIte, true_and, and_true, Int32.reduceToNatClampNeg, zin_O, zi_ltO, zi_leO, zi_Olt, zi_Ole, zi_eqO, Nat.not_lt_zero, Nat.zero_le, List.append_nil, zrn_n, zrn_s, List.cons_append, List.nil_append, zlg_lt, zlg_gt, zlg_le, zlg_ge, zlg_eq, Int32.toInt_toInt64, Int64.reduceToInt, zw_zw, zw_sw1, zw_sw2, zw_sw3, zw_sw4, zw_sw5, zw_sw6, zw_sw7, ne_eq, zi_in, zi_cl, zi_le, zi_lt, zi_eq, zi_neg, zi_0le, zb_0, if_true, if_false, eq_self, zb_T, zb_F, Bool.false_eq_true, zO_eq, zO_ne1, zO_ne2, zO_nn, zi_ne1, zi_ne2, zi_lt1, zi_le1, zi_lt2, zi_le2, Int32.reduceLT, Int32.reduceLE, Nat.reduceLT, Nat.reduceLeDiff, Int32.reduceMul, Int32.reduceAdd, Int32.reduceSub, not_false_eq_true, not_true_eq_false, R_X10_either, SHF, PF, m_takes1]
          rw [zjn_124]
          by_cases v0 : v = 0 <;> by_cases w0 : (X (p + 1)).2.2.2.1 = 0 <;> simp only [v0, w0, ↓reduceIte]
      · rw [if_neg (fun z => h1 ((zlvl_0 _).mp z)), show d + (K + 2) = d + K + 2 by omega]
        simp (disch := first | assumption | rfl | omega | decide | exact zb_01 _) only [zabs_e, zmax_e, zmin_e, zrf_s, zpush_s, zpush_n, zw_app, upd_app, updL_app, Nat.reduceEqDiff, Nat.add_left_cancel_iff, Nat.add_eq_left, Nat.left_eq_add, ↓reduceIte, true_and, and_true, Int32.reduceToNatClampNeg, zin_O, zi_ltO, zi_leO, zi_Olt, zi_Ole, zi_eqO, Nat.not_lt_zero, Nat.zero_le, List.append_nil, zrn_n, zrn_s, List.cons_append, List.nil_append, zlg_lt, zlg_gt, zlg_le, zlg_ge, zlg_eq, Int32.toInt_toInt64, Int64.reduceToInt, zw_zw, zw_sw1, zw_sw2, zw_sw3, zw_sw4, zw_sw5, zw_sw6, zw_sw7, ne_eq, zi_in, zi_cl, zi_le, zi_lt, zi_eq, zi_neg, zi_0le, zb_0, if_true, if_false, eq_self, zb_T, zb_F, Bool.false_eq_true, zO_eq, zO_ne1, zO_ne2, zO_nn, zi_ne1, zi_ne2, zi_lt1, zi_le1, zi_lt2, zi_le2, Int32.reduceLT, Int32.reduceLE, Nat.reduceLT, Nat.reduceLeDiff, Int32.reduceMul, Int32.reduceAdd, Int32.reduceSub, not_false_eq_true, not_true_eq_false, R_X10_either, SHF, PF, m_takes0 hR, h1]
        rfl
  unfold zlev
  by_cases h1 : (X p).1 = true
  · have lo := loop 120 (X p).2.1 (X p).2.2.1 (X p).2.2.2.1 (.retAddr 0) (by omega) hB1.2.1
    have f1 : zft (X p) = -1 := if_pos h1
    rw [if_pos h1, hO p h1, ← lo]
    rw [show d + (K + 2 + 1) = d + (K + 2) + 1 by omega]
    simp (disch := first | assumption | rfl | omega | decide | exact zb_01 _) only [zabs_e, zmax_e, zmin_e, zrf_s, zpush_s, zpush_n, zw_app, upd_app, updL_app, Nat.reduceEqDiff, Nat.add_left_cancel_iff, Nat.add_eq_left, Nat.left_eq_add, ↓reduceIte, true_and, and_true, Int32.reduceToNatClampNeg, zin_O, zi_ltO, zi_leO, zi_Olt, zi_Ole, zi_eqO, Nat.not_lt_zero, Nat.zero_le, List.append_nil, zrn_n, zrn_s, List.cons_append, List.nil_append, zlg_lt, zlg_gt, zlg_le, zlg_ge, zlg_eq, Int32.toInt_toInt64, Int64.reduceToInt, zw_zw, zw_sw1, zw_sw2, zw_sw3, zw_sw4, zw_sw5, zw_sw6, zw_sw7, ne_eq, zi_in, zi_cl, zi_le, zi_lt, zi_eq, zi_neg, zi_0le, zb_0, if_true, if_false, eq_self, zb_T, zb_F, Bool.false_eq_true, zO_eq, zO_ne1, zO_ne2, zO_nn, zi_ne1, zi_ne2, zi_lt1, zi_le1, zi_lt2, zi_le2, Int32.reduceLT, Int32.reduceLE, Nat.reduceLT, Nat.reduceLeDiff, Int32.reduceMul, Int32.reduceAdd, Int32.reduceSub, not_false_eq_true, not_true_eq_false, E_X10_either, R_X10_either, SHF, PF, q, hO p h1, f1]
  · have f1 : zft (X p) = nI (X p).2.1 := if_neg h1
    rw [if_neg h1, f1]
    simp only [f1] at q
    rw [show d + (K + 2) = d + K + 2 by omega] at q
    rw [show d + (K + 2 + 1) = d + K + 2 + 1 by omega]
    simp (disch := first | assumption | rfl | omega | decide | exact zb_01 _) only [zabs_e, zmax_e, zmin_e, zrf_s, zpush_s, zpush_n, zw_app, upd_app, updL_app, Nat.reduceEqDiff, Nat.add_left_cancel_iff, Nat.add_eq_left, Nat.left_eq_add, ↓reduceIte, true_and, and_true, Int32.reduceToNatClampNeg, zin_O, zi_ltO, zi_leO, zi_Olt, zi_Ole, zi_eqO, Nat.not_lt_zero, Nat.zero_le, List.append_nil, zrn_n, zrn_s, List.cons_append, List.nil_append, zlg_lt, zlg_gt, zlg_le, zlg_ge, zlg_eq, Int32.toInt_toInt64, Int64.reduceToInt, zw_zw, zw_sw1, zw_sw2, zw_sw3, zw_sw4, zw_sw5, zw_sw6, zw_sw7, ne_eq, zi_in, zi_cl, zi_le, zi_lt, zi_eq, zi_neg, zi_0le, zb_0, if_true, if_false, eq_self, zb_T, zb_F, Bool.false_eq_true, zO_eq, zO_ne1, zO_ne2, zO_nn, zi_ne1, zi_ne2, zi_lt1, zi_le1, zi_lt2, zi_le2, Int32.reduceLT, Int32.reduceLE, Nat.reduceLT, Nat.reduceLeDiff, Int32.reduceMul, Int32.reduceAdd, Int32.reduceSub, not_false_eq_true, not_true_eq_false, E_X10_either, R_X10_either, SHF, PF, q, H_X10_either_5, m_takes1]
theorem zMC_both (hR : zmR I s N) {K : Nat} {o : Int32} {X : Nat → zR} (hK : 2 ≤ K) (hB : zBd N X) (hO : zOo o X) (hX : zMC N f g t I L 151 K o X) : zMC N f g t I L 150 (K + 1) o (zlev (zah s N) 1 120 X) := by
  intro d p Q hp
  have h120 := hR.2.1
  obtain ⟨K, rfl⟩ : ∃ j, K = j + 2 := ⟨K - 2, by omega⟩
  have hB1 := hB p hp
  have q := fun Q => hX d p Q hp
  have loop : ∀ k p c v (l2 : Value), N ≤ p + k → p ≤ N → zWp (d + (K + 2)) zi_150 none 5 [.ref 80, .int v, l2] [] (zSH, zw I 80 (zAc (I 80) (p) (-1) (o)), L, zP f g t) Q = Q (some (.int (zloop (zah s N) 1 X k p c v o).2.2.2.1)) (zSH, zw I 80 (zAc (I 80) ((zloop (zah s N) 1 X k p c v o).2.1) (zft (zloop (zah s N) 1 X k p c v o)) ((zloop (zah s N) 1 X k p c v o).2.2.2.2)), L, zP f g t) := by
    intro k
    induction k with
    | zero =>
      intro p c v l2 hk hp
      rw [H_X10_both_5, show d + (K + 2) = d + K + 2 by omega]
      simp (disch := first | assumption | rfl | omega | decide | exact zb_01 _) only [zabs_e, zmax_e, zmin_e, zrf_s, zpush_s, zpush_n, zw_app, upd_app, updL_app, Nat.reduceEqDiff, Nat.add_left_cancel_iff, Nat.add_eq_left, Nat.left_eq_add, ↓reduceIte, true_and, and_true, Int32.reduceToNatClampNeg, zin_O, zi_ltO, zi_leO, zi_Olt, zi_Ole, zi_eqO, Nat.not_lt_zero, Nat.zero_le, List.append_nil, zrn_n, zrn_s, List.cons_append, List.nil_append, zlg_lt, zlg_gt, zlg_le, zlg_ge, zlg_eq, Int32.toInt_toInt64, Int64.reduceToInt, zw_zw, zw_sw1, zw_sw2, zw_sw3, zw_sw4, zw_sw5, zw_sw6, zw_sw7, ne_eq, zi_in, zi_cl, zi_le, zi_lt, zi_eq, zi_neg, zi_0le, zb_0, if_true, if_false, eq_self, zb_T, zb_F, Bool.false_eq_true, zO_eq, zO_ne1, zO_ne2, zO_nn, zi_ne1, zi_ne2, zi_lt1, zi_le1, zi_lt2, zi_le2, Int32.reduceLT, Int32.reduceLE, Nat.reduceLT, Nat.reduceLeDiff, Int32.reduceMul, Int32.reduceAdd, Int32.reduceSub, not_false_eq_true, not_true_eq_false, R_X10_both, SHF, PF, m_takes0 hR, zah_end]
      rfl
    | succ k ih =>
      intro p c v l2 hk hp
      rw [H_X10_both_5]
      unfold zloop
      by_cases h1 : zah s N p = 38
      · have hp2 := zah_lt (fun z => absurd (z.symm.trans h1) (by decide))
        have hB2 := hB (p + 1) hp2
        have q2 := fun Q => hX d (p + 1) Q hp2
        rw [if_pos ((zlvl_1 _).mpr h1)]
        by_cases h2 : (X (p + 1)).1 = true
        · have f1 : zft (X (p + 1)) = -1 := if_pos h2
          have ih2 := fun v2 l2 => ih (X (p + 1)).2.1 (c ++ (X (p + 1)).2.2.1 ++ [(zah s N p, 0)]) v2 l2 (by omega) hB2.2.1
          simp only [f1, hO _ h2] at q2
          rw [if_pos h2, hO _ h2, h1, zjn_38]
          rw [h1] at ih2
          rw [show d + (K + 2) = d + K + 2 by omega] at q2 ih2 ⊢
          simp (disch := first | assumption | rfl | omega | decide | exact zb_01 _) only [zabs_e, zmax_e, zmin_e, zrf_s, zpush_s, zpush_n, zw_app, upd_app, updL_app, Nat.reduceEqDiff, Nat.add_left_cancel_iff, Nat.add_eq_left, Nat.left_eq_add, ↓reduceIte, true_and, and_true, Int32.reduceToNatClampNeg, zin_O, zi_ltO, zi_leO, zi_Olt, zi_Ole, zi_eqO, Nat.not_lt_zero, Nat.zero_le, List.append_nil, zrn_n, zrn_s, List.cons_append, List.nil_append, zlg_lt, zlg_gt, zlg_le, zlg_ge, zlg_eq, Int32.toInt_toInt64, Int64.reduceToInt, zw_zw, zw_sw1, zw_sw2, zw_sw3, zw_sw4, zw_sw5, zw_sw6, zw_sw7, ne_eq, zi_in, zi_cl, zi_le, zi_lt, zi_eq, zi_neg, zi_0le, zb_0, if_true, if_false, eq_self, zb_T, zb_F, Bool.false_eq_true, zO_eq, zO_ne1, zO_ne2, zO_nn, zi_ne1, zi_ne2, zi_lt1, zi_le1, zi_lt2, zi_le2, Int32.reduceLT, Int32.reduceLE, Nat.reduceLT, Nat.reduceLeDiff, Int32.reduceMul, Int32.reduceAdd, Int32.reduceSub, not_false_eq_true, not_true_eq_false, R_X10_both, SHF, PF, m_takes0 hR, h1, q2]
          by_cases v0 : v = 0 <;> by_cases w0 : (X (p + 1)).2.2.2.1 = 0 <;> simp only [v0, w0, ↓reduceIte] <;> exact ih2 _ _
        · have f1 : zft (X (p + 1)) = nI (X (p + 1)).2.1 := if_neg h2
          have f2 : zft (false, (X (p + 1)).2.1, c ++ (X (p + 1)).2.2.1, zjn 38 v (X (p + 1)).2.2.2.1, (X (p + 1)).2.2.2.2) = nI (X (p + 1)).2.1 := if_neg (fun z => Bool.noConfusion z)
          simp only [f1] at q2
          rw [if_neg h2, h1, f2]
          rw [show d + (K + 2) = d + K + 2 by omega] at q2 ⊢
          simp (disch := first | assumption | rfl | omega | decide | exact zb_01 _) only [zabs_e, zmax_e, zmin_e, zrf_s, zpush_s, zpush_n, zw_app, upd_app, updL_app, Nat.reduceEqDiff, Nat.add_left_cancel_iff, Nat.add_eq_left, Nat.left_eq_add, ↓reduceIte, true_and, and_true, Int32.reduceToNatClampNeg, zin_O, zi_ltO, zi_leO, zi_Olt, zi_Ole, zi_eqO, Nat.not_lt_zero, Nat.zero_le, List.append_nil, zrn_n, zrn_s, List.cons_append, List.nil_append, zlg_lt, zlg_gt, zlg_le, zlg_ge, zlg_eq, Int32.toInt_toInt64, Int64.reduceToInt, zw_zw, zw_sw1, zw_sw2, zw_sw3, zw_sw4, zw_sw5, zw_sw6, zw_sw7, ne_eq, zi_in, zi_cl, zi_le, zi_lt, zi_eq, zi_neg, zi_0le, zb_0, if_true, if_false, eq_self, zb_T, zb_F, Bool.false_eq_true, zO_eq, zO_ne1, zO_ne2, zO_nn, zi_ne1, zi_ne2, zi_lt1, zi_le1, zi_lt2, zi_le2, Int32.reduceLT, Int32.reduceLE, Nat.reduceLT, Nat.reduceLeDiff, Int32.reduceMul, Int32.reduceAdd, Int32.reduceSub, not_false_eq_true, not_true_eq_false, R_X10_both, SHF, PF, m_takes0 hR, h1, q2]
          simp only [H_X10_both_5]
          simp (disch := first | assumption | rfl | omega | decide | exact zb_01 _) only [zabs_e, zmax_e, zmin_e, zrf_s, zpush_s, zpush_n, zw_app, upd_app, updL_app, Nat.reduceEqDiff, Nat.add_left_cancel_iff, Nat.add_eq_left, Nat.left_eq_add, ↓reduceIte, true_and, and_true, Int32.reduceToNatClampNeg, zin_O, zi_ltO, zi_leO, zi_Olt, zi_Ole, zi_eqO, Nat.not_lt_zero, Nat.zero_le, List.append_nil, zrn_n, zrn_s, List.cons_append, List.nil_append, zlg_lt, zlg_gt, zlg_le, zlg_ge, zlg_eq, Int32.toInt_toInt64, Int64.reduceToInt, zw_zw, zw_sw1, zw_sw2, zw_sw3, zw_sw4, zw_sw5, zw_sw6, zw_sw7, ne_eq, zi_in, zi_cl, zi_le, zi_lt, zi_eq, zi_neg, zi_0le, zb_0, if_true, if_false, eq_self, zb_T, zb_F, Bool.false_eq_true, zO_eq, zO_ne1, zO_ne2, zO_nn, zi_ne1, zi_ne2, zi_lt1, zi_le1, zi_lt2, zi_le2, Int32.reduceLT, Int32.reduceLE, Nat.reduceLT, Nat.reduceLeDiff, Int32.reduceMul, Int32.reduceAdd, Int32.reduceSub, not_false_eq_true, not_true_eq_false, R_X10_both, SHF, PF, m_takes1]
          rw [zjn_38]
          by_cases v0 : v = 0 <;> by_cases w0 : (X (p + 1)).2.2.2.1 = 0 <;> simp only [v0, w0, ↓reduceIte]
      · rw [if_neg (fun z => h1 ((zlvl_1 _).mp z)), show d + (K + 2) = d + K + 2 by omega]
        simp (disch := first | assumption | rfl | omega | decide | exact zb_01 _) only [zabs_e, zmax_e, zmin_e, zrf_s, zpush_s, zpush_n, zw_app, upd_app, updL_app, Nat.reduceEqDiff, Nat.add_left_cancel_iff, Nat.add_eq_left, Nat.left_eq_add, ↓reduceIte, true_and, and_true, Int32.reduceToNatClampNeg, zin_O, zi_ltO, zi_leO, zi_Olt, zi_Ole, zi_eqO, Nat.not_lt_zero, Nat.zero_le, List.append_nil, zrn_n, zrn_s, List.cons_append, List.nil_append, zlg_lt, zlg_gt, zlg_le, zlg_ge, zlg_eq, Int32.toInt_toInt64, Int64.reduceToInt, zw_zw, zw_sw1, zw_sw2, zw_sw3, zw_sw4, zw_sw5, zw_sw6, zw_sw7, ne_eq, zi_in, zi_cl, zi_le, zi_lt, zi_eq, zi_neg, zi_0le, zb_0, if_true, if_false, eq_self, zb_T, zb_F, Bool.false_eq_true, zO_eq, zO_ne1, zO_ne2, zO_nn, zi_ne1, zi_ne2, zi_lt1, zi_le1, zi_lt2, zi_le2, Int32.reduceLT, Int32.reduceLE, Nat.reduceLT, Nat.reduceLeDiff, Int32.reduceMul, Int32.reduceAdd, Int32.reduceSub, not_false_eq_true, not_true_eq_false, R_X10_both, SHF, PF, m_takes0 hR, h1]
        rfl
  unfold zlev
  by_cases h1 : (X p).1 = true
  · have lo := loop 120 (X p).2.1 (X p).2.2.1 (X p).2.2.2.1 (.retAddr 0) (by omega) hB1.2.1
    have f1 : zft (X p) = -1 := if_pos h1
    rw [if_pos h1, hO p h1, ← lo]
    rw [show d + (K + 2 + 1) = d + (K + 2) + 1 by omega]
    simp (disch := first | assumption | rfl | omega | decide | exact zb_01 _) only [zabs_e, zmax_e, zmin_e, zrf_s, zpush_s, zpush_n, zw_app, upd_app, updL_app, Nat.reduceEqDiff, Nat.add_left_cancel_iff, Nat.add_eq_left, Nat.left_eq_add, ↓reduceIte, true_and, and_true, Int32.reduceToNatClampNeg, zin_O, zi_ltO, zi_leO, zi_Olt, zi_Ole, zi_eqO, Nat.not_lt_zero, Nat.zero_le, List.append_nil, zrn_n, zrn_s, List.cons_append, List.nil_append, zlg_lt, zlg_gt, zlg_le, zlg_ge, zlg_eq, Int32.toInt_toInt64, Int64.reduceToInt, zw_zw, zw_sw1, zw_sw2, zw_sw3, zw_sw4, zw_sw5, zw_sw6, zw_sw7, ne_eq, zi_in, zi_cl, zi_le, zi_lt, zi_eq, zi_neg, zi_0le, zb_0, if_true, if_false, eq_self, zb_T, zb_F, Bool.false_eq_true, zO_eq, zO_ne1, zO_ne2, zO_nn, zi_ne1, zi_ne2, zi_lt1, zi_le1, zi_lt2, zi_le2, Int32.reduceLT, Int32.reduceLE, Nat.reduceLT, Nat.reduceLeDiff, Int32.reduceMul, Int32.reduceAdd, Int32.reduceSub, not_false_eq_true, not_true_eq_false, E_X10_both, R_X10_both, SHF, PF, q, hO p h1, f1]
  · have f1 : zft (X p) = nI (X p).2.1 := if_neg h1
    rw [if_neg h1, f1]
    simp only [f1] at q
    rw [show d + (K + 2) = d + K + 2 by omega] at q
    rw [show d + (K + 2 + 1) = d + K + 2 + 1 by omega]
    simp (disch := first | assumption | rfl | omega | decide | exact zb_01 _) only [zabs_e, zmax_e, zmin_e, zrf_s, zpush_s, zpush_n, zw_app, upd_app, updL_app, Nat.reduceEqDiff, Nat.add_left_cancel_iff, Nat.add_eq_left, Nat.left_eq_add, ↓reduceIte, true_and, and_true, Int32.reduceToNatClampNeg, zin_O, zi_ltO, zi_leO, zi_Olt, zi_Ole, zi_eqO, Nat.not_lt_zero, Nat.zero_le, List.append_nil, zrn_n, zrn_s, List.cons_append, List.nil_append, zlg_lt, zlg_gt, zlg_le, zlg_ge, zlg_eq, Int32.toInt_toInt64, Int64.reduceToInt, zw_zw, zw_sw1, zw_sw2, zw_sw3, zw_sw4, zw_sw5, zw_sw6, zw_sw7, ne_eq, zi_in, zi_cl, zi_le, zi_lt, zi_eq, zi_neg, zi_0le, zb_0, if_true, if_false, eq_self, zb_T, zb_F, Bool.false_eq_true, zO_eq, zO_ne1, zO_ne2, zO_nn, zi_ne1, zi_ne2, zi_lt1, zi_le1, zi_lt2, zi_le2, Int32.reduceLT, Int32.reduceLE, Nat.reduceLT, Nat.reduceLeDiff, Int32.reduceMul, Int32.reduceAdd, Int32.reduceSub, not_false_eq_true, not_true_eq_false, E_X10_both, R_X10_both, SHF, PF, q, H_X10_both_5, m_takes1]
end MEXP
