def zsb (B : Nat → Int32) : Nat → Nat → Int32 → Int32
  | 0, _, s => s
  | c + 1, i, s => if B i = -2 then -2 else zsb B c (i + 1) (s + B i)
def zsm (B : Nat → Int32) : Nat → Nat → Int32 → Int32
  | 0, _, s => s
  | c + 1, i, s => zsm B c (i + 1) (if s < 0 then -2 else if B i < 0 then -2 else s + B i)
theorem zsm_n (B : Nat → Int32) : ∀ c i, zsm B c i (-2) = -2
  | 0, _ => rfl
  | c + 1, i => by rw [zsm, if_pos (by decide), zsm_n B c]
theorem zbf_v (B lim : Int32) : ∀ c i, zbf B lim c i = -2 ∨ ∃ j, j < i + c ∧ zbf B lim c i = nI j
  | 0, _ => Or.inl rfl
  | c + 1, i => by
    unfold zbf
    split
    · exact Or.inr ⟨i, by omega, rfl⟩
    · rcases zbf_v B lim c (i + 1) with h | ⟨j, h1, h2⟩
      · exact Or.inl h
      · exact Or.inr ⟨j, by omega, h2⟩
theorem zsb_m {B : Nat → Int32} (hB : ∀ i, B i = -2 ∨ ∃ j, j < 10 ∧ B i = nI j) : ∀ c i (v : Nat), v ≤ 9 * i → c + i ≤ 8 → zsm B c i (nI v) = zsb B c i (nI v)
  | 0, _, _, _, _ => rfl
  | c + 1, i, v, h1, h2 => by
    rw [zsm, zsb, if_neg (nI_pos (by omega))]
    rcases hB i with h | ⟨j, hj, h⟩
    · rw [h, if_pos (by decide), if_pos rfl, zsm_n]
    · have h3 : ¬ nI j = -2 := by rw [zi_ne1 (n := j) (m := 2) (by omega) (by omega) (by omega)]; exact not_false
      rw [h, if_neg (nI_pos (by omega)), if_neg h3, nI_add]
      exact zsb_m hB c (i + 1) (v + j) (by omega) (by omega)
def zju (E : Nat → Int64) (H : Nat → Int32) : Nat → Nat → Int32
  | 0, _ => -2
  | c + 1, i => if (E i).toInt = (zmin 127 (H i)).toInt then zju E H c (i + 1) else nI i
section FOPS3
variable {d f g n k a b z bb p : Nat} {t : Option Nat} {I J : Nat → Nat → Int32} {L : Nat → Nat → Int64} {Q : Option Value → zMm → Prop} {law : zLawT}
theorem c_bo_l {B : Nat → Int32} (hk : J 27 3 = nI k) (hk8 : k ≤ 8) (q' : ∀ d Q, zWM (d + 6) 99 [.ref 0] (zSH, J, L, zP f g t) Q = Q (some (.ref 33)) (zSH, J, L, zP f g t)) (hB : ∀ i d Q, i < k → zWM (d + 5) 29 [.ref 27, .int (nI i), .ref 33] (zSH, J, L, zP f g t) Q = Q (some (.int (B i))) (zSH, J, L, zP f g t)) : ∀ c i (s : Int32) (l4 : Value), c + i = k → zWp (d + 6) zi_98 none 37 [.ref 0, .int (-1), .int s, .int (nI i), l4] [] (zSH, J, L, zP f g t) Q = Q (some (.int (zsb B c i s))) (zSH, J, L, zP f g t) := by
  intro c
  induction c with
  | zero =>
    intro i s l4 hi
    have hi : i = k := by omega
    subst hi
    rw [H_X9_boarded_37]
    simp (disch := first | assumption | rfl | omega | decide | exact zb_01 _) only [zabs_e, zmax_e, zmin_e, zrf_s, zpush_s, zpush_n, zw_app, upd_app, updL_app, Nat.reduceEqDiff, Nat.add_left_cancel_iff, Nat.add_eq_left, Nat.left_eq_add, ↓reduceIte, true_and, and_true, Int32.reduceToNatClampNeg, zin_O, zi_ltO, zi_leO, zi_Olt, zi_Ole, zi_eqO, Nat.not_lt_zero, Nat.zero_le, List.append_nil, zrn_n, zrn_s, List.cons_append, List.nil_append, zlg_lt, zlg_gt, zlg_le, zlg_ge, zlg_eq, Int32.toInt_toInt64, Int64.reduceToInt, zw_zw, zw_sw1, zw_sw2, zw_sw3, zw_sw4, zw_sw5, zw_sw6, zw_sw7, ne_eq, zi_in, zi_cl, zi_le, zi_lt, zi_eq, zi_neg, zi_0le, zb_0, if_true, if_false, eq_self, zb_T, zb_F, Bool.false_eq_true, zO_eq, zO_ne1, zO_ne2, zO_nn, zi_ne1, zi_ne2, zi_lt1, zi_le1, zi_lt2, zi_le2, Int32.reduceLT, Int32.reduceLE, Nat.reduceLT, Nat.reduceLeDiff, Int32.reduceMul, Int32.reduceAdd, Int32.reduceSub, not_false_eq_true, not_true_eq_false, Int32.reduceToInt, Int.reduceLE, Int.reduceLT, Int.reduceNeg, ite_self, R_X9_boarded, SHF, PF, hk, Nat.le_refl, zsb]
  | succ c ih =>
    intro i s l4 hi
    have h1 : ¬ k ≤ i := by omega
    have hBi := fun d Q => hB i d Q (by omega)
    have ih2 := ih (i + 1) (s + B i) (.int (B i)) (by omega)
    rw [H_X9_boarded_37, zsb]
    by_cases h2 : B i = -2
    · rw [if_pos h2]
      rw [h2] at hBi
      simp (disch := first | assumption | rfl | omega | decide | exact zb_01 _) only [zabs_e, zmax_e, zmin_e, zrf_s, zpush_s, zpush_n, zw_app, upd_app, updL_app, Nat.reduceEqDiff, Nat.add_left_cancel_iff, Nat.add_eq_left, Nat.left_eq_add, ↓reduceIte, true_and, and_true, Int32.reduceToNatClampNeg, zin_O, zi_ltO, zi_leO, zi_Olt, zi_Ole, zi_eqO, Nat.not_lt_zero, Nat.zero_le, List.append_nil, zrn_n, zrn_s, List.cons_append, List.nil_append, zlg_lt, zlg_gt, zlg_le, zlg_ge, zlg_eq, Int32.toInt_toInt64, Int64.reduceToInt, zw_zw, zw_sw1, zw_sw2, zw_sw3, zw_sw4, zw_sw5, zw_sw6, zw_sw7, ne_eq, zi_in, zi_cl, zi_le, zi_lt, zi_eq, zi_neg, zi_0le, zb_0, if_true, if_false, eq_self, zb_T, zb_F, Bool.false_eq_true, zO_eq, zO_ne1, zO_ne2, zO_nn, zi_ne1, zi_ne2, zi_lt1, zi_le1, zi_lt2, zi_le2, Int32.reduceLT, Int32.reduceLE, Nat.reduceLT, Nat.reduceLeDiff, Int32.reduceMul, Int32.reduceAdd, Int32.reduceSub, not_false_eq_true, not_true_eq_false, Int32.reduceToInt, Int.reduceLE, Int.reduceLT, Int.reduceNeg, ite_self, R_X9_boarded, SHF, PF, hk, h1, q', hBi]
    · rw [if_neg h2, ← ih2]
      simp (disch := first | assumption | rfl | omega | decide | exact zb_01 _) only [zabs_e, zmax_e, zmin_e, zrf_s, zpush_s, zpush_n, zw_app, upd_app, updL_app, Nat.reduceEqDiff, Nat.add_left_cancel_iff, Nat.add_eq_left, Nat.left_eq_add, ↓reduceIte, true_and, and_true, Int32.reduceToNatClampNeg, zin_O, zi_ltO, zi_leO, zi_Olt, zi_Ole, zi_eqO, Nat.not_lt_zero, Nat.zero_le, List.append_nil, zrn_n, zrn_s, List.cons_append, List.nil_append, zlg_lt, zlg_gt, zlg_le, zlg_ge, zlg_eq, Int32.toInt_toInt64, Int64.reduceToInt, zw_zw, zw_sw1, zw_sw2, zw_sw3, zw_sw4, zw_sw5, zw_sw6, zw_sw7, ne_eq, zi_in, zi_cl, zi_le, zi_lt, zi_eq, zi_neg, zi_0le, zb_0, if_true, if_false, eq_self, zb_T, zb_F, Bool.false_eq_true, zO_eq, zO_ne1, zO_ne2, zO_nn, zi_ne1, zi_ne2, zi_lt1, zi_le1, zi_lt2, zi_le2, Int32.reduceLT, Int32.reduceLE, Nat.reduceLT, Nat.reduceLeDiff, Int32.reduceMul, Int32.reduceAdd, Int32.reduceSub, not_false_eq_true, not_true_eq_false, Int32.reduceToInt, Int.reduceLE, Int.reduceLT, Int.reduceNeg, ite_self, R_X9_boarded, SHF, PF, hk, h1, q', hBi, h2, zi_s]
theorem m_bo_l {B : Nat → Int32} (hk : J 80 10 = nI k) (hk8 : k ≤ 8) (hB : ∀ i d Q, i < k → zWM (d + 4) 180 [.ref 80, .int (nI i)] (zSH, J, L, zP f g t) Q = Q (some (.int (B i))) (zSH, J, L, zP f g t)) : ∀ c i (s : Int32) (l4 : Value), c + i = k → zWp (d + 4) zi_181 none 33 [.ref 80, .int (-1), .int s, .int (nI i), l4] [] (zSH, J, L, zP f g t) Q = Q (some (.int (zsm B c i s))) (zSH, J, L, zP f g t) := by
  intro c
  induction c with
  | zero =>
    intro i s l4 hi
    have hi : i = k := by omega
    subst hi
    rw [H_X10_boarded_33]
    simp (disch := first | assumption | rfl | omega | decide | exact zb_01 _) only [zabs_e, zmax_e, zmin_e, zrf_s, zpush_s, zpush_n, zw_app, upd_app, updL_app, Nat.reduceEqDiff, Nat.add_left_cancel_iff, Nat.add_eq_left, Nat.left_eq_add, ↓reduceIte, true_and, and_true, Int32.reduceToNatClampNeg, zin_O, zi_ltO, zi_leO, zi_Olt, zi_Ole, zi_eqO, Nat.not_lt_zero, Nat.zero_le, List.append_nil, zrn_n, zrn_s, List.cons_append, List.nil_append, zlg_lt, zlg_gt, zlg_le, zlg_ge, zlg_eq, Int32.toInt_toInt64, Int64.reduceToInt, zw_zw, zw_sw1, zw_sw2, zw_sw3, zw_sw4, zw_sw5, zw_sw6, zw_sw7, ne_eq, zi_in, zi_cl, zi_le, zi_lt, zi_eq, zi_neg, zi_0le, zb_0, if_true, if_false, eq_self, zb_T, zb_F, Bool.false_eq_true, zO_eq, zO_ne1, zO_ne2, zO_nn, zi_ne1, zi_ne2, zi_lt1, zi_le1, zi_lt2, zi_le2, Int32.reduceLT, Int32.reduceLE, Nat.reduceLT, Nat.reduceLeDiff, Int32.reduceMul, Int32.reduceAdd, Int32.reduceSub, not_false_eq_true, not_true_eq_false, Int32.reduceToInt, Int.reduceLE, Int.reduceLT, Int.reduceNeg, ite_self, R_X10_boarded, SHF, PF, hk, Nat.le_refl, zsm]
  | succ c ih =>
    intro i s l4 hi
    have h1 : ¬ k ≤ i := by omega
    have hBi := fun d Q => hB i d Q (by omega)
    have ih2 := fun s => ih (i + 1) s (.int (B i)) (by omega)
    rw [H_X10_boarded_33, zsm]
    by_cases h2 : s < 0
    · rw [if_pos h2, ← ih2]
      simp (disch := first | assumption | rfl | omega | decide | exact zb_01 _) only [zabs_e, zmax_e, zmin_e, zrf_s, zpush_s, zpush_n, zw_app, upd_app, updL_app, Nat.reduceEqDiff, Nat.add_left_cancel_iff, Nat.add_eq_left, Nat.left_eq_add, ↓reduceIte, true_and, and_true, Int32.reduceToNatClampNeg, zin_O, zi_ltO, zi_leO, zi_Olt, zi_Ole, zi_eqO, Nat.not_lt_zero, Nat.zero_le, List.append_nil, zrn_n, zrn_s, List.cons_append, List.nil_append, zlg_lt, zlg_gt, zlg_le, zlg_ge, zlg_eq, Int32.toInt_toInt64, Int64.reduceToInt, zw_zw, zw_sw1, zw_sw2, zw_sw3, zw_sw4, zw_sw5, zw_sw6, zw_sw7, ne_eq, zi_in, zi_cl, zi_le, zi_lt, zi_eq, zi_neg, zi_0le, zb_0, if_true, if_false, eq_self, zb_T, zb_F, Bool.false_eq_true, zO_eq, zO_ne1, zO_ne2, zO_nn, zi_ne1, zi_ne2, zi_lt1, zi_le1, zi_lt2, zi_le2, Int32.reduceLT, Int32.reduceLE, Nat.reduceLT, Nat.reduceLeDiff, Int32.reduceMul, Int32.reduceAdd, Int32.reduceSub, not_false_eq_true, not_true_eq_false, Int32.reduceToInt, Int.reduceLE, Int.reduceLT, Int.reduceNeg, ite_self, R_X10_boarded, SHF, PF, hk, h1, hBi, h2, zi_s]
    · rw [if_neg h2]
      by_cases h3 : B i < 0
      · have h3' : ¬ 0 ≤ B i := Int32.not_le.mpr h3
        rw [if_pos h3, ← ih2]
        simp (disch := first | assumption | rfl | omega | decide | exact zb_01 _) only [zabs_e, zmax_e, zmin_e, zrf_s, zpush_s, zpush_n, zw_app, upd_app, updL_app, Nat.reduceEqDiff, Nat.add_left_cancel_iff, Nat.add_eq_left, Nat.left_eq_add, ↓reduceIte, true_and, and_true, Int32.reduceToNatClampNeg, zin_O, zi_ltO, zi_leO, zi_Olt, zi_Ole, zi_eqO, Nat.not_lt_zero, Nat.zero_le, List.append_nil, zrn_n, zrn_s, List.cons_append, List.nil_append, zlg_lt, zlg_gt, zlg_le, zlg_ge, zlg_eq, Int32.toInt_toInt64, Int64.reduceToInt, zw_zw, zw_sw1, zw_sw2, zw_sw3, zw_sw4, zw_sw5, zw_sw6, zw_sw7, ne_eq, zi_in, zi_cl, zi_le, zi_lt, zi_eq, zi_neg, zi_0le, zb_0, if_true, if_false, eq_self, zb_T, zb_F, Bool.false_eq_true, zO_eq, zO_ne1, zO_ne2, zO_nn, zi_ne1, zi_ne2, zi_lt1, zi_le1, zi_lt2, zi_le2, Int32.reduceLT, Int32.reduceLE, Nat.reduceLT, Nat.reduceLeDiff, Int32.reduceMul, Int32.reduceAdd, Int32.reduceSub, not_false_eq_true, not_true_eq_false, Int32.reduceToInt, Int.reduceLE, Int.reduceLT, Int.reduceNeg, ite_self, R_X10_boarded, SHF, PF, hk, h1, hBi, h2, h3, h3', zi_s]
      · have h3' : 0 ≤ B i := Int32.not_lt.mp h3
        rw [if_neg h3, ← ih2]
        simp (disch := first | assumption | rfl | omega | decide | exact zb_01 _) only [zabs_e, zmax_e, zmin_e, zrf_s, zpush_s, zpush_n, zw_app, upd_app, updL_app, Nat.reduceEqDiff, Nat.add_left_cancel_iff, Nat.add_eq_left, Nat.left_eq_add, ↓reduceIte, true_and, and_true, Int32.reduceToNatClampNeg, zin_O, zi_ltO, zi_leO, zi_Olt, zi_Ole, zi_eqO, Nat.not_lt_zero, Nat.zero_le, List.append_nil, zrn_n, zrn_s, List.cons_append, List.nil_append, zlg_lt, zlg_gt, zlg_le, zlg_ge, zlg_eq, Int32.toInt_toInt64, Int64.reduceToInt, zw_zw, zw_sw1, zw_sw2, zw_sw3, zw_sw4, zw_sw5, zw_sw6, zw_sw7, ne_eq, zi_in, zi_cl, zi_le, zi_lt, zi_eq, zi_neg, zi_0le, zb_0, if_true, if_false, eq_self, zb_T, zb_F, Bool.false_eq_true, zO_eq, zO_ne1, zO_ne2, zO_nn, zi_ne1, zi_ne2, zi_lt1, zi_le1, zi_lt2, zi_le2, Int32.reduceLT, Int32.reduceLE, Nat.reduceLT, Nat.reduceLeDiff, Int32.reduceMul, Int32.reduceAdd, Int32.reduceSub, not_false_eq_true, not_true_eq_false, Int32.reduceToInt, Int.reduceLE, Int.reduceLT, Int.reduceNeg, ite_self, R_X10_boarded, SHF, PF, hk, h1, hBi, h2, h3, h3', zi_s]
theorem op_boarded (hR : zRel I L f g) (x : Int32) : zOp 98 181 [.int x] I L f g t := by
  obtain ⟨law, n, k, a, b, z, bb, hR9⟩ := id hR
  obtain ⟨hfg, ht, hw, hp, hs, hi, hc, hy, hl, hb, hr, hh, hf⟩ := id hR9
  have qh := fun d r Q => c_phas (d := d) (f := f) (g := g) (t := t) (I := I) (L := L) (Q := Q) r
  rw [hp.1] at qh
  have k9 : k < 2147483648 := by have := hp.2.2.1; omega
  -- of one PANE, both
  have one : ∀ J, zRel9 J L f g law n k a b z bb → (J 33 7, J 33 8, J 33 9, J 33 10) = zbb J n law → zFk J n (zss J law) → ∀ J2, (∀ a, (a < 80 ∨ (80 < a ∧ a < 90) ∨ a = 92 ∨ 96 < a) → J2 a = J a) → (J2 80 29, J2 80 30, J2 80 31, J2 80 32) = zbb J n law →
      (∀ m k, m < 61 → k < n → J2 95 (24 * m + k) = zss J law (m + 1) k ∧ J2 96 (24 * m + k) = zss J law m k - zss J law (m + 1) k) → J2 80 6 = nI n → (∀ m k, m < 61 → k < n → 0 ≤ (zss J law m k - zss J law (m + 1) k).toInt ∧ (zss J law m k - zss J law (m + 1) k).toInt ≤ 108) →
      ∀ p, p < k → (∀ d Q, zWM (d + 5) 29 [.ref 27, .int (nI p), .ref 33] (zSH, J, L, zP f g t) Q = Q (some (.int (zbf (zbR (zgf (J 28 p) (J 29 p) n (zss J law)) (zla (J 33 7) + 1)) (J 27 4) 10 0))) (zSH, J, L, zP f g t)) ∧ (∀ d Q, zWM (d + 4) 180 [.ref 80, .int (nI p)] (zSH, J2, L, zP f g t) Q = Q (some (.int (zbf (zbR (zgf (J 28 p) (J 29 p) n (zss J law)) (zla (J 33 7) + 1)) (J 27 4) 10 0))) (zSH, J2, L, zP f g t)) := by
    intro J hRJ kb kf J2 f1 f2 f3 f4 f6 p hj
    have p8 : p < 8 := by have := hp.2.2.1; omega
    obtain ⟨-, ht', hw', hp', -⟩ := id hRJ
    obtain ⟨v1, v2, v3⟩ := hp'.2.2.2.1 p hj
    have q86 : J2 86 p = J 28 p := by rw [f1 86 (by omega)]; exact v1
    have q87 : J2 87 p = J 29 p := by rw [f1 87 (by omega)]; exact v2
    have q82 : J2 81 82 = J 27 4 := by rw [f1 81 (by omega)]; exact hw'.1.2.2.1
    have e7 : J 33 7 = J2 80 29 := congrArg Prod.fst (kb.trans f2.symm)
    have b61 := zb61 kb
    have hlim : 0 < J 27 4 := Int32.lt_iff_toInt_lt.mpr (by have := hw'.2.2.2.1; have t0 : (0 : Int32).toInt = 0 := (by decide); omega)
    refine ⟨fun d Q => c_boardsFor kf ht.2.2.1 b61 p8 v3, fun d Q => ?_⟩
    have qma := m_boardsFor (d := d) (f := f) (g := g) (t := t) (L := L) (Q := Q) (I := J2) (n := n) (p := p) (s := zss J law) f4 (fun m k hm hk => (f3 m k hm hk).2) ht.2.2.1 f6 (by rw [← e7]; exact b61) p8 (by rw [q86, q87]; exact v3) (by rw [q82]; exact hlim)
    rw [q86, q87, q82, ← e7] at qma
    exact qma
  by_cases x1 : x = -1
  · subst x1
    by_cases k0 : k = 0
    · subst k0
      obtain ⟨J2, f1, f2, f3, f4, f5, f6, f7, qm⟩ := m_fireR (t := t) hR9
      refine zOp_m (.int 0) I J2 (fun d Q => ?_) (fun d Q => ?_) f7
      · simp (disch := first | assumption | rfl | omega | decide | exact zb_01 _) only [zabs_e, zmax_e, zmin_e, zrf_s, zpush_s, zpush_n, zw_app, upd_app, updL_app, Nat.reduceEqDiff, Nat.add_left_cancel_iff, Nat.add_eq_left, Nat.left_eq_add, ↓reduceIte, true_and, and_true, Int32.reduceToNatClampNeg, zin_O, zi_ltO, zi_leO, zi_Olt, zi_Ole, zi_eqO, Nat.not_lt_zero, Nat.zero_le, List.append_nil, zrn_n, zrn_s, List.cons_append, List.nil_append, zlg_lt, zlg_gt, zlg_le, zlg_ge, zlg_eq, Int32.toInt_toInt64, Int64.reduceToInt, zw_zw, zw_sw1, zw_sw2, zw_sw3, zw_sw4, zw_sw5, zw_sw6, zw_sw7, ne_eq, zi_in, zi_cl, zi_le, zi_lt, zi_eq, zi_neg, zi_0le, zb_0, if_true, if_false, eq_self, zb_T, zb_F, Bool.false_eq_true, zO_eq, zO_ne1, zO_ne2, zO_nn, zi_ne1, zi_ne2, zi_lt1, zi_le1, zi_lt2, zi_le2, Int32.reduceLT, Int32.reduceLE, Nat.reduceLT, Nat.reduceLeDiff, Int32.reduceMul, Int32.reduceAdd, Int32.reduceSub, not_false_eq_true, not_true_eq_false, Int32.reduceToInt, Int.reduceLE, Int.reduceLT, Int.reduceNeg, ite_self, E_X9_boarded, R_X9_boarded, SHF, PF, H_X9_boarded_37, hp.1]
      · simp (disch := first | assumption | rfl | omega | decide | exact zb_01 _) only [zabs_e, zmax_e, zmin_e, zrf_s, zpush_s, zpush_n, zw_app, upd_app, updL_app, Nat.reduceEqDiff, Nat.add_left_cancel_iff, Nat.add_eq_left, Nat.left_eq_add, ↓reduceIte, true_and, and_true, Int32.reduceToNatClampNeg, zin_O, zi_ltO, zi_leO, zi_Olt, zi_Ole, zi_eqO, Nat.not_lt_zero, Nat.zero_le, List.append_nil, zrn_n, zrn_s, List.cons_append, List.nil_append, zlg_lt, zlg_gt, zlg_le, zlg_ge, zlg_eq, Int32.toInt_toInt64, Int64.reduceToInt, zw_zw, zw_sw1, zw_sw2, zw_sw3, zw_sw4, zw_sw5, zw_sw6, zw_sw7, ne_eq, zi_in, zi_cl, zi_le, zi_lt, zi_eq, zi_neg, zi_0le, zb_0, if_true, if_false, eq_self, zb_T, zb_F, Bool.false_eq_true, zO_eq, zO_ne1, zO_ne2, zO_nn, zi_ne1, zi_ne2, zi_lt1, zi_le1, zi_lt2, zi_le2, Int32.reduceLT, Int32.reduceLE, Nat.reduceLT, Nat.reduceLeDiff, Int32.reduceMul, Int32.reduceAdd, Int32.reduceSub, not_false_eq_true, not_true_eq_false, Int32.reduceToInt, Int.reduceLE, Int.reduceLT, Int.reduceNeg, ite_self, E_X10_boarded, R_X10_boarded, SHF, PF, H_X10_boarded_33, qm, f5]
    · obtain ⟨J, hRJ, hJ, kb, kf, q, q'⟩ := c_burntR (t := t) hR9
      obtain ⟨J2, f1, f2, f3, f4, f5, f6, f7, qm⟩ := m_fireR (t := t) hRJ
      have o := one J hRJ kb kf J2 f1 f2 f3 f4 f6
      have j27 : J 27 3 = nI k := hRJ.2.2.2.1.1
      have k1 : ¬ k ≤ 0 := by omega
      have eqs := zsb_m (B := fun p => zbf (zbR (zgf (J 28 p) (J 29 p) n (zss J law)) (zla (J 33 7) + 1)) (J 27 4) 10 0) (fun i => by
        rcases zbf_v (zbR (zgf (J 28 i) (J 29 i) n (zss J law)) (zla (J 33 7) + 1)) (J 27 4) 10 0 with h | ⟨j, h1, h2⟩
        · exact Or.inl h
        · exact Or.inr ⟨j, by omega, h2⟩) k 0 0 (by omega) (by have := hp.2.2.1; omega)
      have hB1 := (o 0 (by omega)).1
      refine zOp_m (.int (zsb (fun p => zbf (zbR (zgf (J 28 p) (J 29 p) n (zss J law)) (zla (J 33 7) + 1)) (J 27 4) 10 0) k 0 (nI 0))) J J2 (fun d Q => ?_) (fun d Q => ?_) f7
      · have l := c_bo_l (d := d + 93) (f := f) (g := g) (t := t) (L := L) (Q := Q) (J := J) (k := k) j27 hp.2.2.1 q' (fun i d Q hi => (o i hi).1 d Q) k 0 (nI 0) (.retAddr 0) (by omega)
        rw [← l, H_X9_boarded_37]
        rw [show nI 0 = 0 from rfl] at hB1 ⊢
        simp (disch := first | assumption | rfl | omega | decide | exact zb_01 _) only [zabs_e, zmax_e, zmin_e, zrf_s, zpush_s, zpush_n, zw_app, upd_app, updL_app, Nat.reduceEqDiff, Nat.add_left_cancel_iff, Nat.add_eq_left, Nat.left_eq_add, ↓reduceIte, true_and, and_true, Int32.reduceToNatClampNeg, zin_O, zi_ltO, zi_leO, zi_Olt, zi_Ole, zi_eqO, Nat.not_lt_zero, Nat.zero_le, List.append_nil, zrn_n, zrn_s, List.cons_append, List.nil_append, zlg_lt, zlg_gt, zlg_le, zlg_ge, zlg_eq, Int32.toInt_toInt64, Int64.reduceToInt, zw_zw, zw_sw1, zw_sw2, zw_sw3, zw_sw4, zw_sw5, zw_sw6, zw_sw7, ne_eq, zi_in, zi_cl, zi_le, zi_lt, zi_eq, zi_neg, zi_0le, zb_0, if_true, if_false, eq_self, zb_T, zb_F, Bool.false_eq_true, zO_eq, zO_ne1, zO_ne2, zO_nn, zi_ne1, zi_ne2, zi_lt1, zi_le1, zi_lt2, zi_le2, Int32.reduceLT, Int32.reduceLE, Nat.reduceLT, Nat.reduceLeDiff, Int32.reduceMul, Int32.reduceAdd, Int32.reduceSub, not_false_eq_true, not_true_eq_false, Int32.reduceToInt, Int.reduceLE, Int.reduceLT, Int.reduceNeg, ite_self, E_X9_boarded, R_X9_boarded, SHF, PF, H_X9_boarded_37, hp.1, j27, k1, q, q', hB1]
      · have l := m_bo_l (d := d + 95) (f := f) (g := g) (t := t) (L := L) (Q := Q) (J := J2) (k := k) f5 hp.2.2.1 (fun i d Q hi => (o i hi).2 d Q) k 0 (nI 0) (.retAddr 0) (by omega)
        rw [eqs] at l
        rw [← l]
        simp (disch := first | assumption | rfl | omega | decide | exact zb_01 _) only [zabs_e, zmax_e, zmin_e, zrf_s, zpush_s, zpush_n, zw_app, upd_app, updL_app, Nat.reduceEqDiff, Nat.add_left_cancel_iff, Nat.add_eq_left, Nat.left_eq_add, ↓reduceIte, true_and, and_true, Int32.reduceToNatClampNeg, zin_O, zi_ltO, zi_leO, zi_Olt, zi_Ole, zi_eqO, Nat.not_lt_zero, Nat.zero_le, List.append_nil, zrn_n, zrn_s, List.cons_append, List.nil_append, zlg_lt, zlg_gt, zlg_le, zlg_ge, zlg_eq, Int32.toInt_toInt64, Int64.reduceToInt, zw_zw, zw_sw1, zw_sw2, zw_sw3, zw_sw4, zw_sw5, zw_sw6, zw_sw7, ne_eq, zi_in, zi_cl, zi_le, zi_lt, zi_eq, zi_neg, zi_0le, zb_0, if_true, if_false, eq_self, zb_T, zb_F, Bool.false_eq_true, zO_eq, zO_ne1, zO_ne2, zO_nn, zi_ne1, zi_ne2, zi_lt1, zi_le1, zi_lt2, zi_le2, Int32.reduceLT, Int32.reduceLE, Nat.reduceLT, Nat.reduceLeDiff, Int32.reduceMul, Int32.reduceAdd, Int32.reduceSub, not_false_eq_true, not_true_eq_false, Int32.reduceToInt, Int.reduceLE, Int.reduceLT, Int.reduceNeg, ite_self, E_X10_boarded, R_X10_boarded, SHF, PF, qm, Int32.reduceLT]
        rfl
  · rcases zrN x k k9 with ⟨p, hj, rfl⟩ | ⟨h1, h2, h3⟩
    · have g1 : 0 ≤ nI p ∧ nI p < nI k := ⟨nI_pos' (by omega), nI_lt hj (by omega)⟩
      have g2 := zrN_i hj k9
      obtain ⟨J, hRJ, hJ, kb, kf, q, q'⟩ := c_burntR (t := t) hR9
      obtain ⟨J2, f1, f2, f3, f4, f5, f6, f7, qm⟩ := m_fireR (t := t) hRJ
      obtain ⟨o1, o2⟩ := one J hRJ kb kf J2 f1 f2 f3 f4 f6 p hj
      have p0 : ¬ nI p < 0 := nI_pos (by omega)
      refine zOp_m (.int (zbf (zbR (zgf (J 28 p) (J 29 p) n (zss J law)) (zla (J 33 7) + 1)) (J 27 4) 10 0)) J J2 (fun d Q => ?_) (fun d Q => ?_) f7
      · simp (disch := first | assumption | rfl | omega | decide | exact zb_01 _) only [zabs_e, zmax_e, zmin_e, zrf_s, zpush_s, zpush_n, zw_app, upd_app, updL_app, Nat.reduceEqDiff, Nat.add_left_cancel_iff, Nat.add_eq_left, Nat.left_eq_add, ↓reduceIte, true_and, and_true, Int32.reduceToNatClampNeg, zin_O, zi_ltO, zi_leO, zi_Olt, zi_Ole, zi_eqO, Nat.not_lt_zero, Nat.zero_le, List.append_nil, zrn_n, zrn_s, List.cons_append, List.nil_append, zlg_lt, zlg_gt, zlg_le, zlg_ge, zlg_eq, Int32.toInt_toInt64, Int64.reduceToInt, zw_zw, zw_sw1, zw_sw2, zw_sw3, zw_sw4, zw_sw5, zw_sw6, zw_sw7, ne_eq, zi_in, zi_cl, zi_le, zi_lt, zi_eq, zi_neg, zi_0le, zb_0, if_true, if_false, eq_self, zb_T, zb_F, Bool.false_eq_true, zO_eq, zO_ne1, zO_ne2, zO_nn, zi_ne1, zi_ne2, zi_lt1, zi_le1, zi_lt2, zi_le2, Int32.reduceLT, Int32.reduceLE, Nat.reduceLT, Nat.reduceLeDiff, Int32.reduceMul, Int32.reduceAdd, Int32.reduceSub, not_false_eq_true, not_true_eq_false, Int32.reduceToInt, Int.reduceLE, Int.reduceLT, Int.reduceNeg, ite_self, E_X9_boarded, R_X9_boarded, SHF, PF, x1, qh, zb_t g1, hj, q, o1]
      · simp (disch := first | assumption | rfl | omega | decide | exact zb_01 _) only [zabs_e, zmax_e, zmin_e, zrf_s, zpush_s, zpush_n, zw_app, upd_app, updL_app, Nat.reduceEqDiff, Nat.add_left_cancel_iff, Nat.add_eq_left, Nat.left_eq_add, ↓reduceIte, true_and, and_true, Int32.reduceToNatClampNeg, zin_O, zi_ltO, zi_leO, zi_Olt, zi_Ole, zi_eqO, Nat.not_lt_zero, Nat.zero_le, List.append_nil, zrn_n, zrn_s, List.cons_append, List.nil_append, zlg_lt, zlg_gt, zlg_le, zlg_ge, zlg_eq, Int32.toInt_toInt64, Int64.reduceToInt, zw_zw, zw_sw1, zw_sw2, zw_sw3, zw_sw4, zw_sw5, zw_sw6, zw_sw7, ne_eq, zi_in, zi_cl, zi_le, zi_lt, zi_eq, zi_neg, zi_0le, zb_0, if_true, if_false, eq_self, zb_T, zb_F, Bool.false_eq_true, zO_eq, zO_ne1, zO_ne2, zO_nn, zi_ne1, zi_ne2, zi_lt1, zi_le1, zi_lt2, zi_le2, Int32.reduceLT, Int32.reduceLE, Nat.reduceLT, Nat.reduceLeDiff, Int32.reduceMul, Int32.reduceAdd, Int32.reduceSub, not_false_eq_true, not_true_eq_false, Int32.reduceToInt, Int.reduceLE, Int.reduceLT, Int.reduceNeg, ite_self, E_X10_boarded, R_X10_boarded, SHF, PF, x1, m_isPane, hRJ.2.2.2.1.2.1, g2, qm, p0, o2]
    · refine zOp_s hR (.int (-1)) (fun d Q => ?_) (fun d Q => ?_)
      · simp (disch := first | assumption | rfl | omega | decide | exact zb_01 _) only [zabs_e, zmax_e, zmin_e, zrf_s, zpush_s, zpush_n, zw_app, upd_app, updL_app, Nat.reduceEqDiff, Nat.add_left_cancel_iff, Nat.add_eq_left, Nat.left_eq_add, ↓reduceIte, true_and, and_true, Int32.reduceToNatClampNeg, zin_O, zi_ltO, zi_leO, zi_Olt, zi_Ole, zi_eqO, Nat.not_lt_zero, Nat.zero_le, List.append_nil, zrn_n, zrn_s, List.cons_append, List.nil_append, zlg_lt, zlg_gt, zlg_le, zlg_ge, zlg_eq, Int32.toInt_toInt64, Int64.reduceToInt, zw_zw, zw_sw1, zw_sw2, zw_sw3, zw_sw4, zw_sw5, zw_sw6, zw_sw7, ne_eq, zi_in, zi_cl, zi_le, zi_lt, zi_eq, zi_neg, zi_0le, zb_0, if_true, if_false, eq_self, zb_T, zb_F, Bool.false_eq_true, zO_eq, zO_ne1, zO_ne2, zO_nn, zi_ne1, zi_ne2, zi_lt1, zi_le1, zi_lt2, zi_le2, Int32.reduceLT, Int32.reduceLE, Nat.reduceLT, Nat.reduceLeDiff, Int32.reduceMul, Int32.reduceAdd, Int32.reduceSub, not_false_eq_true, not_true_eq_false, Int32.reduceToInt, Int.reduceLE, Int.reduceLT, Int.reduceNeg, ite_self, E_X9_boarded, R_X9_boarded, SHF, PF, x1, qh, zb_f h1]
      · simp (disch := first | assumption | rfl | omega | decide | exact zb_01 _) only [zabs_e, zmax_e, zmin_e, zrf_s, zpush_s, zpush_n, zw_app, upd_app, updL_app, Nat.reduceEqDiff, Nat.add_left_cancel_iff, Nat.add_eq_left, Nat.left_eq_add, ↓reduceIte, true_and, and_true, Int32.reduceToNatClampNeg, zin_O, zi_ltO, zi_leO, zi_Olt, zi_Ole, zi_eqO, Nat.not_lt_zero, Nat.zero_le, List.append_nil, zrn_n, zrn_s, List.cons_append, List.nil_append, zlg_lt, zlg_gt, zlg_le, zlg_ge, zlg_eq, Int32.toInt_toInt64, Int64.reduceToInt, zw_zw, zw_sw1, zw_sw2, zw_sw3, zw_sw4, zw_sw5, zw_sw6, zw_sw7, ne_eq, zi_in, zi_cl, zi_le, zi_lt, zi_eq, zi_neg, zi_0le, zb_0, if_true, if_false, eq_self, zb_T, zb_F, Bool.false_eq_true, zO_eq, zO_ne1, zO_ne2, zO_nn, zi_ne1, zi_ne2, zi_lt1, zi_le1, zi_lt2, zi_le2, Int32.reduceLT, Int32.reduceLE, Nat.reduceLT, Nat.reduceLeDiff, Int32.reduceMul, Int32.reduceAdd, Int32.reduceSub, not_false_eq_true, not_true_eq_false, Int32.reduceToInt, Int.reduceLE, Int.reduceLT, Int.reduceNeg, ite_self, E_X10_boarded, R_X10_boarded, SHF, PF, x1, m_isPane, hp.2.1, h2]
theorem c_ju_l {j l : Nat} {H : Nat → Int32} (hj : j < 6) (hl : l ≤ 60) (hI : I (68 + 2 * j) 3 = nI l) (q' : ∀ d Q, zWM (d + 6) 99 [.ref 0] (zSH, I, L, zP f g t) Q = Q (some (.ref 33)) (zSH, I, L, zP f g t)) (hH : ∀ m d Q, m < 61 → zWM (d + 4) 25 [.ref 27, .int (nI p), .int (nI m), .ref 33] (zSH, I, L, zP f g t) Q = Q (some (.int (H m))) (zSH, I, L, zP f g t)) (x : Int32) : ∀ c i, c + i = l → zWp (d + 6) zi_104 none 52 [.ref 0, .int x, .int (nI p), .ref (68 + 2 * j), .int (nI i)] [] (zSH, I, L, zP f g t) Q = Q (some (.int (zju (L (69 + 2 * j)) H c i))) (zSH, I, L, zP f g t) := by
  obtain ⟨a1, a2, a3, a4, a5⟩ := zSHd hj f g t
  intro c
  induction c with
  | zero =>
    intro i hi
    have hi : i = l := by omega
    subst hi
    rw [H_X9_judge_52]
    simp (disch := first | assumption | rfl | omega | decide | exact zb_01 _) only [zabs_e, zmax_e, zmin_e, zrf_s, zpush_s, zpush_n, zw_app, upd_app, updL_app, Nat.reduceEqDiff, Nat.add_left_cancel_iff, Nat.add_eq_left, Nat.left_eq_add, ↓reduceIte, true_and, and_true, Int32.reduceToNatClampNeg, zin_O, zi_ltO, zi_leO, zi_Olt, zi_Ole, zi_eqO, Nat.not_lt_zero, Nat.zero_le, List.append_nil, zrn_n, zrn_s, List.cons_append, List.nil_append, zlg_lt, zlg_gt, zlg_le, zlg_ge, zlg_eq, Int32.toInt_toInt64, Int64.reduceToInt, zw_zw, zw_sw1, zw_sw2, zw_sw3, zw_sw4, zw_sw5, zw_sw6, zw_sw7, ne_eq, zi_in, zi_cl, zi_le, zi_lt, zi_eq, zi_neg, zi_0le, zb_0, if_true, if_false, eq_self, zb_T, zb_F, Bool.false_eq_true, zO_eq, zO_ne1, zO_ne2, zO_nn, zi_ne1, zi_ne2, zi_lt1, zi_le1, zi_lt2, zi_le2, Int32.reduceLT, Int32.reduceLE, Nat.reduceLT, Nat.reduceLeDiff, Int32.reduceMul, Int32.reduceAdd, Int32.reduceSub, not_false_eq_true, not_true_eq_false, Int32.reduceToInt, Int.reduceLE, Int.reduceLT, Int.reduceNeg, ite_self, R_X9_judge, SHF, PF, a2, hI, Nat.le_refl, zju]
  | succ c ih =>
    intro i hi
    have h1 : ¬ l ≤ i := by omega
    have h2 : i < 60 := by omega
    have im : 0 ≤ nI i ∧ nI i < 61 := ⟨nI_pos' (by omega), nI_lt (a := i) (b := 61) (by omega) (by decide)⟩
    have h61 : i < 61 := by omega
    have hHi := fun d Q => hH i d Q h61
    have ih2 := ih (i + 1) (by omega)
    rw [H_X9_judge_52, zju]
    by_cases h3 : (L (69 + 2 * j) i).toInt = (zmin 127 (H i)).toInt
    · rw [if_pos h3, ← ih2]
      simp (disch := first | assumption | rfl | omega | decide | exact zb_01 _) only [zabs_e, zmax_e, zmin_e, zrf_s, zpush_s, zpush_n, zw_app, upd_app, updL_app, Nat.reduceEqDiff, Nat.add_left_cancel_iff, Nat.add_eq_left, Nat.left_eq_add, ↓reduceIte, true_and, and_true, Int32.reduceToNatClampNeg, zin_O, zi_ltO, zi_leO, zi_Olt, zi_Ole, zi_eqO, Nat.not_lt_zero, Nat.zero_le, List.append_nil, zrn_n, zrn_s, List.cons_append, List.nil_append, zlg_lt, zlg_gt, zlg_le, zlg_ge, zlg_eq, Int32.toInt_toInt64, Int64.reduceToInt, zw_zw, zw_sw1, zw_sw2, zw_sw3, zw_sw4, zw_sw5, zw_sw6, zw_sw7, ne_eq, zi_in, zi_cl, zi_le, zi_lt, zi_eq, zi_neg, zi_0le, zb_0, if_true, if_false, eq_self, zb_T, zb_F, Bool.false_eq_true, zO_eq, zO_ne1, zO_ne2, zO_nn, zi_ne1, zi_ne2, zi_lt1, zi_le1, zi_lt2, zi_le2, Int32.reduceLT, Int32.reduceLE, Nat.reduceLT, Nat.reduceLeDiff, Int32.reduceMul, Int32.reduceAdd, Int32.reduceSub, not_false_eq_true, not_true_eq_false, Int32.reduceToInt, Int.reduceLE, Int.reduceLT, Int.reduceNeg, ite_self, R_X9_judge, SHF, PF, a2, a3, a4, a5, hI, h1, h2, h61, c_isMinute, zb_t im, q', hHi, h3, zi_s]
    · rw [if_neg h3]
      simp (disch := first | assumption | rfl | omega | decide | exact zb_01 _) only [zabs_e, zmax_e, zmin_e, zrf_s, zpush_s, zpush_n, zw_app, upd_app, updL_app, Nat.reduceEqDiff, Nat.add_left_cancel_iff, Nat.add_eq_left, Nat.left_eq_add, ↓reduceIte, true_and, and_true, Int32.reduceToNatClampNeg, zin_O, zi_ltO, zi_leO, zi_Olt, zi_Ole, zi_eqO, Nat.not_lt_zero, Nat.zero_le, List.append_nil, zrn_n, zrn_s, List.cons_append, List.nil_append, zlg_lt, zlg_gt, zlg_le, zlg_ge, zlg_eq, Int32.toInt_toInt64, Int64.reduceToInt, zw_zw, zw_sw1, zw_sw2, zw_sw3, zw_sw4, zw_sw5, zw_sw6, zw_sw7, ne_eq, zi_in, zi_cl, zi_le, zi_lt, zi_eq, zi_neg, zi_0le, zb_0, if_true, if_false, eq_self, zb_T, zb_F, Bool.false_eq_true, zO_eq, zO_ne1, zO_ne2, zO_nn, zi_ne1, zi_ne2, zi_lt1, zi_le1, zi_lt2, zi_le2, Int32.reduceLT, Int32.reduceLE, Nat.reduceLT, Nat.reduceLeDiff, Int32.reduceMul, Int32.reduceAdd, Int32.reduceSub, not_false_eq_true, not_true_eq_false, Int32.reduceToInt, Int.reduceLE, Int.reduceLT, Int.reduceNeg, ite_self, R_X9_judge, SHF, PF, a2, a3, a4, a5, hI, h1, h2, h61, c_isMinute, zb_t im, q', hHi, h3]
theorem m_ju_l {j l : Nat} {H : Nat → Int32} {E : Nat → Int64} (hj : j < 6) (hl : l ≤ 60) (hI : I 101 j = nI l) (hE : ∀ i, i < 60 → L 102 (60 * j + i) = E i) (hH : ∀ m d Q, m < 61 → zWM (d + 3) 176 [.ref 80, .int (nI p), .int (nI m)] (zSH, I, L, zP f g t) Q = Q (some (.int (H m))) (zSH, I, L, zP f g t)) : ∀ c i (l4 : Value), c + i = l → zWp (d + 3) zi_190 none 39 [.ref 80, .int (nI j), .int (nI p), .int (nI i), l4] [] (zSH, I, L, zP f g t) Q = Q (some (.int (zju E H c i))) (zSH, I, L, zP f g t) := by
  intro c
  induction c with
  | zero =>
    intro i l4 hi
    have hi : i = l := by omega
    subst hi
    have h61 : ¬ 61 ≤ i := by omega
    rw [H_X10_judge_39]
    simp (disch := first | assumption | rfl | omega | decide | exact zb_01 _) only [zabs_e, zmax_e, zmin_e, zrf_s, zpush_s, zpush_n, zw_app, upd_app, updL_app, Nat.reduceEqDiff, Nat.add_left_cancel_iff, Nat.add_eq_left, Nat.left_eq_add, ↓reduceIte, true_and, and_true, Int32.reduceToNatClampNeg, zin_O, zi_ltO, zi_leO, zi_Olt, zi_Ole, zi_eqO, Nat.not_lt_zero, Nat.zero_le, List.append_nil, zrn_n, zrn_s, List.cons_append, List.nil_append, zlg_lt, zlg_gt, zlg_le, zlg_ge, zlg_eq, Int32.toInt_toInt64, Int64.reduceToInt, zw_zw, zw_sw1, zw_sw2, zw_sw3, zw_sw4, zw_sw5, zw_sw6, zw_sw7, ne_eq, zi_in, zi_cl, zi_le, zi_lt, zi_eq, zi_neg, zi_0le, zb_0, if_true, if_false, eq_self, zb_T, zb_F, Bool.false_eq_true, zO_eq, zO_ne1, zO_ne2, zO_nn, zi_ne1, zi_ne2, zi_lt1, zi_le1, zi_lt2, zi_le2, Int32.reduceLT, Int32.reduceLE, Nat.reduceLT, Nat.reduceLeDiff, Int32.reduceMul, Int32.reduceAdd, Int32.reduceSub, not_false_eq_true, not_true_eq_false, Int32.reduceToInt, Int.reduceLE, Int.reduceLT, Int.reduceNeg, ite_self, R_X10_judge, SHF, PF, hj, h61, hI, Nat.le_refl, zju]
  | succ c ih =>
    intro i l4 hi
    have h1 : ¬ l ≤ i := by omega
    have h2 : 60 * j + i < 360 := by omega
    have h61 : ¬ 61 ≤ i := by omega
    have hHi := fun d Q => hH i d Q (by omega)
    have hEi := hE i (by omega)
    have ih2 := ih (i + 1) (.int (H i)) (by omega)
    rw [H_X10_judge_39, zju]
    have ez : zmin 127 (H i) = if H i ≤ 127 then H i else 127 := by
      unfold zmin
      by_cases h3 : H i < 127
      · rw [if_pos h3, if_pos (Int32.le_of_lt h3)]
      · rw [if_neg h3]
        by_cases h4 : H i ≤ 127
        · rw [if_pos h4, Int32.le_antisymm h4 (Int32.not_lt.mp h3)]
        · rw [if_neg h4]
    rw [ez]
    by_cases h5 : H i ≤ 127
    · rw [if_pos h5]
      by_cases h3 : (E i).toInt = (H i).toInt
      · rw [if_pos h3, ← ih2]
        simp (disch := first | assumption | rfl | omega | decide | exact zb_01 _) only [zabs_e, zmax_e, zmin_e, zrf_s, zpush_s, zpush_n, zw_app, upd_app, updL_app, Nat.reduceEqDiff, Nat.add_left_cancel_iff, Nat.add_eq_left, Nat.left_eq_add, ↓reduceIte, true_and, and_true, Int32.reduceToNatClampNeg, zin_O, zi_ltO, zi_leO, zi_Olt, zi_Ole, zi_eqO, Nat.not_lt_zero, Nat.zero_le, List.append_nil, zrn_n, zrn_s, List.cons_append, List.nil_append, zlg_lt, zlg_gt, zlg_le, zlg_ge, zlg_eq, Int32.toInt_toInt64, Int64.reduceToInt, zw_zw, zw_sw1, zw_sw2, zw_sw3, zw_sw4, zw_sw5, zw_sw6, zw_sw7, ne_eq, zi_in, zi_cl, zi_le, zi_lt, zi_eq, zi_neg, zi_0le, zb_0, if_true, if_false, eq_self, zb_T, zb_F, Bool.false_eq_true, zO_eq, zO_ne1, zO_ne2, zO_nn, zi_ne1, zi_ne2, zi_lt1, zi_le1, zi_lt2, zi_le2, Int32.reduceLT, Int32.reduceLE, Nat.reduceLT, Nat.reduceLeDiff, Int32.reduceMul, Int32.reduceAdd, Int32.reduceSub, not_false_eq_true, not_true_eq_false, Int32.reduceToInt, Int.reduceLE, Int.reduceLT, Int.reduceNeg, ite_self, R_X10_judge, SHF, PF, hj, h61, hI, h1, h2, zi_x60, nI_add, hEi, hHi, h5, h3, zi_s]
      · rw [if_neg h3]
        simp (disch := first | assumption | rfl | omega | decide | exact zb_01 _) only [zabs_e, zmax_e, zmin_e, zrf_s, zpush_s, zpush_n, zw_app, upd_app, updL_app, Nat.reduceEqDiff, Nat.add_left_cancel_iff, Nat.add_eq_left, Nat.left_eq_add, ↓reduceIte, true_and, and_true, Int32.reduceToNatClampNeg, zin_O, zi_ltO, zi_leO, zi_Olt, zi_Ole, zi_eqO, Nat.not_lt_zero, Nat.zero_le, List.append_nil, zrn_n, zrn_s, List.cons_append, List.nil_append, zlg_lt, zlg_gt, zlg_le, zlg_ge, zlg_eq, Int32.toInt_toInt64, Int64.reduceToInt, zw_zw, zw_sw1, zw_sw2, zw_sw3, zw_sw4, zw_sw5, zw_sw6, zw_sw7, ne_eq, zi_in, zi_cl, zi_le, zi_lt, zi_eq, zi_neg, zi_0le, zb_0, if_true, if_false, eq_self, zb_T, zb_F, Bool.false_eq_true, zO_eq, zO_ne1, zO_ne2, zO_nn, zi_ne1, zi_ne2, zi_lt1, zi_le1, zi_lt2, zi_le2, Int32.reduceLT, Int32.reduceLE, Nat.reduceLT, Nat.reduceLeDiff, Int32.reduceMul, Int32.reduceAdd, Int32.reduceSub, not_false_eq_true, not_true_eq_false, Int32.reduceToInt, Int.reduceLE, Int.reduceLT, Int.reduceNeg, ite_self, R_X10_judge, SHF, PF, hj, h61, hI, h1, h2, zi_x60, nI_add, hEi, hHi, h5, h3]
    · rw [if_neg h5]
      have t127 : (127 : Int32).toInt = 127 := by decide
      by_cases h3 : (E i).toInt = (127 : Int32).toInt
      · rw [if_pos h3, ← ih2]
        rw [t127] at h3
        simp (disch := first | assumption | rfl | omega | decide | exact zb_01 _) only [zabs_e, zmax_e, zmin_e, zrf_s, zpush_s, zpush_n, zw_app, upd_app, updL_app, Nat.reduceEqDiff, Nat.add_left_cancel_iff, Nat.add_eq_left, Nat.left_eq_add, ↓reduceIte, true_and, and_true, Int32.reduceToNatClampNeg, zin_O, zi_ltO, zi_leO, zi_Olt, zi_Ole, zi_eqO, Nat.not_lt_zero, Nat.zero_le, List.append_nil, zrn_n, zrn_s, List.cons_append, List.nil_append, zlg_lt, zlg_gt, zlg_le, zlg_ge, zlg_eq, Int32.toInt_toInt64, Int64.reduceToInt, zw_zw, zw_sw1, zw_sw2, zw_sw3, zw_sw4, zw_sw5, zw_sw6, zw_sw7, ne_eq, zi_in, zi_cl, zi_le, zi_lt, zi_eq, zi_neg, zi_0le, zb_0, if_true, if_false, eq_self, zb_T, zb_F, Bool.false_eq_true, zO_eq, zO_ne1, zO_ne2, zO_nn, zi_ne1, zi_ne2, zi_lt1, zi_le1, zi_lt2, zi_le2, Int32.reduceLT, Int32.reduceLE, Nat.reduceLT, Nat.reduceLeDiff, Int32.reduceMul, Int32.reduceAdd, Int32.reduceSub, not_false_eq_true, not_true_eq_false, Int32.reduceToInt, Int.reduceLE, Int.reduceLT, Int.reduceNeg, ite_self, R_X10_judge, SHF, PF, hj, h61, hI, h1, h2, zi_x60, nI_add, hEi, hHi, h5, h3, zi_s]
      · rw [if_neg h3]
        rw [t127] at h3
        simp (disch := first | assumption | rfl | omega | decide | exact zb_01 _) only [zabs_e, zmax_e, zmin_e, zrf_s, zpush_s, zpush_n, zw_app, upd_app, updL_app, Nat.reduceEqDiff, Nat.add_left_cancel_iff, Nat.add_eq_left, Nat.left_eq_add, ↓reduceIte, true_and, and_true, Int32.reduceToNatClampNeg, zin_O, zi_ltO, zi_leO, zi_Olt, zi_Ole, zi_eqO, Nat.not_lt_zero, Nat.zero_le, List.append_nil, zrn_n, zrn_s, List.cons_append, List.nil_append, zlg_lt, zlg_gt, zlg_le, zlg_ge, zlg_eq, Int32.toInt_toInt64, Int64.reduceToInt, zw_zw, zw_sw1, zw_sw2, zw_sw3, zw_sw4, zw_sw5, zw_sw6, zw_sw7, ne_eq, zi_in, zi_cl, zi_le, zi_lt, zi_eq, zi_neg, zi_0le, zb_0, if_true, if_false, eq_self, zb_T, zb_F, Bool.false_eq_true, zO_eq, zO_ne1, zO_ne2, zO_nn, zi_ne1, zi_ne2, zi_lt1, zi_le1, zi_lt2, zi_le2, Int32.reduceLT, Int32.reduceLE, Nat.reduceLT, Nat.reduceLeDiff, Int32.reduceMul, Int32.reduceAdd, Int32.reduceSub, not_false_eq_true, not_true_eq_false, Int32.reduceToInt, Int.reduceLE, Int.reduceLT, Int.reduceNeg, ite_self, R_X10_judge, SHF, PF, hj, h61, hI, h1, h2, zi_x60, nI_add, hEi, hHi, h5, h3]
theorem m_nightIs {j : Nat} (hj : j < 6) : zWM (d + 3) 189 [.ref 80, .int (nI j)] (zSH, I, L, zP f g t) Q = Q (some (.int (if I 100 j < 0 then -11 else if I 100 j = 50 then 1 else -12))) (zSH, I, L, zP f g t) := by
  have g1 : 0 ≤ (nI j).toInt ∧ (nI j).toInt ≤ 5 := by rw [zi_nt (by omega)]; omega
  by_cases h1 : I 100 j < 0
  · have h1' : ¬ 0 ≤ I 100 j := Int32.not_le.mpr h1
    rw [if_pos h1]
    simp (disch := first | assumption | rfl | omega | decide | exact zb_01 _) only [zabs_e, zmax_e, zmin_e, zrf_s, zpush_s, zpush_n, zw_app, upd_app, updL_app, Nat.reduceEqDiff, Nat.add_left_cancel_iff, Nat.add_eq_left, Nat.left_eq_add, ↓reduceIte, true_and, and_true, Int32.reduceToNatClampNeg, zin_O, zi_ltO, zi_leO, zi_Olt, zi_Ole, zi_eqO, Nat.not_lt_zero, Nat.zero_le, List.append_nil, zrn_n, zrn_s, List.cons_append, List.nil_append, zlg_lt, zlg_gt, zlg_le, zlg_ge, zlg_eq, Int32.toInt_toInt64, Int64.reduceToInt, zw_zw, zw_sw1, zw_sw2, zw_sw3, zw_sw4, zw_sw5, zw_sw6, zw_sw7, ne_eq, zi_in, zi_cl, zi_le, zi_lt, zi_eq, zi_neg, zi_0le, zb_0, if_true, if_false, eq_self, zb_T, zb_F, Bool.false_eq_true, zO_eq, zO_ne1, zO_ne2, zO_nn, zi_ne1, zi_ne2, zi_lt1, zi_le1, zi_lt2, zi_le2, Int32.reduceLT, Int32.reduceLE, Nat.reduceLT, Nat.reduceLeDiff, Int32.reduceMul, Int32.reduceAdd, Int32.reduceSub, not_false_eq_true, not_true_eq_false, Int32.reduceToInt, Int.reduceLE, Int.reduceLT, Int.reduceNeg, ite_self, E_X10_nightIs, R_X10_nightIs, SHF, PF, m_isShelf, zb_t g1, hj, h1, h1']
  · have h1' : 0 ≤ I 100 j := Int32.not_lt.mp h1
    rw [if_neg h1]
    by_cases h2 : I 100 j = 50
    · rw [if_pos h2]
      simp (disch := first | assumption | rfl | omega | decide | exact zb_01 _) only [zabs_e, zmax_e, zmin_e, zrf_s, zpush_s, zpush_n, zw_app, upd_app, updL_app, Nat.reduceEqDiff, Nat.add_left_cancel_iff, Nat.add_eq_left, Nat.left_eq_add, ↓reduceIte, true_and, and_true, Int32.reduceToNatClampNeg, zin_O, zi_ltO, zi_leO, zi_Olt, zi_Ole, zi_eqO, Nat.not_lt_zero, Nat.zero_le, List.append_nil, zrn_n, zrn_s, List.cons_append, List.nil_append, zlg_lt, zlg_gt, zlg_le, zlg_ge, zlg_eq, Int32.toInt_toInt64, Int64.reduceToInt, zw_zw, zw_sw1, zw_sw2, zw_sw3, zw_sw4, zw_sw5, zw_sw6, zw_sw7, ne_eq, zi_in, zi_cl, zi_le, zi_lt, zi_eq, zi_neg, zi_0le, zb_0, if_true, if_false, eq_self, zb_T, zb_F, Bool.false_eq_true, zO_eq, zO_ne1, zO_ne2, zO_nn, zi_ne1, zi_ne2, zi_lt1, zi_le1, zi_lt2, zi_le2, Int32.reduceLT, Int32.reduceLE, Nat.reduceLT, Nat.reduceLeDiff, Int32.reduceMul, Int32.reduceAdd, Int32.reduceSub, not_false_eq_true, not_true_eq_false, Int32.reduceToInt, Int.reduceLE, Int.reduceLT, Int.reduceNeg, ite_self, E_X10_nightIs, R_X10_nightIs, SHF, PF, m_isShelf, zb_t g1, hj, h1, h1', h2]
    · rw [if_neg h2]
      simp (disch := first | assumption | rfl | omega | decide | exact zb_01 _) only [zabs_e, zmax_e, zmin_e, zrf_s, zpush_s, zpush_n, zw_app, upd_app, updL_app, Nat.reduceEqDiff, Nat.add_left_cancel_iff, Nat.add_eq_left, Nat.left_eq_add, ↓reduceIte, true_and, and_true, Int32.reduceToNatClampNeg, zin_O, zi_ltO, zi_leO, zi_Olt, zi_Ole, zi_eqO, Nat.not_lt_zero, Nat.zero_le, List.append_nil, zrn_n, zrn_s, List.cons_append, List.nil_append, zlg_lt, zlg_gt, zlg_le, zlg_ge, zlg_eq, Int32.toInt_toInt64, Int64.reduceToInt, zw_zw, zw_sw1, zw_sw2, zw_sw3, zw_sw4, zw_sw5, zw_sw6, zw_sw7, ne_eq, zi_in, zi_cl, zi_le, zi_lt, zi_eq, zi_neg, zi_0le, zb_0, if_true, if_false, eq_self, zb_T, zb_F, Bool.false_eq_true, zO_eq, zO_ne1, zO_ne2, zO_nn, zi_ne1, zi_ne2, zi_lt1, zi_le1, zi_lt2, zi_le2, Int32.reduceLT, Int32.reduceLE, Nat.reduceLT, Nat.reduceLeDiff, Int32.reduceMul, Int32.reduceAdd, Int32.reduceSub, not_false_eq_true, not_true_eq_false, Int32.reduceToInt, Int.reduceLE, Int.reduceLT, Int.reduceNeg, ite_self, E_X10_nightIs, R_X10_nightIs, SHF, PF, m_isShelf, zb_t g1, hj, h1, h1', h2]
theorem op_judge (hR : zRel I L f g) (x y : Int32) : zOp 104 190 [.int x, .int y] I L f g t := by
  obtain ⟨law, n, k, a, b, z, bb, hR9⟩ := id hR
  obtain ⟨hfg, ht, hw, hp, hs, hi, hc, hy, hl, hb, hr, hh, hf⟩ := id hR9
  have qh := fun d r Q => c_phas (d := d) (f := f) (g := g) (t := t) (I := I) (L := L) (Q := Q) r
  rw [hp.1] at qh
  have k9 : k < 2147483648 := by have := hp.2.2.1; omega
  rcases zrS x with ⟨j, hj, rfl, h1, h2⟩ | ⟨h1, h2⟩
  · obtain ⟨a1, a2, a3, a4, a5⟩ := zSHd hj f g t
    rcases zrN y k k9 with ⟨p, hpk, rfl⟩ | ⟨h3, h4, h5⟩
    · have p8 : p < 8 := by have := hp.2.2.1; omega
      have g1 : 0 ≤ nI p ∧ nI p < nI k := ⟨nI_pos' (by omega), nI_lt hpk (by omega)⟩
      have g2 := zrN_i hpk k9
      have qn := fun d Q => m_nightIs (d := d) (f := f) (g := g) (t := t) (I := I) (L := L) (Q := Q) hj
      rcases hh j hj with ⟨e1, e2⟩ | ⟨e1, m, hm, e2, e3⟩ | ⟨c, l, hc5, hl6, e1, e2, e3, e4, e5⟩
      · rw [e2, if_pos (by decide)] at qn
        refine zOp_s hR (.int (-11)) (fun d Q => ?_) (fun d Q => ?_)
        · simp (disch := first | assumption | rfl | omega | decide | exact zb_01 _) only [zabs_e, zmax_e, zmin_e, zrf_s, zpush_s, zpush_n, zw_app, upd_app, updL_app, Nat.reduceEqDiff, Nat.add_left_cancel_iff, Nat.add_eq_left, Nat.left_eq_add, ↓reduceIte, true_and, and_true, Int32.reduceToNatClampNeg, zin_O, zi_ltO, zi_leO, zi_Olt, zi_Ole, zi_eqO, Nat.not_lt_zero, Nat.zero_le, List.append_nil, zrn_n, zrn_s, List.cons_append, List.nil_append, zlg_lt, zlg_gt, zlg_le, zlg_ge, zlg_eq, Int32.toInt_toInt64, Int64.reduceToInt, zw_zw, zw_sw1, zw_sw2, zw_sw3, zw_sw4, zw_sw5, zw_sw6, zw_sw7, ne_eq, zi_in, zi_cl, zi_le, zi_lt, zi_eq, zi_neg, zi_0le, zb_0, if_true, if_false, eq_self, zb_T, zb_F, Bool.false_eq_true, zO_eq, zO_ne1, zO_ne2, zO_nn, zi_ne1, zi_ne2, zi_lt1, zi_le1, zi_lt2, zi_le2, Int32.reduceLT, Int32.reduceLE, Nat.reduceLT, Nat.reduceLeDiff, Int32.reduceMul, Int32.reduceAdd, Int32.reduceSub, not_false_eq_true, not_true_eq_false, Int32.reduceToInt, Int.reduceLE, Int.reduceLT, Int.reduceNeg, ite_self, E_X9_judge, R_X9_judge, SHF, PF, c_isShelf, zb_t h2, hj, qh, zb_t g1, hpk, a1, a2, e1]
        · simp (disch := first | assumption | rfl | omega | decide | exact zb_01 _) only [zabs_e, zmax_e, zmin_e, zrf_s, zpush_s, zpush_n, zw_app, upd_app, updL_app, Nat.reduceEqDiff, Nat.add_left_cancel_iff, Nat.add_eq_left, Nat.left_eq_add, ↓reduceIte, true_and, and_true, Int32.reduceToNatClampNeg, zin_O, zi_ltO, zi_leO, zi_Olt, zi_Ole, zi_eqO, Nat.not_lt_zero, Nat.zero_le, List.append_nil, zrn_n, zrn_s, List.cons_append, List.nil_append, zlg_lt, zlg_gt, zlg_le, zlg_ge, zlg_eq, Int32.toInt_toInt64, Int64.reduceToInt, zw_zw, zw_sw1, zw_sw2, zw_sw3, zw_sw4, zw_sw5, zw_sw6, zw_sw7, ne_eq, zi_in, zi_cl, zi_le, zi_lt, zi_eq, zi_neg, zi_0le, zb_0, if_true, if_false, eq_self, zb_T, zb_F, Bool.false_eq_true, zO_eq, zO_ne1, zO_ne2, zO_nn, zi_ne1, zi_ne2, zi_lt1, zi_le1, zi_lt2, zi_le2, Int32.reduceLT, Int32.reduceLE, Nat.reduceLT, Nat.reduceLeDiff, Int32.reduceMul, Int32.reduceAdd, Int32.reduceSub, not_false_eq_true, not_true_eq_false, Int32.reduceToInt, Int.reduceLE, Int.reduceLT, Int.reduceNeg, ite_self, E_X10_judge, R_X10_judge, SHF, PF, m_isPane, hp.2.1, g2, qn]
      · have hm50 : m < 50 := by have := hb.2.2.1; omega
        have n1 : ¬ nI m < 0 := nI_pos (by omega)
        have n2 : ¬ nI m = 50 := fun z => by
          have z2 := congrArg Int32.toInt z
          rw [zi_nt (by omega)] at z2
          have t50 : (50 : Int32).toInt = 50 := by decide
          omega
        rw [e3, if_neg n1, if_neg n2] at qn
        refine zOp_s hR (.int (-12)) (fun d Q => ?_) (fun d Q => ?_)
        · simp (disch := first | assumption | rfl | omega | decide | exact zb_01 _) only [zabs_e, zmax_e, zmin_e, zrf_s, zpush_s, zpush_n, zw_app, upd_app, updL_app, Nat.reduceEqDiff, Nat.add_left_cancel_iff, Nat.add_eq_left, Nat.left_eq_add, ↓reduceIte, true_and, and_true, Int32.reduceToNatClampNeg, zin_O, zi_ltO, zi_leO, zi_Olt, zi_Ole, zi_eqO, Nat.not_lt_zero, Nat.zero_le, List.append_nil, zrn_n, zrn_s, List.cons_append, List.nil_append, zlg_lt, zlg_gt, zlg_le, zlg_ge, zlg_eq, Int32.toInt_toInt64, Int64.reduceToInt, zw_zw, zw_sw1, zw_sw2, zw_sw3, zw_sw4, zw_sw5, zw_sw6, zw_sw7, ne_eq, zi_in, zi_cl, zi_le, zi_lt, zi_eq, zi_neg, zi_0le, zb_0, if_true, if_false, eq_self, zb_T, zb_F, Bool.false_eq_true, zO_eq, zO_ne1, zO_ne2, zO_nn, zi_ne1, zi_ne2, zi_lt1, zi_le1, zi_lt2, zi_le2, Int32.reduceLT, Int32.reduceLE, Nat.reduceLT, Nat.reduceLeDiff, Int32.reduceMul, Int32.reduceAdd, Int32.reduceSub, not_false_eq_true, not_true_eq_false, Int32.reduceToInt, Int.reduceLE, Int.reduceLT, Int.reduceNeg, ite_self, E_X9_judge, R_X9_judge, SHF, PF, c_isShelf, zb_t h2, hj, qh, zb_t g1, hpk, a1, a2, e1]
        · simp (disch := first | assumption | rfl | omega | decide | exact zb_01 _) only [zabs_e, zmax_e, zmin_e, zrf_s, zpush_s, zpush_n, zw_app, upd_app, updL_app, Nat.reduceEqDiff, Nat.add_left_cancel_iff, Nat.add_eq_left, Nat.left_eq_add, ↓reduceIte, true_and, and_true, Int32.reduceToNatClampNeg, zin_O, zi_ltO, zi_leO, zi_Olt, zi_Ole, zi_eqO, Nat.not_lt_zero, Nat.zero_le, List.append_nil, zrn_n, zrn_s, List.cons_append, List.nil_append, zlg_lt, zlg_gt, zlg_le, zlg_ge, zlg_eq, Int32.toInt_toInt64, Int64.reduceToInt, zw_zw, zw_sw1, zw_sw2, zw_sw3, zw_sw4, zw_sw5, zw_sw6, zw_sw7, ne_eq, zi_in, zi_cl, zi_le, zi_lt, zi_eq, zi_neg, zi_0le, zb_0, if_true, if_false, eq_self, zb_T, zb_F, Bool.false_eq_true, zO_eq, zO_ne1, zO_ne2, zO_nn, zi_ne1, zi_ne2, zi_lt1, zi_le1, zi_lt2, zi_le2, Int32.reduceLT, Int32.reduceLE, Nat.reduceLT, Nat.reduceLeDiff, Int32.reduceMul, Int32.reduceAdd, Int32.reduceSub, not_false_eq_true, not_true_eq_false, Int32.reduceToInt, Int.reduceLE, Int.reduceLT, Int.reduceNeg, ite_self, E_X10_judge, R_X10_judge, SHF, PF, m_isPane, hp.2.1, g2, qn]
      · have n1 : ¬ nI (50 + c) < 0 := nI_pos (by omega)
        have n3 : ¬ nI c = -2 := by rw [zi_ne1 (n := c) (m := 2) (by omega) (by omega) (by omega)]; exact not_false
        by_cases c0 : c = 0
        · subst c0
          rw [e2, if_neg n1, if_pos (show nI (50 + 0) = 50 from rfl)] at qn
          by_cases l0 : l = 0
          · subst l0
            obtain ⟨J2, f1, f2, f3, f4, f5, f6, f7, qm⟩ := m_fireR (t := t) hR9
            refine zOp_m (.int (-2)) I J2 (fun d Q => ?_) (fun d Q => ?_) f7
            · simp (disch := first | assumption | rfl | omega | decide | exact zb_01 _) only [zabs_e, zmax_e, zmin_e, zrf_s, zpush_s, zpush_n, zw_app, upd_app, updL_app, Nat.reduceEqDiff, Nat.add_left_cancel_iff, Nat.add_eq_left, Nat.left_eq_add, ↓reduceIte, true_and, and_true, Int32.reduceToNatClampNeg, zin_O, zi_ltO, zi_leO, zi_Olt, zi_Ole, zi_eqO, Nat.not_lt_zero, Nat.zero_le, List.append_nil, zrn_n, zrn_s, List.cons_append, List.nil_append, zlg_lt, zlg_gt, zlg_le, zlg_ge, zlg_eq, Int32.toInt_toInt64, Int64.reduceToInt, zw_zw, zw_sw1, zw_sw2, zw_sw3, zw_sw4, zw_sw5, zw_sw6, zw_sw7, ne_eq, zi_in, zi_cl, zi_le, zi_lt, zi_eq, zi_neg, zi_0le, zb_0, if_true, if_false, eq_self, zb_T, zb_F, Bool.false_eq_true, zO_eq, zO_ne1, zO_ne2, zO_nn, zi_ne1, zi_ne2, zi_lt1, zi_le1, zi_lt2, zi_le2, Int32.reduceLT, Int32.reduceLE, Nat.reduceLT, Nat.reduceLeDiff, Int32.reduceMul, Int32.reduceAdd, Int32.reduceSub, not_false_eq_true, not_true_eq_false, Int32.reduceToInt, Int.reduceLE, Int.reduceLT, Int.reduceNeg, ite_self, E_X9_judge, R_X9_judge, SHF, PF, c_isShelf, zb_t h2, hj, qh, zb_t g1, hpk, a1, a2, e1, e3, H_X9_judge_52, show nI 0 = 0 from rfl]
            · have q101 : J2 101 j = nI 0 := by rw [f1 101 (by omega)]; exact e4
              simp (disch := first | assumption | rfl | omega | decide | exact zb_01 _) only [zabs_e, zmax_e, zmin_e, zrf_s, zpush_s, zpush_n, zw_app, upd_app, updL_app, Nat.reduceEqDiff, Nat.add_left_cancel_iff, Nat.add_eq_left, Nat.left_eq_add, ↓reduceIte, true_and, and_true, Int32.reduceToNatClampNeg, zin_O, zi_ltO, zi_leO, zi_Olt, zi_Ole, zi_eqO, Nat.not_lt_zero, Nat.zero_le, List.append_nil, zrn_n, zrn_s, List.cons_append, List.nil_append, zlg_lt, zlg_gt, zlg_le, zlg_ge, zlg_eq, Int32.toInt_toInt64, Int64.reduceToInt, zw_zw, zw_sw1, zw_sw2, zw_sw3, zw_sw4, zw_sw5, zw_sw6, zw_sw7, ne_eq, zi_in, zi_cl, zi_le, zi_lt, zi_eq, zi_neg, zi_0le, zb_0, if_true, if_false, eq_self, zb_T, zb_F, Bool.false_eq_true, zO_eq, zO_ne1, zO_ne2, zO_nn, zi_ne1, zi_ne2, zi_lt1, zi_le1, zi_lt2, zi_le2, Int32.reduceLT, Int32.reduceLE, Nat.reduceLT, Nat.reduceLeDiff, Int32.reduceMul, Int32.reduceAdd, Int32.reduceSub, not_false_eq_true, not_true_eq_false, Int32.reduceToInt, Int.reduceLE, Int.reduceLT, Int.reduceNeg, ite_self, E_X10_judge, R_X10_judge, SHF, PF, m_isPane, hp.2.1, g2, qn, qm, H_X10_judge_39, hj, q101]
          · obtain ⟨J, hRJ, hJ, kb, kf, q, q'⟩ := c_burntR (t := t) hR9
            obtain ⟨J2, f1, f2, f3, f4, f5, f6, f7, qm⟩ := m_fireR (t := t) hRJ
            obtain ⟨-, ht', -, hp', -⟩ := id hRJ
            obtain ⟨v1, v2, v3⟩ := hp'.2.2.2.1 p hpk
            obtain ⟨v4, v5, v6⟩ := hp'.2.2.2.2 p p8
            have q86 : J2 86 p = J 28 p := by rw [f1 86 (by omega)]; exact v1
            have q87 : J2 87 p = J 29 p := by rw [f1 87 (by omega)]; exact v2
            have q81 : J2 81 (74 + p) = J 30 p := by rw [f1 81 (by omega)]; exact v4
            have j68 : J (68 + 2 * j) = I (68 + 2 * j) := hJ _ (by omega) (by omega) (by omega)
            have j100 : J 100 = I 100 := hJ _ (by omega) (by omega) (by omega)
            have q101 : J2 101 j = nI l := by rw [f1 101 (by omega), hJ _ (by omega) (by omega) (by omega)]; exact e4
            have j3 : J (68 + 2 * j) 3 = nI l := by rw [j68]; exact e3
            have hH := fun m d Q (hm : m < 61) => c_heatOf (d := d) (f := f) (g := g) (t := t) (L := L) (Q := Q) (m := m) kf ht.2.2.1 hm p8 v3
            have hM : ∀ m d Q, m < 61 → zWM (d + 3) 176 [.ref 80, .int (nI p), .int (nI m)] (zSH, J2, L, zP f g t) Q = Q (some (.int (zbh (J 30 p) (zgf (J 28 p) (J 29 p) n (zss J law) m)))) (zSH, J2, L, zP f g t) := fun m d Q hm => by
              have qma := m_heatAt (d := d) (f := f) (g := g) (t := t) (L := L) (Q := Q) (I := J2) (n := n) (m := m) (p := p) (v := fun k => zss J law m k - zss J law (m + 1) k) f4 (fun k hk => (f3 m k hm hk).2) ht.2.2.1 hm p8 (by rw [q86, q87]; exact v3)
              rw [q86, q87, q81] at qma
              exact qma
            have qn2 := fun d Q => m_nightIs (d := d) (f := f) (g := g) (t := t) (I := J) (L := L) (Q := Q) hj
            rw [j100, e2, if_neg n1, if_pos (show nI (50 + 0) = 50 from rfl)] at qn2
            have l1 : ¬ l ≤ 0 := by omega
            have hH0 := fun d Q => hH 0 d Q (by decide)
            rw [show nI 0 = 0 from rfl] at hH0
            have im : (0 : Int32) ≤ 0 ∧ (0 : Int32) < 61 := by decide
            have qmi := fun d h Q => c_isMinute (d := d) (Q := Q) 0 h
            simp only [zb_t im] at qmi
            refine zOp_m (.int (zju (L (69 + 2 * j)) (fun m => zbh (J 30 p) (zgf (J 28 p) (J 29 p) n (zss J law) m)) l 0)) J J2 (fun d Q => ?_) (fun d Q => ?_) f7
            · have lo := c_ju_l (d := d + 93) (f := f) (g := g) (t := t) (I := J) (L := L) (Q := Q) (p := p) (H := fun m => zbh (J 30 p) (zgf (J 28 p) (J 29 p) n (zss J law) m)) hj hl6 j3 q' hH (nI j) l 0 (by omega)
              rw [← lo, H_X9_judge_52]
              rw [show nI 0 = 0 from rfl]
              simp (disch := first | assumption | rfl | omega | decide | exact zb_01 _) only [zabs_e, zmax_e, zmin_e, zrf_s, zpush_s, zpush_n, zw_app, upd_app, updL_app, Nat.reduceEqDiff, Nat.add_left_cancel_iff, Nat.add_eq_left, Nat.left_eq_add, ↓reduceIte, true_and, and_true, Int32.reduceToNatClampNeg, zin_O, zi_ltO, zi_leO, zi_Olt, zi_Ole, zi_eqO, Nat.not_lt_zero, Nat.zero_le, List.append_nil, zrn_n, zrn_s, List.cons_append, List.nil_append, zlg_lt, zlg_gt, zlg_le, zlg_ge, zlg_eq, Int32.toInt_toInt64, Int64.reduceToInt, zw_zw, zw_sw1, zw_sw2, zw_sw3, zw_sw4, zw_sw5, zw_sw6, zw_sw7, ne_eq, zi_in, zi_cl, zi_le, zi_lt, zi_eq, zi_neg, zi_0le, zb_0, if_true, if_false, eq_self, zb_T, zb_F, Bool.false_eq_true, zO_eq, zO_ne1, zO_ne2, zO_nn, zi_ne1, zi_ne2, zi_lt1, zi_le1, zi_lt2, zi_le2, Int32.reduceLT, Int32.reduceLE, Nat.reduceLT, Nat.reduceLeDiff, Int32.reduceMul, Int32.reduceAdd, Int32.reduceSub, not_false_eq_true, not_true_eq_false, Int32.reduceToInt, Int.reduceLE, Int.reduceLT, Int.reduceNeg, ite_self, E_X9_judge, R_X9_judge, SHF, PF, c_isShelf, zb_t h2, hj, qh, zb_t g1, hpk, a1, a2, a3, a4, a5, e1, e3, j3, l1, H_X9_judge_52, show nI 0 = 0 from rfl, qmi, q, q', hH0]
            · have lo := m_ju_l (d := d + 96) (f := f) (g := g) (t := t) (I := J2) (L := L) (Q := Q) (p := p) (H := fun m => zbh (J 30 p) (zgf (J 28 p) (J 29 p) n (zss J law) m)) hj hl6 q101 (fun i hi => (e5 i hi).1) hM l 0 (.retAddr 0) (by omega)
              rw [← lo]
              simp (disch := first | assumption | rfl | omega | decide | exact zb_01 _) only [zabs_e, zmax_e, zmin_e, zrf_s, zpush_s, zpush_n, zw_app, upd_app, updL_app, Nat.reduceEqDiff, Nat.add_left_cancel_iff, Nat.add_eq_left, Nat.left_eq_add, ↓reduceIte, true_and, and_true, Int32.reduceToNatClampNeg, zin_O, zi_ltO, zi_leO, zi_Olt, zi_Ole, zi_eqO, Nat.not_lt_zero, Nat.zero_le, List.append_nil, zrn_n, zrn_s, List.cons_append, List.nil_append, zlg_lt, zlg_gt, zlg_le, zlg_ge, zlg_eq, Int32.toInt_toInt64, Int64.reduceToInt, zw_zw, zw_sw1, zw_sw2, zw_sw3, zw_sw4, zw_sw5, zw_sw6, zw_sw7, ne_eq, zi_in, zi_cl, zi_le, zi_lt, zi_eq, zi_neg, zi_0le, zb_0, if_true, if_false, eq_self, zb_T, zb_F, Bool.false_eq_true, zO_eq, zO_ne1, zO_ne2, zO_nn, zi_ne1, zi_ne2, zi_lt1, zi_le1, zi_lt2, zi_le2, Int32.reduceLT, Int32.reduceLE, Nat.reduceLT, Nat.reduceLeDiff, Int32.reduceMul, Int32.reduceAdd, Int32.reduceSub, not_false_eq_true, not_true_eq_false, Int32.reduceToInt, Int.reduceLE, Int.reduceLT, Int.reduceNeg, ite_self, E_X10_judge, R_X10_judge, SHF, PF, m_isPane, hp'.2.1, g2, qn2, qm]
              rfl
        · have n2 : ¬ nI (50 + c) = 50 := fun z => by
            have z2 := congrArg Int32.toInt z
            rw [zi_nt (by omega)] at z2
            have t50 : (50 : Int32).toInt = 50 := by decide
            omega
          have n4 : ¬ nI c = 0 := nI_ne0 (by omega) (by omega)
          rw [e2, if_neg n1, if_neg n2] at qn
          refine zOp_s hR (.int (-12)) (fun d Q => ?_) (fun d Q => ?_)
          · simp (disch := first | assumption | rfl | omega | decide | exact zb_01 _) only [zabs_e, zmax_e, zmin_e, zrf_s, zpush_s, zpush_n, zw_app, upd_app, updL_app, Nat.reduceEqDiff, Nat.add_left_cancel_iff, Nat.add_eq_left, Nat.left_eq_add, ↓reduceIte, true_and, and_true, Int32.reduceToNatClampNeg, zin_O, zi_ltO, zi_leO, zi_Olt, zi_Ole, zi_eqO, Nat.not_lt_zero, Nat.zero_le, List.append_nil, zrn_n, zrn_s, List.cons_append, List.nil_append, zlg_lt, zlg_gt, zlg_le, zlg_ge, zlg_eq, Int32.toInt_toInt64, Int64.reduceToInt, zw_zw, zw_sw1, zw_sw2, zw_sw3, zw_sw4, zw_sw5, zw_sw6, zw_sw7, ne_eq, zi_in, zi_cl, zi_le, zi_lt, zi_eq, zi_neg, zi_0le, zb_0, if_true, if_false, eq_self, zb_T, zb_F, Bool.false_eq_true, zO_eq, zO_ne1, zO_ne2, zO_nn, zi_ne1, zi_ne2, zi_lt1, zi_le1, zi_lt2, zi_le2, Int32.reduceLT, Int32.reduceLE, Nat.reduceLT, Nat.reduceLeDiff, Int32.reduceMul, Int32.reduceAdd, Int32.reduceSub, not_false_eq_true, not_true_eq_false, Int32.reduceToInt, Int.reduceLE, Int.reduceLT, Int.reduceNeg, ite_self, E_X9_judge, R_X9_judge, SHF, PF, c_isShelf, zb_t h2, hj, qh, zb_t g1, hpk, a1, a2, e1, n3, n4, c0]
          · simp (disch := first | assumption | rfl | omega | decide | exact zb_01 _) only [zabs_e, zmax_e, zmin_e, zrf_s, zpush_s, zpush_n, zw_app, upd_app, updL_app, Nat.reduceEqDiff, Nat.add_left_cancel_iff, Nat.add_eq_left, Nat.left_eq_add, ↓reduceIte, true_and, and_true, Int32.reduceToNatClampNeg, zin_O, zi_ltO, zi_leO, zi_Olt, zi_Ole, zi_eqO, Nat.not_lt_zero, Nat.zero_le, List.append_nil, zrn_n, zrn_s, List.cons_append, List.nil_append, zlg_lt, zlg_gt, zlg_le, zlg_ge, zlg_eq, Int32.toInt_toInt64, Int64.reduceToInt, zw_zw, zw_sw1, zw_sw2, zw_sw3, zw_sw4, zw_sw5, zw_sw6, zw_sw7, ne_eq, zi_in, zi_cl, zi_le, zi_lt, zi_eq, zi_neg, zi_0le, zb_0, if_true, if_false, eq_self, zb_T, zb_F, Bool.false_eq_true, zO_eq, zO_ne1, zO_ne2, zO_nn, zi_ne1, zi_ne2, zi_lt1, zi_le1, zi_lt2, zi_le2, Int32.reduceLT, Int32.reduceLE, Nat.reduceLT, Nat.reduceLeDiff, Int32.reduceMul, Int32.reduceAdd, Int32.reduceSub, not_false_eq_true, not_true_eq_false, Int32.reduceToInt, Int.reduceLE, Int.reduceLT, Int.reduceNeg, ite_self, E_X10_judge, R_X10_judge, SHF, PF, m_isPane, hp.2.1, g2, qn]
    · refine zOp_s hR (.int (-1)) (fun d Q => ?_) (fun d Q => ?_)
      · simp (disch := first | assumption | rfl | omega | decide | exact zb_01 _) only [zabs_e, zmax_e, zmin_e, zrf_s, zpush_s, zpush_n, zw_app, upd_app, updL_app, Nat.reduceEqDiff, Nat.add_left_cancel_iff, Nat.add_eq_left, Nat.left_eq_add, ↓reduceIte, true_and, and_true, Int32.reduceToNatClampNeg, zin_O, zi_ltO, zi_leO, zi_Olt, zi_Ole, zi_eqO, Nat.not_lt_zero, Nat.zero_le, List.append_nil, zrn_n, zrn_s, List.cons_append, List.nil_append, zlg_lt, zlg_gt, zlg_le, zlg_ge, zlg_eq, Int32.toInt_toInt64, Int64.reduceToInt, zw_zw, zw_sw1, zw_sw2, zw_sw3, zw_sw4, zw_sw5, zw_sw6, zw_sw7, ne_eq, zi_in, zi_cl, zi_le, zi_lt, zi_eq, zi_neg, zi_0le, zb_0, if_true, if_false, eq_self, zb_T, zb_F, Bool.false_eq_true, zO_eq, zO_ne1, zO_ne2, zO_nn, zi_ne1, zi_ne2, zi_lt1, zi_le1, zi_lt2, zi_le2, Int32.reduceLT, Int32.reduceLE, Nat.reduceLT, Nat.reduceLeDiff, Int32.reduceMul, Int32.reduceAdd, Int32.reduceSub, not_false_eq_true, not_true_eq_false, Int32.reduceToInt, Int.reduceLE, Int.reduceLT, Int.reduceNeg, ite_self, E_X9_judge, R_X9_judge, SHF, PF, c_isShelf, zb_t h2, hj, qh, zb_f h3]
      · simp (disch := first | assumption | rfl | omega | decide | exact zb_01 _) only [zabs_e, zmax_e, zmin_e, zrf_s, zpush_s, zpush_n, zw_app, upd_app, updL_app, Nat.reduceEqDiff, Nat.add_left_cancel_iff, Nat.add_eq_left, Nat.left_eq_add, ↓reduceIte, true_and, and_true, Int32.reduceToNatClampNeg, zin_O, zi_ltO, zi_leO, zi_Olt, zi_Ole, zi_eqO, Nat.not_lt_zero, Nat.zero_le, List.append_nil, zrn_n, zrn_s, List.cons_append, List.nil_append, zlg_lt, zlg_gt, zlg_le, zlg_ge, zlg_eq, Int32.toInt_toInt64, Int64.reduceToInt, zw_zw, zw_sw1, zw_sw2, zw_sw3, zw_sw4, zw_sw5, zw_sw6, zw_sw7, ne_eq, zi_in, zi_cl, zi_le, zi_lt, zi_eq, zi_neg, zi_0le, zb_0, if_true, if_false, eq_self, zb_T, zb_F, Bool.false_eq_true, zO_eq, zO_ne1, zO_ne2, zO_nn, zi_ne1, zi_ne2, zi_lt1, zi_le1, zi_lt2, zi_le2, Int32.reduceLT, Int32.reduceLE, Nat.reduceLT, Nat.reduceLeDiff, Int32.reduceMul, Int32.reduceAdd, Int32.reduceSub, not_false_eq_true, not_true_eq_false, Int32.reduceToInt, Int.reduceLE, Int.reduceLT, Int.reduceNeg, ite_self, E_X10_judge, R_X10_judge, SHF, PF, m_isPane, hp.2.1, h4]
  · refine zOp_s hR (.int (-1)) (fun d Q => ?_) (fun d Q => ?_)
    · simp (disch := first | assumption | rfl | omega | decide | exact zb_01 _) only [zabs_e, zmax_e, zmin_e, zrf_s, zpush_s, zpush_n, zw_app, upd_app, updL_app, Nat.reduceEqDiff, Nat.add_left_cancel_iff, Nat.add_eq_left, Nat.left_eq_add, ↓reduceIte, true_and, and_true, Int32.reduceToNatClampNeg, zin_O, zi_ltO, zi_leO, zi_Olt, zi_Ole, zi_eqO, Nat.not_lt_zero, Nat.zero_le, List.append_nil, zrn_n, zrn_s, List.cons_append, List.nil_append, zlg_lt, zlg_gt, zlg_le, zlg_ge, zlg_eq, Int32.toInt_toInt64, Int64.reduceToInt, zw_zw, zw_sw1, zw_sw2, zw_sw3, zw_sw4, zw_sw5, zw_sw6, zw_sw7, ne_eq, zi_in, zi_cl, zi_le, zi_lt, zi_eq, zi_neg, zi_0le, zb_0, if_true, if_false, eq_self, zb_T, zb_F, Bool.false_eq_true, zO_eq, zO_ne1, zO_ne2, zO_nn, zi_ne1, zi_ne2, zi_lt1, zi_le1, zi_lt2, zi_le2, Int32.reduceLT, Int32.reduceLE, Nat.reduceLT, Nat.reduceLeDiff, Int32.reduceMul, Int32.reduceAdd, Int32.reduceSub, not_false_eq_true, not_true_eq_false, Int32.reduceToInt, Int.reduceLE, Int.reduceLT, Int.reduceNeg, ite_self, E_X9_judge, R_X9_judge, SHF, PF, c_isShelf, zb_f h1]
    · rcases zrN y k k9 with ⟨p, hpk, rfl⟩ | ⟨h3, h4, h5⟩
      · have g2 := zrN_i hpk k9
        simp (disch := first | assumption | rfl | omega | decide | exact zb_01 _) only [zabs_e, zmax_e, zmin_e, zrf_s, zpush_s, zpush_n, zw_app, upd_app, updL_app, Nat.reduceEqDiff, Nat.add_left_cancel_iff, Nat.add_eq_left, Nat.left_eq_add, ↓reduceIte, true_and, and_true, Int32.reduceToNatClampNeg, zin_O, zi_ltO, zi_leO, zi_Olt, zi_Ole, zi_eqO, Nat.not_lt_zero, Nat.zero_le, List.append_nil, zrn_n, zrn_s, List.cons_append, List.nil_append, zlg_lt, zlg_gt, zlg_le, zlg_ge, zlg_eq, Int32.toInt_toInt64, Int64.reduceToInt, zw_zw, zw_sw1, zw_sw2, zw_sw3, zw_sw4, zw_sw5, zw_sw6, zw_sw7, ne_eq, zi_in, zi_cl, zi_le, zi_lt, zi_eq, zi_neg, zi_0le, zb_0, if_true, if_false, eq_self, zb_T, zb_F, Bool.false_eq_true, zO_eq, zO_ne1, zO_ne2, zO_nn, zi_ne1, zi_ne2, zi_lt1, zi_le1, zi_lt2, zi_le2, Int32.reduceLT, Int32.reduceLE, Nat.reduceLT, Nat.reduceLeDiff, Int32.reduceMul, Int32.reduceAdd, Int32.reduceSub, not_false_eq_true, not_true_eq_false, Int32.reduceToInt, Int.reduceLE, Int.reduceLT, Int.reduceNeg, ite_self, E_X10_judge, R_X10_judge, E_X10_nightIs, R_X10_nightIs, SHF, PF, m_isPane, hp.2.1, g2, m_isShelf, zb_f h2]
      · simp (disch := first | assumption | rfl | omega | decide | exact zb_01 _) only [zabs_e, zmax_e, zmin_e, zrf_s, zpush_s, zpush_n, zw_app, upd_app, updL_app, Nat.reduceEqDiff, Nat.add_left_cancel_iff, Nat.add_eq_left, Nat.left_eq_add, ↓reduceIte, true_and, and_true, Int32.reduceToNatClampNeg, zin_O, zi_ltO, zi_leO, zi_Olt, zi_Ole, zi_eqO, Nat.not_lt_zero, Nat.zero_le, List.append_nil, zrn_n, zrn_s, List.cons_append, List.nil_append, zlg_lt, zlg_gt, zlg_le, zlg_ge, zlg_eq, Int32.toInt_toInt64, Int64.reduceToInt, zw_zw, zw_sw1, zw_sw2, zw_sw3, zw_sw4, zw_sw5, zw_sw6, zw_sw7, ne_eq, zi_in, zi_cl, zi_le, zi_lt, zi_eq, zi_neg, zi_0le, zb_0, if_true, if_false, eq_self, zb_T, zb_F, Bool.false_eq_true, zO_eq, zO_ne1, zO_ne2, zO_nn, zi_ne1, zi_ne2, zi_lt1, zi_le1, zi_lt2, zi_le2, Int32.reduceLT, Int32.reduceLE, Nat.reduceLT, Nat.reduceLeDiff, Int32.reduceMul, Int32.reduceAdd, Int32.reduceSub, not_false_eq_true, not_true_eq_false, Int32.reduceToInt, Int.reduceLE, Int.reduceLT, Int.reduceNeg, ite_self, E_X10_judge, R_X10_judge, SHF, PF, m_isPane, hp.2.1, h4]
end FOPS3
