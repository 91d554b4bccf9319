/-! the reference's FIRE -/
theorem zls_0 (a : Int32) : zls 0 a = 0 := by
  have t0 : (0 : Int32).toInt = 0 := by decide
  have e := zls_bd (now := 0) (a := a) (by omega)
  exact Int32.toInt_inj.mp (by omega)
theorem zls_m {now a : Int32} (h : 0 ≤ now.toInt) (F : Int32 → Prop) : (if 0 ≤ a then (if a ≤ now then F a else F now) else F 0) = F (zls now a) := by
  have t0 : (0 : Int32).toInt = 0 := by decide
  by_cases h1 : 0 ≤ a
  · have h2 := Int32.le_iff_toInt_le.mp h1
    rw [if_pos h1]
    by_cases h3 : a ≤ now
    · have h4 := Int32.le_iff_toInt_le.mp h3
      rw [if_pos h3]
      congr 1
      unfold zls
      rcases zmin_v now a with ⟨g1, g2⟩ | ⟨g1, g2⟩
      · rw [g2]
        rcases zmax_v 0 a with ⟨g3, g4⟩ | ⟨g3, g4⟩ <;> rw [g4]
        exact Int32.toInt_inj.mp (by omega)
      · rw [g2]
        rcases zmax_v 0 now with ⟨g3, g4⟩ | ⟨g3, g4⟩ <;> rw [g4] <;> exact Int32.toInt_inj.mp (by omega)
    · have h4 := Int32.lt_iff_toInt_lt.mp (Int32.not_le.mp h3)
      rw [if_neg h3]
      congr 1
      unfold zls
      rcases zmin_v now a with ⟨g1, g2⟩ | ⟨g1, g2⟩
      · omega
      · rw [g2]
        rcases zmax_v 0 now with ⟨g3, g4⟩ | ⟨g3, g4⟩ <;> rw [g4] <;> exact Int32.toInt_inj.mp (by omega)
  · have h2 := Int32.lt_iff_toInt_lt.mp (Int32.not_le.mp h1)
    rw [if_neg h1]
    congr 1
    unfold zls
    rcases zmin_v now a with ⟨g1, g2⟩ | ⟨g1, g2⟩
    · rw [g2]
      rcases zmax_v 0 a with ⟨g3, g4⟩ | ⟨g3, g4⟩ <;> rw [g4]
      omega
    · rw [g2]
      rcases zmax_v 0 now with ⟨g3, g4⟩ | ⟨g3, g4⟩ <;> rw [g4] <;> exact Int32.toInt_inj.mp (by omega)
/-- THE LAW as the reference holds it -/
def zLm (I : Nat → Nat → Int32) : zLawT → Prop
  | none => I 80 16 = -1
  | some c => ∃ N, N ≤ 120 ∧ I 80 16 = nI N ∧ ∀ nm, zwv N (ztext (zah (I 89) N) nm) = zwo nm c [] true
theorem mDm_c {I J : Nat → Nat → Int32} (h : I 81 = J 81) : mDm I = mDm J := by unfold mDm; rw [h]
theorem mSy_c {I J : Nat → Nat → Int32} (h : I 81 = J 81) : mSy I = mSy J := by unfold mSy; rw [h]
section MFIRE
variable {d e f g n k m : Nat} {t : Option Nat} {I : Nat → Nat → Int32} {L : Nat → Nat → Int64} {Q : Option Value → zMm → Prop} {law : zLawT}
theorem zAc_o (c : Nat → Int32) (p : Nat) (ft o : Int32) {k : Nat} (h : k < 17 ∨ 21 < k) (b : Int32) (N : Nat) : zAc (zm80 c b N) p ft o k = c k := by
  simp only [zAc, zm80, upd]
  repeat' rw [if_neg (by omega)]
theorem m_firstFuel (hk : k < 24) : zWM (d + 1) 169 [.ref 80, .int (nI k)] (zSH, I, L, zP f g t) Q = Q (some (.int (zf1 (I 85) (mDm I) k))) (zSH, I, L, zP f g t) := by
  simp (disch := first | assumption | rfl | omega | decide | exact zb_01 _) only [zabs_e, zmax_e, zmin_e, zrf_s, zpush_s, zpush_n, zw_app, upd_app, updL_app, Nat.reduceEqDiff, Nat.add_left_cancel_iff, Nat.add_eq_left, Nat.left_eq_add, ↓reduceIte, true_and, and_true, Int32.reduceToNatClampNeg, zin_O, zi_ltO, zi_leO, zi_Olt, zi_Ole, zi_eqO, Nat.not_lt_zero, Nat.zero_le, List.append_nil, zrn_n, zrn_s, List.cons_append, List.nil_append, zlg_lt, zlg_gt, zlg_le, zlg_ge, zlg_eq, Int32.toInt_toInt64, Int64.reduceToInt, zw_zw, zw_sw1, zw_sw2, zw_sw3, zw_sw4, zw_sw5, zw_sw6, zw_sw7, ne_eq, zi_in, zi_cl, zi_le, zi_lt, zi_eq, zi_neg, zi_0le, zb_0, if_true, if_false, eq_self, zb_T, zb_F, Bool.false_eq_true, zO_eq, zO_ne1, zO_ne2, zO_nn, zi_ne1, zi_ne2, zi_lt1, zi_le1, zi_lt2, zi_le2, Int32.reduceLT, Int32.reduceLE, Nat.reduceLT, Nat.reduceLeDiff, Int32.reduceMul, Int32.reduceAdd, Int32.reduceSub, not_false_eq_true, not_true_eq_false, E_X10_firstFuel, R_X10_firstFuel, SHF, PF, zi_a48]
  rfl
theorem m_workOutE {N : Nat} (hN : N ≤ 120) : ∃ A : Nat → Int32, (∀ j, (j < 17 ∨ 21 < j) → A j = I 80 j) ∧ ∀ d Q, zWM (d + 45) 156 [.ref 80, .int 0, .int (nI N)] (zSH, I, L, zP f g t) Q = Q (some (.int (zwv N (ztext (zah (I 89) N) (I 90))))) (zSH, zw I 80 A, L, zP f g t) := by
  obtain ⟨o2, q⟩ := m_workOut (f := f) (g := g) (t := t) (L := L) (I := I) (s := I 89) (b := 0) hN (Or.inr ⟨rfl, rfl⟩)
  exact ⟨_, fun j hj => zAc_o (I 80) _ _ _ hj 0 N, q⟩
theorem m_burnsOf (hk : k < 24) (hm : m < 61) (hL : zLm I law) (hf : 0 ≤ (I 94 k).toInt) : ∃ A N : Nat → Int32, (∀ j, (j < 17 ∨ 21 < j) → A j = I 80 j) ∧ ∀ d Q, zWM (d + 46) 170 [.ref 80, .int (nI k), .int (nI m)] (zSH, I, L, zP f g t) Q = Q (some (.int (if nI m < I 93 k then 0 else zls (I 94 k) (zam law (I 85) (mDm I) (zabs (I 81 72) + zabs (I 81 73)) k m (I 94 k))))) (zSH, zw (zw I 80 A) 90 N, L, zP f g t) := by
  by_cases hl : nI m < I 93 k
  · have hl2 : ¬ I 93 k ≤ nI m := Int32.not_le.mpr hl
    refine ⟨I 80, I 90, fun _ _ => rfl, fun d Q => ?_⟩
    rw [if_pos hl, zw_id, zw_id]
    simp (disch := first | assumption | rfl | omega | decide | exact zb_01 _) only [zabs_e, zmax_e, zmin_e, zrf_s, zpush_s, zpush_n, zw_app, upd_app, updL_app, Nat.reduceEqDiff, Nat.add_left_cancel_iff, Nat.add_eq_left, Nat.left_eq_add, ↓reduceIte, true_and, and_true, Int32.reduceToNatClampNeg, zin_O, zi_ltO, zi_leO, zi_Olt, zi_Ole, zi_eqO, Nat.not_lt_zero, Nat.zero_le, List.append_nil, zrn_n, zrn_s, List.cons_append, List.nil_append, zlg_lt, zlg_gt, zlg_le, zlg_ge, zlg_eq, Int32.toInt_toInt64, Int64.reduceToInt, zw_zw, zw_sw1, zw_sw2, zw_sw3, zw_sw4, zw_sw5, zw_sw6, zw_sw7, ne_eq, zi_in, zi_cl, zi_le, zi_lt, zi_eq, zi_neg, zi_0le, zb_0, if_true, if_false, eq_self, zb_T, zb_F, Bool.false_eq_true, zO_eq, zO_ne1, zO_ne2, zO_nn, zi_ne1, zi_ne2, zi_lt1, zi_le1, zi_lt2, zi_le2, Int32.reduceLT, Int32.reduceLE, Nat.reduceLT, Nat.reduceLeDiff, Int32.reduceMul, Int32.reduceAdd, Int32.reduceSub, not_false_eq_true, not_true_eq_false, E_X10_burnsOf, R_X10_burnsOf, SHF, PF, hl]
  have hl2 : I 93 k ≤ nI m := Int32.not_lt.mp hl
  by_cases h0 : I 94 k = 0
  · refine ⟨I 80, I 90, fun _ _ => rfl, fun d Q => ?_⟩
    rw [if_neg hl, zw_id, zw_id, h0, zls_0]
    simp (disch := first | assumption | rfl | omega | decide | exact zb_01 _) only [zabs_e, zmax_e, zmin_e, zrf_s, zpush_s, zpush_n, zw_app, upd_app, updL_app, Nat.reduceEqDiff, Nat.add_left_cancel_iff, Nat.add_eq_left, Nat.left_eq_add, ↓reduceIte, true_and, and_true, Int32.reduceToNatClampNeg, zin_O, zi_ltO, zi_leO, zi_Olt, zi_Ole, zi_eqO, Nat.not_lt_zero, Nat.zero_le, List.append_nil, zrn_n, zrn_s, List.cons_append, List.nil_append, zlg_lt, zlg_gt, zlg_le, zlg_ge, zlg_eq, Int32.toInt_toInt64, Int64.reduceToInt, zw_zw, zw_sw1, zw_sw2, zw_sw3, zw_sw4, zw_sw5, zw_sw6, zw_sw7, ne_eq, zi_in, zi_cl, zi_le, zi_lt, zi_eq, zi_neg, zi_0le, zb_0, if_true, if_false, eq_self, zb_T, zb_F, Bool.false_eq_true, zO_eq, zO_ne1, zO_ne2, zO_nn, zi_ne1, zi_ne2, zi_lt1, zi_le1, zi_lt2, zi_le2, Int32.reduceLT, Int32.reduceLE, Nat.reduceLT, Nat.reduceLeDiff, Int32.reduceMul, Int32.reduceAdd, Int32.reduceSub, not_false_eq_true, not_true_eq_false, E_X10_burnsOf, R_X10_burnsOf, SHF, PF, hl, h0]
  cases law with
  | none =>
    have hL : I 80 16 = -1 := hL
    refine ⟨I 80, I 90, fun _ _ => rfl, fun d Q => ?_⟩
    rw [if_neg hl, zw_id, zw_id]
    simp (disch := first | assumption | rfl | omega | decide | exact zb_01 _) only [zabs_e, zmax_e, zmin_e, zrf_s, zpush_s, zpush_n, zw_app, upd_app, updL_app, Nat.reduceEqDiff, Nat.add_left_cancel_iff, Nat.add_eq_left, Nat.left_eq_add, ↓reduceIte, true_and, and_true, Int32.reduceToNatClampNeg, zin_O, zi_ltO, zi_leO, zi_Olt, zi_Ole, zi_eqO, Nat.not_lt_zero, Nat.zero_le, List.append_nil, zrn_n, zrn_s, List.cons_append, List.nil_append, zlg_lt, zlg_gt, zlg_le, zlg_ge, zlg_eq, Int32.toInt_toInt64, Int64.reduceToInt, zw_zw, zw_sw1, zw_sw2, zw_sw3, zw_sw4, zw_sw5, zw_sw6, zw_sw7, ne_eq, zi_in, zi_cl, zi_le, zi_lt, zi_eq, zi_neg, zi_0le, zb_0, if_true, if_false, eq_self, zb_T, zb_F, Bool.false_eq_true, zO_eq, zO_ne1, zO_ne2, zO_nn, zi_ne1, zi_ne2, zi_lt1, zi_le1, zi_lt2, zi_le2, Int32.reduceLT, Int32.reduceLE, Nat.reduceLT, Nat.reduceLeDiff, Int32.reduceMul, Int32.reduceAdd, Int32.reduceSub, not_false_eq_true, not_true_eq_false, E_X10_burnsOf, R_X10_burnsOf, SHF, PF, hl, h0, hL, m_sizeOf]
    exact zls_m hf (fun r => Q (some (.int r)) (zSH, I, L, zP f g t))
  | some c =>
    obtain ⟨N, hN, h16, hv⟩ := (hL : ∃ N, N ≤ 120 ∧ I 80 16 = nI N ∧ ∀ nm, zwv N (ztext (zah (I 89) N) nm) = zwo nm c [] true)
    obtain ⟨A, hA, q⟩ := m_workOutE (f := f) (g := g) (t := t) (L := L) (I := zw I 90 (upd (upd (upd (upd (upd (upd (I 90) 0 (I 94 k)) 1 (I 85 k)) 2 (I 81 (48 + k))) 3 (nI k)) 4 (nI m)) 5 (zabs (I 81 72) + zabs (I 81 73)))) hN
    rw [zw_s, zw_n (show 89 ≠ 90 by decide), hv] at q
    rw [zw_n (show 80 ≠ 90 by decide)] at hA
    refine ⟨A, upd (upd (upd (upd (upd (upd (I 90) 0 (I 94 k)) 1 (I 85 k)) 2 (I 81 (48 + k))) 3 (nI k)) 4 (nI m)) 5 (zabs (I 81 72) + zabs (I 81 73)), hA, fun d Q => ?_⟩
    rw [if_neg hl]
    have e1 : zwo (upd (upd (upd (upd (upd (upd (I 90) 0 (I 94 k)) 1 (I 85 k)) 2 (I 81 (48 + k))) 3 (nI k)) 4 (nI m)) 5 (zabs (I 81 72) + zabs (I 81 73))) c [] true = zam (some c) (I 85) (mDm I) (zabs (I 81 72) + zabs (I 81 73)) k m (I 94 k) := by
      refine zwo_congr (fun j hj => ?_) _ _ _
      simp only [upd, znms]
      match j, hj with
      | 0, _ => rfl
      | 1, _ => rfl
      | 2, _ => rfl
      | 3, _ => rfl
      | 4, _ => rfl
      | 5, _ => rfl
      | k + 6, h => exact absurd h (by omega)
    have q2 := q d
    rw [e1] at q2
    rw [show d + 46 = d + 45 + 1 by omega]
    have e2 : ¬ nI N < 0 := nI_pos (by omega)
    simp (disch := first | assumption | rfl | omega | decide | exact zb_01 _) only [zabs_e, zmax_e, zmin_e, zrf_s, zpush_s, zpush_n, zw_app, upd_app, updL_app, Nat.reduceEqDiff, Nat.add_left_cancel_iff, Nat.add_eq_left, Nat.left_eq_add, ↓reduceIte, true_and, and_true, Int32.reduceToNatClampNeg, zin_O, zi_ltO, zi_leO, zi_Olt, zi_Ole, zi_eqO, Nat.not_lt_zero, Nat.zero_le, List.append_nil, zrn_n, zrn_s, List.cons_append, List.nil_append, zlg_lt, zlg_gt, zlg_le, zlg_ge, zlg_eq, Int32.toInt_toInt64, Int64.reduceToInt, zw_zw, zw_sw1, zw_sw2, zw_sw3, zw_sw4, zw_sw5, zw_sw6, zw_sw7, ne_eq, zi_in, zi_cl, zi_le, zi_lt, zi_eq, zi_neg, zi_0le, zb_0, if_true, if_false, eq_self, zb_T, zb_F, Bool.false_eq_true, zO_eq, zO_ne1, zO_ne2, zO_nn, zi_ne1, zi_ne2, zi_lt1, zi_le1, zi_lt2, zi_le2, Int32.reduceLT, Int32.reduceLE, Nat.reduceLT, Nat.reduceLeDiff, Int32.reduceMul, Int32.reduceAdd, Int32.reduceSub, not_false_eq_true, not_true_eq_false, E_X10_burnsOf, R_X10_burnsOf, SHF, PF, hl, h0, h16, m_sizeOf, zi_a48, q2]
    rw [zw_cm (show 90 ≠ 80 by decide)]
    exact zls_m hf (fun r => Q (some (.int r)) (zSH, zw (zw I 80 A) 90 _, L, zP f g t))
theorem m_countsAs (hk : k < 24) : zWM (d + 2) 171 [.ref 80, .int (nI k)] (zSH, I, L, zP f g t) Q = Q (some (.int (zct (I 85 k) (I 94 k) (zf1 (I 85) (mDm I) k)))) (zSH, I, L, zP f g t) := by
  unfold zct
  simp (disch := first | assumption | rfl | omega | decide | exact zb_01 _) only [zabs_e, zmax_e, zmin_e, zrf_s, zpush_s, zpush_n, zw_app, upd_app, updL_app, Nat.reduceEqDiff, Nat.add_left_cancel_iff, Nat.add_eq_left, Nat.left_eq_add, ↓reduceIte, true_and, and_true, Int32.reduceToNatClampNeg, zin_O, zi_ltO, zi_leO, zi_Olt, zi_Ole, zi_eqO, Nat.not_lt_zero, Nat.zero_le, List.append_nil, zrn_n, zrn_s, List.cons_append, List.nil_append, zlg_lt, zlg_gt, zlg_le, zlg_ge, zlg_eq, Int32.toInt_toInt64, Int64.reduceToInt, zw_zw, zw_sw1, zw_sw2, zw_sw3, zw_sw4, zw_sw5, zw_sw6, zw_sw7, ne_eq, zi_in, zi_cl, zi_le, zi_lt, zi_eq, zi_neg, zi_0le, zb_0, if_true, if_false, eq_self, zb_T, zb_F, Bool.false_eq_true, zO_eq, zO_ne1, zO_ne2, zO_nn, zi_ne1, zi_ne2, zi_lt1, zi_le1, zi_lt2, zi_le2, Int32.reduceLT, Int32.reduceLE, Nat.reduceLT, Nat.reduceLeDiff, Int32.reduceMul, Int32.reduceAdd, Int32.reduceSub, not_false_eq_true, not_true_eq_false, E_X10_countsAs, R_X10_countsAs, SHF, PF, m_firstFuel hk]
  by_cases h0 : I 94 k = 0
  · rw [if_pos h0, if_pos h0]
  · rw [if_neg h0, if_neg h0]
    by_cases h1 : zf1 (I 85) (mDm I) k < 2 * I 94 k
    · rw [if_pos h1, if_neg (Int32.not_le.mpr h1)]
    · rw [if_neg h1, if_pos (Int32.not_lt.mp h1)]
      unfold zmax
      by_cases h3 : I 85 k / 2 ≤ 1
      · rw [if_pos h3, if_neg (Int32.not_lt.mpr h3)]
      · rw [if_neg h3, if_pos (Int32.not_le.mp h3)]
theorem sumI_0 {s : Nat → Int32} : ∀ n, n ≤ 24 → (∀ j, j < n → 0 ≤ (s j).toInt ∧ (s j).toInt ≤ 108) → (0 ≤ (sumI s n).toInt ∧ (sumI s n).toInt ≤ 108 * n) ∧ (sumI s n = 0 ↔ zgn n s)
  | 0, _, _ => ⟨by unfold sumI; decide, ⟨fun _ i hi => absurd hi (by omega), fun _ => rfl⟩⟩
  | n + 1, h24, h => by
    have t0 : (0 : Int32).toInt = 0 := by decide
    obtain ⟨⟨h1, h2⟩, h3⟩ := sumI_0 n (by omega) (fun j hj => h j (by omega))
    have h4 := h n (by omega)
    have e : (sumI s (n + 1)).toInt = (sumI s n).toInt + (s n).toInt := by rw [sumI, zt_add (by omega) (by omega)]
    refine ⟨by omega, ?_⟩
    rw [zgn_s, ← h3, ← Int32.toInt_inj, ← Int32.toInt_inj, ← Int32.toInt_inj, e, t0]
    omega
/-- in a minute, behind so many ROUNDS -/
def zMM (J : Nat → Nat → Int32) (m j : Nat) (s v cn A N : Nat → Int32) : Nat → Nat → Int32 := zw (zw (zw (zw (zw (zw J 80 A) 90 N) 94 (zfl j s (J 94))) 96 (zlf m j v (J 96))) 95 (zlf m j s (J 95))) 91 (zfl j cn (J 91))
theorem zMM_0 (J : Nat → Nat → Int32) (m : Nat) (s v cn : Nat → Int32) : zMM J m 0 s v cn (J 80) (J 90) = J := by
  unfold zMM
  rw [zlf_0, zlf_0, zfl_0, zfl_0, zw_id, zw_id, zw_id, zw_id, zw_id, zw_id]
theorem zMM_b (J : Nat → Nat → Int32) (m j : Nat) (s v cn A N A2 N2 : Nat → Int32) : zw (zw (zMM J m j s v cn A N) 80 A2) 90 N2 = zMM J m j s v cn A2 N2 := by
  funext x; simp only [zMM, zw]; (repeat' split) <;> first | rfl | omega
theorem zMM_u (J : Nat → Nat → Int32) (m j : Nat) (s v cn A N : Nat → Int32) : zw (zw (zw (zw (zMM J m j s v cn A N) 94 (zfl (j + 1) s (J 94))) 96 (zlf m (j + 1) v (J 96))) 95 (zlf m (j + 1) s (J 95))) 91 (zfl (j + 1) cn (J 91)) = zMM J m (j + 1) s v cn A N := by
  funext x; simp only [zMM, zw]; (repeat' split) <;> first | rfl | omega
theorem zMM_o (J : Nat → Nat → Int32) {m j a : Nat} {s v cn A N : Nat → Int32} (h : a < 80 ∨ (80 < a ∧ a < 90) ∨ a = 92 ∨ a = 93 ∨ 96 < a) : zMM J m j s v cn A N a = J a := by
  simp only [zMM, zw]; repeat' rw [if_neg (by omega)]
theorem zMM_80 (J : Nat → Nat → Int32) {m j : Nat} {s v cn A N : Nat → Int32} : zMM J m j s v cn A N 80 = A := rfl
theorem zMM_94 (J : Nat → Nat → Int32) {m j : Nat} {s v cn A N : Nat → Int32} : zMM J m j s v cn A N 94 = zfl j s (J 94) := rfl
theorem zMM_96 (J : Nat → Nat → Int32) {m j : Nat} {s v cn A N : Nat → Int32} : zMM J m j s v cn A N 96 = zlf m j v (J 96) := rfl
theorem zMM_95 (J : Nat → Nat → Int32) {m j : Nat} {s v cn A N : Nat → Int32} : zMM J m j s v cn A N 95 = zlf m j s (J 95) := rfl
theorem zMM_91 (J : Nat → Nat → Int32) {m j : Nat} {s v cn A N : Nat → Int32} : zMM J m j s v cn A N 91 = zfl j cn (J 91) := rfl
theorem zLm_o {I J : Nat → Nat → Int32} (h0 : J 80 16 = I 80 16) (h1 : J 89 = I 89) (h : zLm I law) : zLm J law := by
  cases law with
  | none => unfold zLm at *; rw [h0]; exact h
  | some c => unfold zLm at *; rw [h0, h1]; exact h
/-- what burns -/
def zvb (law : zLawT) (p dm : Nat → Int32) (w : Int32) (m k : Nat) : Int32 := zfu law p dm w m k - zfu law p dm w (m + 1) k
theorem m_min_1 {J : Nat → Nat → Int32} {w : Int32} (hL : zLm J law) (hn : J 80 6 = nI n) (h24 : n ≤ 24) (hm : m < 61) (hpd : zPD n (J 85) (mDm J)) (hw : zabs (J 81 72) + zabs (J 81 73) = w) (h2 : ∀ k, k < n → J 93 k = zlit (J 85) (mDm J) k) (hf : ∀ k, k < n → J 94 k = zfu law (J 85) (mDm J) w m k) {j : Nat} (hj : j < n) {A N : Nat → Int32} (hA : ∀ k, (k < 17 ∨ 21 < k) → A k = J 80 k) : ∃ A' N' : Nat → Int32, (∀ k, (k < 17 ∨ 21 < k) → A' k = J 80 k) ∧ ∀ d l4 Q, zWp (d + 46) zi_172 none 111 [.ref 80, .int (nI m), .int (sumI (zfu law (J 85) (mDm J) w (m + 1)) j), .int (nI j), l4] [] (zSH, zMM J m j (zfu law (J 85) (mDm J) w (m + 1)) (zvb law (J 85) (mDm J) w m) (zcn law (J 85) (mDm J) w m) A N, L, zP f g t) Q = zWp (d + 46) zi_172 none 111 [.ref 80, .int (nI m), .int (sumI (zfu law (J 85) (mDm J) w (m + 1)) (j + 1)), .int (nI (j + 1)), .int (zvb law (J 85) (mDm J) w m j)] [] (zSH, zMM J m (j + 1) (zfu law (J 85) (mDm J) w (m + 1)) (zvb law (J 85) (mDm J) w m) (zcn law (J 85) (mDm J) w m) A' N', L, zP f g t) Q := by
  have hlt : ¬ n ≤ j := by omega
  have hbd := zfu_bd (law := law) (w := w) hpd hj m
  have o81 := fun A N => zMM_o J (m := m) (j := j) (a := 81) (s := zfu law (J 85) (mDm J) w (m + 1)) (v := zvb law (J 85) (mDm J) w m) (cn := zcn law (J 85) (mDm J) w m) (A := A) (N := N) (by omega)
  have o85 := fun A N => zMM_o J (m := m) (j := j) (a := 85) (s := zfu law (J 85) (mDm J) w (m + 1)) (v := zvb law (J 85) (mDm J) w m) (cn := zcn law (J 85) (mDm J) w m) (A := A) (N := N) (by omega)
  have o89 := fun A N => zMM_o J (m := m) (j := j) (a := 89) (s := zfu law (J 85) (mDm J) w (m + 1)) (v := zvb law (J 85) (mDm J) w m) (cn := zcn law (J 85) (mDm J) w m) (A := A) (N := N) (by omega)
  have o93 := fun A N => zMM_o J (m := m) (j := j) (a := 93) (s := zfu law (J 85) (mDm J) w (m + 1)) (v := zvb law (J 85) (mDm J) w m) (cn := zcn law (J 85) (mDm J) w m) (A := A) (N := N) (by omega)
  have oD := fun A N => show mDm (zMM J m j (zfu law (J 85) (mDm J) w (m + 1)) (zvb law (J 85) (mDm J) w m) (zcn law (J 85) (mDm J) w m) A N) = mDm J from mDm_c (o81 A N)
  have o94 := fun A N => show zMM J m j (zfu law (J 85) (mDm J) w (m + 1)) (zvb law (J 85) (mDm J) w m) (zcn law (J 85) (mDm J) w m) A N 94 j = zfu law (J 85) (mDm J) w m j by rw [zMM_94, zfl_ge (by omega), hf j hj]
  obtain ⟨A', N', hA', q⟩ := m_burnsOf (f := f) (g := g) (t := t) (L := L) (k := j) (m := m) (I := zMM J m j (zfu law (J 85) (mDm J) w (m + 1)) (zvb law (J 85) (mDm J) w m) (zcn law (J 85) (mDm J) w m) A N) (law := law) (by omega) hm (zLm_o (by rw [zMM_80]; exact hA 16 (by omega)) (o89 A N) hL) (by rw [o94]; exact hbd.1)
  rw [o94, o85, oD, o81, hw, o93, h2 j hj, zMM_b] at q
  have ev : (if nI m < zlit (J 85) (mDm J) j then 0 else zls (zfu law (J 85) (mDm J) w m j) (zam law (J 85) (mDm J) w j m (zfu law (J 85) (mDm J) w m j))) = zvb law (J 85) (mDm J) w m j := by
    unfold zvb
    rw [zfu]
    split
    · grind
    · grind
  rw [ev] at q
  have e0 : zfu law (J 85) (mDm J) w m j - zvb law (J 85) (mDm J) w m j = zfu law (J 85) (mDm J) w (m + 1) j := by unfold zvb; grind
  have e1 := zlf_s m j (zfu law (J 85) (mDm J) w (m + 1)) (J 95)
  have e2 := zfl_s j (zcn law (J 85) (mDm J) w m) (J 91)
  have e3 := zfl_s j (zfu law (J 85) (mDm J) w (m + 1)) (J 94)
  have e4 := zlf_s m j (zvb law (J 85) (mDm J) w m) (J 96)
  have u := zMM_u J m j (zfu law (J 85) (mDm J) w (m + 1)) (zvb law (J 85) (mDm J) w m) (zcn law (J 85) (mDm J) w m) A' N'
  have es : sumI (zfu law (J 85) (mDm J) w (m + 1)) j + zfu law (J 85) (mDm J) w (m + 1) j = sumI (zfu law (J 85) (mDm J) w (m + 1)) (j + 1) := rfl
  have qc := fun K d Q => m_countsAs (d := d) (f := f) (g := g) (t := t) (L := L) (Q := Q) (k := j) (I := zw (zw (zw (zMM J m j (zfu law (J 85) (mDm J) w (m + 1)) (zvb law (J 85) (mDm J) w m) (zcn law (J 85) (mDm J) w m) A' N') 94 (zfl (j + 1) (zfu law (J 85) (mDm J) w (m + 1)) (J 94))) 96 K) 95 (zlf m (j + 1) (zfu law (J 85) (mDm J) w (m + 1)) (J 95))) (by omega)
  have r94 := fun K => show (zw (zw (zw (zMM J m j (zfu law (J 85) (mDm J) w (m + 1)) (zvb law (J 85) (mDm J) w m) (zcn law (J 85) (mDm J) w m) A' N') 94 (zfl (j + 1) (zfu law (J 85) (mDm J) w (m + 1)) (J 94))) 96 K) 95 (zlf m (j + 1) (zfu law (J 85) (mDm J) w (m + 1)) (J 95))) 94 j = zfu law (J 85) (mDm J) w (m + 1) j by
    show zfl (j + 1) _ (J 94) j = _
    exact zfl_lt (by omega)
  have r85 := fun K => show (zw (zw (zw (zMM J m j (zfu law (J 85) (mDm J) w (m + 1)) (zvb law (J 85) (mDm J) w m) (zcn law (J 85) (mDm J) w m) A' N') 94 (zfl (j + 1) (zfu law (J 85) (mDm J) w (m + 1)) (J 94))) 96 K) 95 (zlf m (j + 1) (zfu law (J 85) (mDm J) w (m + 1)) (J 95))) 85 = J 85 from o85 A' N'
  have rD := fun K => show mDm (zw (zw (zw (zMM J m j (zfu law (J 85) (mDm J) w (m + 1)) (zvb law (J 85) (mDm J) w m) (zcn law (J 85) (mDm J) w m) A' N') 94 (zfl (j + 1) (zfu law (J 85) (mDm J) w (m + 1)) (J 94))) 96 K) 95 (zlf m (j + 1) (zfu law (J 85) (mDm J) w (m + 1)) (J 95))) = mDm J from oD A' N'
  simp only [r94, r85, rD] at qc
  have ec : zct (J 85 j) (zfu law (J 85) (mDm J) w (m + 1) j) (zf1 (J 85) (mDm J) j) = zcn law (J 85) (mDm J) w m j := rfl
  rw [ec] at qc
  have f6 : A 6 = nI n := by rw [hA 6 (by omega)]; exact hn
  refine ⟨A', N', fun k hk => (hA' k hk).trans (hA k hk), fun d l4 Q => ?_⟩
  have q2 := q d
  rw [H_X10_fire_111]
  rw [show d + 46 = d + 45 + 1 by omega] at *
  simp (disch := first | assumption | rfl | omega | decide | exact zb_01 _) only [zabs_e, zmax_e, zmin_e, zrf_s, zpush_s, zpush_n, zw_app, upd_app, updL_app, Nat.reduceEqDiff, Nat.add_left_cancel_iff, Nat.add_eq_left, Nat.left_eq_add, ↓reduceIte, true_and, and_true, Int32.reduceToNatClampNeg, zin_O, zi_ltO, zi_leO, zi_Olt, zi_Ole, zi_eqO, Nat.not_lt_zero, Nat.zero_le, List.append_nil, zrn_n, zrn_s, List.cons_append, List.nil_append, zlg_lt, zlg_gt, zlg_le, zlg_ge, zlg_eq, Int32.toInt_toInt64, Int64.reduceToInt, zw_zw, zw_sw1, zw_sw2, zw_sw3, zw_sw4, zw_sw5, zw_sw6, zw_sw7, ne_eq, zi_in, zi_cl, zi_le, zi_lt, zi_eq, zi_neg, zi_0le, zb_0, if_true, if_false, eq_self, zb_T, zb_F, Bool.false_eq_true, zO_eq, zO_ne1, zO_ne2, zO_nn, zi_ne1, zi_ne2, zi_lt1, zi_le1, zi_lt2, zi_le2, Int32.reduceLT, Int32.reduceLE, Nat.reduceLT, Nat.reduceLeDiff, Int32.reduceMul, Int32.reduceAdd, Int32.reduceSub, not_false_eq_true, not_true_eq_false, R_X10_fire, SHF, PF, zMM_80, f6, hlt, q2, zMM_94, zfl_ge, hf j hj, e0, e3, zfl_lt, Nat.lt_succ_self, es, zi_24m, zMM_96, e4, zMM_95, e1, qc, zMM_91, e2, u, zi_s]
theorem m_min_l {J : Nat → Nat → Int32} {w : Int32} (hL : zLm J law) (hn : J 80 6 = nI n) (h24 : n ≤ 24) (hm : m < 61) (hpd : zPD n (J 85) (mDm J)) (hw : zabs (J 81 72) + zabs (J 81 73) = w) (h2 : ∀ k, k < n → J 93 k = zlit (J 85) (mDm J) k) (hf : ∀ k, k < n → J 94 k = zfu law (J 85) (mDm J) w m k) : ∀ (c j : Nat) (A N : Nat → Int32), c + j = n → (∀ k, (k < 17 ∨ 21 < k) → A k = J 80 k) → ∃ A' N' : Nat → Int32, (∀ k, (k < 17 ∨ 21 < k) → A' k = J 80 k) ∧ ∀ d l4 Q, ∃ l4' : Value, zWp (d + 46) zi_172 none 111 [.ref 80, .int (nI m), .int (sumI (zfu law (J 85) (mDm J) w (m + 1)) j), .int (nI j), l4] [] (zSH, zMM J m j (zfu law (J 85) (mDm J) w (m + 1)) (zvb law (J 85) (mDm J) w m) (zcn law (J 85) (mDm J) w m) A N, L, zP f g t) Q = zWp (d + 46) zi_172 none 194 [.ref 80, .int (nI m), .int (sumI (zfu law (J 85) (mDm J) w (m + 1)) n), .int (nI n), l4'] [] (zSH, zMM J m n (zfu law (J 85) (mDm J) w (m + 1)) (zvb law (J 85) (mDm J) w m) (zcn law (J 85) (mDm J) w m) A' N', L, zP f g t) Q := by
  intro c
  induction c with
  | zero =>
    intro j A N hj hA
    have hj : j = n := by omega
    subst hj
    have f6 : A 6 = nI j := by rw [hA 6 (by omega)]; exact hn
    refine ⟨A, N, hA, fun d l4 Q => ⟨l4, ?_⟩⟩
    rw [H_X10_fire_111]
    simp (disch := first | assumption | rfl | omega | decide | exact zb_01 _) only [R_X10_fire, SHF, PF, zMM_80, f6, zi_le, Nat.le_refl, ↓reduceIte]
  | succ c ih =>
    intro j A N hj hA
    obtain ⟨A', N', hA', q⟩ := m_min_1 (f := f) (g := g) (t := t) (L := L) hL hn h24 hm hpd hw h2 hf (show j < n by omega) (N := N) hA
    obtain ⟨A2, N2, hA2, q2⟩ := ih (j + 1) A' N' (by omega) hA'
    refine ⟨A2, N2, hA2, fun d l4 Q => ?_⟩
    obtain ⟨l4', q3⟩ := q2 d (.int (zvb law (J 85) (mDm J) w m j)) Q
    exact ⟨l4', by rw [q, q3]⟩
end MFIRE
