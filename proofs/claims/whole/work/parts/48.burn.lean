section BURN
variable {d e f g n k m : Nat} {t : Option Nat} {I : Nat → Nat → Int32} {L : Nat → Nat → Int64} {Q : Option Value → zMm → Prop} {law : zLawT}
/-- since when, as a ROUND's turn comes -/
def zsn (p dm : Nat → Int32) : Nat → Int32
  | 0 => 0
  | k + 1 => zlit p dm k
theorem c_light_l {J : Nat → Nat → Int32} (hn : J 33 5 = nI n) (h24 : n ≤ 24) : ∀ c j (l4 : Value), c + j = n → zWp d zi_16 none 20 [.ref 33, .ref 1, .int (zsn (J 2) (J 3) j), .int (nI j), l4] [] (zSH, zw (zw J 34 (zfl j (zf1 (J 2) (J 3)) (J 34))) 35 (zfl j (zlit (J 2) (J 3)) (J 35)), L, zP f g t) Q = Q none (zSH, zw (zw J 34 (zfl n (zf1 (J 2) (J 3)) (J 34))) 35 (zfl n (zlit (J 2) (J 3)) (J 35)), L, zP f g t) := by
  intro c
  induction c with
  | zero =>
    intro j l4 hj
    have hj : j = n := by omega
    subst hj
    rw [H_X2_light_20]
    simp (disch := first | assumption | rfl | omega | decide | exact zb_01 _) only [zabs_e, zmax_e, zmin_e, zrf_s, zpush_s, zpush_n, zw_app, upd_app, updL_app, Nat.reduceEqDiff, Nat.add_left_cancel_iff, Nat.add_eq_left, Nat.left_eq_add, ↓reduceIte, true_and, and_true, Int32.reduceToNatClampNeg, zin_O, zi_ltO, zi_leO, zi_Olt, zi_Ole, zi_eqO, Nat.not_lt_zero, Nat.zero_le, List.append_nil, zrn_n, zrn_s, List.cons_append, List.nil_append, zlg_lt, zlg_gt, zlg_le, zlg_ge, zlg_eq, Int32.toInt_toInt64, Int64.reduceToInt, zw_zw, zw_sw1, zw_sw2, zw_sw3, zw_sw4, zw_sw5, zw_sw6, zw_sw7, ne_eq, zi_in, zi_cl, zi_le, zi_lt, zi_eq, zi_neg, zi_0le, zb_0, if_true, if_false, eq_self, zb_T, zb_F, Bool.false_eq_true, zO_eq, zO_ne1, zO_ne2, zO_nn, zi_ne1, zi_ne2, zi_lt1, zi_le1, zi_lt2, zi_le2, Int32.reduceLT, Int32.reduceLE, Nat.reduceLT, Nat.reduceLeDiff, Int32.reduceMul, Int32.reduceAdd, Int32.reduceSub, not_false_eq_true, not_true_eq_false, R_X2_light, SHF, PF, hn, Nat.le_refl]
  | succ c ih =>
    intro j l4 hj
    have hlt : ¬ n ≤ j := by omega
    have e1 := zfl_s j (zf1 (J 2) (J 3)) (J 34)
    have e2 := zfl_s j (zlit (J 2) (J 3)) (J 35)
    have e3 : 12 * (J 2 j - J 3 j) + 8 * J 3 j = zf1 (J 2) (J 3) j := rfl
    rw [H_X2_light_20, ← ih (j + 1) (.int (J 2 j - J 3 j)) (by omega)]
    cases j with
    | zero =>
      have z0 : zsn (J 2) (J 3) 0 = zlit (J 2) (J 3) 0 := rfl
      have z1 : zsn (J 2) (J 3) (0 + 1) = zlit (J 2) (J 3) 0 := rfl
      simp (disch := first | assumption | rfl | omega | decide | exact zb_01 _) only [zabs_e, zmax_e, zmin_e, zrf_s, zpush_s, zpush_n, zw_app, upd_app, updL_app, Nat.reduceEqDiff, Nat.add_left_cancel_iff, Nat.add_eq_left, Nat.left_eq_add, ↓reduceIte, true_and, and_true, Int32.reduceToNatClampNeg, zin_O, zi_ltO, zi_leO, zi_Olt, zi_Ole, zi_eqO, Nat.not_lt_zero, Nat.zero_le, List.append_nil, zrn_n, zrn_s, List.cons_append, List.nil_append, zlg_lt, zlg_gt, zlg_le, zlg_ge, zlg_eq, Int32.toInt_toInt64, Int64.reduceToInt, zw_zw, zw_sw1, zw_sw2, zw_sw3, zw_sw4, zw_sw5, zw_sw6, zw_sw7, ne_eq, zi_in, zi_cl, zi_le, zi_lt, zi_eq, zi_neg, zi_0le, zb_0, if_true, if_false, eq_self, zb_T, zb_F, Bool.false_eq_true, zO_eq, zO_ne1, zO_ne2, zO_nn, zi_ne1, zi_ne2, zi_lt1, zi_le1, zi_lt2, zi_le2, Int32.reduceLT, Int32.reduceLE, Nat.reduceLT, Nat.reduceLeDiff, Int32.reduceMul, Int32.reduceAdd, Int32.reduceSub, not_false_eq_true, not_true_eq_false, R_X2_light, SHF, PF, hn, hlt, e3, e1, z0, e2, zi_s, z1, Nat.le_refl]
    | succ k =>
      have z0 : zsn (J 2) (J 3) (k + 1) = zlit (J 2) (J 3) k := rfl
      have z1 : zsn (J 2) (J 3) (k + 1 + 1) = zlit (J 2) (J 3) (k + 1) := rfl
      have z3 : ¬ k + 1 ≤ 0 := by omega
      by_cases hc : J 2 (k + 1) - J 3 (k + 1) < J 3 (k + 1)
      · have z2 : zlit (J 2) (J 3) k + 4 = zlit (J 2) (J 3) (k + 1) := by rw [zlit, if_pos hc]
        have hc2 : ¬ J 3 (k + 1) ≤ J 2 (k + 1) - J 3 (k + 1) := Int32.not_le.mpr hc
        simp (disch := first | assumption | rfl | omega | decide | exact zb_01 _) only [zabs_e, zmax_e, zmin_e, zrf_s, zpush_s, zpush_n, zw_app, upd_app, updL_app, Nat.reduceEqDiff, Nat.add_left_cancel_iff, Nat.add_eq_left, Nat.left_eq_add, ↓reduceIte, true_and, and_true, Int32.reduceToNatClampNeg, zin_O, zi_ltO, zi_leO, zi_Olt, zi_Ole, zi_eqO, Nat.not_lt_zero, Nat.zero_le, List.append_nil, zrn_n, zrn_s, List.cons_append, List.nil_append, zlg_lt, zlg_gt, zlg_le, zlg_ge, zlg_eq, Int32.toInt_toInt64, Int64.reduceToInt, zw_zw, zw_sw1, zw_sw2, zw_sw3, zw_sw4, zw_sw5, zw_sw6, zw_sw7, ne_eq, zi_in, zi_cl, zi_le, zi_lt, zi_eq, zi_neg, zi_0le, zb_0, if_true, if_false, eq_self, zb_T, zb_F, Bool.false_eq_true, zO_eq, zO_ne1, zO_ne2, zO_nn, zi_ne1, zi_ne2, zi_lt1, zi_le1, zi_lt2, zi_le2, Int32.reduceLT, Int32.reduceLE, Nat.reduceLT, Nat.reduceLeDiff, Int32.reduceMul, Int32.reduceAdd, Int32.reduceSub, not_false_eq_true, not_true_eq_false, R_X2_light, SHF, PF, hn, hlt, e3, e1, z0, z2, hc2, e2, zi_s, z1, z3]
      · have z2 : zlit (J 2) (J 3) k + 2 = zlit (J 2) (J 3) (k + 1) := by rw [zlit, if_neg hc]
        have hc2 : J 3 (k + 1) ≤ J 2 (k + 1) - J 3 (k + 1) := Int32.not_lt.mp hc
        simp (disch := first | assumption | rfl | omega | decide | exact zb_01 _) only [zabs_e, zmax_e, zmin_e, zrf_s, zpush_s, zpush_n, zw_app, upd_app, updL_app, Nat.reduceEqDiff, Nat.add_left_cancel_iff, Nat.add_eq_left, Nat.left_eq_add, ↓reduceIte, true_and, and_true, Int32.reduceToNatClampNeg, zin_O, zi_ltO, zi_leO, zi_Olt, zi_Ole, zi_eqO, Nat.not_lt_zero, Nat.zero_le, List.append_nil, zrn_n, zrn_s, List.cons_append, List.nil_append, zlg_lt, zlg_gt, zlg_le, zlg_ge, zlg_eq, Int32.toInt_toInt64, Int64.reduceToInt, zw_zw, zw_sw1, zw_sw2, zw_sw3, zw_sw4, zw_sw5, zw_sw6, zw_sw7, ne_eq, zi_in, zi_cl, zi_le, zi_lt, zi_eq, zi_neg, zi_0le, zb_0, if_true, if_false, eq_self, zb_T, zb_F, Bool.false_eq_true, zO_eq, zO_ne1, zO_ne2, zO_nn, zi_ne1, zi_ne2, zi_lt1, zi_le1, zi_lt2, zi_le2, Int32.reduceLT, Int32.reduceLE, Nat.reduceLT, Nat.reduceLeDiff, Int32.reduceMul, Int32.reduceAdd, Int32.reduceSub, not_false_eq_true, not_true_eq_false, R_X2_light, SHF, PF, hn, hlt, e3, e1, z0, z2, hc2, e2, zi_s, z1, z3]
/-- as the fire is lit: the cells of what is in thought -/
def zLt (I : Nat → Nat → Int32) (n : Nat) : Nat → Nat → Int32 := zw (tW (tCp I 38 n) 38 n) 33 (upd (I 33) 5 (nI n))
theorem zLt_o {a : Nat} (h : a < 33 ∨ (33 < a ∧ a < 38) ∨ 50 < a) : zLt I n a = I a := by
  unfold zLt
  rw [zw_n (by omega), tW_o (by omega)]
  simp only [tCp, zw]
  repeat' rw [if_neg (by omega)]
theorem zLt_38 : zLt I n 38 6 = nI n ∧ zLt I n 39 = zfl n (I 2) (I 39) ∧ zLt I n 42 = zfl n (I 5) (I 42) ∧ zLt I n 43 = zfl n (I 6) (I 43) := by
  unfold zLt
  refine ⟨?_, ?_, ?_, ?_⟩ <;> rw [zw_n (by decide), tW_o (by decide)] <;> rfl
theorem c_light (hn : I 1 6 = nI n) (h24 : n ≤ 24) : zWM (d + 3) 16 [.ref 33, .ref 1] (zSH, I, L, zP f g t) Q = Q none (zSH, zw (zw (zLt I n) 34 (zfl n (zf1 (I 2) (I 3)) (I 34))) 35 (zfl n (zlit (I 2) (I 3)) (I 35)), L, zP f g t) := by
  have q := fun Q => c_copy38 (d := d) (f := f) (g := g) (t := t) (I := I) (L := L) (Q := Q) hn h24
  have r33 : tW (tCp I 38 n) 38 n 33 = I 33 := by rw [tW_o (by decide)]; rfl
  have r1 : tW (tCp I 38 n) 38 n 1 6 = nI n := by rw [tW_o (by decide)]; exact hn
  have l := c_light_l (d := d + 2) (f := f) (g := g) (t := t) (L := L) (Q := Q) (J := zLt I n) (n := n) (by unfold zLt; rw [zw_s]; rfl) h24 n 0 (.retAddr 0) (by omega)
  have o2 : zLt I n 2 = I 2 := zLt_o (by omega)
  have o3 : zLt I n 3 = I 3 := zLt_o (by omega)
  have o34 : zLt I n 34 = I 34 := zLt_o (by omega)
  have o35 : zLt I n 35 = I 35 := zLt_o (by omega)
  rw [zfl_0, zfl_0, zw_id, zw_same rfl, o2, o3, o34, o35] at l
  simp (disch := first | assumption | rfl | omega | decide | exact zb_01 _) only [zabs_e, zmax_e, zmin_e, zrf_s, zpush_s, zpush_n, zw_app, upd_app, updL_app, Nat.reduceEqDiff, Nat.add_left_cancel_iff, Nat.add_eq_left, Nat.left_eq_add, ↓reduceIte, true_and, and_true, Int32.reduceToNatClampNeg, zin_O, zi_ltO, zi_leO, zi_Olt, zi_Ole, zi_eqO, Nat.not_lt_zero, Nat.zero_le, List.append_nil, zrn_n, zrn_s, List.cons_append, List.nil_append, zlg_lt, zlg_gt, zlg_le, zlg_ge, zlg_eq, Int32.toInt_toInt64, Int64.reduceToInt, zw_zw, zw_sw1, zw_sw2, zw_sw3, zw_sw4, zw_sw5, zw_sw6, zw_sw7, ne_eq, zi_in, zi_cl, zi_le, zi_lt, zi_eq, zi_neg, zi_0le, zb_0, if_true, if_false, eq_self, zb_T, zb_F, Bool.false_eq_true, zO_eq, zO_ne1, zO_ne2, zO_nn, zi_ne1, zi_ne2, zi_lt1, zi_le1, zi_lt2, zi_le2, Int32.reduceLT, Int32.reduceLE, Nat.reduceLT, Nat.reduceLeDiff, Int32.reduceMul, Int32.reduceAdd, Int32.reduceSub, not_false_eq_true, not_true_eq_false, E_X2_light, R_X2_light, SHF, PF, q, r33, r1]
  exact l
/-- behind m minutes -/
def zBv (I J : Nat → Nat → Int32) (n : Nat) (law : zLawT) (wx wy w : Int32) (m : Nat) : Prop :=
  (∀ a, (a < 33 ∨ 50 < a) → a ≠ 63 → a ≠ 67 → J a = I a) ∧ J 33 5 = nI n ∧ J 33 6 = I 33 6 ∧
  (J 33 7, J 33 8, J 33 9, J 33 10) = zbn law n (I 2) (I 3) (I 5) (I 6) wx wy w m ∧
  (∀ k, k < n → J 34 k = zf1 (I 2) (I 3) k) ∧ (∀ k, k < n → J 35 k = zlit (I 2) (I 3) k) ∧ J 37 5 = w ∧ J 38 6 = nI n ∧
  (∀ k, k < n → J 42 k = I 5 k) ∧ (∀ k, k < n → J 43 k = I 6 k) ∧
  (∀ m' k, m' < m → k < n → J 36 (24 * m' + k) = zfu law (I 2) (I 3) w (m' + 1) k)
theorem zBv_s (he : zpr e) {J : Nat → Nat → Int32} {wx wy w : Int32} {N S F : Nat → Int32} (h24 : n ≤ 24) (hN : N 5 = w) (h : zBv I J n law wx wy w m) (f5 : F 5 = nI n) (f6 : F 6 = I 33 6) (hF : (F 7, F 8, F 9, F 10) = zbn law n (I 2) (I 3) (I 5) (I 6) wx wy w (m + 1)) : zBv I (zw (tW (zSM J e m n (zfu law (I 2) (I 3) w (m + 1)) (zcn law (I 2) (I 3) w m) N S) 38 n) 33 F) n law wx wy w (m + 1) := by
  obtain ⟨b1, b2, b3, b4, b5, b6, b7, b8, b9, b10, b11⟩ := h
  have he63 : e + 3 = 63 ∨ e + 3 = 67 := by rcases he with rfl | rfl <;> decide
  refine ⟨fun a h1 h2 h3 => ?_, by rw [zw_s]; exact f5, by rw [zw_s]; exact f6, by rw [zw_s]; exact hF, fun k hk => ?_, fun k hk => ?_, ?_, ?_, fun k hk => ?_, fun k hk => ?_, fun m' k hm hk => ?_⟩
  · rw [zw_n (by omega), tW_o (by omega), zSM_o he (by omega) (by omega) (by omega) h2 h3]
    exact b1 a h1 h2 h3
  · rw [zw_n (by decide), tW_o (by decide), zSM_o he (by decide) (by decide) (by decide) (by decide) (by decide)]
    exact b5 k hk
  · rw [zw_n (by decide), tW_o (by decide), zSM_o he (by decide) (by decide) (by decide) (by decide) (by decide)]
    exact b6 k hk
  · rw [zw_n (by decide), tW_o (by decide), zSM_37 he]
    exact hN
  · rw [zw_n (by decide), tW_o (by decide), zSM_o he (by decide) (by decide) (by decide) (by decide) (by decide)]
    exact b8
  · rw [zw_n (by decide), tW_o (by decide), zSM_o he (by decide) (by decide) (by decide) (by decide) (by decide)]
    exact b9 k hk
  · rw [zw_n (by decide), tW_o (by decide), zSM_o he (by decide) (by decide) (by decide) (by decide) (by decide)]
    exact b10 k hk
  · rw [zw_n (by decide), tW_o (by decide), zSM_36 he]
    by_cases h1 : m' = m
    · subst h1
      exact zlf_at hk
    · rw [zlf_o (by omega)]
      exact b11 m' k (by omega) hk
theorem c_burn_l (he : zpr e) {wx wy w : Int32} (hL : zLc I e law) (h24 : n ≤ 24) : ∀ (c m : Nat) (J : Nat → Nat → Int32), c + m = 61 → zBv I J n law wx wy w m → ∃ J', zBv I J' n law wx wy w 61 ∧ ∀ d l6 l7 Q, zWp (d + 4) zi_14 none 45 [.ref 33, .ref 1, .ref e, .int wx, .int wy, .int (nI m), l6, l7] [] (zSH, J, L, zP f g t) Q = Q none (zSH, J', L, zP f g t) := by
  intro c
  induction c with
  | zero =>
    intro m J hm hb
    have hm : m = 61 := by omega
    subst hm
    refine ⟨J, hb, fun d l6 l7 Q => ?_⟩
    rw [H_X2_burn_45]
    simp (disch := first | assumption | rfl | omega | decide | exact zb_01 _) only [zabs_e, zmax_e, zmin_e, zrf_s, zpush_s, zpush_n, zw_app, upd_app, updL_app, Nat.reduceEqDiff, Nat.add_left_cancel_iff, Nat.add_eq_left, Nat.left_eq_add, ↓reduceIte, true_and, and_true, Int32.reduceToNatClampNeg, zin_O, zi_ltO, zi_leO, zi_Olt, zi_Ole, zi_eqO, Nat.not_lt_zero, Nat.zero_le, List.append_nil, zrn_n, zrn_s, List.cons_append, List.nil_append, zlg_lt, zlg_gt, zlg_le, zlg_ge, zlg_eq, Int32.toInt_toInt64, Int64.reduceToInt, zw_zw, zw_sw1, zw_sw2, zw_sw3, zw_sw4, zw_sw5, zw_sw6, zw_sw7, ne_eq, zi_in, zi_cl, zi_le, zi_lt, zi_eq, zi_neg, zi_0le, zb_0, if_true, if_false, eq_self, zb_T, zb_F, Bool.false_eq_true, zO_eq, zO_ne1, zO_ne2, zO_nn, zi_ne1, zi_ne2, zi_lt1, zi_le1, zi_lt2, zi_le2, Int32.reduceLT, Int32.reduceLE, Nat.reduceLT, Nat.reduceLeDiff, Int32.reduceMul, Int32.reduceAdd, Int32.reduceSub, not_false_eq_true, not_true_eq_false, R_X2_burn, SHF, PF, Nat.le_refl]
  | succ c ih =>
    intro m J hm hb
    have hm6 : m < 61 := by omega
    have hlt : ¬ 61 ≤ m := by omega
    obtain ⟨b1, b2, b3, b4, b5, b6, b7, b8, b9, b10, b11⟩ := id hb
    have J2 : J 2 = I 2 := b1 2 (by omega) (by decide) (by decide)
    have J3 : J 3 = I 3 := b1 3 (by omega) (by decide) (by decide)
    have hLJ : zLc J e law := by rcases he with rfl | rfl <;> exact zLc_o (b1 _ (by decide) (by decide) (by decide)) (b1 _ (by decide) (by decide) (by decide)) (b1 _ (by decide) (by decide) (by decide)) hL
    have hv : zPv J m n (zfu law (J 2) (J 3) w m) := by
      intro k hk
      rw [J2, J3]
      by_cases h0 : m = 0
      · subst h0
        rw [if_pos rfl]
        exact b5 k hk
      · obtain ⟨j, rfl⟩ : ∃ j, m = j + 1 := ⟨m - 1, by omega⟩
        rw [if_neg h0]
        exact b11 j k (by omega) hk
    obtain ⟨N, S, hN, q⟩ := c_smoulder (f := f) (g := g) (t := t) (L := L) he hLJ b2 b8 h24 hm6 (by rw [J2, J3]; exact b5) (by rw [J2, J3]; exact b6) hv b7
    rw [J2, J3] at q
    have hset := tW_set (b := 38) (n := n) (I := zSM J e m n (zfu law (I 2) (I 3) w (m + 1)) (zcn law (I 2) (I 3) w m) N S) (by rw [zSM_o he (by decide) (by decide) (by decide) (by decide) (by decide)]; exact b8) h24
    have r33 : tW (zSM J e m n (zfu law (I 2) (I 3) w (m + 1)) (zcn law (I 2) (I 3) w m) N S) 38 n 33 = J 33 := by rw [tW_o (by decide), zSM_o he (by decide) (by decide) (by decide) (by decide) (by decide)]
    have r39 : ∀ k, k < n → tW (zSM J e m n (zfu law (I 2) (I 3) w (m + 1)) (zcn law (I 2) (I 3) w m) N S) 38 n (38 + 1) k = zcn law (I 2) (I 3) w m k := fun k hk => by rw [tW_o (by decide), zSM_39 he, zfl_lt hk]
    have r42 : ∀ k, k < n → tW (zSM J e m n (zfu law (I 2) (I 3) w (m + 1)) (zcn law (I 2) (I 3) w m) N S) 38 n (38 + 4) k = I 5 k := fun k hk => by rw [tW_o (by decide), zSM_o he (by decide) (by decide) (by decide) (by decide) (by decide)]; exact b9 k hk
    have r43 : ∀ k, k < n → tW (zSM J e m n (zfu law (I 2) (I 3) w (m + 1)) (zcn law (I 2) (I 3) w m) N S) 38 n (38 + 5) k = I 6 k := fun k hk => by rw [tW_o (by decide), zSM_o he (by decide) (by decide) (by decide) (by decide) (by decide)]; exact b10 k hk
    have nx := fun F => zBv_s (F := F) (S := S) he h24 hN hb
    rw [zbn, ← b4] at nx
    generalize tW (zSM J e m n (zfu law (I 2) (I 3) w (m + 1)) (zcn law (I 2) (I 3) w m) N S) 38 n = J1 at *
    have qf := fun d Q => c_fallsAt (d := d) (f := f) (g := g) (t := t) (L := L) (Q := Q) (b := 38) (I := J1) (Or.inr (Or.inr rfl)) hset wx wy
    have ef := zFa_congr (wx := wx) (wy := wy) r39 r42 r43
    rw [ef] at qf
    have qg := fun J2 d Q => c_fallsAt (d := d) (f := f) (g := g) (t := t) (L := L) (Q := Q) (b := 38) (I := zw J1 33 J2) (n := n) (Or.inr (Or.inr rfl)) hset wx wy
    simp only [zw_n (show 38 + 1 ≠ 33 by decide), zw_n (show 38 + 4 ≠ 33 by decide), zw_n (show 38 + 5 ≠ 33 by decide), ef] at qg
    have tb : zTb 38 := Or.inr (Or.inr rfl)
    have key : ∃ F, F 5 = nI n ∧ F 6 = I 33 6 ∧ (F 7, F 8, F 9, F 10) = zbs m (zgn n (zfu law (I 2) (I 3) w (m + 1))) (zFa n (zcn law (I 2) (I 3) w m) (I 5) (I 6) wx wy) (zWh n (zcn law (I 2) (I 3) w m) (I 5) (I 6) wx wy (zFa n (zcn law (I 2) (I 3) w m) (I 5) (I 6) wx wy).toNatClampNeg) (J 33 7, J 33 8, J 33 9, J 33 10) ∧ ∃ z1 z2 : Int32, ∀ d l6 l7 Q, zWp (d + 4) zi_14 none 45 [.ref 33, .ref 1, .ref e, .int wx, .int wy, .int (nI m), l6, l7] [] (zSH, J, L, zP f g t) Q = zWp (d + 4) zi_14 none 45 [.ref 33, .ref 1, .ref e, .int wx, .int wy, .int (nI (m + 1)), .int z1, .int z2] [] (zSH, zw J1 33 F, L, zP f g t) Q := by
      by_cases hg : zgn n (zfu law (I 2) (I 3) w (m + 1)) ∧ J 33 10 = -2
      · by_cases hm2 : J 33 7 = -2
        · rcases zFa_spec (n := n) (p := zcn law (I 2) (I 3) w m) (sx := I 5) (sy := I 6) (wx := wx) (wy := wy) with h | ⟨k, hk, h, _⟩
          · rw [h] at qf qg
            refine ⟨upd (J 33) 10 (nI m), b2, b3, ?_, 1, -2, fun d l6 l7 Q => ?_⟩
            · simp only [zbs, h, eq_true hg.1, hg.2, hm2, upd, Nat.reduceEqDiff, if_true, if_false, ↓reduceIte, not_true_eq_false, and_false, and_self, true_and]
            · rw [H_X2_burn_45]
              simp (disch := first | assumption | rfl | omega | decide | exact zb_01 _) only [zabs_e, zmax_e, zmin_e, zrf_s, zpush_s, zpush_n, zw_app, upd_app, updL_app, Nat.reduceEqDiff, Nat.add_left_cancel_iff, Nat.add_eq_left, Nat.left_eq_add, ↓reduceIte, true_and, and_true, Int32.reduceToNatClampNeg, zin_O, zi_ltO, zi_leO, zi_Olt, zi_Ole, zi_eqO, Nat.not_lt_zero, Nat.zero_le, List.append_nil, zrn_n, zrn_s, List.cons_append, List.nil_append, zlg_lt, zlg_gt, zlg_le, zlg_ge, zlg_eq, Int32.toInt_toInt64, Int64.reduceToInt, zw_zw, zw_sw1, zw_sw2, zw_sw3, zw_sw4, zw_sw5, zw_sw6, zw_sw7, ne_eq, zi_in, zi_cl, zi_le, zi_lt, zi_eq, zi_neg, zi_0le, zb_0, if_true, if_false, eq_self, zb_T, zb_F, Bool.false_eq_true, zO_eq, zO_ne1, zO_ne2, zO_nn, zi_ne1, zi_ne2, zi_lt1, zi_le1, zi_lt2, zi_le2, Int32.reduceLT, Int32.reduceLE, Nat.reduceLT, Nat.reduceLeDiff, Int32.reduceMul, Int32.reduceAdd, Int32.reduceSub, not_false_eq_true, not_true_eq_false, R_X2_burn, SHF, PF, hlt, q, zb_t hg.1, r33, hg.2, hm2, qg, zi_s]
          · rw [h] at qf qg
            have ew := zWh_congr (wx := wx) (wy := wy) r39 r42 r43 hk
            have qw := fun J2 d Q => c_whitherT (d := d) (f := f) (g := g) (t := t) (L := L) (Q := Q) (b := 38) (I := zw J1 33 J2) tb hset k hk wx wy
            simp only [zw_n (show 38 + 1 ≠ 33 by decide), zw_n (show 38 + 4 ≠ 33 by decide), zw_n (show 38 + 5 ≠ 33 by decide), ew] at qw
            refine ⟨upd (upd (upd (upd (J 33) 10 (nI m)) 7 (nI m)) 8 (nI k)) 9 (zWh n (zcn law (I 2) (I 3) w m) (I 5) (I 6) wx wy k), b2, b3, ?_, 1, nI k, fun d l6 l7 Q => ?_⟩
            · simp only [zbs, h, eq_true hg.1, hg.2, hm2, zi_cl (show k < 2147483648 by omega), zi_ne1 (show k < 2147483648 by omega) (show 2 < 2147483648 by decide) (by decide), upd, Nat.reduceEqDiff, if_true, if_false, ↓reduceIte, not_false_eq_true, and_self, true_and]
            · rw [H_X2_burn_45]
              simp (disch := first | assumption | rfl | omega | decide | exact zb_01 _) only [zabs_e, zmax_e, zmin_e, zrf_s, zpush_s, zpush_n, zw_app, upd_app, updL_app, Nat.reduceEqDiff, Nat.add_left_cancel_iff, Nat.add_eq_left, Nat.left_eq_add, ↓reduceIte, true_and, and_true, Int32.reduceToNatClampNeg, zin_O, zi_ltO, zi_leO, zi_Olt, zi_Ole, zi_eqO, Nat.not_lt_zero, Nat.zero_le, List.append_nil, zrn_n, zrn_s, List.cons_append, List.nil_append, zlg_lt, zlg_gt, zlg_le, zlg_ge, zlg_eq, Int32.toInt_toInt64, Int64.reduceToInt, zw_zw, zw_sw1, zw_sw2, zw_sw3, zw_sw4, zw_sw5, zw_sw6, zw_sw7, ne_eq, zi_in, zi_cl, zi_le, zi_lt, zi_eq, zi_neg, zi_0le, zb_0, if_true, if_false, eq_self, zb_T, zb_F, Bool.false_eq_true, zO_eq, zO_ne1, zO_ne2, zO_nn, zi_ne1, zi_ne2, zi_lt1, zi_le1, zi_lt2, zi_le2, Int32.reduceLT, Int32.reduceLE, Nat.reduceLT, Nat.reduceLeDiff, Int32.reduceMul, Int32.reduceAdd, Int32.reduceSub, not_false_eq_true, not_true_eq_false, R_X2_burn, SHF, PF, hlt, q, zb_t hg.1, r33, hg.2, hm2, qg, qw, zi_s]
        · refine ⟨upd (J 33) 10 (nI m), b2, b3, ?_, 1, -2, fun d l6 l7 Q => ?_⟩
          · simp only [zbs, eq_true hg.1, hg.2, hm2, upd, Nat.reduceEqDiff, if_true, if_false, ↓reduceIte, false_and, and_self, true_and]
          · rw [H_X2_burn_45]
            simp (disch := first | assumption | rfl | omega | decide | exact zb_01 _) only [zabs_e, zmax_e, zmin_e, zrf_s, zpush_s, zpush_n, zw_app, upd_app, updL_app, Nat.reduceEqDiff, Nat.add_left_cancel_iff, Nat.add_eq_left, Nat.left_eq_add, ↓reduceIte, true_and, and_true, Int32.reduceToNatClampNeg, zin_O, zi_ltO, zi_leO, zi_Olt, zi_Ole, zi_eqO, Nat.not_lt_zero, Nat.zero_le, List.append_nil, zrn_n, zrn_s, List.cons_append, List.nil_append, zlg_lt, zlg_gt, zlg_le, zlg_ge, zlg_eq, Int32.toInt_toInt64, Int64.reduceToInt, zw_zw, zw_sw1, zw_sw2, zw_sw3, zw_sw4, zw_sw5, zw_sw6, zw_sw7, ne_eq, zi_in, zi_cl, zi_le, zi_lt, zi_eq, zi_neg, zi_0le, zb_0, if_true, if_false, eq_self, zb_T, zb_F, Bool.false_eq_true, zO_eq, zO_ne1, zO_ne2, zO_nn, zi_ne1, zi_ne2, zi_lt1, zi_le1, zi_lt2, zi_le2, Int32.reduceLT, Int32.reduceLE, Nat.reduceLT, Nat.reduceLeDiff, Int32.reduceMul, Int32.reduceAdd, Int32.reduceSub, not_false_eq_true, not_true_eq_false, R_X2_burn, SHF, PF, hlt, q, zb_t hg.1, r33, hg.2, hm2, zi_s]
      · have hgo : ∀ (A B : Prop), (if ¬ zgn n (zfu law (I 2) (I 3) w (m + 1)) then A else if J 33 10 = -2 then B else A) = A := fun A B => by
          by_cases h1 : zgn n (zfu law (I 2) (I 3) w (m + 1))
          · rw [if_neg (not_not_intro h1), if_neg (fun z => hg ⟨h1, z⟩)]
          · rw [if_pos h1]
        by_cases hm2 : J 33 7 = -2
        · rcases zFa_spec (n := n) (p := zcn law (I 2) (I 3) w m) (sx := I 5) (sy := I 6) (wx := wx) (wy := wy) with h | ⟨k, hk, h, _⟩
          · rw [h] at qf qg
            refine ⟨J 33, b2, b3, ?_, zb (zgn n (zfu law (I 2) (I 3) w (m + 1))), -2, fun d l6 l7 Q => ?_⟩
            · simp only [zbs, h, eq_false hg, hm2, if_true, if_false, ↓reduceIte, not_true_eq_false, and_false, and_self, true_and]
            · rw [H_X2_burn_45]
              simp (disch := first | assumption | rfl | omega | decide | exact zb_01 _) only [zabs_e, zmax_e, zmin_e, zrf_s, zpush_s, zpush_n, zw_app, upd_app, updL_app, Nat.reduceEqDiff, Nat.add_left_cancel_iff, Nat.add_eq_left, Nat.left_eq_add, ↓reduceIte, true_and, and_true, Int32.reduceToNatClampNeg, zin_O, zi_ltO, zi_leO, zi_Olt, zi_Ole, zi_eqO, Nat.not_lt_zero, Nat.zero_le, List.append_nil, zrn_n, zrn_s, List.cons_append, List.nil_append, zlg_lt, zlg_gt, zlg_le, zlg_ge, zlg_eq, Int32.toInt_toInt64, Int64.reduceToInt, zw_zw, zw_sw1, zw_sw2, zw_sw3, zw_sw4, zw_sw5, zw_sw6, zw_sw7, ne_eq, zi_in, zi_cl, zi_le, zi_lt, zi_eq, zi_neg, zi_0le, zb_0, if_true, if_false, eq_self, zb_T, zb_F, Bool.false_eq_true, zO_eq, zO_ne1, zO_ne2, zO_nn, zi_ne1, zi_ne2, zi_lt1, zi_le1, zi_lt2, zi_le2, Int32.reduceLT, Int32.reduceLE, Nat.reduceLT, Nat.reduceLeDiff, Int32.reduceMul, Int32.reduceAdd, Int32.reduceSub, not_false_eq_true, not_true_eq_false, R_X2_burn, SHF, PF, hlt, q, r33, hgo, hm2, qf, zi_s]
              rw [zw_same r33]
          · rw [h] at qf qg
            have ew := zWh_congr (wx := wx) (wy := wy) r39 r42 r43 hk
            have qw := fun J2 d Q => c_whitherT (d := d) (f := f) (g := g) (t := t) (L := L) (Q := Q) (b := 38) (I := zw J1 33 J2) tb hset k hk wx wy
            simp only [zw_n (show 38 + 1 ≠ 33 by decide), zw_n (show 38 + 4 ≠ 33 by decide), zw_n (show 38 + 5 ≠ 33 by decide), ew] at qw
            refine ⟨upd (upd (upd (J 33) 7 (nI m)) 8 (nI k)) 9 (zWh n (zcn law (I 2) (I 3) w m) (I 5) (I 6) wx wy k), b2, b3, ?_, zb (zgn n (zfu law (I 2) (I 3) w (m + 1))), nI k, fun d l6 l7 Q => ?_⟩
            · simp only [zbs, h, eq_false hg, hm2, zi_cl (show k < 2147483648 by omega), zi_ne1 (show k < 2147483648 by omega) (show 2 < 2147483648 by decide) (by decide), upd, Nat.reduceEqDiff, if_true, if_false, ↓reduceIte, not_false_eq_true, and_self, true_and]
            · rw [H_X2_burn_45]
              simp (disch := first | assumption | rfl | omega | decide | exact zb_01 _) only [zabs_e, zmax_e, zmin_e, zrf_s, zpush_s, zpush_n, zw_app, upd_app, updL_app, Nat.reduceEqDiff, Nat.add_left_cancel_iff, Nat.add_eq_left, Nat.left_eq_add, ↓reduceIte, true_and, and_true, Int32.reduceToNatClampNeg, zin_O, zi_ltO, zi_leO, zi_Olt, zi_Ole, zi_eqO, Nat.not_lt_zero, Nat.zero_le, List.append_nil, zrn_n, zrn_s, List.cons_append, List.nil_append, zlg_lt, zlg_gt, zlg_le, zlg_ge, zlg_eq, Int32.toInt_toInt64, Int64.reduceToInt, zw_zw, zw_sw1, zw_sw2, zw_sw3, zw_sw4, zw_sw5, zw_sw6, zw_sw7, ne_eq, zi_in, zi_cl, zi_le, zi_lt, zi_eq, zi_neg, zi_0le, zb_0, if_true, if_false, eq_self, zb_T, zb_F, Bool.false_eq_true, zO_eq, zO_ne1, zO_ne2, zO_nn, zi_ne1, zi_ne2, zi_lt1, zi_le1, zi_lt2, zi_le2, Int32.reduceLT, Int32.reduceLE, Nat.reduceLT, Nat.reduceLeDiff, Int32.reduceMul, Int32.reduceAdd, Int32.reduceSub, not_false_eq_true, not_true_eq_false, R_X2_burn, SHF, PF, hlt, q, r33, hgo, hm2, qf, qw, zi_s]
        · refine ⟨J 33, b2, b3, ?_, zb (zgn n (zfu law (I 2) (I 3) w (m + 1))), -2, fun d l6 l7 Q => ?_⟩
          · simp only [zbs, eq_false hg, hm2, if_true, if_false, ↓reduceIte, false_and]
          · rw [H_X2_burn_45]
            simp (disch := first | assumption | rfl | omega | decide | exact zb_01 _) only [zabs_e, zmax_e, zmin_e, zrf_s, zpush_s, zpush_n, zw_app, upd_app, updL_app, Nat.reduceEqDiff, Nat.add_left_cancel_iff, Nat.add_eq_left, Nat.left_eq_add, ↓reduceIte, true_and, and_true, Int32.reduceToNatClampNeg, zin_O, zi_ltO, zi_leO, zi_Olt, zi_Ole, zi_eqO, Nat.not_lt_zero, Nat.zero_le, List.append_nil, zrn_n, zrn_s, List.cons_append, List.nil_append, zlg_lt, zlg_gt, zlg_le, zlg_ge, zlg_eq, Int32.toInt_toInt64, Int64.reduceToInt, zw_zw, zw_sw1, zw_sw2, zw_sw3, zw_sw4, zw_sw5, zw_sw6, zw_sw7, ne_eq, zi_in, zi_cl, zi_le, zi_lt, zi_eq, zi_neg, zi_0le, zb_0, if_true, if_false, eq_self, zb_T, zb_F, Bool.false_eq_true, zO_eq, zO_ne1, zO_ne2, zO_nn, zi_ne1, zi_ne2, zi_lt1, zi_le1, zi_lt2, zi_le2, Int32.reduceLT, Int32.reduceLE, Nat.reduceLT, Nat.reduceLeDiff, Int32.reduceMul, Int32.reduceAdd, Int32.reduceSub, not_false_eq_true, not_true_eq_false, R_X2_burn, SHF, PF, hlt, q, r33, hgo, hm2, zi_s]
            rw [zw_same r33]
    obtain ⟨F, f5, f6, hF, z1, z2, run⟩ := key
    obtain ⟨J', hb', run'⟩ := ih (m + 1) (zw J1 33 F) (by omega) (nx F f5 f6 hF)
    exact ⟨J', hb', fun d l6 l7 Q => by rw [run]; exact run' d _ _ Q⟩
theorem c_burn (he : zpr e) (wx wy : Int32) (hL : zLc I e law) (hn : I 1 6 = nI n) (h24 : n ≤ 24) : ∃ J, zBv I J n law wx wy (zabs wx + zabs wy) 61 ∧ ∀ d Q, zWM (d + 5) 14 [.ref 33, .ref 1, .ref e, .int wx, .int wy] (zSH, I, L, zP f g t) Q = Q none (zSH, J, L, zP f g t) := by
  have r33 : zLt I n 33 = upd (I 33) 5 (nI n) := zw_s
  have r37 : zLt I n 37 = I 37 := zLt_o (by omega)
  obtain ⟨r38, r39, r42, r43⟩ := zLt_38 (I := I) (n := n)
  have ql := fun d Q => c_light (d := d) (f := f) (g := g) (t := t) (I := I) (L := L) (Q := Q) hn h24
  have hb : zBv I (zw (zw (zw (zw (zLt I n) 34 (zfl n (zf1 (I 2) (I 3)) (I 34))) 35 (zfl n (zlit (I 2) (I 3)) (I 35))) 37 (upd (I 37) 5 (zabs wx + zabs wy))) 33 (upd (upd (upd (upd (upd (I 33) 5 (nI n)) 10 (-2)) 9 (-2)) 8 (-2)) 7 (-2))) n law wx wy (zabs wx + zabs wy) 0 := by
    refine ⟨fun a h1 h2 h3 => ?_, rfl, rfl, rfl, fun k hk => ?_, fun k hk => ?_, rfl, ?_, fun k hk => ?_, fun k hk => ?_, fun m' k hm hk => absurd hm (by omega)⟩
    · rw [zw_n (by omega), zw_n (by omega), zw_n (by omega), zw_n (by omega)]
      exact zLt_o (by omega)
    · exact zfl_lt hk
    · exact zfl_lt hk
    · exact r38
    · show zLt I n 42 k = _
      rw [r42, zfl_lt hk]
    · show zLt I n 43 k = _
      rw [r43, zfl_lt hk]
  obtain ⟨J', hb', run⟩ := c_burn_l (f := f) (g := g) (t := t) (L := L) he hL h24 61 0 _ (by omega) hb
  refine ⟨J', hb', fun d Q => ?_⟩
  have run2 := run d (.retAddr 0) (.retAddr 0) Q
  rw [← run2]
  simp (disch := first | assumption | rfl | omega | decide | exact zb_01 _) only [zabs_e, zmax_e, zmin_e, zrf_s, zpush_s, zpush_n, zw_app, upd_app, updL_app, Nat.reduceEqDiff, Nat.add_left_cancel_iff, Nat.add_eq_left, Nat.left_eq_add, ↓reduceIte, true_and, and_true, Int32.reduceToNatClampNeg, zin_O, zi_ltO, zi_leO, zi_Olt, zi_Ole, zi_eqO, Nat.not_lt_zero, Nat.zero_le, List.append_nil, zrn_n, zrn_s, List.cons_append, List.nil_append, zlg_lt, zlg_gt, zlg_le, zlg_ge, zlg_eq, Int32.toInt_toInt64, Int64.reduceToInt, zw_zw, zw_sw1, zw_sw2, zw_sw3, zw_sw4, zw_sw5, zw_sw6, zw_sw7, ne_eq, zi_in, zi_cl, zi_le, zi_lt, zi_eq, zi_neg, zi_0le, zb_0, if_true, if_false, eq_self, zb_T, zb_F, Bool.false_eq_true, zO_eq, zO_ne1, zO_ne2, zO_nn, zi_ne1, zi_ne2, zi_lt1, zi_le1, zi_lt2, zi_le2, Int32.reduceLT, Int32.reduceLE, Nat.reduceLT, Nat.reduceLeDiff, Int32.reduceMul, Int32.reduceAdd, Int32.reduceSub, not_false_eq_true, not_true_eq_false, E_X2_burn, R_X2_burn, SHF, PF, ql, r33, r37]
  rfl
end BURN
