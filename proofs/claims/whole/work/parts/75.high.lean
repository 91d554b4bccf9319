section HIGH
variable {d f g n k a b z bb : Nat} {t : Option Nat} {I J K : Nat → Nat → Int32} {L : Nat → Nat → Int64} {Q : Option Value → zMm → Prop}
def zhS (n : Nat) (p x y : Nat → Int32) (wx wy : Int32) (j : Nat) : Int32 := zFa (n + j) (zfl n p (fun _ => 3)) (zfl n x (fun _ => 0)) (zfl n y (fun _ => 0)) wx wy
def zup (S : Nat → Int32) (lim : Nat) : Nat → Nat → Nat
  | 0, i => i
  | c + 1, i => if lim ≤ i then i else if S (i + 1) = -2 then zup S lim c (i + 1) else i
theorem zhS_c {n : Nat} {p p' x x' y y' : Nat → Int32} {wx wy : Int32} (hp : ∀ j, j < n → p j = p' j) (hx : ∀ j, j < n → x j = x' j) (hy : ∀ j, j < n → y j = y' j) : zhS n p x y wx wy = zhS n p' x' y' wx wy := by
  have up : ∀ {A B : Nat → Int32} {v : Nat → Int32}, (∀ j, j < n → A j = B j) → zfl n A v = zfl n B v := fun h => by
    funext j
    simp only [zfl]
    split
    · exact h j (by assumption)
    · rfl
  funext j
  unfold zhS
  rw [up hp, up hx, up hy]
theorem zhS_0 {n : Nat} {p x y : Nat → Int32} {wx wy : Int32} : zhS n p x y wx wy 0 = zFa n p x y wx wy := zFa_congr (fun _ h => zfl_lt h) (fun _ h => zfl_lt h) (fun _ h => zfl_lt h)
theorem c_high_l (lim : Nat) (hl : lim < 2147483648) : ∀ c i J, c + (n + i) = 24 → zth J I → tSet J 14 (n + i) → (∀ j, j < n + i → J 15 j = zfl n (I 2) (fun _ => 3) j ∧ J 18 j = zfl n (I 5) (fun _ => 0) j ∧ J 19 j = zfl n (I 6) (fun _ => 0) j) → ∃ J', zth J' I ∧ ∀ d Q, zWp (d + 98) zi_93 none 53 [.ref 0, .int (nI lim), .int (nI i)] [] (zSH, J, L, zP f g t) Q = Q (some (.int (nI (zup (zhS n (I 2) (I 5) (I 6) (I 0 14) (I 0 15)) lim c i)))) (zSH, J', L, zP f g t) := by
  intro c
  induction c with
  | zero =>
    intro i J hc hJ hS h3
    refine ⟨J, hJ, fun d Q => ?_⟩
    have h6 := hS.1
    have e : n + i = 24 := by omega
    rw [e] at h6
    rw [H_X9_highest_53]
    by_cases h : lim ≤ i
    · simp (disch := first | assumption | rfl | omega | decide | exact zb_01 _) only [zabs_e, zmax_e, zmin_e, zrf_s, zpush_s, zpush_n, zw_app, upd_app, updL_app, Nat.reduceEqDiff, Nat.add_left_cancel_iff, Nat.add_eq_left, Nat.left_eq_add, ↓reduceIte, true_and, and_true, Int32.reduceToNatClampNeg, zin_O, zi_ltO, zi_leO, zi_Olt, zi_Ole, zi_eqO, Nat.not_lt_zero, Nat.zero_le, List.append_nil, zrn_n, zrn_s, List.cons_append, List.nil_append, zlg_lt, zlg_gt, zlg_le, zlg_ge, zlg_eq, Int32.toInt_toInt64, Int64.reduceToInt, zw_zw, zw_sw1, zw_sw2, zw_sw3, zw_sw4, zw_sw5, zw_sw6, zw_sw7, ne_eq, zi_in, zi_cl, zi_le, zi_lt, zi_eq, zi_neg, zi_0le, zb_0, if_true, if_false, eq_self, zb_T, zb_F, Bool.false_eq_true, zO_eq, zO_ne1, zO_ne2, zO_nn, zi_ne1, zi_ne2, zi_lt1, zi_le1, zi_lt2, zi_le2, Int32.reduceLT, Int32.reduceLE, Nat.reduceLT, Nat.reduceLeDiff, Int32.reduceMul, Int32.reduceAdd, Int32.reduceSub, not_false_eq_true, not_true_eq_false, Int32.reduceToInt, Int.reduceLE, Int.reduceLT, Int.reduceNeg, ite_self, R_X9_highest, SHF, PF, h, zup]
    · have h' : i < lim := by omega
      simp (disch := first | assumption | rfl | omega | decide | exact zb_01 _) only [zabs_e, zmax_e, zmin_e, zrf_s, zpush_s, zpush_n, zw_app, upd_app, updL_app, Nat.reduceEqDiff, Nat.add_left_cancel_iff, Nat.add_eq_left, Nat.left_eq_add, ↓reduceIte, true_and, and_true, Int32.reduceToNatClampNeg, zin_O, zi_ltO, zi_leO, zi_Olt, zi_Ole, zi_eqO, Nat.not_lt_zero, Nat.zero_le, List.append_nil, zrn_n, zrn_s, List.cons_append, List.nil_append, zlg_lt, zlg_gt, zlg_le, zlg_ge, zlg_eq, Int32.toInt_toInt64, Int64.reduceToInt, zw_zw, zw_sw1, zw_sw2, zw_sw3, zw_sw4, zw_sw5, zw_sw6, zw_sw7, ne_eq, zi_in, zi_cl, zi_le, zi_lt, zi_eq, zi_neg, zi_0le, zb_0, if_true, if_false, eq_self, zb_T, zb_F, Bool.false_eq_true, zO_eq, zO_ne1, zO_ne2, zO_nn, zi_ne1, zi_ne2, zi_lt1, zi_le1, zi_lt2, zi_le2, Int32.reduceLT, Int32.reduceLE, Nat.reduceLT, Nat.reduceLeDiff, Int32.reduceMul, Int32.reduceAdd, Int32.reduceSub, not_false_eq_true, not_true_eq_false, Int32.reduceToInt, Int.reduceLE, Int.reduceLT, Int.reduceNeg, ite_self, R_X9_highest, SHF, PF, h, h', h6, zup]
  | succ c ih =>
    intro i J hc hJ hS h3
    by_cases h : lim ≤ i
    · refine ⟨J, hJ, fun d Q => ?_⟩
      rw [H_X9_highest_53]
      simp (disch := first | assumption | rfl | omega | decide | exact zb_01 _) only [zabs_e, zmax_e, zmin_e, zrf_s, zpush_s, zpush_n, zw_app, upd_app, updL_app, Nat.reduceEqDiff, Nat.add_left_cancel_iff, Nat.add_eq_left, Nat.left_eq_add, ↓reduceIte, true_and, and_true, Int32.reduceToNatClampNeg, zin_O, zi_ltO, zi_leO, zi_Olt, zi_Ole, zi_eqO, Nat.not_lt_zero, Nat.zero_le, List.append_nil, zrn_n, zrn_s, List.cons_append, List.nil_append, zlg_lt, zlg_gt, zlg_le, zlg_ge, zlg_eq, Int32.toInt_toInt64, Int64.reduceToInt, zw_zw, zw_sw1, zw_sw2, zw_sw3, zw_sw4, zw_sw5, zw_sw6, zw_sw7, ne_eq, zi_in, zi_cl, zi_le, zi_lt, zi_eq, zi_neg, zi_0le, zb_0, if_true, if_false, eq_self, zb_T, zb_F, Bool.false_eq_true, zO_eq, zO_ne1, zO_ne2, zO_nn, zi_ne1, zi_ne2, zi_lt1, zi_le1, zi_lt2, zi_le2, Int32.reduceLT, Int32.reduceLE, Nat.reduceLT, Nat.reduceLeDiff, Int32.reduceMul, Int32.reduceAdd, Int32.reduceSub, not_false_eq_true, not_true_eq_false, Int32.reduceToInt, Int.reduceLE, Int.reduceLT, Int.reduceNeg, ite_self, R_X9_highest, SHF, PF, h, zup]
    · have h' : i < lim := by omega
      have h6 := hS.1
      have h24 : n + i < 24 := by omega
      have h24' : ¬ 24 ≤ n + i := by omega
      obtain ⟨K, q1, k1, k2, k3, k4, k5⟩ := th_raise (f := f) (g := g) (t := t) (L := L) (K := J) (n := n + i) h6 h24 3 0 0 0
      have z1 : zth K I := fun a ha => (k1 a ha).trans (hJ a ha)
      have y0 : K 0 = I 0 := z1 0 (by omega)
      have w : ∀ j, j < n + (i + 1) → K 15 j = zfl n (I 2) (fun _ => 3) j ∧ K 18 j = zfl n (I 5) (fun _ => 0) j ∧ K 19 j = zfl n (I 6) (fun _ => 0) j := by
        intro j hj
        rw [k3, k4, k5]
        simp only [upd]
        by_cases e : j = n + i
        · subst e
          rw [if_pos rfl, if_pos rfl, if_pos rfl, zfl_ge (by omega), zfl_ge (by omega), zfl_ge (by omega)]
          exact ⟨rfl, rfl, rfl⟩
        · rw [if_neg e, if_neg e, if_neg e]
          exact h3 j (by omega)
      have q3 : ∀ d Q, zWM (d + 4) 69 [.ref 14, .int (I 0 14), .int (I 0 15)] (zSH, K, L, zP f g t) Q = Q (some (.int (zhS n (I 2) (I 5) (I 6) (I 0 14) (I 0 15) (i + 1)))) (zSH, K, L, zP f g t) := by
        intro d Q
        rw [c_fallsAt (I := K) (Or.inr (Or.inl rfl)) k2, show zFa (n + i + 1) (K (14 + 1)) (K (14 + 4)) (K (14 + 5)) (I 0 14) (I 0 15) = zhS n (I 2) (I 5) (I 6) (I 0 14) (I 0 15) (i + 1) from zFa_congr (fun j hj => (w j hj).1) (fun j hj => (w j hj).2.1) (fun j hj => (w j hj).2.2)]
      obtain ⟨J', z2, q2⟩ := ih (i + 1) K (by omega) z1 k2 w
      by_cases h5 : zhS n (I 2) (I 5) (I 6) (I 0 14) (I 0 15) (i + 1) = -2
      · refine ⟨J', z2, fun d Q => ?_⟩
        rw [H_X9_highest_53, show zup (zhS n (I 2) (I 5) (I 6) (I 0 14) (I 0 15)) lim (c + 1) i = _ from (if_neg h).trans (if_pos h5), ← q2 d Q]
        simp (disch := first | assumption | rfl | omega | decide | exact zb_01 _) only [zabs_e, zmax_e, zmin_e, zrf_s, zpush_s, zpush_n, zw_app, upd_app, updL_app, Nat.reduceEqDiff, Nat.add_left_cancel_iff, Nat.add_eq_left, Nat.left_eq_add, ↓reduceIte, true_and, and_true, Int32.reduceToNatClampNeg, zin_O, zi_ltO, zi_leO, zi_Olt, zi_Ole, zi_eqO, Nat.not_lt_zero, Nat.zero_le, List.append_nil, zrn_n, zrn_s, List.cons_append, List.nil_append, zlg_lt, zlg_gt, zlg_le, zlg_ge, zlg_eq, Int32.toInt_toInt64, Int64.reduceToInt, zw_zw, zw_sw1, zw_sw2, zw_sw3, zw_sw4, zw_sw5, zw_sw6, zw_sw7, ne_eq, zi_in, zi_cl, zi_le, zi_lt, zi_eq, zi_neg, zi_0le, zb_0, if_true, if_false, eq_self, zb_T, zb_F, Bool.false_eq_true, zO_eq, zO_ne1, zO_ne2, zO_nn, zi_ne1, zi_ne2, zi_lt1, zi_le1, zi_lt2, zi_le2, Int32.reduceLT, Int32.reduceLE, Nat.reduceLT, Nat.reduceLeDiff, Int32.reduceMul, Int32.reduceAdd, Int32.reduceSub, not_false_eq_true, not_true_eq_false, Int32.reduceToInt, Int.reduceLE, Int.reduceLT, Int.reduceNeg, ite_self, R_X9_highest, SHF, PF, h, h', h6, h24, h24', q1, q3, y0, h5, zi_s]
      · refine ⟨K, z1, fun d Q => ?_⟩
        rw [H_X9_highest_53, show zup (zhS n (I 2) (I 5) (I 6) (I 0 14) (I 0 15)) lim (c + 1) i = _ from (if_neg h).trans (if_neg h5)]
        simp (disch := first | assumption | rfl | omega | decide | exact zb_01 _) only [zabs_e, zmax_e, zmin_e, zrf_s, zpush_s, zpush_n, zw_app, upd_app, updL_app, Nat.reduceEqDiff, Nat.add_left_cancel_iff, Nat.add_eq_left, Nat.left_eq_add, ↓reduceIte, true_and, and_true, Int32.reduceToNatClampNeg, zin_O, zi_ltO, zi_leO, zi_Olt, zi_Ole, zi_eqO, Nat.not_lt_zero, Nat.zero_le, List.append_nil, zrn_n, zrn_s, List.cons_append, List.nil_append, zlg_lt, zlg_gt, zlg_le, zlg_ge, zlg_eq, Int32.toInt_toInt64, Int64.reduceToInt, zw_zw, zw_sw1, zw_sw2, zw_sw3, zw_sw4, zw_sw5, zw_sw6, zw_sw7, ne_eq, zi_in, zi_cl, zi_le, zi_lt, zi_eq, zi_neg, zi_0le, zb_0, if_true, if_false, eq_self, zb_T, zb_F, Bool.false_eq_true, zO_eq, zO_ne1, zO_ne2, zO_nn, zi_ne1, zi_ne2, zi_lt1, zi_le1, zi_lt2, zi_le2, Int32.reduceLT, Int32.reduceLE, Nat.reduceLT, Nat.reduceLeDiff, Int32.reduceMul, Int32.reduceAdd, Int32.reduceSub, not_false_eq_true, not_true_eq_false, Int32.reduceToInt, Int.reduceLE, Int.reduceLT, Int.reduceNeg, ite_self, R_X9_highest, SHF, PF, h, h', h6, h24, h24', q1, q3, y0, h5, zi_s]
def zhF (I : Nat → Nat → Int32) (n i : Nat) (F H : Nat → Int32) : Prop := (∀ k, ¬ (n ≤ k ∧ k < n + i) → ¬ (24 + n ≤ k ∧ k < 24 + (n + i)) → F k = I 81 k) ∧ ∀ j, j < i → F (n + j) = 0 ∧ F (24 + (n + j)) = 0
def zhH (I : Nat → Nat → Int32) (n i : Nat) (H : Nat → Int32) : Prop := ∀ j, j < i → H (2 * (n + j)) = I 81 (n + j) ∧ H (2 * (n + j) + 1) = I 81 (24 + (n + j))
theorem m_high_r (hn : I 80 6 = nI n) (C H : Nat → Int32) (l2 l4 cnt : Int32) : ∀ i F, n + i ≤ 24 → zhH I n i H → (∀ k, ¬ (n ≤ k ∧ k < n + i) → ¬ (24 + n ≤ k ∧ k < 24 + (n + i)) → F k = I 81 k) → ∀ d Q (l5 l6 : Value), zWp (d + 98) zi_168 none 183 [.ref 80, .int (nI n), .int l2, .int cnt, .int l4, l5, l6] [] (zSH, zw (zw (zw (zw I 91 C) 92 H) 81 F) 80 (upd (I 80) 6 (nI (n + i))), L, zP f g t) Q = Q (some (.int cnt)) (zSH, zw (zw I 91 C) 92 H, L, zP f g t) := by
  intro i
  induction i with
  | zero =>
    intro F h24 hH hF d Q l5 l6
    have e80 : upd (I 80) 6 (nI (n + 0)) = I 80 := by
      rw [Nat.add_zero, ← hn]
      funext x
      simp only [upd]
      split
      · subst_vars; rfl
      · rfl
    have e81 : F = I 81 := funext fun x => hF x (by omega) (by omega)
    rw [e80, e81, zw_same (f := zw (zw I 91 C) 92 H) (a := 81) rfl, zw_same (f := zw (zw I 91 C) 92 H) (a := 80) rfl, H_X10_highest_183]
    simp (disch := first | assumption | rfl | omega | decide | exact zb_01 _) only [zabs_e, zmax_e, zmin_e, zrf_s, zpush_s, zpush_n, zw_app, upd_app, updL_app, Nat.reduceEqDiff, Nat.add_left_cancel_iff, Nat.add_eq_left, Nat.left_eq_add, ↓reduceIte, true_and, and_true, Int32.reduceToNatClampNeg, zin_O, zi_ltO, zi_leO, zi_Olt, zi_Ole, zi_eqO, Nat.not_lt_zero, Nat.zero_le, List.append_nil, zrn_n, zrn_s, List.cons_append, List.nil_append, zlg_lt, zlg_gt, zlg_le, zlg_ge, zlg_eq, Int32.toInt_toInt64, Int64.reduceToInt, zw_zw, zw_sw1, zw_sw2, zw_sw3, zw_sw4, zw_sw5, zw_sw6, zw_sw7, ne_eq, zi_in, zi_cl, zi_le, zi_lt, zi_eq, zi_neg, zi_0le, zb_0, if_true, if_false, eq_self, zb_T, zb_F, Bool.false_eq_true, zO_eq, zO_ne1, zO_ne2, zO_nn, zi_ne1, zi_ne2, zi_lt1, zi_le1, zi_lt2, zi_le2, Int32.reduceLT, Int32.reduceLE, Nat.reduceLT, Nat.reduceLeDiff, Int32.reduceMul, Int32.reduceAdd, Int32.reduceSub, not_false_eq_true, not_true_eq_false, Int32.reduceToInt, Int.reduceLE, Int.reduceLT, Int.reduceNeg, ite_self, R_X10_highest, SHF, PF, hn, Nat.le_refl]
  | succ i ih =>
    intro F h24 hH hF d Q l5 l6
    have h1 : ¬ n + (i + 1) ≤ n := by omega
    have h2 : n < n + (i + 1) := by omega
    have h3 : n + i < 84 := by omega
    have h4 : 24 + (n + i) < 84 := by omega
    have h5 : 2 * (n + i) < 48 := by omega
    have h6 : 2 * (n + i) + 1 < 48 := by omega
    have e2 : 2 * nI (n + i) = nI (2 * (n + i)) := by
      unfold nI
      rw [Int32.ofNat_mul]
      rfl
    have ep : nI (n + (i + 1)) - 1 = nI (n + i) := nI_pred (n + i)
    have e := ih (upd (upd F (n + i) (H (2 * (n + i)))) (24 + (n + i)) (H (2 * (n + i) + 1))) (by omega) (fun j hj => hH j (by omega)) (fun k k1 k2 => by
      obtain ⟨e3, e4⟩ := hH i (by omega)
      simp only [upd]
      by_cases y : k = 24 + (n + i)
      · rw [if_pos y, e4, y]
      · rw [if_neg y]
        by_cases y2 : k = n + i
        · rw [if_pos y2, e3, y2]
        · rw [if_neg y2]
          exact hF k (by omega) (by omega)) d Q l5 l6
    rw [← e, H_X10_highest_183]
    simp (disch := first | assumption | rfl | omega | decide | exact zb_01 _) only [zabs_e, zmax_e, zmin_e, zrf_s, zpush_s, zpush_n, zw_app, upd_app, updL_app, Nat.reduceEqDiff, Nat.add_left_cancel_iff, Nat.add_eq_left, Nat.left_eq_add, ↓reduceIte, true_and, and_true, Int32.reduceToNatClampNeg, zin_O, zi_ltO, zi_leO, zi_Olt, zi_Ole, zi_eqO, Nat.not_lt_zero, Nat.zero_le, List.append_nil, zrn_n, zrn_s, List.cons_append, List.nil_append, zlg_lt, zlg_gt, zlg_le, zlg_ge, zlg_eq, Int32.toInt_toInt64, Int64.reduceToInt, zw_zw, zw_sw1, zw_sw2, zw_sw3, zw_sw4, zw_sw5, zw_sw6, zw_sw7, ne_eq, zi_in, zi_cl, zi_le, zi_lt, zi_eq, zi_neg, zi_0le, zb_0, if_true, if_false, eq_self, zb_T, zb_F, Bool.false_eq_true, zO_eq, zO_ne1, zO_ne2, zO_nn, zi_ne1, zi_ne2, zi_lt1, zi_le1, zi_lt2, zi_le2, Int32.reduceLT, Int32.reduceLE, Nat.reduceLT, Nat.reduceLeDiff, Int32.reduceMul, Int32.reduceAdd, Int32.reduceSub, not_false_eq_true, not_true_eq_false, Int32.reduceToInt, Int.reduceLE, Int.reduceLT, Int.reduceNeg, ite_self, R_X10_highest, SHF, PF, hn, h1, h2, h3, h4, h5, h6, ep, e2, zi_a24, zi_s, upd_upd]
end HIGH
