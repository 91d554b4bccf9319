theorem zRs_nat {x : Int32} (h : 0 ≤ x.toInt ∧ x.toInt ≤ 99) : ∃ A : Nat, x = nI A ∧ A ≤ 99 := by
  have t1 : (99 : Int32).toInt = 99 := by decide
  have t0 : (0 : Int32).toInt = 0 := by decide
  obtain ⟨j, hj, e⟩ := nI_of2 (x := x) (M := 99) (n := 99) (by decide) (fun z => by have := Int32.lt_iff_toInt_lt.mp z; omega) (Int32.le_iff_toInt_le.mpr (by omega))
  exact ⟨j, e, by omega⟩
section HIGH
variable {d f g n k a b z bb : Nat} {t : Option Nat} {I J K : Nat → Nat → Int32} {L : Nat → Nat → Int64} {Q : Option Value → zMm → Prop}
def zhS (n : Nat) (p x y : Nat → Int32) (wx wy : Int32) (j : Nat) : Int32 := zFa (n + j) (zfl n p (fun _ => 3)) (zfl n x (fun _ => 0)) (zfl n y (fun _ => 0)) wx wy
def zupp (S : Nat → Int32) (lim : Nat) : Nat → Nat → Nat
  | 0, i => i
  | c + 1, i => if lim ≤ i then i else if S (i + 1) = -2 then zupp S lim c (i + 1) else i
theorem zhS_c {n : Nat} {p p' x x' y y' : Nat → Int32} {wx wy : Int32} (hp : ∀ j, j < n → p j = p' j) (hx : ∀ j, j < n → x j = x' j) (hy : ∀ j, j < n → y j = y' j) : zhS n p x y wx wy = zhS n p' x' y' wx wy := by
  have up : ∀ {A B : Nat → Int32} {v : Nat → Int32}, (∀ j, j < n → A j = B j) → zfl n A v = zfl n B v := fun h => by
    funext j
    simp only [zfl]
    split
    · exact h j (by assumption)
    · rfl
  funext j
  unfold zhS
  rw [up hp, up hx, up hy]
theorem zhS_0 {n : Nat} {p x y : Nat → Int32} {wx wy : Int32} : zhS n p x y wx wy 0 = zFa n p x y wx wy := zFa_congr (fun _ h => zfl_lt h) (fun _ h => zfl_lt h) (fun _ h => zfl_lt h)
theorem c_high_l (lim : Nat) (hl : lim < 2147483648) : ∀ c i J, c + (n + i) = 24 → zth J I → tSet J 14 (n + i) → (∀ j, j < n + i → J 15 j = zfl n (I 2) (fun _ => 3) j ∧ J 18 j = zfl n (I 5) (fun _ => 0) j ∧ J 19 j = zfl n (I 6) (fun _ => 0) j) → ∃ J', zth J' I ∧ ∀ d Q, zWp (d + 98) zi_93 none 53 [.ref 0, .int (nI lim), .int (nI i)] [] (zSH, J, L, zP f g t) Q = Q (some (.int (nI (zupp (zhS n (I 2) (I 5) (I 6) (I 0 14) (I 0 15)) lim c i)))) (zSH, J', L, zP f g t) := by
  intro c
  induction c with
  | zero =>
    intro i J hc hJ hS h3
    refine ⟨J, hJ, fun d Q => ?_⟩
    have h6 := hS.1
    have e : n + i = 24 := by omega
    rw [e] at h6
    rw [H_X9_highest_53]
    by_cases h : lim ≤ i
    · simp (disch := first | assumption | rfl | omega | decide | exact zb_01 _) only [zabs_e, zmax_e, zmin_e, zrf_s, zpush_s, zpush_n, zw_app, upd_app, updL_app, Nat.reduceEqDiff, Nat.add_left_cancel_iff, Nat.add_eq_left, Nat.left_eq_add, ↓reduceIte, true_and, and_true, Int32.reduceToNatClampNeg, zin_O, zi_ltO, zi_leO, zi_Olt, zi_Ole, zi_eqO, Nat.not_lt_zero, Nat.zero_le, List.append_nil, zrn_n, zrn_s, List.cons_append, List.nil_append, zlg_lt, zlg_gt, zlg_le, zlg_ge, zlg_eq, Int32.toInt_toInt64, Int64.reduceToInt, zw_zw, zw_sw1, zw_sw2, zw_sw3, zw_sw4, zw_sw5, zw_sw6, zw_sw7, ne_eq, zi_in, zi_cl, zi_le, zi_lt, zi_eq, zi_neg, zi_0le, zb_0, if_true, if_false, eq_self, zb_T, zb_F, Bool.false_eq_true, zO_eq, zO_ne1, zO_ne2, zO_nn, zi_ne1, zi_ne2, zi_lt1, zi_le1, zi_lt2, zi_le2, Int32.reduceLT, Int32.reduceLE, Nat.reduceLT, Nat.reduceLeDiff, Int32.reduceMul, Int32.reduceAdd, Int32.reduceSub, not_false_eq_true, not_true_eq_false, Int32.reduceToInt, Int.reduceLE, Int.reduceLT, Int.reduceNeg, ite_self, R_X9_highest, SHF, PF, h, zupp]
    · have h' : i < lim := by omega
      simp (disch := first | assumption | rfl | omega | decide | exact zb_01 _) only [zabs_e, zmax_e, zmin_e, zrf_s, zpush_s, zpush_n, zw_app, upd_app, updL_app, Nat.reduceEqDiff, Nat.add_left_cancel_iff, Nat.add_eq_left, Nat.left_eq_add, ↓reduceIte, true_and, and_true, Int32.reduceToNatClampNeg, zin_O, zi_ltO, zi_leO, zi_Olt, zi_Ole, zi_eqO, Nat.not_lt_zero, Nat.zero_le, List.append_nil, zrn_n, zrn_s, List.cons_append, List.nil_append, zlg_lt, zlg_gt, zlg_le, zlg_ge, zlg_eq, Int32.toInt_toInt64, Int64.reduceToInt, zw_zw, zw_sw1, zw_sw2, zw_sw3, zw_sw4, zw_sw5, zw_sw6, zw_sw7, ne_eq, zi_in, zi_cl, zi_le, zi_lt, zi_eq, zi_neg, zi_0le, zb_0, if_true, if_false, eq_self, zb_T, zb_F, Bool.false_eq_true, zO_eq, zO_ne1, zO_ne2, zO_nn, zi_ne1, zi_ne2, zi_lt1, zi_le1, zi_lt2, zi_le2, Int32.reduceLT, Int32.reduceLE, Nat.reduceLT, Nat.reduceLeDiff, Int32.reduceMul, Int32.reduceAdd, Int32.reduceSub, not_false_eq_true, not_true_eq_false, Int32.reduceToInt, Int.reduceLE, Int.reduceLT, Int.reduceNeg, ite_self, R_X9_highest, SHF, PF, h, h', h6, zupp]
  | succ c ih =>
    intro i J hc hJ hS h3
    by_cases h : lim ≤ i
    · refine ⟨J, hJ, fun d Q => ?_⟩
      rw [H_X9_highest_53]
      simp (disch := first | assumption | rfl | omega | decide | exact zb_01 _) only [zabs_e, zmax_e, zmin_e, zrf_s, zpush_s, zpush_n, zw_app, upd_app, updL_app, Nat.reduceEqDiff, Nat.add_left_cancel_iff, Nat.add_eq_left, Nat.left_eq_add, ↓reduceIte, true_and, and_true, Int32.reduceToNatClampNeg, zin_O, zi_ltO, zi_leO, zi_Olt, zi_Ole, zi_eqO, Nat.not_lt_zero, Nat.zero_le, List.append_nil, zrn_n, zrn_s, List.cons_append, List.nil_append, zlg_lt, zlg_gt, zlg_le, zlg_ge, zlg_eq, Int32.toInt_toInt64, Int64.reduceToInt, zw_zw, zw_sw1, zw_sw2, zw_sw3, zw_sw4, zw_sw5, zw_sw6, zw_sw7, ne_eq, zi_in, zi_cl, zi_le, zi_lt, zi_eq, zi_neg, zi_0le, zb_0, if_true, if_false, eq_self, zb_T, zb_F, Bool.false_eq_true, zO_eq, zO_ne1, zO_ne2, zO_nn, zi_ne1, zi_ne2, zi_lt1, zi_le1, zi_lt2, zi_le2, Int32.reduceLT, Int32.reduceLE, Nat.reduceLT, Nat.reduceLeDiff, Int32.reduceMul, Int32.reduceAdd, Int32.reduceSub, not_false_eq_true, not_true_eq_false, Int32.reduceToInt, Int.reduceLE, Int.reduceLT, Int.reduceNeg, ite_self, R_X9_highest, SHF, PF, h, zupp]
    · have h' : i < lim := by omega
      have h6 := hS.1
      have h24 : n + i < 24 := by omega
      have h24' : ¬ 24 ≤ n + i := by omega
      obtain ⟨K, q1, k1, k2, k3, k4, k5⟩ := th_raise (f := f) (g := g) (t := t) (L := L) (K := J) (n := n + i) h6 h24 3 0 0 0
      have z1 : zth K I := fun a ha => (k1 a ha).trans (hJ a ha)
      have y0 : K 0 = I 0 := z1 0 (by omega)
      have w : ∀ j, j < n + (i + 1) → K 15 j = zfl n (I 2) (fun _ => 3) j ∧ K 18 j = zfl n (I 5) (fun _ => 0) j ∧ K 19 j = zfl n (I 6) (fun _ => 0) j := by
        intro j hj
        rw [k3, k4, k5]
        simp only [upd]
        by_cases e : j = n + i
        · subst e
          rw [if_pos rfl, if_pos rfl, if_pos rfl, zfl_ge (by omega), zfl_ge (by omega), zfl_ge (by omega)]
          exact ⟨rfl, rfl, rfl⟩
        · rw [if_neg e, if_neg e, if_neg e]
          exact h3 j (by omega)
      have q3 : ∀ d Q, zWM (d + 4) 69 [.ref 14, .int (I 0 14), .int (I 0 15)] (zSH, K, L, zP f g t) Q = Q (some (.int (zhS n (I 2) (I 5) (I 6) (I 0 14) (I 0 15) (i + 1)))) (zSH, K, L, zP f g t) := by
        intro d Q
        rw [c_fallsAt (I := K) (Or.inr (Or.inl rfl)) k2, show zFa (n + i + 1) (K (14 + 1)) (K (14 + 4)) (K (14 + 5)) (I 0 14) (I 0 15) = zhS n (I 2) (I 5) (I 6) (I 0 14) (I 0 15) (i + 1) from zFa_congr (fun j hj => (w j hj).1) (fun j hj => (w j hj).2.1) (fun j hj => (w j hj).2.2)]
      obtain ⟨J', z2, q2⟩ := ih (i + 1) K (by omega) z1 k2 w
      by_cases h5 : zhS n (I 2) (I 5) (I 6) (I 0 14) (I 0 15) (i + 1) = -2
      · refine ⟨J', z2, fun d Q => ?_⟩
        rw [H_X9_highest_53, show zupp (zhS n (I 2) (I 5) (I 6) (I 0 14) (I 0 15)) lim (c + 1) i = _ from (if_neg h).trans (if_pos h5), ← q2 d Q]
        simp (disch := first | assumption | rfl | omega | decide | exact zb_01 _) only [zabs_e, zmax_e, zmin_e, zrf_s, zpush_s, zpush_n, zw_app, upd_app, updL_app, Nat.reduceEqDiff, Nat.add_left_cancel_iff, Nat.add_eq_left, Nat.left_eq_add, ↓reduceIte, true_and, and_true, Int32.reduceToNatClampNeg, zin_O, zi_ltO, zi_leO, zi_Olt, zi_Ole, zi_eqO, Nat.not_lt_zero, Nat.zero_le, List.append_nil, zrn_n, zrn_s, List.cons_append, List.nil_append, zlg_lt, zlg_gt, zlg_le, zlg_ge, zlg_eq, Int32.toInt_toInt64, Int64.reduceToInt, zw_zw, zw_sw1, zw_sw2, zw_sw3, zw_sw4, zw_sw5, zw_sw6, zw_sw7, ne_eq, zi_in, zi_cl, zi_le, zi_lt, zi_eq, zi_neg, zi_0le, zb_0, if_true, if_false, eq_self, zb_T, zb_F, Bool.false_eq_true, zO_eq, zO_ne1, zO_ne2, zO_nn, zi_ne1, zi_ne2, zi_lt1, zi_le1, zi_lt2, zi_le2, Int32.reduceLT, Int32.reduceLE, Nat.reduceLT, Nat.reduceLeDiff, Int32.reduceMul, Int32.reduceAdd, Int32.reduceSub, not_false_eq_true, not_true_eq_false, Int32.reduceToInt, Int.reduceLE, Int.reduceLT, Int.reduceNeg, ite_self, R_X9_highest, SHF, PF, h, h', h6, h24, h24', q1, q3, y0, h5, zi_s]
      · refine ⟨K, z1, fun d Q => ?_⟩
        rw [H_X9_highest_53, show zupp (zhS n (I 2) (I 5) (I 6) (I 0 14) (I 0 15)) lim (c + 1) i = _ from (if_neg h).trans (if_neg h5)]
        simp (disch := first | assumption | rfl | omega | decide | exact zb_01 _) only [zabs_e, zmax_e, zmin_e, zrf_s, zpush_s, zpush_n, zw_app, upd_app, updL_app, Nat.reduceEqDiff, Nat.add_left_cancel_iff, Nat.add_eq_left, Nat.left_eq_add, ↓reduceIte, true_and, and_true, Int32.reduceToNatClampNeg, zin_O, zi_ltO, zi_leO, zi_Olt, zi_Ole, zi_eqO, Nat.not_lt_zero, Nat.zero_le, List.append_nil, zrn_n, zrn_s, List.cons_append, List.nil_append, zlg_lt, zlg_gt, zlg_le, zlg_ge, zlg_eq, Int32.toInt_toInt64, Int64.reduceToInt, zw_zw, zw_sw1, zw_sw2, zw_sw3, zw_sw4, zw_sw5, zw_sw6, zw_sw7, ne_eq, zi_in, zi_cl, zi_le, zi_lt, zi_eq, zi_neg, zi_0le, zb_0, if_true, if_false, eq_self, zb_T, zb_F, Bool.false_eq_true, zO_eq, zO_ne1, zO_ne2, zO_nn, zi_ne1, zi_ne2, zi_lt1, zi_le1, zi_lt2, zi_le2, Int32.reduceLT, Int32.reduceLE, Nat.reduceLT, Nat.reduceLeDiff, Int32.reduceMul, Int32.reduceAdd, Int32.reduceSub, not_false_eq_true, not_true_eq_false, Int32.reduceToInt, Int.reduceLE, Int.reduceLT, Int.reduceNeg, ite_self, R_X9_highest, SHF, PF, h, h', h6, h24, h24', q1, q3, y0, h5, zi_s]
def zhF (I : Nat → Nat → Int32) (n i : Nat) (F H : Nat → Int32) : Prop := (∀ k, ¬ (n ≤ k ∧ k < n + i) → ¬ (24 + n ≤ k ∧ k < 24 + (n + i)) → F k = I 81 k) ∧ ∀ j, j < i → F (n + j) = 0 ∧ F (24 + (n + j)) = 0
def zhH (I : Nat → Nat → Int32) (n i : Nat) (H : Nat → Int32) : Prop := ∀ j, j < i → H (2 * (n + j)) = I 81 (n + j) ∧ H (2 * (n + j) + 1) = I 81 (24 + (n + j))
theorem m_high_r (hn : I 80 6 = nI n) (C H : Nat → Int32) (l2 l4 cnt : Int32) : ∀ i F, n + i ≤ 24 → zhH I n i H → (∀ k, ¬ (n ≤ k ∧ k < n + i) → ¬ (24 + n ≤ k ∧ k < 24 + (n + i)) → F k = I 81 k) → ∀ d Q (l5 l6 : Value), zWp (d + 98) zi_168 none 183 [.ref 80, .int (nI n), .int l2, .int cnt, .int l4, l5, l6] [] (zSH, zw (zw (zw (zw I 91 C) 92 H) 81 F) 80 (upd (I 80) 6 (nI (n + i))), L, zP f g t) Q = Q (some (.int cnt)) (zSH, zw (zw I 91 C) 92 H, L, zP f g t) := by
  intro i
  induction i with
  | zero =>
    intro F h24 hH hF d Q l5 l6
    have e80 : upd (I 80) 6 (nI (n + 0)) = I 80 := by
      rw [Nat.add_zero, ← hn]
      funext x
      simp only [upd]
      split
      · subst_vars; rfl
      · rfl
    have e81 : F = I 81 := funext fun x => hF x (by omega) (by omega)
    rw [e80, e81, zw_same (f := zw (zw I 91 C) 92 H) (a := 81) (g := I 81) rfl, zw_same (f := zw (zw I 91 C) 92 H) (a := 80) (g := I 80) rfl, H_X10_highest_183]
    simp (disch := first | assumption | rfl | omega | decide | exact zb_01 _) only [zabs_e, zmax_e, zmin_e, zrf_s, zpush_s, zpush_n, zw_app, upd_app, updL_app, Nat.reduceEqDiff, Nat.add_left_cancel_iff, Nat.add_eq_left, Nat.left_eq_add, ↓reduceIte, true_and, and_true, Int32.reduceToNatClampNeg, zin_O, zi_ltO, zi_leO, zi_Olt, zi_Ole, zi_eqO, Nat.not_lt_zero, Nat.zero_le, List.append_nil, zrn_n, zrn_s, List.cons_append, List.nil_append, zlg_lt, zlg_gt, zlg_le, zlg_ge, zlg_eq, Int32.toInt_toInt64, Int64.reduceToInt, zw_zw, zw_sw1, zw_sw2, zw_sw3, zw_sw4, zw_sw5, zw_sw6, zw_sw7, ne_eq, zi_in, zi_cl, zi_le, zi_lt, zi_eq, zi_neg, zi_0le, zb_0, if_true, if_false, eq_self, zb_T, zb_F, Bool.false_eq_true, zO_eq, zO_ne1, zO_ne2, zO_nn, zi_ne1, zi_ne2, zi_lt1, zi_le1, zi_lt2, zi_le2, Int32.reduceLT, Int32.reduceLE, Nat.reduceLT, Nat.reduceLeDiff, Int32.reduceMul, Int32.reduceAdd, Int32.reduceSub, not_false_eq_true, not_true_eq_false, Int32.reduceToInt, Int.reduceLE, Int.reduceLT, Int.reduceNeg, ite_self, R_X10_highest, SHF, PF, hn, Nat.le_refl]
  | succ i ih =>
    intro F h24 hH hF d Q l5 l6
    have h1 : ¬ n + (i + 1) ≤ n := by omega
    have h2 : n < n + (i + 1) := by omega
    have h3 : n + i < 84 := by omega
    have h4 : 24 + (n + i) < 84 := by omega
    have h5 : 2 * (n + i) < 48 := by omega
    have h6 : 2 * (n + i) + 1 < 48 := by omega
    have e2 : 2 * nI (n + i) = nI (2 * (n + i)) := by
      unfold nI
      rw [Int32.ofNat_mul]
      rfl
    have ep : nI (n + (i + 1)) - 1 = nI (n + i) := nI_pred (n + i)
    have e := ih (upd (upd F (n + i) (H (2 * (n + i)))) (24 + (n + i)) (H (2 * (n + i) + 1))) (by omega) (fun j hj => hH j (by omega)) (fun k k1 k2 => by
      obtain ⟨e3, e4⟩ := hH i (by omega)
      simp only [upd]
      by_cases y : k = 24 + (n + i)
      · rw [if_pos y, e4, y]
      · rw [if_neg y]
        by_cases y2 : k = n + i
        · rw [if_pos y2, e3, y2]
        · rw [if_neg y2]
          exact hF k (by omega) (by omega)) d Q l5 l6
    rw [← e, H_X10_highest_183]
    simp (disch := first | assumption | rfl | omega | decide | exact zb_01 _) only [zabs_e, zmax_e, zmin_e, zrf_s, zpush_s, zpush_n, zw_app, upd_app, updL_app, Nat.reduceEqDiff, Nat.add_left_cancel_iff, Nat.add_eq_left, Nat.left_eq_add, ↓reduceIte, true_and, and_true, Int32.reduceToNatClampNeg, zin_O, zi_ltO, zi_leO, zi_Olt, zi_Ole, zi_eqO, Nat.not_lt_zero, Nat.zero_le, List.append_nil, zrn_n, zrn_s, List.cons_append, List.nil_append, zlg_lt, zlg_gt, zlg_le, zlg_ge, zlg_eq, Int32.toInt_toInt64, Int64.reduceToInt, zw_zw, zw_sw1, zw_sw2, zw_sw3, zw_sw4, zw_sw5, zw_sw6, zw_sw7, ne_eq, zi_in, zi_cl, zi_le, zi_lt, zi_eq, zi_neg, zi_0le, zb_0, if_true, if_false, eq_self, zb_T, zb_F, Bool.false_eq_true, zO_eq, zO_ne1, zO_ne2, zO_nn, zi_ne1, zi_ne2, zi_lt1, zi_le1, zi_lt2, zi_le2, Int32.reduceLT, Int32.reduceLE, Nat.reduceLT, Nat.reduceLeDiff, Int32.reduceMul, Int32.reduceAdd, Int32.reduceSub, not_false_eq_true, not_true_eq_false, Int32.reduceToInt, Int.reduceLE, Int.reduceLT, Int.reduceNeg, ite_self, R_X10_highest, SHF, PF, hn, h1, h2, h3, h4, h5, h6, ep, e2, zi_a24, zi_s, upd_upd]
theorem m_high_l (hn : I 80 6 = nI n) (lim T : Nat) (hT : T < 1000) (hl : lim = T / 3) : ∀ c i F C H, c + (n + i) = 24 → (∀ j, j < n + i → C j = zfl n (I 85) (fun _ => 3) j) → zhH I n i H → zhF I n i F H → i ≤ lim → ∃ C' H', ∀ d Q (l5 l6 : Value), zWp (d + 98) zi_168 none 35 [.ref 80, .int (nI n), .int (nI (T - 3 * i)), .int (nI i), .int 1, l5, l6] [] (zSH, zw (zw (zw (zw I 91 C) 92 H) 81 F) 80 (upd (I 80) 6 (nI (n + i))), L, zP f g t) Q = Q (some (.int (nI (zupp (zhS n (I 85) (I 81) (mSy I) (I 81 72) (I 81 73)) lim c i)))) (zSH, zw (zw I 91 C') 92 H', L, zP f g t) := by
  intro c
  induction c with
  | zero =>
    intro i F C H hc hC hH hF hi
    refine ⟨C, H, fun d Q l5 l6 => ?_⟩
    have e24 : n + i = 24 := by omega
    have r := m_high_r (f := f) (g := g) (t := t) (L := L) hn C H (nI (T - 3 * i)) 1 (nI i) i F (by omega) hH hF.1 d Q l5 l6
    refine Eq.trans ?_ r
    rw [H_X10_highest_35]
    simp (disch := first | assumption | rfl | omega | decide | exact zb_01 _) only [zabs_e, zmax_e, zmin_e, zrf_s, zpush_s, zpush_n, zw_app, upd_app, updL_app, Nat.reduceEqDiff, Nat.add_left_cancel_iff, Nat.add_eq_left, Nat.left_eq_add, ↓reduceIte, true_and, and_true, Int32.reduceToNatClampNeg, zin_O, zi_ltO, zi_leO, zi_Olt, zi_Ole, zi_eqO, Nat.not_lt_zero, Nat.zero_le, List.append_nil, zrn_n, zrn_s, List.cons_append, List.nil_append, zlg_lt, zlg_gt, zlg_le, zlg_ge, zlg_eq, Int32.toInt_toInt64, Int64.reduceToInt, zw_zw, zw_sw1, zw_sw2, zw_sw3, zw_sw4, zw_sw5, zw_sw6, zw_sw7, ne_eq, zi_in, zi_cl, zi_le, zi_lt, zi_eq, zi_neg, zi_0le, zb_0, if_true, if_false, eq_self, zb_T, zb_F, Bool.false_eq_true, zO_eq, zO_ne1, zO_ne2, zO_nn, zi_ne1, zi_ne2, zi_lt1, zi_le1, zi_lt2, zi_le2, Int32.reduceLT, Int32.reduceLE, Nat.reduceLT, Nat.reduceLeDiff, Int32.reduceMul, Int32.reduceAdd, Int32.reduceSub, not_false_eq_true, not_true_eq_false, Int32.reduceToInt, Int.reduceLE, Int.reduceLT, Int.reduceNeg, ite_self, R_X10_highest, SHF, PF, e24]
  | succ c ih =>
    intro i F C H hc hC hH hF hi
    have b24 : n + i < 24 := by omega
    have b24' : ¬ 24 ≤ n + i := by omega
    by_cases h : lim ≤ i
    · refine ⟨C, H, fun d Q l5 l6 => ?_⟩
      have r := m_high_r (f := f) (g := g) (t := t) (L := L) hn C H (nI (T - 3 * i)) 1 (nI i) i F (by omega) hH hF.1 d Q l5 l6
      rw [show zupp (zhS n (I 85) (I 81) (mSy I) (I 81 72) (I 81 73)) lim (c + 1) i = i from if_pos h]
      refine Eq.trans ?_ r
      have h3 : nI (T - 3 * i) < 3 := nI_lt (a := T - 3 * i) (b := 3) (by omega) (by omega)
      rw [H_X10_highest_35]
      simp (disch := first | assumption | rfl | omega | decide | exact zb_01 _) only [zabs_e, zmax_e, zmin_e, zrf_s, zpush_s, zpush_n, zw_app, upd_app, updL_app, Nat.reduceEqDiff, Nat.add_left_cancel_iff, Nat.add_eq_left, Nat.left_eq_add, ↓reduceIte, true_and, and_true, Int32.reduceToNatClampNeg, zin_O, zi_ltO, zi_leO, zi_Olt, zi_Ole, zi_eqO, Nat.not_lt_zero, Nat.zero_le, List.append_nil, zrn_n, zrn_s, List.cons_append, List.nil_append, zlg_lt, zlg_gt, zlg_le, zlg_ge, zlg_eq, Int32.toInt_toInt64, Int64.reduceToInt, zw_zw, zw_sw1, zw_sw2, zw_sw3, zw_sw4, zw_sw5, zw_sw6, zw_sw7, ne_eq, zi_in, zi_cl, zi_le, zi_lt, zi_eq, zi_neg, zi_0le, zb_0, if_true, if_false, eq_self, zb_T, zb_F, Bool.false_eq_true, zO_eq, zO_ne1, zO_ne2, zO_nn, zi_ne1, zi_ne2, zi_lt1, zi_le1, zi_lt2, zi_le2, Int32.reduceLT, Int32.reduceLE, Nat.reduceLT, Nat.reduceLeDiff, Int32.reduceMul, Int32.reduceAdd, Int32.reduceSub, not_false_eq_true, not_true_eq_false, Int32.reduceToInt, Int.reduceLE, Int.reduceLT, Int.reduceNeg, ite_self, R_X10_highest, SHF, PF, b24, b24', h3]
    · obtain ⟨w, hw⟩ : ∃ w, T - 3 * i = w + 3 := ⟨T - 3 * i - 3, by omega⟩
      have hw2 : T - 3 * (i + 1) = w := by omega
      have h3 : ¬ nI (w + 3) < 3 := Int32.not_lt.mpr (show nI 3 ≤ nI (w + 3) from (zi_le (by omega) (by omega)).mpr (by omega))
      have e3 : nI (w + 3) + -3 = nI w := by
        rw [show nI (w + 3) = nI w + 3 from by unfold nI; rw [Int32.ofNat_add]; rfl]
        grind
      have a3 : n + i < 84 := by omega
      have a4 : 24 + (n + i) < 84 := by omega
      have a5 : 2 * (n + i) < 48 := by omega
      have a6 : 2 * (n + i) + 1 < 48 := by omega
      have e2 : 2 * nI (n + i) = nI (2 * (n + i)) := by
        unfold nI
        rw [Int32.ofNat_mul]
        rfl
      have f1 : F (n + i) = I 81 (n + i) := hF.1 _ (by omega) (by omega)
      have f2 : F (24 + (n + i)) = I 81 (24 + (n + i)) := hF.1 _ (by omega) (by omega)
      have f3 : upd F (n + i) 0 (24 + (n + i)) = I 81 (24 + (n + i)) := by
        simp only [upd]
        rw [if_neg (by omega)]
        exact f2
      have hC2 : ∀ j, j < n + (i + 1) → upd C (n + i) 3 j = zfl n (I 85) (fun _ => 3) j := fun j hj => by
        simp only [upd]
        by_cases e : j = n + i
        · rw [if_pos e, zfl_ge (by omega)]
        · rw [if_neg e]
          exact hC j (by omega)
      have hH2 : zhH I n (i + 1) (upd (upd H (2 * (n + i)) (I 81 (n + i))) (2 * (n + i) + 1) (I 81 (24 + (n + i)))) := fun j hj => by
        simp only [upd]
        by_cases e : j = i
        · subst e
          rw [if_neg (by omega), if_pos rfl, if_pos rfl]
          exact ⟨rfl, rfl⟩
        · rw [if_neg (by omega), if_neg (by omega), if_neg (by omega), if_neg (by omega)]
          exact hH j (by omega)
      have hF2 : zhF I n (i + 1) (upd (upd F (n + i) 0) (24 + (n + i)) 0) (upd (upd H (2 * (n + i)) (I 81 (n + i))) (2 * (n + i) + 1) (I 81 (24 + (n + i)))) := ⟨fun k k1 k2 => by
        simp only [upd]
        rw [if_neg (by omega), if_neg (by omega)]
        exact hF.1 k (by omega) (by omega), fun j hj => by
        simp only [upd]
        by_cases e : j = i
        · subst e
          rw [if_neg (by omega), if_pos rfl, if_pos rfl]
          exact ⟨rfl, rfl⟩
        · rw [if_neg (by omega), if_neg (by omega), if_neg (by omega), if_neg (by omega)]
          exact hF.2 j (by omega)⟩
      have q3 : ∀ d Q, zWM (d + 4) 161 [.ref 80] (zSH, zw (zw (zw (zw I 91 (upd C (n + i) 3)) 92 (upd (upd H (2 * (n + i)) (I 81 (n + i))) (2 * (n + i) + 1) (I 81 (24 + (n + i))))) 81 (upd (upd F (n + i) 0) (24 + (n + i)) 0)) 80 (upd (I 80) 6 (nI (n + (i + 1)))), L, zP f g t) Q = Q (some (.int (zhS n (I 85) (I 81) (mSy I) (I 81 72) (I 81 73) (i + 1)))) (zSH, zw (zw (zw (zw I 91 (upd C (n + i) 3)) 92 (upd (upd H (2 * (n + i)) (I 81 (n + i))) (2 * (n + i) + 1) (I 81 (24 + (n + i))))) 81 (upd (upd F (n + i) 0) (24 + (n + i)) 0)) 80 (upd (I 80) 6 (nI (n + (i + 1)))), L, zP f g t) := by
        intro d Q
        refine (m_fallsAt (I := zw (zw (zw (zw I 91 (upd C (n + i) 3)) 92 (upd (upd H (2 * (n + i)) (I 81 (n + i))) (2 * (n + i) + 1) (I 81 (24 + (n + i))))) 81 (upd (upd F (n + i) 0) (24 + (n + i)) 0)) 80 (upd (I 80) 6 (nI (n + (i + 1))))) (n := n + (i + 1)) rfl (by omega)).trans ?_
        show Q (some (.int (zFa (n + (i + 1)) (upd C (n + i) 3) (upd (upd F (n + i) 0) (24 + (n + i)) 0) (fun j => upd (upd F (n + i) 0) (24 + (n + i)) 0 (24 + j)) (upd (upd F (n + i) 0) (24 + (n + i)) 0 72) (upd (upd F (n + i) 0) (24 + (n + i)) 0 73)))) _ = _
        rw [hF2.1 72 (by omega) (by omega), hF2.1 73 (by omega) (by omega)]
        unfold zhS
        rw [zFa_congr (n := n + (i + 1)) hC2 (sx' := zfl n (I 81) (fun _ => 0)) (sy' := zfl n (mSy I) (fun _ => 0)) (fun j hj => ?_) (fun j hj => ?_)]
        · by_cases e : j < n
          · rw [zfl_lt e]
            exact hF2.1 j (by omega) (by omega)
          · rw [zfl_ge e]
            obtain ⟨m, rfl⟩ : ∃ m, j = n + m := ⟨j - n, by omega⟩
            exact (hF2.2 m (by omega)).1
        · by_cases e : j < n
          · rw [zfl_lt e]
            exact hF2.1 (24 + j) (by omega) (by omega)
          · rw [zfl_ge e]
            obtain ⟨m, rfl⟩ : ∃ m, j = n + m := ⟨j - n, by omega⟩
            exact (hF2.2 m (by omega)).2
      rcases zFa_spec (n := n + (i + 1)) (p := zfl n (I 85) (fun _ => 3)) (sx := zfl n (I 81) (fun _ => 0)) (sy := zfl n (mSy I) (fun _ => 0)) (wx := I 81 72) (wy := I 81 73) with e | ⟨j, hj, e, hno⟩
      · have e : zhS n (I 85) (I 81) (mSy I) (I 81 72) (I 81 73) (i + 1) = -2 := e
        obtain ⟨C', H', q2⟩ := ih (i + 1) _ _ _ (by omega) hC2 hH2 hF2 (by omega)
        refine ⟨C', H', fun d Q l5 l6 => ?_⟩
        rw [show zupp (zhS n (I 85) (I 81) (mSy I) (I 81 72) (I 81 73)) lim (c + 1) i = _ from (if_neg h).trans (if_pos e), ← q2 d Q (.int (I 81 (n + i))) (.int (I 81 (24 + (n + i)))), H_X10_highest_35, hw, hw2]
        rw [e] at q3
        simp (disch := first | assumption | rfl | omega | decide | exact zb_01 _) only [zabs_e, zmax_e, zmin_e, zrf_s, zpush_s, zpush_n, zw_app, upd_app, updL_app, Nat.reduceEqDiff, Nat.add_left_cancel_iff, Nat.add_eq_left, Nat.left_eq_add, ↓reduceIte, true_and, and_true, Int32.reduceToNatClampNeg, zin_O, zi_ltO, zi_leO, zi_Olt, zi_Ole, zi_eqO, Nat.not_lt_zero, Nat.zero_le, List.append_nil, zrn_n, zrn_s, List.cons_append, List.nil_append, zlg_lt, zlg_gt, zlg_le, zlg_ge, zlg_eq, Int32.toInt_toInt64, Int64.reduceToInt, zw_zw, zw_sw1, zw_sw2, zw_sw3, zw_sw4, zw_sw5, zw_sw6, zw_sw7, ne_eq, zi_in, zi_cl, zi_le, zi_lt, zi_eq, zi_neg, zi_0le, zb_0, if_true, if_false, eq_self, zb_T, zb_F, Bool.false_eq_true, zO_eq, zO_ne1, zO_ne2, zO_nn, zi_ne1, zi_ne2, zi_lt1, zi_le1, zi_lt2, zi_le2, Int32.reduceLT, Int32.reduceLE, Nat.reduceLT, Nat.reduceLeDiff, Int32.reduceMul, Int32.reduceAdd, Int32.reduceSub, not_false_eq_true, not_true_eq_false, Int32.reduceToInt, Int.reduceLE, Int.reduceLT, Int.reduceNeg, ite_self, R_X10_highest, SHF, PF, b24, b24', h3, e3, a3, a4, a5, a6, e2, f1, f2, f3, zi_a24, zi_s, upd_upd, Nat.add_assoc, q3]
      · have e : zhS n (I 85) (I 81) (mSy I) (I 81 72) (I 81 73) (i + 1) = nI j := e
        have hj2 : ¬ nI j = -2 := by rw [zi_ne1 (n := j) (m := 2) (by omega) (by omega) (by omega)]; exact not_false
        have r := fun d Q (l5 l6 : Value) => m_high_r (f := f) (g := g) (t := t) (L := L) hn (upd C (n + i) 3) (upd (upd H (2 * (n + i)) (I 81 (n + i))) (2 * (n + i) + 1) (I 81 (24 + (n + i)))) (nI w) 0 (nI i) (i + 1) _ (by omega) hH2 hF2.1 d Q l5 l6
        refine ⟨upd C (n + i) 3, upd (upd H (2 * (n + i)) (I 81 (n + i))) (2 * (n + i) + 1) (I 81 (24 + (n + i))), fun d Q l5 l6 => ?_⟩
        rw [show zupp (zhS n (I 85) (I 81) (mSy I) (I 81 72) (I 81 73)) lim (c + 1) i = i from (if_neg h).trans (if_neg (fun q => hj2 (e.symm.trans q))), ← r d Q (.int (I 81 (n + i))) (.int (I 81 (24 + (n + i)))), H_X10_highest_35, hw]
        rw [e] at q3
        simp (disch := first | assumption | rfl | omega | decide | exact zb_01 _) only [zabs_e, zmax_e, zmin_e, zrf_s, zpush_s, zpush_n, zw_app, upd_app, updL_app, Nat.reduceEqDiff, Nat.add_left_cancel_iff, Nat.add_eq_left, Nat.left_eq_add, ↓reduceIte, true_and, and_true, Int32.reduceToNatClampNeg, zin_O, zi_ltO, zi_leO, zi_Olt, zi_Ole, zi_eqO, Nat.not_lt_zero, Nat.zero_le, List.append_nil, zrn_n, zrn_s, List.cons_append, List.nil_append, zlg_lt, zlg_gt, zlg_le, zlg_ge, zlg_eq, Int32.toInt_toInt64, Int64.reduceToInt, zw_zw, zw_sw1, zw_sw2, zw_sw3, zw_sw4, zw_sw5, zw_sw6, zw_sw7, ne_eq, zi_in, zi_cl, zi_le, zi_lt, zi_eq, zi_neg, zi_0le, zb_0, if_true, if_false, eq_self, zb_T, zb_F, Bool.false_eq_true, zO_eq, zO_ne1, zO_ne2, zO_nn, zi_ne1, zi_ne2, zi_lt1, zi_le1, zi_lt2, zi_le2, Int32.reduceLT, Int32.reduceLE, Nat.reduceLT, Nat.reduceLeDiff, Int32.reduceMul, Int32.reduceAdd, Int32.reduceSub, not_false_eq_true, not_true_eq_false, Int32.reduceToInt, Int.reduceLE, Int.reduceLT, Int.reduceNeg, ite_self, R_X10_highest, SHF, PF, b24, b24', h3, e3, a3, a4, a5, a6, e2, f1, f2, f3, zi_a24, zi_s, upd_upd, Nat.add_assoc, q3, Int32.add_zero]
        rw [H_X10_highest_35]
        simp (disch := first | assumption | rfl | omega | decide | exact zb_01 _) only [zabs_e, zmax_e, zmin_e, zrf_s, zpush_s, zpush_n, zw_app, upd_app, updL_app, Nat.reduceEqDiff, Nat.add_left_cancel_iff, Nat.add_eq_left, Nat.left_eq_add, ↓reduceIte, true_and, and_true, Int32.reduceToNatClampNeg, zin_O, zi_ltO, zi_leO, zi_Olt, zi_Ole, zi_eqO, Nat.not_lt_zero, Nat.zero_le, List.append_nil, zrn_n, zrn_s, List.cons_append, List.nil_append, zlg_lt, zlg_gt, zlg_le, zlg_ge, zlg_eq, Int32.toInt_toInt64, Int64.reduceToInt, zw_zw, zw_sw1, zw_sw2, zw_sw3, zw_sw4, zw_sw5, zw_sw6, zw_sw7, ne_eq, zi_in, zi_cl, zi_le, zi_lt, zi_eq, zi_neg, zi_0le, zb_0, if_true, if_false, eq_self, zb_T, zb_F, Bool.false_eq_true, zO_eq, zO_ne1, zO_ne2, zO_nn, zi_ne1, zi_ne2, zi_lt1, zi_le1, zi_lt2, zi_le2, Int32.reduceLT, Int32.reduceLE, Nat.reduceLT, Nat.reduceLeDiff, Int32.reduceMul, Int32.reduceAdd, Int32.reduceSub, not_false_eq_true, not_true_eq_false, Int32.reduceToInt, Int.reduceLE, Int.reduceLT, Int.reduceNeg, ite_self, R_X10_highest, SHF, PF]
theorem op_highest (hR : zRel I L f g) : zOp 93 168 [] I L f g t := by
  obtain ⟨law, n, k, a, b, z, bb, hfg, ht, hw, hp, hs, hi, hc, hy, hl, hb, hr, hh, hf⟩ := id hR
  have hn := ht.1
  have hn8 := ht.2.1
  have h24 := ht.2.2.1
  obtain ⟨s1, s2, s3, s4, s5, s6, s7⟩ := id hs
  have qc : ∀ d Q, zWM (d + 4) 69 [.ref 1, .int (I 0 14), .int (I 0 15)] (zSH, I, L, zP f g t) Q = Q (some (.int (zFa n (I 2) (I 5) (I 6) (I 0 14) (I 0 15)))) (zSH, I, L, zP f g t) := fun d Q => c_fallsAt (Or.inl rfl) ht.2.2.2.1 _ _
  have ee := zRt_fa ht hw (I 91)
  have n80 : upd (I 80) 6 (nI (n + 0)) = I 80 := by
    rw [Nat.add_zero, ← hn8]
    funext x
    simp only [upd]
    split
    · subst_vars; rfl
    · rfl
  rcases zFa_spec (n := n) (p := zfl n (I 85) (I 91)) (sx := I 81) (sy := mSy I) (wx := I 81 72) (wy := I 81 73) with e | ⟨j, hj, e, hno⟩
  · rw [e] at ee
    rw [← ee] at qc
    obtain ⟨A, hA⟩ := zRs_nat s7.1
    obtain ⟨B, hB⟩ := zRs_nat s7.2.1
    obtain ⟨hA1, hA2⟩ := hA
    obtain ⟨hB1, hB2⟩ := hB
    have eT : nI A + nI B = nI (A + B) := by
      unfold nI
      rw [Int32.ofNat_add]
    have eL : nI (A + B) / 3 = nI ((A + B) / 3) := zdivN (by omega) (by decide)
    obtain ⟨K, q1, k1, k2, k3⟩ := th_copy (f := f) (g := g) (t := t) (L := L) (J := I) hn h24
    obtain ⟨J, hJ, q2⟩ := c_high_l (f := f) (g := g) (t := t) (L := L) (I := I) (n := n) ((A + B) / 3) (by omega) (24 - n) 0 K (by omega) k1 k2 (fun j hj => by
      rw [zfl_lt (by omega), zfl_lt (by omega), zfl_lt (by omega)]
      exact k3 j hj)
    have j80 : J 80 = I 80 := hJ 80 (by omega)
    have j81 : J 81 = I 81 := hJ 81 (by omega)
    have j85 : J 85 = I 85 := hJ 85 (by omega)
    have qk := fun d Q => m_countsAll (d := d) (f := f) (g := g) (t := t) (I := J) (L := L) (Q := Q) (n := n) (by rw [j80]; exact hn8) h24
    have qf : ∀ d Q, zWM (d + 4) 161 [.ref 80] (zSH, zw J 91 (zfl n (J 85) (J 91)), L, zP f g t) Q = Q (some (.int (-2))) (zSH, zw J 91 (zfl n (J 85) (J 91)), L, zP f g t) := by
      intro d Q
      have q := m_fallsAt (d := d) (f := f) (g := g) (t := t) (L := L) (Q := Q) (I := zw J 91 (zfl n (J 85) (J 91))) (n := n) (by rw [zw_n (by decide), j80]; exact hn8) h24
      rw [zw_s, zmS J _ (by decide), zw_n (show 81 ≠ 91 by decide), mSy_c j81, j81, j85, show zFa n (zfl n (I 85) (J 91)) (I 81) (mSy I) (I 81 72) (I 81 73) = -2 from (zRt_fa ht hw (J 91)).trans ee.symm] at q
      rw [j85]
      exact q
    obtain ⟨C, H, q3⟩ := m_high_l (f := f) (g := g) (t := t) (L := L) (I := J) (n := n) (by rw [j80]; exact hn8) ((A + B) / 3) (A + B) (by omega) rfl (24 - n) 0 (J 81) (zfl n (J 85) (J 91)) (J 92) (by omega) (fun j hj => by rw [zfl_lt (by omega), zfl_lt (by omega)]) (fun j hj => absurd hj (by omega)) ⟨fun _ _ _ => rfl, fun j hj => absurd hj (by omega)⟩ (by omega)
    have eS : zhS n (J 85) (J 81) (mSy J) (J 81 72) (J 81 73) = zhS n (I 2) (I 5) (I 6) (I 0 14) (I 0 15) := by
      rw [mSy_c j81, j81, j85, hw.1.1, hw.1.2.1]
      exact zhS_c (fun j hj => (ht.2.2.2.2 j hj).1) (fun j hj => (ht.2.2.2.2 j hj).2.1) (fun j hj => (ht.2.2.2.2 j hj).2.2.1)
    rw [eS, j80, n80, zw_same (f := zw J 91 (zfl n (J 85) (J 91))) (a := 92) (g := J 92) rfl, zw_same (f := zw J 91 (zfl n (J 85) (J 91))) (a := 81) (g := J 81) rfl, zw_same (f := zw J 91 (zfl n (J 85) (J 91))) (a := 80) (g := I 80) j80] at q3
    refine zOp_m (.int (nI (zupp (zhS n (I 2) (I 5) (I 6) (I 0 14) (I 0 15)) ((A + B) / 3) (24 - n) 0))) J (zw (zw J 91 C) 92 H) (fun d Q => ?_) (fun d Q => ?_) (zRel_s (I := I) (fun a ha => (zw_n (fun e => ha (by unfold zsc; omega))).trans ((zw_n (fun e => ha (by unfold zsc; omega))).trans (hJ a (by unfold zsc at ha; omega)))) (fun k _ => by rw [zw_n (by decide), zw_n (by decide), hJ 80 (by omega)]) hR)
    · rw [← q2 (d + 1) Q]
      simp (disch := first | assumption | rfl | omega | decide | exact zb_01 _) only [zabs_e, zmax_e, zmin_e, zrf_s, zpush_s, zpush_n, zw_app, upd_app, updL_app, Nat.reduceEqDiff, Nat.add_left_cancel_iff, Nat.add_eq_left, Nat.left_eq_add, ↓reduceIte, true_and, and_true, Int32.reduceToNatClampNeg, zin_O, zi_ltO, zi_leO, zi_Olt, zi_Ole, zi_eqO, Nat.not_lt_zero, Nat.zero_le, List.append_nil, zrn_n, zrn_s, List.cons_append, List.nil_append, zlg_lt, zlg_gt, zlg_le, zlg_ge, zlg_eq, Int32.toInt_toInt64, Int64.reduceToInt, zw_zw, zw_sw1, zw_sw2, zw_sw3, zw_sw4, zw_sw5, zw_sw6, zw_sw7, ne_eq, zi_in, zi_cl, zi_le, zi_lt, zi_eq, zi_neg, zi_0le, zb_0, if_true, if_false, eq_self, zb_T, zb_F, Bool.false_eq_true, zO_eq, zO_ne1, zO_ne2, zO_nn, zi_ne1, zi_ne2, zi_lt1, zi_le1, zi_lt2, zi_le2, Int32.reduceLT, Int32.reduceLE, Nat.reduceLT, Nat.reduceLeDiff, Int32.reduceMul, Int32.reduceAdd, Int32.reduceSub, not_false_eq_true, not_true_eq_false, Int32.reduceToInt, Int.reduceLE, Int.reduceLT, Int.reduceNeg, ite_self, E_X9_highest, R_X9_highest, SHF, PF, qc, q1, hA1, hB1, eT, eL]
      rfl
    · rw [← q3 (d + 1) Q (.retAddr 0) (.retAddr 0)]
      simp (disch := first | assumption | rfl | omega | decide | exact zb_01 _) only [zabs_e, zmax_e, zmin_e, zrf_s, zpush_s, zpush_n, zw_app, upd_app, updL_app, Nat.reduceEqDiff, Nat.add_left_cancel_iff, Nat.add_eq_left, Nat.left_eq_add, ↓reduceIte, true_and, and_true, Int32.reduceToNatClampNeg, zin_O, zi_ltO, zi_leO, zi_Olt, zi_Ole, zi_eqO, Nat.not_lt_zero, Nat.zero_le, List.append_nil, zrn_n, zrn_s, List.cons_append, List.nil_append, zlg_lt, zlg_gt, zlg_le, zlg_ge, zlg_eq, Int32.toInt_toInt64, Int64.reduceToInt, zw_zw, zw_sw1, zw_sw2, zw_sw3, zw_sw4, zw_sw5, zw_sw6, zw_sw7, ne_eq, zi_in, zi_cl, zi_le, zi_lt, zi_eq, zi_neg, zi_0le, zb_0, if_true, if_false, eq_self, zb_T, zb_F, Bool.false_eq_true, zO_eq, zO_ne1, zO_ne2, zO_nn, zi_ne1, zi_ne2, zi_lt1, zi_le1, zi_lt2, zi_le2, Int32.reduceLT, Int32.reduceLE, Nat.reduceLT, Nat.reduceLeDiff, Int32.reduceMul, Int32.reduceAdd, Int32.reduceSub, not_false_eq_true, not_true_eq_false, Int32.reduceToInt, Int.reduceLE, Int.reduceLT, Int.reduceNeg, ite_self, E_X10_highest, R_X10_highest, SHF, PF, j80, hn8, qk, qf, s1, s2, hA1, hB1, eT]
      rfl
  · rw [e] at ee
    rw [← ee] at qc
    have hj2 : ¬ nI j = -2 := by rw [zi_ne1 (n := j) (m := 2) (by omega) (by omega) (by omega)]; exact not_false
    have qk := fun d Q => m_countsAll (d := d) (f := f) (g := g) (t := t) (I := I) (L := L) (Q := Q) (n := n) hn8 h24
    have qf : ∀ d Q, zWM (d + 4) 161 [.ref 80] (zSH, zw I 91 (zfl n (I 85) (I 91)), L, zP f g t) Q = Q (some (.int (nI j))) (zSH, zw I 91 (zfl n (I 85) (I 91)), L, zP f g t) := fun d Q => by
      rw [← e]
      exact m_fallsAt (I := zw I 91 (zfl n (I 85) (I 91))) hn8 h24
    have r := m_high_r (f := f) (g := g) (t := t) (L := L) hn8 (zfl n (I 85) (I 91)) (I 92) (I 51 0 + I 51 1) 0 0 0 (I 81) (by omega) (fun j hj => absurd hj (by omega)) (fun _ _ _ => rfl)
    rw [n80, zw_same (f := zw I 91 (zfl n (I 85) (I 91))) (a := 92) (g := I 92) rfl, zw_same (f := zw I 91 (zfl n (I 85) (I 91))) (a := 81) (g := I 81) rfl, zw_same (f := zw I 91 (zfl n (I 85) (I 91))) (a := 80) (g := I 80) rfl] at r
    refine zOp_m (.int 0) I (zw I 91 (zfl n (I 85) (I 91))) (fun d Q => ?_) (fun d Q => ?_) (zRel_s (I := I) (fun a ha => zw_n (fun e => ha (by unfold zsc; omega))) (fun _ _ => rfl) hR)
    · simp (disch := first | assumption | rfl | omega | decide | exact zb_01 _) only [zabs_e, zmax_e, zmin_e, zrf_s, zpush_s, zpush_n, zw_app, upd_app, updL_app, Nat.reduceEqDiff, Nat.add_left_cancel_iff, Nat.add_eq_left, Nat.left_eq_add, ↓reduceIte, true_and, and_true, Int32.reduceToNatClampNeg, zin_O, zi_ltO, zi_leO, zi_Olt, zi_Ole, zi_eqO, Nat.not_lt_zero, Nat.zero_le, List.append_nil, zrn_n, zrn_s, List.cons_append, List.nil_append, zlg_lt, zlg_gt, zlg_le, zlg_ge, zlg_eq, Int32.toInt_toInt64, Int64.reduceToInt, zw_zw, zw_sw1, zw_sw2, zw_sw3, zw_sw4, zw_sw5, zw_sw6, zw_sw7, ne_eq, zi_in, zi_cl, zi_le, zi_lt, zi_eq, zi_neg, zi_0le, zb_0, if_true, if_false, eq_self, zb_T, zb_F, Bool.false_eq_true, zO_eq, zO_ne1, zO_ne2, zO_nn, zi_ne1, zi_ne2, zi_lt1, zi_le1, zi_lt2, zi_le2, Int32.reduceLT, Int32.reduceLE, Nat.reduceLT, Nat.reduceLeDiff, Int32.reduceMul, Int32.reduceAdd, Int32.reduceSub, not_false_eq_true, not_true_eq_false, Int32.reduceToInt, Int.reduceLE, Int.reduceLT, Int.reduceNeg, ite_self, E_X9_highest, R_X9_highest, SHF, PF, qc, hj2]
    · rw [← r (d + 1) Q (.retAddr 0) (.retAddr 0)]
      simp (disch := first | assumption | rfl | omega | decide | exact zb_01 _) only [zabs_e, zmax_e, zmin_e, zrf_s, zpush_s, zpush_n, zw_app, upd_app, updL_app, Nat.reduceEqDiff, Nat.add_left_cancel_iff, Nat.add_eq_left, Nat.left_eq_add, ↓reduceIte, true_and, and_true, Int32.reduceToNatClampNeg, zin_O, zi_ltO, zi_leO, zi_Olt, zi_Ole, zi_eqO, Nat.not_lt_zero, Nat.zero_le, List.append_nil, zrn_n, zrn_s, List.cons_append, List.nil_append, zlg_lt, zlg_gt, zlg_le, zlg_ge, zlg_eq, Int32.toInt_toInt64, Int64.reduceToInt, zw_zw, zw_sw1, zw_sw2, zw_sw3, zw_sw4, zw_sw5, zw_sw6, zw_sw7, ne_eq, zi_in, zi_cl, zi_le, zi_lt, zi_eq, zi_neg, zi_0le, zb_0, if_true, if_false, eq_self, zb_T, zb_F, Bool.false_eq_true, zO_eq, zO_ne1, zO_ne2, zO_nn, zi_ne1, zi_ne2, zi_lt1, zi_le1, zi_lt2, zi_le2, Int32.reduceLT, Int32.reduceLE, Nat.reduceLT, Nat.reduceLeDiff, Int32.reduceMul, Int32.reduceAdd, Int32.reduceSub, not_false_eq_true, not_true_eq_false, Int32.reduceToInt, Int.reduceLE, Int.reduceLT, Int.reduceNeg, ite_self, E_X10_highest, R_X10_highest, SHF, PF, hn8, qk, qf, s1, s2]
      rw [H_X10_highest_35]
      simp (disch := first | assumption | rfl | omega | decide | exact zb_01 _) only [zabs_e, zmax_e, zmin_e, zrf_s, zpush_s, zpush_n, zw_app, upd_app, updL_app, Nat.reduceEqDiff, Nat.add_left_cancel_iff, Nat.add_eq_left, Nat.left_eq_add, ↓reduceIte, true_and, and_true, Int32.reduceToNatClampNeg, zin_O, zi_ltO, zi_leO, zi_Olt, zi_Ole, zi_eqO, Nat.not_lt_zero, Nat.zero_le, List.append_nil, zrn_n, zrn_s, List.cons_append, List.nil_append, zlg_lt, zlg_gt, zlg_le, zlg_ge, zlg_eq, Int32.toInt_toInt64, Int64.reduceToInt, zw_zw, zw_sw1, zw_sw2, zw_sw3, zw_sw4, zw_sw5, zw_sw6, zw_sw7, ne_eq, zi_in, zi_cl, zi_le, zi_lt, zi_eq, zi_neg, zi_0le, zb_0, if_true, if_false, eq_self, zb_T, zb_F, Bool.false_eq_true, zO_eq, zO_ne1, zO_ne2, zO_nn, zi_ne1, zi_ne2, zi_lt1, zi_le1, zi_lt2, zi_le2, Int32.reduceLT, Int32.reduceLE, Nat.reduceLT, Nat.reduceLeDiff, Int32.reduceMul, Int32.reduceAdd, Int32.reduceSub, not_false_eq_true, not_true_eq_false, Int32.reduceToInt, Int.reduceLE, Int.reduceLT, Int.reduceNeg, ite_self, R_X10_highest, SHF, PF]
      done
end HIGH
