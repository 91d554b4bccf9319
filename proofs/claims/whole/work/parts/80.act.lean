section ACT
variable {d f g n k a b z bb o : Nat} {t : Option Nat} {y : Int32} {I J : Nat → Nat → Int32} {L : Nat → Nat → Int64} {Q : Option Value → zMm → Prop}
theorem ca_all (ho : o < 8) : ∀ F a k, a < 4 → k < 8 → zCa f g t L o y F a k
  | 0, a, k, _, _ => fun x J r m D Q hg _ _ _ _ _ _ => Bool.noConfusion (show false = true from hg)
  | F + 1, a, k, ha, hk => by
    have ih := ca_all ho F
    match a, ha, k, hk with
    | 0, _, 0, _ => exact ca_0_0 ho ih
    | 0, _, 1, _ => exact ca_0_1 ho ih
    | 0, _, 2, _ => exact ca_0_2 ho ih
    | 0, _, 3, _ => exact ca_0_3 ho ih
    | 0, _, 4, _ => exact ca_0_4 ho ih
    | 0, _, 5, _ => exact ca_0_5 ho ih
    | 0, _, 6, _ => exact ca_0_6 ho ih
    | 0, _, 7, _ => exact ca_0_7 ho ih
    | 1, _, 0, _ => exact ca_1_0 ho ih
    | 1, _, 1, _ => exact ca_1_1 ho ih
    | 1, _, 2, _ => exact ca_1_2 ho ih
    | 1, _, 3, _ => exact ca_1_3 ho ih
    | 1, _, 4, _ => exact ca_1_4 ho ih
    | 1, _, 5, _ => exact ca_1_5 ho ih
    | 1, _, 6, _ => exact ca_1_6 ho ih
    | 1, _, 7, _ => exact ca_1_7 ho ih
    | 2, _, 0, _ => exact ca_2_0 ho ih
    | 2, _, 1, _ => exact ca_2_1 ho ih
    | 2, _, 2, _ => exact ca_2_2 ho ih
    | 2, _, 3, _ => exact ca_2_3 ho ih
    | 2, _, 4, _ => exact ca_2_4 ho ih
    | 2, _, 5, _ => exact ca_2_5 ho ih
    | 2, _, 6, _ => exact ca_2_6 ho ih
    | 2, _, 7, _ => exact ca_2_7 ho ih
    | 3, _, 0, _ => exact ca_3_0 ho ih
    | 3, _, 1, _ => exact ca_3_1 ho ih
    | 3, _, 2, _ => exact ca_3_2 ho ih
    | 3, _, 3, _ => exact ca_3_3 ho ih
    | 3, _, 4, _ => exact ca_3_4 ho ih
    | 3, _, 5, _ => exact ca_3_5 ho ih
    | 3, _, 6, _ => exact ca_3_6 ho ih
    | 3, _, 7, _ => exact ca_3_7 ho ih
    | q + 4, h, _, _ => exact absurd h (by omega)
    | _, _, q + 8, h => exact absurd h (by omega)
theorem ma_all (ho : o < 8) : ∀ F a k, a < 4 → k < 8 → zMa f g t L o y F a k
  | 0, a, k, _, _ => fun x J r D Q hg _ _ _ _ _ => Bool.noConfusion (show false = true from hg)
  | F + 1, a, k, ha, hk => by
    have ih := ma_all ho F
    match a, ha, k, hk with
    | 0, _, 0, _ => exact ma_0_0 ih ho
    | 0, _, 1, _ => exact ma_0_1 ih ho
    | 0, _, 2, _ => exact ma_0_2 ih ho
    | 0, _, 3, _ => exact ma_0_3 ih ho
    | 0, _, 4, _ => exact ma_0_4 ih ho
    | 0, _, 5, _ => exact ma_0_5 ih ho
    | 0, _, 6, _ => exact ma_0_6 ih ho
    | 0, _, 7, _ => exact ma_0_7 ih ho
    | 1, _, 0, _ => exact ma_1_0 ih ho
    | 1, _, 1, _ => exact ma_1_1 ih ho
    | 1, _, 2, _ => exact ma_1_2 ih ho
    | 1, _, 3, _ => exact ma_1_3 ih ho
    | 1, _, 4, _ => exact ma_1_4 ih ho
    | 1, _, 5, _ => exact ma_1_5 ih ho
    | 1, _, 6, _ => exact ma_1_6 ih ho
    | 1, _, 7, _ => exact ma_1_7 ih ho
    | 2, _, 0, _ => exact ma_2_0 ih ho
    | 2, _, 1, _ => exact ma_2_1 ih ho
    | 2, _, 2, _ => exact ma_2_2 ih ho
    | 2, _, 3, _ => exact ma_2_3 ih ho
    | 2, _, 4, _ => exact ma_2_4 ih ho
    | 2, _, 5, _ => exact ma_2_5 ih ho
    | 2, _, 6, _ => exact ma_2_6 ih ho
    | 2, _, 7, _ => exact ma_2_7 ih ho
    | 3, _, 0, _ => exact ma_3_0 ih ho
    | 3, _, 1, _ => exact ma_3_1 ih ho
    | 3, _, 2, _ => exact ma_3_2 ih ho
    | 3, _, 3, _ => exact ma_3_3 ih ho
    | 3, _, 4, _ => exact ma_3_4 ih ho
    | 3, _, 5, _ => exact ma_3_5 ih ho
    | 3, _, 6, _ => exact ma_3_6 ih ho
    | 3, _, 7, _ => exact ma_3_7 ih ho
    | q + 4, h, _, _ => exact absurd h (by omega)
    | _, _, q + 8, h => exact absurd h (by omega)
theorem zgd_ok {o a : Nat} (ho : o < 8) (ha : a < 4) : zgd o 8 a o = true := by
  have h : ∀ o : Fin 8, ∀ a : Fin 4, zgd o.1 8 a.1 o.1 = true := by decide +kernel
  exact h ⟨o, ho⟩ ⟨a, ha⟩
theorem zsp_len {o a : Nat} (ho : o < 8) (ha : a < 4) (x y : Int32) : (zsp o y 8 a o x).1.length ≤ 24 := by
  match a, ha, o, ho with
  | 0, _, 0, _ => exact Nat.le_of_ble_eq_true rfl
  | 0, _, 1, _ => exact Nat.le_of_ble_eq_true rfl
  | 0, _, 2, _ => exact Nat.le_of_ble_eq_true rfl
  | 0, _, 3, _ => exact Nat.le_of_ble_eq_true rfl
  | 0, _, 4, _ => exact Nat.le_of_ble_eq_true rfl
  | 0, _, 5, _ => exact Nat.le_of_ble_eq_true rfl
  | 0, _, 6, _ => exact Nat.le_of_ble_eq_true rfl
  | 0, _, 7, _ => exact Nat.le_of_ble_eq_true rfl
  | 1, _, 0, _ => exact Nat.le_of_ble_eq_true rfl
  | 1, _, 1, _ => exact Nat.le_of_ble_eq_true rfl
  | 1, _, 2, _ => exact Nat.le_of_ble_eq_true rfl
  | 1, _, 3, _ => exact Nat.le_of_ble_eq_true rfl
  | 1, _, 4, _ => exact Nat.le_of_ble_eq_true rfl
  | 1, _, 5, _ => exact Nat.le_of_ble_eq_true rfl
  | 1, _, 6, _ => exact Nat.le_of_ble_eq_true rfl
  | 1, _, 7, _ => exact Nat.le_of_ble_eq_true rfl
  | 2, _, 0, _ => exact Nat.le_of_ble_eq_true rfl
  | 2, _, 1, _ => exact Nat.le_of_ble_eq_true rfl
  | 2, _, 2, _ => exact Nat.le_of_ble_eq_true rfl
  | 2, _, 3, _ => exact Nat.le_of_ble_eq_true rfl
  | 2, _, 4, _ => exact Nat.le_of_ble_eq_true rfl
  | 2, _, 5, _ => exact Nat.le_of_ble_eq_true rfl
  | 2, _, 6, _ => exact Nat.le_of_ble_eq_true rfl
  | 2, _, 7, _ => exact Nat.le_of_ble_eq_true rfl
  | 3, _, 0, _ => exact Nat.le_of_ble_eq_true rfl
  | 3, _, 1, _ => exact Nat.le_of_ble_eq_true rfl
  | 3, _, 2, _ => exact Nat.le_of_ble_eq_true rfl
  | 3, _, 3, _ => exact Nat.le_of_ble_eq_true rfl
  | 3, _, 4, _ => exact Nat.le_of_ble_eq_true rfl
  | 3, _, 5, _ => exact Nat.le_of_ble_eq_true rfl
  | 3, _, 6, _ => exact Nat.le_of_ble_eq_true rfl
  | 3, _, 7, _ => exact Nat.le_of_ble_eq_true rfl
  | q + 4, h, _, _ => exact absurd h (by omega)
  | _, _, q + 8, h => exact absurd h (by omega)
theorem op_act (hR : zRel I L f g) (x w v : Int32) : zOp 111 204 [.int x, .int w, .int v] I L f g t := by
  obtain ⟨law, n, k, a, b, z, bb, hfg, ht, hw, hp, hs, hi, hc, hy, hl, hb, hr, hh, hf⟩ := id hR
  obtain ⟨b1, b2, b3, b4⟩ := id hb
  rcases zrN x bb (by omega) with ⟨m, hm, rfl⟩ | ⟨x1, x2, x3⟩
  · obtain ⟨r1, c, hc8, r2⟩ := b4 m hm
    have hm50 : m < 50 := by omega
    have hmb : ¬ bb ≤ m := by omega
    have qc : ∀ d Q, zWM (d + 1) 1 [.ref 56, .int (nI m)] (zSH, zw I 56 (upd (I 56) 3 0), L, zP f g t) Q = Q (some (.int 1)) (zSH, zw I 56 (upd (I 56) 3 0), L, zP f g t) := fun d Q => by
      simp (disch := first | assumption | rfl | omega | decide | exact zb_01 _) only [zabs_e, zmax_e, zmin_e, zrf_s, zpush_s, zpush_n, zw_app, upd_app, updL_app, Nat.reduceEqDiff, Nat.add_left_cancel_iff, Nat.add_eq_left, Nat.left_eq_add, ↓reduceIte, true_and, and_true, Int32.reduceToNatClampNeg, zin_O, zi_ltO, zi_leO, zi_Olt, zi_Ole, zi_eqO, Nat.not_lt_zero, Nat.zero_le, List.append_nil, zrn_n, zrn_s, List.cons_append, List.nil_append, zlg_lt, zlg_gt, zlg_le, zlg_ge, zlg_eq, Int32.toInt_toInt64, Int64.reduceToInt, zw_zw, zw_sw1, zw_sw2, zw_sw3, zw_sw4, zw_sw5, zw_sw6, zw_sw7, ne_eq, zi_in, zi_cl, zi_le, zi_lt, zi_eq, zi_neg, zi_0le, zb_0, if_true, if_false, eq_self, zb_T, zb_F, Bool.false_eq_true, zO_eq, zO_ne1, zO_ne2, zO_nn, zi_ne1, zi_ne2, zi_lt1, zi_le1, zi_lt2, zi_le2, Int32.reduceLT, Int32.reduceLE, Nat.reduceLT, Nat.reduceLeDiff, Int32.reduceMul, Int32.reduceAdd, Int32.reduceSub, not_false_eq_true, not_true_eq_false, Int32.reduceToInt, Int.reduceLE, Int.reduceLT, Int.reduceNeg, ite_self, E_X0_has, R_X0_has, SHF, PF, b1, hm, hmb]
    by_cases w4 : 0 ≤ w.toInt ∧ w.toInt ≤ 3
    · obtain ⟨a', ha, rfl⟩ : ∃ a', a' < 4 ∧ w = nI a' := by
        rcases zen3 w4 with rfl | rfl | rfl | rfl
        · exact ⟨0, by decide, rfl⟩
        · exact ⟨1, by decide, rfl⟩
        · exact ⟨2, by decide, rfl⟩
        · exact ⟨3, by decide, rfl⟩
      have ha2 : ¬ 4 ≤ a' := by omega
      have hL := zsp_len hc8 ha v (nI m)
      have q1 := fun d Q => ca_all (f := f) (g := g) (t := t) (L := L) (y := nI m) hc8 8 a' c ha hc8 v (zw I 56 (upd (upd (upd (I 56) 3 0) 4 (nI m)) 5 (nI c))) 0 0 (d + 16) Q (zgd_ok hc8 ha) rfl rfl rfl (by omega) (by omega) (by omega)
      have q2 := fun d Q => ma_all (f := f) (g := g) (t := t) (L := L) (y := nI m) hc8 8 a' c ha hc8 v (zw (zTc (zw I 56 (upd (upd (upd (I 56) 3 0) 4 (nI m)) 5 (nI c))) 0 (zsp c (nI m) 8 a' c v).1) 80 (upd (upd (upd (I 80) 43 0) 44 (nI c)) 45 (nI m))) 0 (d + 9) Q (zgd_ok hc8 ha) rfl rfl rfl (by omega) (by omega)
      generalize zsp c (nI m) 8 a' c v = S at *
      obtain ⟨cs, val⟩ := S
      dsimp only at hL q1 q2
      simp only [show nI 0 = 0 from rfl] at q1
      refine zOp_m (.int val) (zTc (zw I 56 (upd (upd (upd (I 56) 3 0) 4 (nI m)) 5 (nI c))) 0 cs) (zTm (zw (zTc (zw I 56 (upd (upd (upd (I 56) 3 0) 4 (nI m)) 5 (nI c))) 0 cs) 80 (upd (upd (upd (I 80) 43 0) 44 (nI c)) 45 (nI m))) 0 cs) (fun d Q => ?_) (fun d Q => ?_) ⟨law, n, k, a, b, z, bb, hfg, (zRt_f (I := I)  rfl rfl rfl rfl rfl rfl rfl rfl rfl rfl rfl (fun _ _ => rfl) rfl ht), (zRw_f (I := I)  rfl rfl rfl rfl rfl rfl rfl rfl hw), (zRp_f (I := I)  rfl rfl rfl rfl rfl rfl rfl (fun _ _ _ => rfl) hp), (zRs_f (I := I)  rfl rfl rfl rfl rfl rfl rfl hs), (zRi_f (I := I)  rfl rfl rfl rfl hi), (zRc_f (I := I)  rfl rfl rfl rfl rfl rfl rfl rfl hc), (zRy_f (I := I)  rfl rfl rfl rfl hy), (zRl_f (I := I) hfg rfl rfl rfl rfl rfl rfl rfl rfl hl), (zRb_f (I := I)  rfl rfl rfl rfl hb), ?_, (zRh_f (I := I)  rfl rfl rfl rfl rfl rfl rfl rfl hh), (zRf_f (I := I)  rfl rfl rfl rfl rfl rfl rfl rfl rfl hf)⟩
      · simp (disch := first | assumption | rfl | omega | decide | exact zb_01 _) only [zabs_e, zmax_e, zmin_e, zrf_s, zpush_s, zpush_n, zw_app, upd_app, updL_app, Nat.reduceEqDiff, Nat.add_left_cancel_iff, Nat.add_eq_left, Nat.left_eq_add, ↓reduceIte, true_and, and_true, Int32.reduceToNatClampNeg, zin_O, zi_ltO, zi_leO, zi_Olt, zi_Ole, zi_eqO, Nat.not_lt_zero, Nat.zero_le, List.append_nil, zrn_n, zrn_s, List.cons_append, List.nil_append, zlg_lt, zlg_gt, zlg_le, zlg_ge, zlg_eq, Int32.toInt_toInt64, Int64.reduceToInt, zw_zw, zw_sw1, zw_sw2, zw_sw3, zw_sw4, zw_sw5, zw_sw6, zw_sw7, ne_eq, zi_in, zi_cl, zi_le, zi_lt, zi_eq, zi_neg, zi_0le, zb_0, if_true, if_false, eq_self, zb_T, zb_F, Bool.false_eq_true, zO_eq, zO_ne1, zO_ne2, zO_nn, zi_ne1, zi_ne2, zi_lt1, zi_le1, zi_lt2, zi_le2, Int32.reduceLT, Int32.reduceLE, Nat.reduceLT, Nat.reduceLeDiff, Int32.reduceMul, Int32.reduceAdd, Int32.reduceSub, not_false_eq_true, not_true_eq_false, Int32.reduceToInt, Int.reduceLE, Int.reduceLT, Int.reduceNeg, ite_self, E_X9_act, R_X9_act, SHF, PF, qc, ha, ha2, E_X0_perform, R_X0_perform, hm50, r2, q1]
      · have e80 : zTc (zw I 56 (upd (upd (upd (I 56) 3 0) 4 (nI m)) 5 (nI c))) 0 cs 80 = I 80 := rfl
        have e98 : zTc (zw I 56 (upd (upd (upd (I 56) 3 0) 4 (nI m)) 5 (nI c))) 0 cs 98 = I 98 := rfl
        generalize zTc (zw I 56 (upd (upd (upd (I 56) 3 0) 4 (nI m)) 5 (nI c))) 0 cs = C at *
        match a', ha with
        | 0, _ =>
          rw [show nI 0 = 0 from rfl]
          simp only [Nat.reduceAdd] at q2
          simp (disch := first | assumption | rfl | omega | decide | exact zb_01 _) only [zabs_e, zmax_e, zmin_e, zrf_s, zpush_s, zpush_n, zw_app, upd_app, updL_app, Nat.reduceEqDiff, Nat.add_left_cancel_iff, Nat.add_eq_left, Nat.left_eq_add, ↓reduceIte, true_and, and_true, Int32.reduceToNatClampNeg, zin_O, zi_ltO, zi_leO, zi_Olt, zi_Ole, zi_eqO, Nat.not_lt_zero, Nat.zero_le, List.append_nil, zrn_n, zrn_s, List.cons_append, List.nil_append, zlg_lt, zlg_gt, zlg_le, zlg_ge, zlg_eq, Int32.toInt_toInt64, Int64.reduceToInt, zw_zw, zw_sw1, zw_sw2, zw_sw3, zw_sw4, zw_sw5, zw_sw6, zw_sw7, ne_eq, zi_in, zi_cl, zi_le, zi_lt, zi_eq, zi_neg, zi_0le, zb_0, if_true, if_false, eq_self, zb_T, zb_F, Bool.false_eq_true, zO_eq, zO_ne1, zO_ne2, zO_nn, zi_ne1, zi_ne2, zi_lt1, zi_le1, zi_lt2, zi_le2, Int32.reduceLT, Int32.reduceLE, Nat.reduceLT, Nat.reduceLeDiff, Int32.reduceMul, Int32.reduceAdd, Int32.reduceSub, not_false_eq_true, not_true_eq_false, Int32.reduceToInt, Int.reduceLE, Int.reduceLT, Int.reduceNeg, ite_self, E_X10_act, R_X10_act, SHF, PF, e80, e98, m_isBody, b2, zrN_i hm (show bb < 2147483648 by omega), hm50, r1, r2, q2]
        | 1, _ =>
          rw [show nI 1 = 1 from rfl]
          simp only [Nat.reduceAdd] at q2
          simp (disch := first | assumption | rfl | omega | decide | exact zb_01 _) only [zabs_e, zmax_e, zmin_e, zrf_s, zpush_s, zpush_n, zw_app, upd_app, updL_app, Nat.reduceEqDiff, Nat.add_left_cancel_iff, Nat.add_eq_left, Nat.left_eq_add, ↓reduceIte, true_and, and_true, Int32.reduceToNatClampNeg, zin_O, zi_ltO, zi_leO, zi_Olt, zi_Ole, zi_eqO, Nat.not_lt_zero, Nat.zero_le, List.append_nil, zrn_n, zrn_s, List.cons_append, List.nil_append, zlg_lt, zlg_gt, zlg_le, zlg_ge, zlg_eq, Int32.toInt_toInt64, Int64.reduceToInt, zw_zw, zw_sw1, zw_sw2, zw_sw3, zw_sw4, zw_sw5, zw_sw6, zw_sw7, ne_eq, zi_in, zi_cl, zi_le, zi_lt, zi_eq, zi_neg, zi_0le, zb_0, if_true, if_false, eq_self, zb_T, zb_F, Bool.false_eq_true, zO_eq, zO_ne1, zO_ne2, zO_nn, zi_ne1, zi_ne2, zi_lt1, zi_le1, zi_lt2, zi_le2, Int32.reduceLT, Int32.reduceLE, Nat.reduceLT, Nat.reduceLeDiff, Int32.reduceMul, Int32.reduceAdd, Int32.reduceSub, not_false_eq_true, not_true_eq_false, Int32.reduceToInt, Int.reduceLE, Int.reduceLT, Int.reduceNeg, ite_self, E_X10_act, R_X10_act, SHF, PF, e80, e98, m_isBody, b2, zrN_i hm (show bb < 2147483648 by omega), hm50, r1, r2, q2]
        | 2, _ =>
          rw [show nI 2 = 2 from rfl]
          simp only [Nat.reduceAdd] at q2
          simp (disch := first | assumption | rfl | omega | decide | exact zb_01 _) only [zabs_e, zmax_e, zmin_e, zrf_s, zpush_s, zpush_n, zw_app, upd_app, updL_app, Nat.reduceEqDiff, Nat.add_left_cancel_iff, Nat.add_eq_left, Nat.left_eq_add, ↓reduceIte, true_and, and_true, Int32.reduceToNatClampNeg, zin_O, zi_ltO, zi_leO, zi_Olt, zi_Ole, zi_eqO, Nat.not_lt_zero, Nat.zero_le, List.append_nil, zrn_n, zrn_s, List.cons_append, List.nil_append, zlg_lt, zlg_gt, zlg_le, zlg_ge, zlg_eq, Int32.toInt_toInt64, Int64.reduceToInt, zw_zw, zw_sw1, zw_sw2, zw_sw3, zw_sw4, zw_sw5, zw_sw6, zw_sw7, ne_eq, zi_in, zi_cl, zi_le, zi_lt, zi_eq, zi_neg, zi_0le, zb_0, if_true, if_false, eq_self, zb_T, zb_F, Bool.false_eq_true, zO_eq, zO_ne1, zO_ne2, zO_nn, zi_ne1, zi_ne2, zi_lt1, zi_le1, zi_lt2, zi_le2, Int32.reduceLT, Int32.reduceLE, Nat.reduceLT, Nat.reduceLeDiff, Int32.reduceMul, Int32.reduceAdd, Int32.reduceSub, not_false_eq_true, not_true_eq_false, Int32.reduceToInt, Int.reduceLE, Int.reduceLT, Int.reduceNeg, ite_self, E_X10_act, R_X10_act, SHF, PF, e80, e98, m_isBody, b2, zrN_i hm (show bb < 2147483648 by omega), hm50, r1, r2, q2]
        | 3, _ =>
          rw [show nI 3 = 3 from rfl]
          simp only [Nat.reduceAdd] at q2
          simp (disch := first | assumption | rfl | omega | decide | exact zb_01 _) only [zabs_e, zmax_e, zmin_e, zrf_s, zpush_s, zpush_n, zw_app, upd_app, updL_app, Nat.reduceEqDiff, Nat.add_left_cancel_iff, Nat.add_eq_left, Nat.left_eq_add, ↓reduceIte, true_and, and_true, Int32.reduceToNatClampNeg, zin_O, zi_ltO, zi_leO, zi_Olt, zi_Ole, zi_eqO, Nat.not_lt_zero, Nat.zero_le, List.append_nil, zrn_n, zrn_s, List.cons_append, List.nil_append, zlg_lt, zlg_gt, zlg_le, zlg_ge, zlg_eq, Int32.toInt_toInt64, Int64.reduceToInt, zw_zw, zw_sw1, zw_sw2, zw_sw3, zw_sw4, zw_sw5, zw_sw6, zw_sw7, ne_eq, zi_in, zi_cl, zi_le, zi_lt, zi_eq, zi_neg, zi_0le, zb_0, if_true, if_false, eq_self, zb_T, zb_F, Bool.false_eq_true, zO_eq, zO_ne1, zO_ne2, zO_nn, zi_ne1, zi_ne2, zi_lt1, zi_le1, zi_lt2, zi_le2, Int32.reduceLT, Int32.reduceLE, Nat.reduceLT, Nat.reduceLeDiff, Int32.reduceMul, Int32.reduceAdd, Int32.reduceSub, not_false_eq_true, not_true_eq_false, Int32.reduceToInt, Int.reduceLE, Int.reduceLT, Int.reduceNeg, ite_self, E_X10_act, R_X10_act, SHF, PF, e80, e98, m_isBody, b2, zrN_i hm (show bb < 2147483648 by omega), hm50, r1, r2, q2]
        | q + 4, h => exact absurd h (by omega)
      · refine ⟨cs.length, ?_, ?_, by omega, fun j hj _ => ?_⟩
        · show nI (0 + cs.length) = nI cs.length
          rw [Nat.zero_add]
        · show nI (0 + cs.length) = nI cs.length
          rw [Nat.zero_add]
        · exact zapp_eq cs 0 _ _ j (by omega) (by omega)
    · have wd : (w < 0 ∧ ¬ 0 ≤ w) ∨ (¬ w < 0 ∧ 0 ≤ w ∧ 4 ≤ w ∧ ¬ w < 4) := by
        have t0 : (0 : Int32).toInt = 0 := by decide
        have t4 : (4 : Int32).toInt = 4 := by decide
        simp only [Int32.lt_iff_toInt_lt, Int32.le_iff_toInt_le, t0, t4]
        omega
      have e0 : ¬ w = 0 := fun e => by subst e; exact w4 (by decide)
      have e1 : ¬ w = 1 := fun e => by subst e; exact w4 (by decide)
      have e2 : ¬ w = 2 := fun e => by subst e; exact w4 (by decide)
      have e3 : ¬ w = 3 := fun e => by subst e; exact w4 (by decide)
      refine zOp_m (.int 0) (zw I 56 (upd (I 56) 3 0)) (zw (zw I 56 (upd (I 56) 3 0)) 80 (upd (upd (upd (I 80) 43 0) 44 (nI c)) 45 (nI m))) (fun d Q => ?_) (fun d Q => ?_) ⟨law, n, k, a, b, z, bb, hfg, (zRt_f (I := I)  rfl rfl rfl rfl rfl rfl rfl rfl rfl rfl rfl (fun _ _ => rfl) rfl ht), (zRw_f (I := I)  rfl rfl rfl rfl rfl rfl rfl rfl hw), (zRp_f (I := I)  rfl rfl rfl rfl rfl rfl rfl (fun _ _ _ => rfl) hp), (zRs_f (I := I)  rfl rfl rfl rfl rfl rfl rfl hs), (zRi_f (I := I)  rfl rfl rfl rfl hi), (zRc_f (I := I)  rfl rfl rfl rfl rfl rfl rfl rfl hc), (zRy_f (I := I)  rfl rfl rfl rfl hy), (zRl_f (I := I) hfg rfl rfl rfl rfl rfl rfl rfl rfl hl), (zRb_f (I := I)  rfl rfl rfl rfl hb), ?_, (zRh_f (I := I)  rfl rfl rfl rfl rfl rfl rfl rfl hh), (zRf_f (I := I)  rfl rfl rfl rfl rfl rfl rfl rfl rfl hf)⟩
      · rcases wd with ⟨w1, w2⟩ | ⟨w1, w2, w3, w5⟩
        · simp (disch := first | assumption | rfl | omega | decide | exact zb_01 _) only [zabs_e, zmax_e, zmin_e, zrf_s, zpush_s, zpush_n, zw_app, upd_app, updL_app, Nat.reduceEqDiff, Nat.add_left_cancel_iff, Nat.add_eq_left, Nat.left_eq_add, ↓reduceIte, true_and, and_true, Int32.reduceToNatClampNeg, zin_O, zi_ltO, zi_leO, zi_Olt, zi_Ole, zi_eqO, Nat.not_lt_zero, Nat.zero_le, List.append_nil, zrn_n, zrn_s, List.cons_append, List.nil_append, zlg_lt, zlg_gt, zlg_le, zlg_ge, zlg_eq, Int32.toInt_toInt64, Int64.reduceToInt, zw_zw, zw_sw1, zw_sw2, zw_sw3, zw_sw4, zw_sw5, zw_sw6, zw_sw7, ne_eq, zi_in, zi_cl, zi_le, zi_lt, zi_eq, zi_neg, zi_0le, zb_0, if_true, if_false, eq_self, zb_T, zb_F, Bool.false_eq_true, zO_eq, zO_ne1, zO_ne2, zO_nn, zi_ne1, zi_ne2, zi_lt1, zi_le1, zi_lt2, zi_le2, Int32.reduceLT, Int32.reduceLE, Nat.reduceLT, Nat.reduceLeDiff, Int32.reduceMul, Int32.reduceAdd, Int32.reduceSub, not_false_eq_true, not_true_eq_false, Int32.reduceToInt, Int.reduceLE, Int.reduceLT, Int.reduceNeg, ite_self, E_X9_act, R_X9_act, SHF, PF, qc, w1, w2]
        · simp (disch := first | assumption | rfl | omega | decide | exact zb_01 _) only [zabs_e, zmax_e, zmin_e, zrf_s, zpush_s, zpush_n, zw_app, upd_app, updL_app, Nat.reduceEqDiff, Nat.add_left_cancel_iff, Nat.add_eq_left, Nat.left_eq_add, ↓reduceIte, true_and, and_true, Int32.reduceToNatClampNeg, zin_O, zi_ltO, zi_leO, zi_Olt, zi_Ole, zi_eqO, Nat.not_lt_zero, Nat.zero_le, List.append_nil, zrn_n, zrn_s, List.cons_append, List.nil_append, zlg_lt, zlg_gt, zlg_le, zlg_ge, zlg_eq, Int32.toInt_toInt64, Int64.reduceToInt, zw_zw, zw_sw1, zw_sw2, zw_sw3, zw_sw4, zw_sw5, zw_sw6, zw_sw7, ne_eq, zi_in, zi_cl, zi_le, zi_lt, zi_eq, zi_neg, zi_0le, zb_0, if_true, if_false, eq_self, zb_T, zb_F, Bool.false_eq_true, zO_eq, zO_ne1, zO_ne2, zO_nn, zi_ne1, zi_ne2, zi_lt1, zi_le1, zi_lt2, zi_le2, Int32.reduceLT, Int32.reduceLE, Nat.reduceLT, Nat.reduceLeDiff, Int32.reduceMul, Int32.reduceAdd, Int32.reduceSub, not_false_eq_true, not_true_eq_false, Int32.reduceToInt, Int.reduceLE, Int.reduceLT, Int.reduceNeg, ite_self, E_X9_act, R_X9_act, SHF, PF, qc, w1, w2, w3, w5]
      · simp (disch := first | assumption | rfl | omega | decide | exact zb_01 _) only [zabs_e, zmax_e, zmin_e, zrf_s, zpush_s, zpush_n, zw_app, upd_app, updL_app, Nat.reduceEqDiff, Nat.add_left_cancel_iff, Nat.add_eq_left, Nat.left_eq_add, ↓reduceIte, true_and, and_true, Int32.reduceToNatClampNeg, zin_O, zi_ltO, zi_leO, zi_Olt, zi_Ole, zi_eqO, Nat.not_lt_zero, Nat.zero_le, List.append_nil, zrn_n, zrn_s, List.cons_append, List.nil_append, zlg_lt, zlg_gt, zlg_le, zlg_ge, zlg_eq, Int32.toInt_toInt64, Int64.reduceToInt, zw_zw, zw_sw1, zw_sw2, zw_sw3, zw_sw4, zw_sw5, zw_sw6, zw_sw7, ne_eq, zi_in, zi_cl, zi_le, zi_lt, zi_eq, zi_neg, zi_0le, zb_0, if_true, if_false, eq_self, zb_T, zb_F, Bool.false_eq_true, zO_eq, zO_ne1, zO_ne2, zO_nn, zi_ne1, zi_ne2, zi_lt1, zi_le1, zi_lt2, zi_le2, Int32.reduceLT, Int32.reduceLE, Nat.reduceLT, Nat.reduceLeDiff, Int32.reduceMul, Int32.reduceAdd, Int32.reduceSub, not_false_eq_true, not_true_eq_false, Int32.reduceToInt, Int.reduceLE, Int.reduceLT, Int.reduceNeg, ite_self, E_X10_act, R_X10_act, SHF, PF, m_isBody, b2, zrN_i hm (show bb < 2147483648 by omega), hm50, r1, r2, e0, e1, e2, e3, w4]
      · exact ⟨0, rfl, rfl, by omega, fun j hj _ => absurd hj (by omega)⟩
  · have qc : ∀ d Q, zWM (d + 1) 1 [.ref 56, .int x] (zSH, zw I 56 (upd (I 56) 3 0), L, zP f g t) Q = Q (some (.int 0)) (zSH, zw I 56 (upd (I 56) 3 0), L, zP f g t) := fun d Q => by
      rcases x3 with ⟨h5, h6⟩ | ⟨h5, h6, h7, h8⟩
      · simp (disch := first | assumption | rfl | omega | decide | exact zb_01 _) only [zabs_e, zmax_e, zmin_e, zrf_s, zpush_s, zpush_n, zw_app, upd_app, updL_app, Nat.reduceEqDiff, Nat.add_left_cancel_iff, Nat.add_eq_left, Nat.left_eq_add, ↓reduceIte, true_and, and_true, Int32.reduceToNatClampNeg, zin_O, zi_ltO, zi_leO, zi_Olt, zi_Ole, zi_eqO, Nat.not_lt_zero, Nat.zero_le, List.append_nil, zrn_n, zrn_s, List.cons_append, List.nil_append, zlg_lt, zlg_gt, zlg_le, zlg_ge, zlg_eq, Int32.toInt_toInt64, Int64.reduceToInt, zw_zw, zw_sw1, zw_sw2, zw_sw3, zw_sw4, zw_sw5, zw_sw6, zw_sw7, ne_eq, zi_in, zi_cl, zi_le, zi_lt, zi_eq, zi_neg, zi_0le, zb_0, if_true, if_false, eq_self, zb_T, zb_F, Bool.false_eq_true, zO_eq, zO_ne1, zO_ne2, zO_nn, zi_ne1, zi_ne2, zi_lt1, zi_le1, zi_lt2, zi_le2, Int32.reduceLT, Int32.reduceLE, Nat.reduceLT, Nat.reduceLeDiff, Int32.reduceMul, Int32.reduceAdd, Int32.reduceSub, not_false_eq_true, not_true_eq_false, Int32.reduceToInt, Int.reduceLE, Int.reduceLT, Int.reduceNeg, ite_self, E_X0_has, R_X0_has, SHF, PF, b1, h5, h6]
      · simp (disch := first | assumption | rfl | omega | decide | exact zb_01 _) only [zabs_e, zmax_e, zmin_e, zrf_s, zpush_s, zpush_n, zw_app, upd_app, updL_app, Nat.reduceEqDiff, Nat.add_left_cancel_iff, Nat.add_eq_left, Nat.left_eq_add, ↓reduceIte, true_and, and_true, Int32.reduceToNatClampNeg, zin_O, zi_ltO, zi_leO, zi_Olt, zi_Ole, zi_eqO, Nat.not_lt_zero, Nat.zero_le, List.append_nil, zrn_n, zrn_s, List.cons_append, List.nil_append, zlg_lt, zlg_gt, zlg_le, zlg_ge, zlg_eq, Int32.toInt_toInt64, Int64.reduceToInt, zw_zw, zw_sw1, zw_sw2, zw_sw3, zw_sw4, zw_sw5, zw_sw6, zw_sw7, ne_eq, zi_in, zi_cl, zi_le, zi_lt, zi_eq, zi_neg, zi_0le, zb_0, if_true, if_false, eq_self, zb_T, zb_F, Bool.false_eq_true, zO_eq, zO_ne1, zO_ne2, zO_nn, zi_ne1, zi_ne2, zi_lt1, zi_le1, zi_lt2, zi_le2, Int32.reduceLT, Int32.reduceLE, Nat.reduceLT, Nat.reduceLeDiff, Int32.reduceMul, Int32.reduceAdd, Int32.reduceSub, not_false_eq_true, not_true_eq_false, Int32.reduceToInt, Int.reduceLE, Int.reduceLT, Int.reduceNeg, ite_self, E_X0_has, R_X0_has, SHF, PF, b1, h5, h6, h7, h8]
    refine zOp_m (.int 0) (zw I 56 (upd (I 56) 3 0)) (zw (zw I 56 (upd (I 56) 3 0)) 80 (upd (I 80) 43 0)) (fun d Q => ?_) (fun d Q => ?_) ⟨law, n, k, a, b, z, bb, hfg, (zRt_f (I := I)  rfl rfl rfl rfl rfl rfl rfl rfl rfl rfl rfl (fun _ _ => rfl) rfl ht), (zRw_f (I := I)  rfl rfl rfl rfl rfl rfl rfl rfl hw), (zRp_f (I := I)  rfl rfl rfl rfl rfl rfl rfl (fun _ _ _ => rfl) hp), (zRs_f (I := I)  rfl rfl rfl rfl rfl rfl rfl hs), (zRi_f (I := I)  rfl rfl rfl rfl hi), (zRc_f (I := I)  rfl rfl rfl rfl rfl rfl rfl rfl hc), (zRy_f (I := I)  rfl rfl rfl rfl hy), (zRl_f (I := I) hfg rfl rfl rfl rfl rfl rfl rfl rfl hl), (zRb_f (I := I)  rfl rfl rfl rfl hb), ?_, (zRh_f (I := I)  rfl rfl rfl rfl rfl rfl rfl rfl hh), (zRf_f (I := I)  rfl rfl rfl rfl rfl rfl rfl rfl rfl hf)⟩
    · simp (disch := first | assumption | rfl | omega | decide | exact zb_01 _) only [zabs_e, zmax_e, zmin_e, zrf_s, zpush_s, zpush_n, zw_app, upd_app, updL_app, Nat.reduceEqDiff, Nat.add_left_cancel_iff, Nat.add_eq_left, Nat.left_eq_add, ↓reduceIte, true_and, and_true, Int32.reduceToNatClampNeg, zin_O, zi_ltO, zi_leO, zi_Olt, zi_Ole, zi_eqO, Nat.not_lt_zero, Nat.zero_le, List.append_nil, zrn_n, zrn_s, List.cons_append, List.nil_append, zlg_lt, zlg_gt, zlg_le, zlg_ge, zlg_eq, Int32.toInt_toInt64, Int64.reduceToInt, zw_zw, zw_sw1, zw_sw2, zw_sw3, zw_sw4, zw_sw5, zw_sw6, zw_sw7, ne_eq, zi_in, zi_cl, zi_le, zi_lt, zi_eq, zi_neg, zi_0le, zb_0, if_true, if_false, eq_self, zb_T, zb_F, Bool.false_eq_true, zO_eq, zO_ne1, zO_ne2, zO_nn, zi_ne1, zi_ne2, zi_lt1, zi_le1, zi_lt2, zi_le2, Int32.reduceLT, Int32.reduceLE, Nat.reduceLT, Nat.reduceLeDiff, Int32.reduceMul, Int32.reduceAdd, Int32.reduceSub, not_false_eq_true, not_true_eq_false, Int32.reduceToInt, Int.reduceLE, Int.reduceLT, Int.reduceNeg, ite_self, E_X9_act, R_X9_act, SHF, PF, qc]
    · simp (disch := first | assumption | rfl | omega | decide | exact zb_01 _) only [zabs_e, zmax_e, zmin_e, zrf_s, zpush_s, zpush_n, zw_app, upd_app, updL_app, Nat.reduceEqDiff, Nat.add_left_cancel_iff, Nat.add_eq_left, Nat.left_eq_add, ↓reduceIte, true_and, and_true, Int32.reduceToNatClampNeg, zin_O, zi_ltO, zi_leO, zi_Olt, zi_Ole, zi_eqO, Nat.not_lt_zero, Nat.zero_le, List.append_nil, zrn_n, zrn_s, List.cons_append, List.nil_append, zlg_lt, zlg_gt, zlg_le, zlg_ge, zlg_eq, Int32.toInt_toInt64, Int64.reduceToInt, zw_zw, zw_sw1, zw_sw2, zw_sw3, zw_sw4, zw_sw5, zw_sw6, zw_sw7, ne_eq, zi_in, zi_cl, zi_le, zi_lt, zi_eq, zi_neg, zi_0le, zb_0, if_true, if_false, eq_self, zb_T, zb_F, Bool.false_eq_true, zO_eq, zO_ne1, zO_ne2, zO_nn, zi_ne1, zi_ne2, zi_lt1, zi_le1, zi_lt2, zi_le2, Int32.reduceLT, Int32.reduceLE, Nat.reduceLT, Nat.reduceLeDiff, Int32.reduceMul, Int32.reduceAdd, Int32.reduceSub, not_false_eq_true, not_true_eq_false, Int32.reduceToInt, Int.reduceLE, Int.reduceLT, Int.reduceNeg, ite_self, E_X10_act, R_X10_act, SHF, PF, m_isBody, b2, x2]
    · exact ⟨0, rfl, rfl, by omega, fun j hj _ => absurd hj (by omega)⟩
end ACT
