theorem zl_sm {v : Int64} (h : -128 ≤ v.toInt ∧ v.toInt ≤ 127) : v.toInt32.toInt64 = v := by
  refine Int64.toInt_inj.mp ?_
  rw [Int32.toInt_toInt64, Int64.toInt_toInt32]
  exact Int.bmod_eq_of_le (by omega) (by omega)
section RNDS2
variable {d f g n k a b z bb j l s w : Nat} {t : Option Nat} {I J K : Nat → Nat → Int32} {L : Nat → Nat → Int64} {Q : Option Value → zMm → Prop} {X : Nat → Int32} {law : zLawT}
theorem zRel_U (hR : zRel9 I L f g law n k a b z bb) {m : Nat} {M : Nat → Nat → Int32} (hJ : zcI I X n s m J) (hM : zmI J X n s m M) : zRel M L f g := by
  obtain ⟨hfg, ht, hw, hp, hs, hi, hc, hy, hl, hb, hr, hh, hf⟩ := hR
  obtain ⟨J1, J2, J3, J4, J5, J6⟩ := hJ
  obtain ⟨M1, M2, M3, M4, M5, M6⟩ := hM
  obtain ⟨t1, t2, t3, t4, t5⟩ := ht
  have j80 : J 80 = I 80 := J1 80 (by omega) (by omega)
  have j81 : J 81 = I 81 := J1 81 (by omega) (by omega)
  have j85 : J 85 = I 85 := J1 85 (by omega) (by omega)
  have o : ∀ a, ¬ (1 ≤ a ∧ a ≤ 13) → a ≠ 33 → a ≠ 80 → a ≠ 81 → a ≠ 85 → M a = I a := fun a h1 h2 h3 h4 h5 => (M1 a h3 h4 h5).trans (J1 a h1 h2)
  have oj : ∀ a, ¬ (1 ≤ a ∧ a ≤ 13) → a ≠ 33 → a ≠ 80 → a ≠ 81 → a ≠ 85 → ∀ k, M a k = I a k := fun a h1 h2 h3 h4 h5 k => by rw [o a h1 h2 h3 h4 h5]
  have o8 : ∀ k, k ≠ 6 → M 80 k = I 80 k := fun k hk => by
    rw [M2, j80]
    exact if_neg hk
  have o81 : ∀ k, 72 ≤ k → M 81 k = I 81 k := fun k hk => by rw [M4 k (by omega), j81]
  have m33 : M 33 6 = 0 := by rw [M1 33 (by omega) (by omega) (by omega), J2]; rfl
  have hT : zRt M (n + m) := by
    have tc : ∀ a, a ≤ 13 → M a = J a := fun a ha => M1 a (by omega) (by omega) (by omega)
    refine ⟨by rw [tc 1 (by omega)]; exact J4.1, by rw [M2]; rfl, J3, tSet_f ?_ ?_ ?_ ?_ ?_ ?_ ?_ ?_ ?_ J4, fun q hq => ?_⟩
    · exact congrFun (tc 1 (by omega)) 6
    · exact tc 2 (by omega)
    · exact tc 5 (by omega)
    · exact tc 6 (by omega)
    · exact tc 8 (by omega)
    · exact tc 9 (by omega)
    · exact tc 10 (by omega)
    · exact tc 12 (by omega)
    · exact tc 13 (by omega)
    · rw [tc 2 (by omega), tc 3 (by omega), tc 5 (by omega), tc 6 (by omega)]
      by_cases e : q < n
      · obtain ⟨e1, e2, e3, e4⟩ := J5 q e
        rw [e1, e2, e3, e4, M5 q e, M4 q (by omega), M4 (24 + q) (by omega), M4 (48 + q) (by omega), j85, j81]
        exact t5 q e
      · obtain ⟨r, rfl⟩ : ∃ r, q = n + r := ⟨q - n, by omega⟩
        obtain ⟨e1, e2, e3, e4, e5⟩ := J6 r (by omega)
        obtain ⟨d1, d2, d3, d4⟩ := M6 r (by omega)
        rw [e1, e2, e3, e4, d1, d2, d3, d4]
        exact ⟨rfl, rfl, rfl, rfl, e5⟩
  refine ⟨law, n + m, k, a, b, z, bb, hfg, hT, zRw_f (I := I) ?_ ?_ ?_ ?_ ?_ ?_ ?_ ?_ hw, zRp_f (I := I) ?_ ?_ ?_ ?_ ?_ ?_ ?_ (fun j _ _ => o81 _ (by omega)) hp, zRs_f (I := I) ?_ ?_ ?_ ?_ ?_ ?_ ?_ hs, zRi_f (I := I) ?_ ?_ ?_ ?_ hi, zRc_f (I := I) ?_ ?_ ?_ ?_ ?_ ?_ ?_ ?_ hc, zRy_f (I := I) ?_ ?_ ?_ ?_ hy, zRl_f (I := I) hfg ?_ ?_ ?_ ?_ ?_ ?_ ?_ ?_ hl, zRb_f (I := I) ?_ ?_ ?_ ?_ hb, zRr_f (I := I) ?_ ?_ ?_ ?_ hr, zRh_f (I := I) ?_ ?_ ?_ ?_ ?_ ?_ ?_ ?_ hh, zRf_0 m33⟩
  all_goals first
    | exact o _ (by omega) (by omega) (by omega) (by omega) (by omega)
    | exact oj _ (by omega) (by omega) (by omega) (by omega) (by omega) _
    | exact o8 _ (by omega)
    | exact o81 _ (by omega)
theorem op_rounds (hR : zRel I L f g) (x y v : Int32) : zOp 75 137 [.int x, .int y, .int v] I L f g t := by
  obtain ⟨law, n, k, a, b, z, bb, hR9⟩ := id hR
  obtain ⟨hfg, ht, hw, hp, hs, hi, hc, hy, hl, hb, hr, hh, hf⟩ := id hR9
  have hb50 : bb ≤ 50 := hb.2.2.1
  rcases zrS x with ⟨j, hj, rfl, h1, h2⟩ | ⟨h1, h2⟩
  · obtain ⟨a1, a2, a3, a4, a5⟩ := zSHd hj f g t
    rcases zrg v (1) (15) (1) (15) (by decide) (by decide) with ⟨k1, k2, k3, k4, k5⟩ | ⟨k1, k2⟩
    · rcases hh j hj with ⟨r1, r2⟩ | ⟨r1, m, hm, r2, r3⟩ | ⟨c, l, hc5, hl', r1, r2, r3, r4, r5⟩
      · refine zOp_s hR (.int 0) (fun d Q => ?_) (fun d Q => ?_)
        · simp (disch := first | assumption | rfl | omega | decide | exact zb_01 _) only [zabs_e, zmax_e, zmin_e, zrf_s, zpush_s, zpush_n, zw_app, upd_app, updL_app, Nat.reduceEqDiff, Nat.add_left_cancel_iff, Nat.add_eq_left, Nat.left_eq_add, ↓reduceIte, true_and, and_true, Int32.reduceToNatClampNeg, zin_O, zi_ltO, zi_leO, zi_Olt, zi_Ole, zi_eqO, Nat.not_lt_zero, Nat.zero_le, List.append_nil, zrn_n, zrn_s, List.cons_append, List.nil_append, zlg_lt, zlg_gt, zlg_le, zlg_ge, zlg_eq, Int32.toInt_toInt64, Int64.reduceToInt, zw_zw, zw_sw1, zw_sw2, zw_sw3, zw_sw4, zw_sw5, zw_sw6, zw_sw7, ne_eq, zi_in, zi_cl, zi_le, zi_lt, zi_eq, zi_neg, zi_0le, zb_0, if_true, if_false, eq_self, zb_T, zb_F, Bool.false_eq_true, zO_eq, zO_ne1, zO_ne2, zO_nn, zi_ne1, zi_ne2, zi_lt1, zi_le1, zi_lt2, zi_le2, Int32.reduceLT, Int32.reduceLE, Nat.reduceLT, Nat.reduceLeDiff, Int32.reduceMul, Int32.reduceAdd, Int32.reduceSub, not_false_eq_true, not_true_eq_false, Int32.reduceToInt, Int.reduceLE, Int.reduceLT, Int.reduceNeg, ite_self, E_X9_rounds, R_X9_rounds, SHF, PF, c_isShelf, zb_t h2, hj, k2, k3, k4, k5, a1, a2, r1]
        · simp (disch := first | assumption | rfl | omega | decide | exact zb_01 _) only [zabs_e, zmax_e, zmin_e, zrf_s, zpush_s, zpush_n, zw_app, upd_app, updL_app, Nat.reduceEqDiff, Nat.add_left_cancel_iff, Nat.add_eq_left, Nat.left_eq_add, ↓reduceIte, true_and, and_true, Int32.reduceToNatClampNeg, zin_O, zi_ltO, zi_leO, zi_Olt, zi_Ole, zi_eqO, Nat.not_lt_zero, Nat.zero_le, List.append_nil, zrn_n, zrn_s, List.cons_append, List.nil_append, zlg_lt, zlg_gt, zlg_le, zlg_ge, zlg_eq, Int32.toInt_toInt64, Int64.reduceToInt, zw_zw, zw_sw1, zw_sw2, zw_sw3, zw_sw4, zw_sw5, zw_sw6, zw_sw7, ne_eq, zi_in, zi_cl, zi_le, zi_lt, zi_eq, zi_neg, zi_0le, zb_0, if_true, if_false, eq_self, zb_T, zb_F, Bool.false_eq_true, zO_eq, zO_ne1, zO_ne2, zO_nn, zi_ne1, zi_ne2, zi_lt1, zi_le1, zi_lt2, zi_le2, Int32.reduceLT, Int32.reduceLE, Nat.reduceLT, Nat.reduceLeDiff, Int32.reduceMul, Int32.reduceAdd, Int32.reduceSub, not_false_eq_true, not_true_eq_false, Int32.reduceToInt, Int.reduceLE, Int.reduceLT, Int.reduceNeg, ite_self, E_X10_rounds, R_X10_rounds, SHF, PF, m_isShelf, zb_t h1, h1, m_within, k1, hj, r2]
          rw [H_X10_rounds_69]
          simp (disch := first | assumption | rfl | omega | decide | exact zb_01 _) only [zabs_e, zmax_e, zmin_e, zrf_s, zpush_s, zpush_n, zw_app, upd_app, updL_app, Nat.reduceEqDiff, Nat.add_left_cancel_iff, Nat.add_eq_left, Nat.left_eq_add, ↓reduceIte, true_and, and_true, Int32.reduceToNatClampNeg, zin_O, zi_ltO, zi_leO, zi_Olt, zi_Ole, zi_eqO, Nat.not_lt_zero, Nat.zero_le, List.append_nil, zrn_n, zrn_s, List.cons_append, List.nil_append, zlg_lt, zlg_gt, zlg_le, zlg_ge, zlg_eq, Int32.toInt_toInt64, Int64.reduceToInt, zw_zw, zw_sw1, zw_sw2, zw_sw3, zw_sw4, zw_sw5, zw_sw6, zw_sw7, ne_eq, zi_in, zi_cl, zi_le, zi_lt, zi_eq, zi_neg, zi_0le, zb_0, if_true, if_false, eq_self, zb_T, zb_F, Bool.false_eq_true, zO_eq, zO_ne1, zO_ne2, zO_nn, zi_ne1, zi_ne2, zi_lt1, zi_le1, zi_lt2, zi_le2, Int32.reduceLT, Int32.reduceLE, Nat.reduceLT, Nat.reduceLeDiff, Int32.reduceMul, Int32.reduceAdd, Int32.reduceSub, not_false_eq_true, not_true_eq_false, Int32.reduceToInt, Int.reduceLE, Int.reduceLT, Int.reduceNeg, ite_self, R_X10_rounds, SHF, PF]
      · have m50 : ¬ m = 50 := by omega
        refine zOp_s hR (.int (-12)) (fun d Q => ?_) (fun d Q => ?_)
        · simp (disch := first | assumption | rfl | omega | decide | exact zb_01 _) only [zabs_e, zmax_e, zmin_e, zrf_s, zpush_s, zpush_n, zw_app, upd_app, updL_app, Nat.reduceEqDiff, Nat.add_left_cancel_iff, Nat.add_eq_left, Nat.left_eq_add, ↓reduceIte, true_and, and_true, Int32.reduceToNatClampNeg, zin_O, zi_ltO, zi_leO, zi_Olt, zi_Ole, zi_eqO, Nat.not_lt_zero, Nat.zero_le, List.append_nil, zrn_n, zrn_s, List.cons_append, List.nil_append, zlg_lt, zlg_gt, zlg_le, zlg_ge, zlg_eq, Int32.toInt_toInt64, Int64.reduceToInt, zw_zw, zw_sw1, zw_sw2, zw_sw3, zw_sw4, zw_sw5, zw_sw6, zw_sw7, ne_eq, zi_in, zi_cl, zi_le, zi_lt, zi_eq, zi_neg, zi_0le, zb_0, if_true, if_false, eq_self, zb_T, zb_F, Bool.false_eq_true, zO_eq, zO_ne1, zO_ne2, zO_nn, zi_ne1, zi_ne2, zi_lt1, zi_le1, zi_lt2, zi_le2, Int32.reduceLT, Int32.reduceLE, Nat.reduceLT, Nat.reduceLeDiff, Int32.reduceMul, Int32.reduceAdd, Int32.reduceSub, not_false_eq_true, not_true_eq_false, Int32.reduceToInt, Int.reduceLE, Int.reduceLT, Int.reduceNeg, ite_self, E_X9_rounds, R_X9_rounds, SHF, PF, c_isShelf, zb_t h2, hj, k2, k3, k4, k5, a1, a2, r1]
        · simp (disch := first | assumption | rfl | omega | decide | exact zb_01 _) only [zabs_e, zmax_e, zmin_e, zrf_s, zpush_s, zpush_n, zw_app, upd_app, updL_app, Nat.reduceEqDiff, Nat.add_left_cancel_iff, Nat.add_eq_left, Nat.left_eq_add, ↓reduceIte, true_and, and_true, Int32.reduceToNatClampNeg, zin_O, zi_ltO, zi_leO, zi_Olt, zi_Ole, zi_eqO, Nat.not_lt_zero, Nat.zero_le, List.append_nil, zrn_n, zrn_s, List.cons_append, List.nil_append, zlg_lt, zlg_gt, zlg_le, zlg_ge, zlg_eq, Int32.toInt_toInt64, Int64.reduceToInt, zw_zw, zw_sw1, zw_sw2, zw_sw3, zw_sw4, zw_sw5, zw_sw6, zw_sw7, ne_eq, zi_in, zi_cl, zi_le, zi_lt, zi_eq, zi_neg, zi_0le, zb_0, if_true, if_false, eq_self, zb_T, zb_F, Bool.false_eq_true, zO_eq, zO_ne1, zO_ne2, zO_nn, zi_ne1, zi_ne2, zi_lt1, zi_le1, zi_lt2, zi_le2, Int32.reduceLT, Int32.reduceLE, Nat.reduceLT, Nat.reduceLeDiff, Int32.reduceMul, Int32.reduceAdd, Int32.reduceSub, not_false_eq_true, not_true_eq_false, Int32.reduceToInt, Int.reduceLE, Int.reduceLT, Int.reduceNeg, ite_self, E_X10_rounds, R_X10_rounds, SHF, PF, m_isShelf, zb_t h1, h1, m_within, k1, hj, r3, m50]
      · by_cases hc0 : c = 0
        · subst hc0
          obtain ⟨w, hw15, rfl⟩ : ∃ w, w ≤ 15 ∧ v = nI w := by
            have t15 : (15 : Int32).toInt = 15 := by decide
            have t0 : (0 : Int32).toInt = 0 := by decide
            obtain ⟨q, hq, e⟩ := nI_of2 (x := v) (M := 15) (n := 15) (by decide) (fun z => by have := Int32.lt_iff_toInt_lt.mp z; omega) (Int32.le_iff_toInt_le.mpr (by omega))
            exact ⟨q, by omega, e⟩
          have e00 : nI 0 = 0 := rfl
          have e50 : nI (50 + 0) = 50 := rfl
          rw [e00] at r1
          rw [e50] at r2
          have x1 : ∀ k, k < 60 → (L (69 + 2 * j) k).toInt32 = (fun k => (L (69 + 2 * j) k).toInt32) k := fun _ _ => rfl
          have x2 : ∀ k, k < 60 → L 102 (60 * j + k) = ((fun k => (L (69 + 2 * j) k).toInt32) k).toInt64 := fun k hk => by
            obtain ⟨e1, e2⟩ := r5 k hk
            rw [e1]
            exact (zl_sm (e2 rfl)).symm
          generalize (fun k => (L (69 + 2 * j) k).toInt32) = X at x1 x2
          have hJ0 : ∀ s, zcI I X n s 0 (zw I 33 (upd (I 33) 6 0)) := fun s => ⟨fun a _ h => zw_n h, rfl, ht.2.2.1, ht.2.2.2.1, fun _ _ => ⟨rfl, rfl, rfl, rfl⟩, fun k hk => absurd hk (by omega)⟩
          have hM0 : ∀ s m J, zcI I X n s m J → zmI J X n s 0 J := fun s m J hJ => ⟨fun _ _ _ _ => rfl, by
            rw [Nat.add_zero, hJ.1 80 (by omega) (by omega), ← ht.2.1]
            funext q
            simp only [upd]
            split
            · subst_vars; rfl
            · rfl, ht.2.2.1, fun _ _ => rfl, fun _ _ => rfl, fun k hk => absurd hk (by omega)⟩
          by_cases y0 : y < 0
          · have y0' : ¬ 0 ≤ y := Int32.not_le.mpr y0
            have qp : ∀ d Q, zWM (d + 1) 50 [.ref (68 + 2 * j), .int y, .int 4] (zSH, zw I 33 (upd (I 33) 6 0), L, zP f g t) Q = Q (some (.int 0)) (zSH, zw I 33 (upd (I 33) 6 0), L, zP f g t) := fun d Q => by
              rw [c_hasPl a2, zb_f]
              intro q
              exact y0' q.1
            have w0 : ¬ w = 0 := fun e => by subst e; exact absurd k1 (by decide)
            have n0 : nI 0 = 0 := rfl
            have w0' : ¬ nI w ≤ 0 := fun q => by
              have q := Int32.le_iff_toInt_le.mp q
              rw [zi_nt (by omega), show (0 : Int32).toInt = 0 by decide] at q
              omega
            refine zOp_m (.int 0) (zw I 33 (upd (I 33) 6 0)) (zw I 33 (upd (I 33) 6 0)) (fun d Q => ?_) (fun d Q => ?_) (zRel_U (m := 0) (s := 0) (X := X) hR9 (hJ0 0) (hM0 0 0 _ (hJ0 0)))
            · simp (disch := first | assumption | rfl | omega | decide | exact zb_01 _) only [zabs_e, zmax_e, zmin_e, zrf_s, zpush_s, zpush_n, zw_app, upd_app, updL_app, Nat.reduceEqDiff, Nat.add_left_cancel_iff, Nat.add_eq_left, Nat.left_eq_add, ↓reduceIte, true_and, and_true, Int32.reduceToNatClampNeg, zin_O, zi_ltO, zi_leO, zi_Olt, zi_Ole, zi_eqO, Nat.not_lt_zero, Nat.zero_le, List.append_nil, zrn_n, zrn_s, List.cons_append, List.nil_append, zlg_lt, zlg_gt, zlg_le, zlg_ge, zlg_eq, Int32.toInt_toInt64, Int64.reduceToInt, zw_zw, zw_sw1, zw_sw2, zw_sw3, zw_sw4, zw_sw5, zw_sw6, zw_sw7, ne_eq, zi_in, zi_cl, zi_le, zi_lt, zi_eq, zi_neg, zi_0le, zb_0, if_true, if_false, eq_self, zb_T, zb_F, Bool.false_eq_true, zO_eq, zO_ne1, zO_ne2, zO_nn, zi_ne1, zi_ne2, zi_lt1, zi_le1, zi_lt2, zi_le2, Int32.reduceLT, Int32.reduceLE, Nat.reduceLT, Nat.reduceLeDiff, Int32.reduceMul, Int32.reduceAdd, Int32.reduceSub, not_false_eq_true, not_true_eq_false, Int32.reduceToInt, Int.reduceLE, Int.reduceLT, Int.reduceNeg, ite_self, E_X9_rounds, R_X9_rounds, SHF, PF, c_isShelf, zb_t h2, hj, k2, k3, k4, k5, a1, a2, r1]
              rw [H_X9_rounds_65]
              simp (disch := first | assumption | rfl | omega | decide | exact zb_01 _) only [zabs_e, zmax_e, zmin_e, zrf_s, zpush_s, zpush_n, zw_app, upd_app, updL_app, Nat.reduceEqDiff, Nat.add_left_cancel_iff, Nat.add_eq_left, Nat.left_eq_add, ↓reduceIte, true_and, and_true, Int32.reduceToNatClampNeg, zin_O, zi_ltO, zi_leO, zi_Olt, zi_Ole, zi_eqO, Nat.not_lt_zero, Nat.zero_le, List.append_nil, zrn_n, zrn_s, List.cons_append, List.nil_append, zlg_lt, zlg_gt, zlg_le, zlg_ge, zlg_eq, Int32.toInt_toInt64, Int64.reduceToInt, zw_zw, zw_sw1, zw_sw2, zw_sw3, zw_sw4, zw_sw5, zw_sw6, zw_sw7, ne_eq, zi_in, zi_cl, zi_le, zi_lt, zi_eq, zi_neg, zi_0le, zb_0, if_true, if_false, eq_self, zb_T, zb_F, Bool.false_eq_true, zO_eq, zO_ne1, zO_ne2, zO_nn, zi_ne1, zi_ne2, zi_lt1, zi_le1, zi_lt2, zi_le2, Int32.reduceLT, Int32.reduceLE, Nat.reduceLT, Nat.reduceLeDiff, Int32.reduceMul, Int32.reduceAdd, Int32.reduceSub, not_false_eq_true, not_true_eq_false, Int32.reduceToInt, Int.reduceLE, Int.reduceLT, Int.reduceNeg, ite_self, R_X9_rounds, SHF, PF, qp, w0, w0']
              try done
            · simp (disch := first | assumption | rfl | omega | decide | exact zb_01 _) only [zabs_e, zmax_e, zmin_e, zrf_s, zpush_s, zpush_n, zw_app, upd_app, updL_app, Nat.reduceEqDiff, Nat.add_left_cancel_iff, Nat.add_eq_left, Nat.left_eq_add, ↓reduceIte, true_and, and_true, Int32.reduceToNatClampNeg, zin_O, zi_ltO, zi_leO, zi_Olt, zi_Ole, zi_eqO, Nat.not_lt_zero, Nat.zero_le, List.append_nil, zrn_n, zrn_s, List.cons_append, List.nil_append, zlg_lt, zlg_gt, zlg_le, zlg_ge, zlg_eq, Int32.toInt_toInt64, Int64.reduceToInt, zw_zw, zw_sw1, zw_sw2, zw_sw3, zw_sw4, zw_sw5, zw_sw6, zw_sw7, ne_eq, zi_in, zi_cl, zi_le, zi_lt, zi_eq, zi_neg, zi_0le, zb_0, if_true, if_false, eq_self, zb_T, zb_F, Bool.false_eq_true, zO_eq, zO_ne1, zO_ne2, zO_nn, zi_ne1, zi_ne2, zi_lt1, zi_le1, zi_lt2, zi_le2, Int32.reduceLT, Int32.reduceLE, Nat.reduceLT, Nat.reduceLeDiff, Int32.reduceMul, Int32.reduceAdd, Int32.reduceSub, not_false_eq_true, not_true_eq_false, Int32.reduceToInt, Int.reduceLE, Int.reduceLT, Int.reduceNeg, ite_self, E_X10_rounds, R_X10_rounds, SHF, PF, m_isShelf, zb_t h1, h1, m_within, k1, hj, r2, y0, y0']
              rw [H_X10_rounds_69]
              simp (disch := first | assumption | rfl | omega | decide | exact zb_01 _) only [zabs_e, zmax_e, zmin_e, zrf_s, zpush_s, zpush_n, zw_app, upd_app, updL_app, Nat.reduceEqDiff, Nat.add_left_cancel_iff, Nat.add_eq_left, Nat.left_eq_add, ↓reduceIte, true_and, and_true, Int32.reduceToNatClampNeg, zin_O, zi_ltO, zi_leO, zi_Olt, zi_Ole, zi_eqO, Nat.not_lt_zero, Nat.zero_le, List.append_nil, zrn_n, zrn_s, List.cons_append, List.nil_append, zlg_lt, zlg_gt, zlg_le, zlg_ge, zlg_eq, Int32.toInt_toInt64, Int64.reduceToInt, zw_zw, zw_sw1, zw_sw2, zw_sw3, zw_sw4, zw_sw5, zw_sw6, zw_sw7, ne_eq, zi_in, zi_cl, zi_le, zi_lt, zi_eq, zi_neg, zi_0le, zb_0, if_true, if_false, eq_self, zb_T, zb_F, Bool.false_eq_true, zO_eq, zO_ne1, zO_ne2, zO_nn, zi_ne1, zi_ne2, zi_lt1, zi_le1, zi_lt2, zi_le2, Int32.reduceLT, Int32.reduceLE, Nat.reduceLT, Nat.reduceLeDiff, Int32.reduceMul, Int32.reduceAdd, Int32.reduceSub, not_false_eq_true, not_true_eq_false, Int32.reduceToInt, Int.reduceLE, Int.reduceLT, Int.reduceNeg, ite_self, R_X10_rounds, SHF, PF]
          · obtain ⟨s, hs31, rfl⟩ := nI_of y0
            obtain ⟨J, z1, q1⟩ := c_rnds_l (f := f) (g := g) (t := t) (I := I) (L := L) (n := n) (s := s) hj r3 hl' x1 hs31 hw15 (nI j) (nI s) w 0 _ (by omega) (hJ0 s) (Or.inl rfl)
            have j101 : J 101 j = nI l := by rw [z1.1 101 (by omega) (by omega)]; exact r4
            have j100 : J 100 j = 50 := by rw [z1.1 100 (by omega) (by omega)]; exact r2
            obtain ⟨M, z2, q2⟩ := m_rnds_l (f := f) (g := g) (t := t) (J := J) (L := L) (n := n) (s := s) hj j101 hl' x2 hs31 hw15 w 0 J (by omega) (hM0 s _ J z1)
            refine zOp_m (.int (nI (zrc X l n s w 0))) J M (fun d Q => ?_) (fun d Q => ?_) (zRel_U hR9 z1 z2)
            · rw [← q1 (d + 1) Q (.retAddr 0) (.retAddr 0) (.retAddr 0) (.retAddr 0)]
              simp (disch := first | assumption | rfl | omega | decide | exact zb_01 _) only [zabs_e, zmax_e, zmin_e, zrf_s, zpush_s, zpush_n, zw_app, upd_app, updL_app, Nat.reduceEqDiff, Nat.add_left_cancel_iff, Nat.add_eq_left, Nat.left_eq_add, ↓reduceIte, true_and, and_true, Int32.reduceToNatClampNeg, zin_O, zi_ltO, zi_leO, zi_Olt, zi_Ole, zi_eqO, Nat.not_lt_zero, Nat.zero_le, List.append_nil, zrn_n, zrn_s, List.cons_append, List.nil_append, zlg_lt, zlg_gt, zlg_le, zlg_ge, zlg_eq, Int32.toInt_toInt64, Int64.reduceToInt, zw_zw, zw_sw1, zw_sw2, zw_sw3, zw_sw4, zw_sw5, zw_sw6, zw_sw7, ne_eq, zi_in, zi_cl, zi_le, zi_lt, zi_eq, zi_neg, zi_0le, zb_0, if_true, if_false, eq_self, zb_T, zb_F, Bool.false_eq_true, zO_eq, zO_ne1, zO_ne2, zO_nn, zi_ne1, zi_ne2, zi_lt1, zi_le1, zi_lt2, zi_le2, Int32.reduceLT, Int32.reduceLE, Nat.reduceLT, Nat.reduceLeDiff, Int32.reduceMul, Int32.reduceAdd, Int32.reduceSub, not_false_eq_true, not_true_eq_false, Int32.reduceToInt, Int.reduceLE, Int.reduceLT, Int.reduceNeg, ite_self, E_X9_rounds, R_X9_rounds, SHF, PF, c_isShelf, zb_t h2, hj, k2, k3, k4, k5, a1, a2, r1]
              rfl
            · rw [← q2 (d + 1) Q (.retAddr 0)]
              simp (disch := first | assumption | rfl | omega | decide | exact zb_01 _) only [zabs_e, zmax_e, zmin_e, zrf_s, zpush_s, zpush_n, zw_app, upd_app, updL_app, Nat.reduceEqDiff, Nat.add_left_cancel_iff, Nat.add_eq_left, Nat.left_eq_add, ↓reduceIte, true_and, and_true, Int32.reduceToNatClampNeg, zin_O, zi_ltO, zi_leO, zi_Olt, zi_Ole, zi_eqO, Nat.not_lt_zero, Nat.zero_le, List.append_nil, zrn_n, zrn_s, List.cons_append, List.nil_append, zlg_lt, zlg_gt, zlg_le, zlg_ge, zlg_eq, Int32.toInt_toInt64, Int64.reduceToInt, zw_zw, zw_sw1, zw_sw2, zw_sw3, zw_sw4, zw_sw5, zw_sw6, zw_sw7, ne_eq, zi_in, zi_cl, zi_le, zi_lt, zi_eq, zi_neg, zi_0le, zb_0, if_true, if_false, eq_self, zb_T, zb_F, Bool.false_eq_true, zO_eq, zO_ne1, zO_ne2, zO_nn, zi_ne1, zi_ne2, zi_lt1, zi_le1, zi_lt2, zi_le2, Int32.reduceLT, Int32.reduceLE, Nat.reduceLT, Nat.reduceLeDiff, Int32.reduceMul, Int32.reduceAdd, Int32.reduceSub, not_false_eq_true, not_true_eq_false, Int32.reduceToInt, Int.reduceLE, Int.reduceLT, Int.reduceNeg, ite_self, E_X10_rounds, R_X10_rounds, SHF, PF, m_isShelf, zb_t h1, h1, m_within, k1, hj, j100]
              rfl
        · have c50 : ¬ 50 + c = 50 := by omega
          have cm : ¬ nI c = -2 := by rw [zi_ne1 (n := c) (m := 2) (by omega) (by omega) (by omega)]; exact not_false
          refine zOp_s hR (.int (-12)) (fun d Q => ?_) (fun d Q => ?_)
          · simp (disch := first | assumption | rfl | omega | decide | exact zb_01 _) only [zabs_e, zmax_e, zmin_e, zrf_s, zpush_s, zpush_n, zw_app, upd_app, updL_app, Nat.reduceEqDiff, Nat.add_left_cancel_iff, Nat.add_eq_left, Nat.left_eq_add, ↓reduceIte, true_and, and_true, Int32.reduceToNatClampNeg, zin_O, zi_ltO, zi_leO, zi_Olt, zi_Ole, zi_eqO, Nat.not_lt_zero, Nat.zero_le, List.append_nil, zrn_n, zrn_s, List.cons_append, List.nil_append, zlg_lt, zlg_gt, zlg_le, zlg_ge, zlg_eq, Int32.toInt_toInt64, Int64.reduceToInt, zw_zw, zw_sw1, zw_sw2, zw_sw3, zw_sw4, zw_sw5, zw_sw6, zw_sw7, ne_eq, zi_in, zi_cl, zi_le, zi_lt, zi_eq, zi_neg, zi_0le, zb_0, if_true, if_false, eq_self, zb_T, zb_F, Bool.false_eq_true, zO_eq, zO_ne1, zO_ne2, zO_nn, zi_ne1, zi_ne2, zi_lt1, zi_le1, zi_lt2, zi_le2, Int32.reduceLT, Int32.reduceLE, Nat.reduceLT, Nat.reduceLeDiff, Int32.reduceMul, Int32.reduceAdd, Int32.reduceSub, not_false_eq_true, not_true_eq_false, Int32.reduceToInt, Int.reduceLE, Int.reduceLT, Int.reduceNeg, ite_self, E_X9_rounds, R_X9_rounds, SHF, PF, c_isShelf, zb_t h2, hj, k2, k3, k4, k5, a1, a2, r1, cm, hc0]
          · simp (disch := first | assumption | rfl | omega | decide | exact zb_01 _) only [zabs_e, zmax_e, zmin_e, zrf_s, zpush_s, zpush_n, zw_app, upd_app, updL_app, Nat.reduceEqDiff, Nat.add_left_cancel_iff, Nat.add_eq_left, Nat.left_eq_add, ↓reduceIte, true_and, and_true, Int32.reduceToNatClampNeg, zin_O, zi_ltO, zi_leO, zi_Olt, zi_Ole, zi_eqO, Nat.not_lt_zero, Nat.zero_le, List.append_nil, zrn_n, zrn_s, List.cons_append, List.nil_append, zlg_lt, zlg_gt, zlg_le, zlg_ge, zlg_eq, Int32.toInt_toInt64, Int64.reduceToInt, zw_zw, zw_sw1, zw_sw2, zw_sw3, zw_sw4, zw_sw5, zw_sw6, zw_sw7, ne_eq, zi_in, zi_cl, zi_le, zi_lt, zi_eq, zi_neg, zi_0le, zb_0, if_true, if_false, eq_self, zb_T, zb_F, Bool.false_eq_true, zO_eq, zO_ne1, zO_ne2, zO_nn, zi_ne1, zi_ne2, zi_lt1, zi_le1, zi_lt2, zi_le2, Int32.reduceLT, Int32.reduceLE, Nat.reduceLT, Nat.reduceLeDiff, Int32.reduceMul, Int32.reduceAdd, Int32.reduceSub, not_false_eq_true, not_true_eq_false, Int32.reduceToInt, Int.reduceLE, Int.reduceLT, Int.reduceNeg, ite_self, E_X10_rounds, R_X10_rounds, SHF, PF, m_isShelf, zb_t h1, h1, m_within, k1, hj, r2, c50]
    · refine zOp_s hR (.int (-1)) (fun d Q => ?_) (fun d Q => ?_)
      · rcases k2 with ⟨k2, k3⟩ | ⟨k2, k3, k4, k5⟩
        · simp (disch := first | assumption | rfl | omega | decide | exact zb_01 _) only [zabs_e, zmax_e, zmin_e, zrf_s, zpush_s, zpush_n, zw_app, upd_app, updL_app, Nat.reduceEqDiff, Nat.add_left_cancel_iff, Nat.add_eq_left, Nat.left_eq_add, ↓reduceIte, true_and, and_true, Int32.reduceToNatClampNeg, zin_O, zi_ltO, zi_leO, zi_Olt, zi_Ole, zi_eqO, Nat.not_lt_zero, Nat.zero_le, List.append_nil, zrn_n, zrn_s, List.cons_append, List.nil_append, zlg_lt, zlg_gt, zlg_le, zlg_ge, zlg_eq, Int32.toInt_toInt64, Int64.reduceToInt, zw_zw, zw_sw1, zw_sw2, zw_sw3, zw_sw4, zw_sw5, zw_sw6, zw_sw7, ne_eq, zi_in, zi_cl, zi_le, zi_lt, zi_eq, zi_neg, zi_0le, zb_0, if_true, if_false, eq_self, zb_T, zb_F, Bool.false_eq_true, zO_eq, zO_ne1, zO_ne2, zO_nn, zi_ne1, zi_ne2, zi_lt1, zi_le1, zi_lt2, zi_le2, Int32.reduceLT, Int32.reduceLE, Nat.reduceLT, Nat.reduceLeDiff, Int32.reduceMul, Int32.reduceAdd, Int32.reduceSub, not_false_eq_true, not_true_eq_false, Int32.reduceToInt, Int.reduceLE, Int.reduceLT, Int.reduceNeg, ite_self, E_X9_rounds, R_X9_rounds, SHF, PF, c_isShelf, zb_t h2, k2, k3]
        · simp (disch := first | assumption | rfl | omega | decide | exact zb_01 _) only [zabs_e, zmax_e, zmin_e, zrf_s, zpush_s, zpush_n, zw_app, upd_app, updL_app, Nat.reduceEqDiff, Nat.add_left_cancel_iff, Nat.add_eq_left, Nat.left_eq_add, ↓reduceIte, true_and, and_true, Int32.reduceToNatClampNeg, zin_O, zi_ltO, zi_leO, zi_Olt, zi_Ole, zi_eqO, Nat.not_lt_zero, Nat.zero_le, List.append_nil, zrn_n, zrn_s, List.cons_append, List.nil_append, zlg_lt, zlg_gt, zlg_le, zlg_ge, zlg_eq, Int32.toInt_toInt64, Int64.reduceToInt, zw_zw, zw_sw1, zw_sw2, zw_sw3, zw_sw4, zw_sw5, zw_sw6, zw_sw7, ne_eq, zi_in, zi_cl, zi_le, zi_lt, zi_eq, zi_neg, zi_0le, zb_0, if_true, if_false, eq_self, zb_T, zb_F, Bool.false_eq_true, zO_eq, zO_ne1, zO_ne2, zO_nn, zi_ne1, zi_ne2, zi_lt1, zi_le1, zi_lt2, zi_le2, Int32.reduceLT, Int32.reduceLE, Nat.reduceLT, Nat.reduceLeDiff, Int32.reduceMul, Int32.reduceAdd, Int32.reduceSub, not_false_eq_true, not_true_eq_false, Int32.reduceToInt, Int.reduceLE, Int.reduceLT, Int.reduceNeg, ite_self, E_X9_rounds, R_X9_rounds, SHF, PF, c_isShelf, zb_t h2, k2, k3, k4, k5]
      · simp (disch := first | assumption | rfl | omega | decide | exact zb_01 _) only [zabs_e, zmax_e, zmin_e, zrf_s, zpush_s, zpush_n, zw_app, upd_app, updL_app, Nat.reduceEqDiff, Nat.add_left_cancel_iff, Nat.add_eq_left, Nat.left_eq_add, ↓reduceIte, true_and, and_true, Int32.reduceToNatClampNeg, zin_O, zi_ltO, zi_leO, zi_Olt, zi_Ole, zi_eqO, Nat.not_lt_zero, Nat.zero_le, List.append_nil, zrn_n, zrn_s, List.cons_append, List.nil_append, zlg_lt, zlg_gt, zlg_le, zlg_ge, zlg_eq, Int32.toInt_toInt64, Int64.reduceToInt, zw_zw, zw_sw1, zw_sw2, zw_sw3, zw_sw4, zw_sw5, zw_sw6, zw_sw7, ne_eq, zi_in, zi_cl, zi_le, zi_lt, zi_eq, zi_neg, zi_0le, zb_0, if_true, if_false, eq_self, zb_T, zb_F, Bool.false_eq_true, zO_eq, zO_ne1, zO_ne2, zO_nn, zi_ne1, zi_ne2, zi_lt1, zi_le1, zi_lt2, zi_le2, Int32.reduceLT, Int32.reduceLE, Nat.reduceLT, Nat.reduceLeDiff, Int32.reduceMul, Int32.reduceAdd, Int32.reduceSub, not_false_eq_true, not_true_eq_false, Int32.reduceToInt, Int.reduceLE, Int.reduceLT, Int.reduceNeg, ite_self, E_X10_rounds, R_X10_rounds, SHF, PF, m_isShelf, zb_t h1, h1, m_within, k1]
  · refine zOp_s hR (.int (-1)) (fun d Q => ?_) (fun d Q => ?_)
    · simp (disch := first | assumption | rfl | omega | decide | exact zb_01 _) only [zabs_e, zmax_e, zmin_e, zrf_s, zpush_s, zpush_n, zw_app, upd_app, updL_app, Nat.reduceEqDiff, Nat.add_left_cancel_iff, Nat.add_eq_left, Nat.left_eq_add, ↓reduceIte, true_and, and_true, Int32.reduceToNatClampNeg, zin_O, zi_ltO, zi_leO, zi_Olt, zi_Ole, zi_eqO, Nat.not_lt_zero, Nat.zero_le, List.append_nil, zrn_n, zrn_s, List.cons_append, List.nil_append, zlg_lt, zlg_gt, zlg_le, zlg_ge, zlg_eq, Int32.toInt_toInt64, Int64.reduceToInt, zw_zw, zw_sw1, zw_sw2, zw_sw3, zw_sw4, zw_sw5, zw_sw6, zw_sw7, ne_eq, zi_in, zi_cl, zi_le, zi_lt, zi_eq, zi_neg, zi_0le, zb_0, if_true, if_false, eq_self, zb_T, zb_F, Bool.false_eq_true, zO_eq, zO_ne1, zO_ne2, zO_nn, zi_ne1, zi_ne2, zi_lt1, zi_le1, zi_lt2, zi_le2, Int32.reduceLT, Int32.reduceLE, Nat.reduceLT, Nat.reduceLeDiff, Int32.reduceMul, Int32.reduceAdd, Int32.reduceSub, not_false_eq_true, not_true_eq_false, Int32.reduceToInt, Int.reduceLE, Int.reduceLT, Int.reduceNeg, ite_self, E_X9_rounds, R_X9_rounds, c_isShelf, SHF, PF, zb_f h1]
    · simp (disch := first | assumption | rfl | omega | decide | exact zb_01 _) only [zabs_e, zmax_e, zmin_e, zrf_s, zpush_s, zpush_n, zw_app, upd_app, updL_app, Nat.reduceEqDiff, Nat.add_left_cancel_iff, Nat.add_eq_left, Nat.left_eq_add, ↓reduceIte, true_and, and_true, Int32.reduceToNatClampNeg, zin_O, zi_ltO, zi_leO, zi_Olt, zi_Ole, zi_eqO, Nat.not_lt_zero, Nat.zero_le, List.append_nil, zrn_n, zrn_s, List.cons_append, List.nil_append, zlg_lt, zlg_gt, zlg_le, zlg_ge, zlg_eq, Int32.toInt_toInt64, Int64.reduceToInt, zw_zw, zw_sw1, zw_sw2, zw_sw3, zw_sw4, zw_sw5, zw_sw6, zw_sw7, ne_eq, zi_in, zi_cl, zi_le, zi_lt, zi_eq, zi_neg, zi_0le, zb_0, if_true, if_false, eq_self, zb_T, zb_F, Bool.false_eq_true, zO_eq, zO_ne1, zO_ne2, zO_nn, zi_ne1, zi_ne2, zi_lt1, zi_le1, zi_lt2, zi_le2, Int32.reduceLT, Int32.reduceLE, Nat.reduceLT, Nat.reduceLeDiff, Int32.reduceMul, Int32.reduceAdd, Int32.reduceSub, not_false_eq_true, not_true_eq_false, Int32.reduceToInt, Int.reduceLE, Int.reduceLT, Int.reduceNeg, ite_self, E_X10_rounds, R_X10_rounds, m_isShelf, SHF, PF, zb_f h2, h2]
end RNDS2
