/-! where reading may stop -/
def zBd (N : Nat) (X : Nat → zR) : Prop := ∀ p, p ≤ N → p ≤ (X p).2.1 ∧ (X p).2.1 ≤ N ∧ (X p).2.2.1.length + p ≤ (X p).2.1
section BD
variable {s nm : Nat → Int32} {N : Nat}
theorem zlvl_lt {lev : Int32} {p : Nat} (h : zlvl (zah s N p) = lev) (h2 : lev ≠ -2) : p < N := zah_lt (fun z => by rw [z] at h; exact h2 (h.symm.trans (by decide)))
theorem zdig_bd : ∀ k p v, p ≤ N → p ≤ (zdig (zah s N) k p v).1 ∧ (zdig (zah s N) k p v).1 ≤ N
  | 0, p, v, h => ⟨Nat.le_refl _, h⟩
  | k + 1, p, v, h => by
    unfold zdig
    by_cases e : zdg (zah s N p)
    · have e2 := zdg_lt e
      have e3 := zdig_bd k (p + 1) (10 * v + zah s N p - 48) (by omega)
      rw [if_pos e]
      exact ⟨by omega, e3.2⟩
    · rw [if_neg e]
      exact ⟨Nat.le_refl _, h⟩
theorem zdig_bd1 {p : Nat} {v : Int32} (e : zdg (zah s N p)) : p + 1 ≤ (zdig (zah s N) 4 p v).1 ∧ (zdig (zah s N) 4 p v).1 ≤ N := by
  have e2 := zdg_lt e
  have e3 := zdig_bd (s := s) (N := N) 3 (p + 1) (10 * v + zah s N p - 48) (by omega)
  unfold zdig
  rw [if_pos e]
  exact e3
theorem zloop_bd {lev : Int32} (hl : lev ≠ -2) {X : Nat → zR} (hX : zBd N X) : ∀ k p c v o, p ≤ N → p ≤ (zloop (zah s N) lev X k p c v o).2.1 ∧ (zloop (zah s N) lev X k p c v o).2.1 ≤ N ∧ (zloop (zah s N) lev X k p c v o).2.2.1.length + p ≤ (zloop (zah s N) lev X k p c v o).2.1 + c.length
  | 0, p, c, v, o, h => ⟨Nat.le_refl _, h, by unfold zloop; dsimp only; omega⟩
  | k + 1, p, c, v, o, h => by
    unfold zloop
    by_cases e : zlvl (zah s N p) = lev
    · have e1 := zlvl_lt e hl
      have e2 := hX (p + 1) (by omega)
      rw [if_pos e]
      by_cases e3 : (X (p + 1)).1 = true
      · have e4 := zloop_bd hl hX k (X (p + 1)).2.1 (c ++ (X (p + 1)).2.2.1 ++ [(zah s N p, 0)]) (zjn (zah s N p) v (X (p + 1)).2.2.2.1) (X (p + 1)).2.2.2.2 e2.2.1
        rw [if_pos e3]
        simp only [List.length_append, List.length_cons, List.length_nil] at e4
        exact ⟨by omega, e4.2.1, by omega⟩
      · rw [if_neg e3]
        simp only [List.length_append]
        exact ⟨by omega, e2.2.1, by omega⟩
    · rw [if_neg e]
      exact ⟨Nat.le_refl _, h, by dsimp only; omega⟩
theorem zlev_bd {lev : Int32} (hl : lev ≠ -2) {k : Nat} {X : Nat → zR} (hX : zBd N X) : zBd N (zlev (zah s N) lev k X) := by
  intro p hp
  have e := hX p hp
  unfold zlev
  by_cases h : (X p).1 = true
  · rw [if_pos h]
    have e2 := zloop_bd (s := s) hl hX k (X p).2.1 (X p).2.2.1 (X p).2.2.2.1 (X p).2.2.2.2 e.2.1
    exact ⟨by omega, e2.2.1, by omega⟩
  · rw [if_neg h]
    exact e
theorem zexp_bd {X : Nat → zR} (hX : zBd N X) : zBd N (zexp (zah s N) X) := zlev_bd (by decide) (zlev_bd (by decide) (zlev_bd (by decide) (zlev_bd (by decide) (zlev_bd (by decide) hX))))
theorem znm_lt {p : Nat} (h : ¬ znm (zah s N p) = -2) : p < N := zah_lt (fun z => by rw [z] at h; exact h (by decide))
theorem zone_bd : ∀ r, zBd N (zone (zah s N) nm r)
  | 0 => by
    intro p hp
    unfold zone
    by_cases h1 : zdg (zah s N p)
    · have e := zdig_bd1 (v := 0) h1
      rw [if_pos h1]
      simp only [List.length_cons, List.length_nil]
      exact ⟨by omega, e.2, by omega⟩
    · rw [if_neg h1]
      by_cases h2 : ¬ znm (zah s N p) = -2
      · have e := znm_lt h2
        rw [if_pos h2]
        simp only [List.length_cons, List.length_nil]
        exact ⟨by omega, by omega, by omega⟩
      · rw [if_neg h2]
        simp only [List.length_nil]
        exact ⟨Nat.le_refl _, hp, by omega⟩
  | r + 1 => by
    intro p hp
    have ih := zone_bd r
    have ih2 := zexp_bd (s := s) ih
    unfold zone
    by_cases h1 : zdg (zah s N p)
    · have e := zdig_bd1 (v := 0) h1
      rw [if_pos h1]
      simp only [List.length_cons, List.length_nil]
      exact ⟨by omega, e.2, by omega⟩
    rw [if_neg h1]
    by_cases h2 : ¬ znm (zah s N p) = -2
    · have e := znm_lt h2
      rw [if_pos h2]
      simp only [List.length_cons, List.length_nil]
      exact ⟨by omega, by omega, by omega⟩
    rw [if_neg h2]
    by_cases h3 : zah s N p = 40
    · have e := zah_lt (fun z => absurd (z.symm.trans h3) (by decide))
      have e2 := ih2 (p + 1) (by omega)
      rw [if_pos h3]
      by_cases h4 : (zexp (zah s N) (zone (zah s N) nm r) (p + 1)).1 = true
      · rw [if_pos h4]
        by_cases h5 : zah s N (zexp (zah s N) (zone (zah s N) nm r) (p + 1)).2.1 = 41
        · have e3 := zah_lt (fun z => absurd (z.symm.trans h5) (by decide))
          rw [if_pos h5]
          exact ⟨by dsimp only; omega, by dsimp only; omega, by dsimp only; omega⟩
        · rw [if_neg h5]
          exact ⟨by dsimp only; omega, by dsimp only; omega, by dsimp only; omega⟩
      · rw [if_neg h4]
        exact ⟨by dsimp only; omega, by dsimp only; omega, by dsimp only; omega⟩
    rw [if_neg h3]
    by_cases h4 : zah s N p = 33
    · have e := zah_lt (fun z => absurd (z.symm.trans h4) (by decide))
      have e2 := ih (p + 1) (by omega)
      rw [if_pos h4]
      split <;> simp only [List.length_append, List.length_cons, List.length_nil] <;> exact ⟨by omega, by omega, by omega⟩
    rw [if_neg h4]
    by_cases h5 : zah s N p = 45
    · have e := zah_lt (fun z => absurd (z.symm.trans h5) (by decide))
      have e2 := ih (p + 1) (by omega)
      rw [if_pos h5]
      split <;> simp only [List.length_append, List.length_cons, List.length_nil] <;> exact ⟨by omega, by omega, by omega⟩
    rw [if_neg h5]
    exact ⟨Nat.le_refl _, hp, by simp only [List.length_nil]; omega⟩
end BD
/-! the class's parser -/
section PARSE2
variable {d e f g N : Nat} {t : Option Nat} {I : Nat → Nat → Int32} {L : Nat → Nat → Int64}
/-- what reads a level -/
def zCC (N e f g : Nat) (I : Nat → Nat → Int32) (L : Nat → Nat → Int64) (K l o : Nat) (X : Nat → zR) : Prop := ∀ d p c Q, p ≤ N → zWM (d + K) 35 [.ref 31, .int (nI l), .int (nI o)] (zSH, zE e I p c, L, zP f g (some e)) Q = Q (some (.int (zb ((X p).1 = true)))) (zSH, zE e I (X p).2.1 (c ++ (X p).2.2.1), L, zP f g (some e))
def zCO (N e f g : Nat) (I : Nat → Nat → Int32) (L : Nat → Nat → Int64) (K o : Nat) (X : Nat → zR) : Prop := ∀ d p c Q, p ≤ N → zWM (d + K) 36 [.ref 31, .int (nI o)] (zSH, zE e I p c, L, zP f g (some e)) Q = Q (some (.int (zb ((X p).1 = true)))) (zSH, zE e I (X p).2.1 (c ++ (X p).2.2.1), L, zP f g (some e))
theorem zCC_5 {K o : Nat} {X : Nat → zR} (hX : zCO N e f g I L K o X) : zCC N e f g I L (K + 1) 5 o X := by
  intro d p c Q hp
  have q := hX d p c
  have e1 : nI 5 = 5 := rfl
  rw [show d + (K + 1) = d + K + 1 by omega]
  simp (disch := first | assumption | rfl | omega | decide | exact zb_01 _) only [zabs_e, zmax_e, zmin_e, zrf_s, zpush_s, zpush_n, zw_app, upd_app, updL_app, Nat.reduceEqDiff, Nat.add_left_cancel_iff, Nat.add_eq_left, Nat.left_eq_add, ↓reduceIte, true_and, and_true, Int32.reduceToNatClampNeg, zin_O, zi_ltO, zi_leO, zi_Olt, zi_Ole, zi_eqO, Nat.not_lt_zero, Nat.zero_le, List.append_nil, zrn_n, zrn_s, List.cons_append, List.nil_append, zlg_lt, zlg_gt, zlg_le, zlg_ge, zlg_eq, Int32.toInt_toInt64, Int64.reduceToInt, zw_zw, zw_sw1, zw_sw2, zw_sw3, zw_sw4, zw_sw5, zw_sw6, zw_sw7, ne_eq, zi_in, zi_cl, zi_le, zi_lt, zi_eq, zi_neg, zi_0le, zb_0, if_true, if_false, eq_self, zb_T, zb_F, Bool.false_eq_true, zO_eq, zO_ne1, zO_ne2, zO_nn, zi_ne1, zi_ne2, zi_lt1, zi_le1, zi_lt2, zi_le2, Int32.reduceLT, Int32.reduceLE, Nat.reduceLT, Nat.reduceLeDiff, Int32.reduceMul, Int32.reduceAdd, Int32.reduceSub, not_false_eq_true, not_true_eq_false, E_X4_chain, R_X4_chain, e1, SHF, q]
theorem zCC_l (he : zpr e) (hN : I 31 1 = nI N) (h120 : N ≤ 120) {K l o k : Nat} {X : Nat → zR} (hK : 2 ≤ K) (hl : l < 5) (hk : (if l = 2 then 1 else 120) = k) (hB : zBd N X) (hX : zCC N e f g I L K (l + 1) o X) : zCC N e f g I L (K + 1) l o (zlev (zah (I 32) N) (nI l) k X) := by
  intro d p c Q hp
  have hs := zpr_s he
  have a1 : zP f g (some e) e 0 = some (e + 1) := by rcases he with rfl | rfl <;> rfl
  have a2 : zP f g (some e) e 1 = some (e + 2) := by rcases he with rfl | rfl <;> rfl
  obtain ⟨K, rfl⟩ : ∃ j, K = j + 2 := ⟨K - 2, by omega⟩
  have hB1 := hB p hp
  have hk9 : k ≤ 120 := by rw [← hk]; split <;> omega
  have q := fun Q => hX d p c Q hp
  have l5 : ¬ 5 ≤ l := by omega
  have hl2 : nI l ≠ -2 := fun z => by
    have z2 := congrArg Int32.toInt z
    rw [zi_nt (by omega)] at z2
    have z3 : (-2 : Int32).toInt = -2 := by decide
    omega
  have loop : ∀ i p c1 v o1 (l5 : Value), i ≤ k → p ≤ N → zWp (d + (K + 2)) zi_35 none 39 [.ref 31, .int (nI l), .int (nI o), .int (nI k), .int (nI (k - i)), l5] [] (zSH, zE e I p (c ++ c1), L, zP f g (some e)) Q = Q (some (.int (zb ((zloop (zah (I 32) N) (nI l) X i p c1 v o1).1 = true)))) (zSH, zE e I (zloop (zah (I 32) N) (nI l) X i p c1 v o1).2.1 (c ++ (zloop (zah (I 32) N) (nI l) X i p c1 v o1).2.2.1), L, zP f g (some e)) := by
    intro i
    induction i with
    | zero =>
      intro p c1 v o1 l5 _ hp
      rw [H_X4_chain_39]
      simp (disch := first | assumption | rfl | omega | decide | exact zb_01 _) only [zabs_e, zmax_e, zmin_e, zrf_s, zpush_s, zpush_n, zw_app, upd_app, updL_app, Nat.reduceEqDiff, Nat.add_left_cancel_iff, Nat.add_eq_left, Nat.left_eq_add, ↓reduceIte, true_and, and_true, Int32.reduceToNatClampNeg, zin_O, zi_ltO, zi_leO, zi_Olt, zi_Ole, zi_eqO, Nat.not_lt_zero, Nat.zero_le, List.append_nil, zrn_n, zrn_s, List.cons_append, List.nil_append, zlg_lt, zlg_gt, zlg_le, zlg_ge, zlg_eq, Int32.toInt_toInt64, Int64.reduceToInt, zw_zw, zw_sw1, zw_sw2, zw_sw3, zw_sw4, zw_sw5, zw_sw6, zw_sw7, ne_eq, zi_in, zi_cl, zi_le, zi_lt, zi_eq, zi_neg, zi_0le, zb_0, if_true, if_false, eq_self, zb_T, zb_F, Bool.false_eq_true, zO_eq, zO_ne1, zO_ne2, zO_nn, zi_ne1, zi_ne2, zi_lt1, zi_le1, zi_lt2, zi_le2, Int32.reduceLT, Int32.reduceLE, Nat.reduceLT, Nat.reduceLeDiff, Int32.reduceMul, Int32.reduceAdd, Int32.reduceSub, not_false_eq_true, not_true_eq_false, R_X4_chain, Nat.sub_zero, Nat.le_refl]
      rfl
    | succ i ih =>
      intro p c1 v o1 l5 hi hp
      have g1 : ¬ k ≤ k - (i + 1) := by omega
      have g2 : k - (i + 1) + 1 = k - i := by omega
      rw [H_X4_chain_39]
      rw [show d + (K + 2) = d + K + 1 + 1 by omega] at *
      simp (disch := first | assumption | rfl | omega | decide | exact zb_01 _) only [zabs_e, zmax_e, zmin_e, zrf_s, zpush_s, zpush_n, zw_app, upd_app, updL_app, Nat.reduceEqDiff, Nat.add_left_cancel_iff, Nat.add_eq_left, Nat.left_eq_add, ↓reduceIte, true_and, and_true, Int32.reduceToNatClampNeg, zin_O, zi_ltO, zi_leO, zi_Olt, zi_Ole, zi_eqO, Nat.not_lt_zero, Nat.zero_le, List.append_nil, zrn_n, zrn_s, List.cons_append, List.nil_append, zlg_lt, zlg_gt, zlg_le, zlg_ge, zlg_eq, Int32.toInt_toInt64, Int64.reduceToInt, zw_zw, zw_sw1, zw_sw2, zw_sw3, zw_sw4, zw_sw5, zw_sw6, zw_sw7, ne_eq, zi_in, zi_cl, zi_le, zi_lt, zi_eq, zi_neg, zi_0le, zb_0, if_true, if_false, eq_self, zb_T, zb_F, Bool.false_eq_true, zO_eq, zO_ne1, zO_ne2, zO_nn, zi_ne1, zi_ne2, zi_lt1, zi_le1, zi_lt2, zi_le2, Int32.reduceLT, Int32.reduceLE, Nat.reduceLT, Nat.reduceLeDiff, Int32.reduceMul, Int32.reduceAdd, Int32.reduceSub, not_false_eq_true, not_true_eq_false, R_X4_chain, g1, g2, zi_s, SHF, PF, zE_31 he, upd_upd, zE_p he, c_ahead he hN h120, c_levelOf, c_add he _ _ a1 a2]
      unfold zloop
      by_cases h1 : zlvl (zah (I 32) N p) = nI l
      · have hp2 := zlvl_lt h1 hl2
        have hB2 := hB (p + 1) hp2
        have q2 := fun Q => hX d (p + 1) (c ++ c1) Q hp2
        rw [show d + (K + 2) = d + K + 1 + 1 by omega] at q2
        rw [if_pos h1, if_pos h1]
        simp (disch := first | assumption | rfl | omega | decide | exact zb_01 _) only [zabs_e, zmax_e, zmin_e, zrf_s, zpush_s, zpush_n, zw_app, upd_app, updL_app, Nat.reduceEqDiff, Nat.add_left_cancel_iff, Nat.add_eq_left, Nat.left_eq_add, ↓reduceIte, true_and, and_true, Int32.reduceToNatClampNeg, zin_O, zi_ltO, zi_leO, zi_Olt, zi_Ole, zi_eqO, Nat.not_lt_zero, Nat.zero_le, List.append_nil, zrn_n, zrn_s, List.cons_append, List.nil_append, zlg_lt, zlg_gt, zlg_le, zlg_ge, zlg_eq, Int32.toInt_toInt64, Int64.reduceToInt, zw_zw, zw_sw1, zw_sw2, zw_sw3, zw_sw4, zw_sw5, zw_sw6, zw_sw7, ne_eq, zi_in, zi_cl, zi_le, zi_lt, zi_eq, zi_neg, zi_0le, zb_0, if_true, if_false, eq_self, zb_T, zb_F, Bool.false_eq_true, zO_eq, zO_ne1, zO_ne2, zO_nn, zi_ne1, zi_ne2, zi_lt1, zi_le1, zi_lt2, zi_le2, Int32.reduceLT, Int32.reduceLE, Nat.reduceLT, Nat.reduceLeDiff, Int32.reduceMul, Int32.reduceAdd, Int32.reduceSub, not_false_eq_true, not_true_eq_false, q2, R_X4_chain, g1, g2, zi_s, SHF, PF, zE_31 he, upd_upd, zE_p he, c_ahead he hN h120, c_levelOf, c_add he _ _ a1 a2]
        by_cases h2 : (X (p + 1)).1 = true
        · rw [if_neg (not_not_intro h2), if_pos h2]
          have ih2 := ih (X (p + 1)).2.1 (c1 ++ (X (p + 1)).2.2.1 ++ [(zah (I 32) N p, 0)]) (zjn (zah (I 32) N p) v (X (p + 1)).2.2.2.1) (X (p + 1)).2.2.2.2 (.int (zah (I 32) N p)) (by omega) hB2.2.1
          rw [← List.append_assoc, ← List.append_assoc] at ih2
          exact ih2
        · rw [if_pos h2, if_neg h2, zb_f (fun z => Bool.noConfusion z), List.append_assoc]
      · rw [if_neg h1, if_neg h1]
        rfl
  rw [show d + (K + 2 + 1) = d + (K + 2) + 1 by omega]
  simp (disch := first | assumption | rfl | omega | decide | exact zb_01 _) only [zabs_e, zmax_e, zmin_e, zrf_s, zpush_s, zpush_n, zw_app, upd_app, updL_app, Nat.reduceEqDiff, Nat.add_left_cancel_iff, Nat.add_eq_left, Nat.left_eq_add, ↓reduceIte, true_and, and_true, Int32.reduceToNatClampNeg, zin_O, zi_ltO, zi_leO, zi_Olt, zi_Ole, zi_eqO, Nat.not_lt_zero, Nat.zero_le, List.append_nil, zrn_n, zrn_s, List.cons_append, List.nil_append, zlg_lt, zlg_gt, zlg_le, zlg_ge, zlg_eq, Int32.toInt_toInt64, Int64.reduceToInt, zw_zw, zw_sw1, zw_sw2, zw_sw3, zw_sw4, zw_sw5, zw_sw6, zw_sw7, ne_eq, zi_in, zi_cl, zi_le, zi_lt, zi_eq, zi_neg, zi_0le, zb_0, if_true, if_false, eq_self, zb_T, zb_F, Bool.false_eq_true, zO_eq, zO_ne1, zO_ne2, zO_nn, zi_ne1, zi_ne2, zi_lt1, zi_le1, zi_lt2, zi_le2, Int32.reduceLT, Int32.reduceLE, Nat.reduceLT, Nat.reduceLeDiff, Int32.reduceMul, Int32.reduceAdd, Int32.reduceSub, not_false_eq_true, not_true_eq_false, E_X4_chain, R_X4_chain, zi_s, SHF, q]
  unfold zlev
  by_cases h1 : (X p).1 = true
  · have lo := loop k (X p).2.1 (X p).2.2.1 (X p).2.2.2.1 (X p).2.2.2.2 (.retAddr 0) (Nat.le_refl _) hB1.2.1
    rw [Nat.sub_self] at lo
    rw [if_pos hl, if_neg (not_not_intro h1), if_pos h1]
    rw [← lo]
    by_cases h2 : l = 2
    · rw [if_pos h2] at hk ⊢
      rw [← hk]
      rfl
    · rw [if_neg h2] at hk ⊢
      rw [← hk]
      rfl
  · rw [if_pos hl, if_pos h1, if_neg h1, zb_f h1]
theorem zCC_exp (he : zpr e) (hN : I 31 1 = nI N) (h120 : N ≤ 120) {K o : Nat} {X : Nat → zR} (hK : 1 ≤ K) (hB : zBd N X) (hX : zCO N e f g I L K o X) : zCC N e f g I L (K + 6) 0 o (zexp (zah (I 32) N) X) := by
  have q5 := zCC_5 hX
  have q4 := zCC_l he hN h120 (l := 4) (by omega) (by omega) rfl hB q5
  have b4 : zBd N (zlev (zah (I 32) N) (nI 4) (if 4 = 2 then 1 else 120) X) := zlev_bd (by decide) hB
  have q3 := zCC_l he hN h120 (l := 3) (by omega) (by omega) rfl b4 q4
  have b3 := zlev_bd (s := I 32) (lev := nI 3) (k := if 3 = 2 then 1 else 120) (by decide) b4
  have q2 := zCC_l he hN h120 (l := 2) (by omega) (by omega) rfl b3 q3
  have b2 := zlev_bd (s := I 32) (lev := nI 2) (k := if 2 = 2 then 1 else 120) (by decide) b3
  have q1 := zCC_l he hN h120 (l := 1) (by omega) (by omega) rfl b2 q2
  have b1 := zlev_bd (s := I 32) (lev := nI 1) (k := if 1 = 2 then 1 else 120) (by decide) b2
  have q0 := zCC_l he hN h120 (l := 0) (by omega) (by omega) rfl b1 q1
  exact q0
theorem zCO_0 (he : zpr e) (hN : I 31 1 = nI N) (h120 : N ≤ 120) (nm : Nat → Int32) : zCO N e f g I L 3 6 (zone (zah (I 32) N) nm 0) := by
  intro d p c Q hp
  have hs := zpr_s he
  have a1 : zP f g (some e) e 0 = some (e + 1) := by rcases he with rfl | rfl <;> rfl
  have a2 : zP f g (some e) e 1 = some (e + 2) := by rcases he with rfl | rfl <;> rfl
  have e6 : nI 6 = 6 := rfl
  rw [show d + 3 = d + 2 + 1 by omega]
  simp (disch := first | assumption | rfl | omega | decide | exact zb_01 _) only [zabs_e, zmax_e, zmin_e, zrf_s, zpush_s, zpush_n, zw_app, upd_app, updL_app, Nat.reduceEqDiff, Nat.add_left_cancel_iff, Nat.add_eq_left, Nat.left_eq_add, ↓reduceIte, true_and, and_true, Int32.reduceToNatClampNeg, zin_O, zi_ltO, zi_leO, zi_Olt, zi_Ole, zi_eqO, Nat.not_lt_zero, Nat.zero_le, List.append_nil, zrn_n, zrn_s, List.cons_append, List.nil_append, zlg_lt, zlg_gt, zlg_le, zlg_ge, zlg_eq, Int32.toInt_toInt64, Int64.reduceToInt, zw_zw, zw_sw1, zw_sw2, zw_sw3, zw_sw4, zw_sw5, zw_sw6, zw_sw7, ne_eq, zi_in, zi_cl, zi_le, zi_lt, zi_eq, zi_neg, zi_0le, zb_0, if_true, if_false, eq_self, zb_T, zb_F, Bool.false_eq_true, zO_eq, zO_ne1, zO_ne2, zO_nn, zi_ne1, zi_ne2, zi_lt1, zi_le1, zi_lt2, zi_le2, Int32.reduceLT, Int32.reduceLE, Nat.reduceLT, Nat.reduceLeDiff, Int32.reduceMul, Int32.reduceAdd, Int32.reduceSub, not_false_eq_true, not_true_eq_false, E_X4_operand, R_X4_operand, e6, SHF, PF, zi_s, zE_31 he, upd_upd, zE_p he, c_ahead he hN h120, c_isDigit, c_nameOf, c_number he hN h120 hp, c_add he _ _ a1 a2]
  unfold zone
  by_cases h1 : zdg (zah (I 32) N p)
  · rw [if_neg (not_not_intro h1), if_pos h1, zb_t rfl]
  rw [if_pos h1, if_neg h1]
  by_cases h2 : znm (zah (I 32) N p) = -2
  · rw [if_pos h2, if_neg (not_not_intro h2), zb_f (fun z => Bool.noConfusion z), List.append_nil]
  · rw [if_neg h2, if_pos h2, zb_t rfl]
theorem zCO_s (he : zpr e) (hN : I 31 1 = nI N) (h120 : N ≤ 120) (nm : Nat → Int32) {K r : Nat} (hK : 1 ≤ K) (hr : r < 6) (hX : zCO N e f g I L K (6 - r) (zone (zah (I 32) N) nm r)) : zCO N e f g I L (K + 7) (5 - r) (zone (zah (I 32) N) nm (r + 1)) := by
  intro d p c Q hp
  have hB := zone_bd (s := I 32) (N := N) (nm := nm) r
  have hC := zCC_exp he hN h120 hK hB hX
  have hBC := zexp_bd (s := I 32) hB
  have hs := zpr_s he
  have a1 : zP f g (some e) e 0 = some (e + 1) := by rcases he with rfl | rfl <;> rfl
  have a2 : zP f g (some e) e 1 = some (e + 2) := by rcases he with rfl | rfl <;> rfl
  obtain ⟨K, rfl⟩ : ∃ j, K = j + 1 := ⟨K - 1, by omega⟩
  rw [show d + (K + 1 + 7) = d + K + 7 + 1 by omega]
  have o1 : 5 - r + 1 = 6 - r := by omega
  have o2 : ¬ 6 ≤ 5 - r := by omega
  by_cases hd : zdg (zah (I 32) N p)
  · rw [zone]
    rw [if_pos hd]
    have hd2 : (¬ zdg (zah (I 32) N p)) = False := eq_false (fun z => z hd)
    simp (disch := first | assumption | rfl | omega | decide | exact zb_01 _) only [zabs_e, zmax_e, zmin_e, zrf_s, zpush_s, zpush_n, zw_app, upd_app, updL_app, Nat.reduceEqDiff, Nat.add_left_cancel_iff, Nat.add_eq_left, Nat.left_eq_add, ↓reduceIte, true_and, and_true, Int32.reduceToNatClampNeg, zin_O, zi_ltO, zi_leO, zi_Olt, zi_Ole, zi_eqO, Nat.not_lt_zero, Nat.zero_le, List.append_nil, zrn_n, zrn_s, List.cons_append, List.nil_append, zlg_lt, zlg_gt, zlg_le, zlg_ge, zlg_eq, Int32.toInt_toInt64, Int64.reduceToInt, zw_zw, zw_sw1, zw_sw2, zw_sw3, zw_sw4, zw_sw5, zw_sw6, zw_sw7, ne_eq, zi_in, zi_cl, zi_le, zi_lt, zi_eq, zi_neg, zi_0le, zb_0, if_true, if_false, eq_self, zb_T, zb_F, Bool.false_eq_true, zO_eq, zO_ne1, zO_ne2, zO_nn, zi_ne1, zi_ne2, zi_lt1, zi_le1, zi_lt2, zi_le2, Int32.reduceLT, Int32.reduceLE, Nat.reduceLT, Nat.reduceLeDiff, Int32.reduceMul, Int32.reduceAdd, Int32.reduceSub, not_false_eq_true, not_true_eq_false, E_X4_operand, R_X4_operand, SHF, PF, c_ahead he hN h120, c_isDigit, hd2, c_number he hN h120 hp, zb_t]
  have hd2 : (¬ zdg (zah (I 32) N p)) = True := eq_true hd
  by_cases h2 : znm (zah (I 32) N p) = -2
  · by_cases h3 : zah (I 32) N p = 40
    · have hp2 := zah_lt (fun z => absurd (z.symm.trans h3) (by decide))
      have q := fun Q => hC d (p + 1) c Q hp2
      have hq := hBC (p + 1) hp2
      rw [show d + (K + 1 + 6) = d + K + 7 by omega] at q
      simp only [show nI 0 = 0 from rfl] at q
      simp (disch := first | assumption | rfl | omega | decide | exact zb_01 _) only [zabs_e, zmax_e, zmin_e, zrf_s, zpush_s, zpush_n, zw_app, upd_app, updL_app, Nat.reduceEqDiff, Nat.add_left_cancel_iff, Nat.add_eq_left, Nat.left_eq_add, ↓reduceIte, true_and, and_true, Int32.reduceToNatClampNeg, zin_O, zi_ltO, zi_leO, zi_Olt, zi_Ole, zi_eqO, Nat.not_lt_zero, Nat.zero_le, List.append_nil, zrn_n, zrn_s, List.cons_append, List.nil_append, zlg_lt, zlg_gt, zlg_le, zlg_ge, zlg_eq, Int32.toInt_toInt64, Int64.reduceToInt, zw_zw, zw_sw1, zw_sw2, zw_sw3, zw_sw4, zw_sw5, zw_sw6, zw_sw7, ne_eq, zi_in, zi_cl, zi_le, zi_lt, zi_eq, zi_neg, zi_0le, zb_0, if_true, if_false, eq_self, zb_T, zb_F, Bool.false_eq_true, zO_eq, zO_ne1, zO_ne2, zO_nn, zi_ne1, zi_ne2, zi_lt1, zi_le1, zi_lt2, zi_le2, Int32.reduceLT, Int32.reduceLE, Nat.reduceLT, Nat.reduceLeDiff, Int32.reduceMul, Int32.reduceAdd, Int32.reduceSub, not_false_eq_true, not_true_eq_false, E_X4_operand, R_X4_operand, SHF, PF, zi_s, zE_31 he, upd_upd, zE_p he, c_ahead he hN h120, c_isDigit, c_nameOf, show (¬ zdg 40) = True from eq_true (by decide), show znm 40 = -2 by decide, h3, o1, o2, q]
      rw [zone]
      rw [if_neg hd, if_neg (not_not_intro h2), if_pos h3]
      by_cases h4 : (zexp (zah (I 32) N) (zone (zah (I 32) N) nm r) (p + 1)).1 = true
      · rw [if_neg (not_not_intro h4), if_pos h4]
        by_cases h5 : zah (I 32) N (zexp (zah (I 32) N) (zone (zah (I 32) N) nm r) (p + 1)).2.1 = 41
        · rw [if_pos h5, if_pos h5, zb_t rfl]
        · rw [if_neg h5, if_neg h5, zb_f (fun z => Bool.noConfusion z)]
      · rw [if_pos h4, if_neg h4, zb_f (fun z => Bool.noConfusion z)]
    · by_cases h4 : zah (I 32) N p = 33
      · have hp2 := zah_lt (fun z => absurd (z.symm.trans h4) (by decide))
        have q := fun Q => hX (d + 6) (p + 1) c Q hp2
        rw [show d + 6 + (K + 1) = d + K + 7 by omega] at q
        simp (disch := first | assumption | rfl | omega | decide | exact zb_01 _) only [zabs_e, zmax_e, zmin_e, zrf_s, zpush_s, zpush_n, zw_app, upd_app, updL_app, Nat.reduceEqDiff, Nat.add_left_cancel_iff, Nat.add_eq_left, Nat.left_eq_add, ↓reduceIte, true_and, and_true, Int32.reduceToNatClampNeg, zin_O, zi_ltO, zi_leO, zi_Olt, zi_Ole, zi_eqO, Nat.not_lt_zero, Nat.zero_le, List.append_nil, zrn_n, zrn_s, List.cons_append, List.nil_append, zlg_lt, zlg_gt, zlg_le, zlg_ge, zlg_eq, Int32.toInt_toInt64, Int64.reduceToInt, zw_zw, zw_sw1, zw_sw2, zw_sw3, zw_sw4, zw_sw5, zw_sw6, zw_sw7, ne_eq, zi_in, zi_cl, zi_le, zi_lt, zi_eq, zi_neg, zi_0le, zb_0, if_true, if_false, eq_self, zb_T, zb_F, Bool.false_eq_true, zO_eq, zO_ne1, zO_ne2, zO_nn, zi_ne1, zi_ne2, zi_lt1, zi_le1, zi_lt2, zi_le2, Int32.reduceLT, Int32.reduceLE, Nat.reduceLT, Nat.reduceLeDiff, Int32.reduceMul, Int32.reduceAdd, Int32.reduceSub, not_false_eq_true, not_true_eq_false, E_X4_operand, R_X4_operand, SHF, PF, zi_s, zE_31 he, upd_upd, zE_p he, c_ahead he hN h120, c_isDigit, c_nameOf, show (¬ zdg 33) = True from eq_true (by decide), show znm 33 = -2 by decide, h4, o1, o2, q, c_add he _ _ a1 a2]
        rw [zone]
        rw [if_neg hd, if_neg (not_not_intro h2), if_neg h3, if_pos h4]
        by_cases h5 : (zone (zah (I 32) N) nm r (p + 1)).1 = true
        · rw [if_neg (not_not_intro h5), if_pos h5, zb_t rfl, List.append_assoc]
        · rw [if_pos h5, if_neg h5, zb_f (fun z => Bool.noConfusion z)]
      · by_cases h6 : zah (I 32) N p = 45
        · have hp2 := zah_lt (fun z => absurd (z.symm.trans h6) (by decide))
          have q := fun Q => hX (d + 6) (p + 1) c Q hp2
          rw [show d + 6 + (K + 1) = d + K + 7 by omega] at q
          simp (disch := first | assumption | rfl | omega | decide | exact zb_01 _) only [zabs_e, zmax_e, zmin_e, zrf_s, zpush_s, zpush_n, zw_app, upd_app, updL_app, Nat.reduceEqDiff, Nat.add_left_cancel_iff, Nat.add_eq_left, Nat.left_eq_add, ↓reduceIte, true_and, and_true, Int32.reduceToNatClampNeg, zin_O, zi_ltO, zi_leO, zi_Olt, zi_Ole, zi_eqO, Nat.not_lt_zero, Nat.zero_le, List.append_nil, zrn_n, zrn_s, List.cons_append, List.nil_append, zlg_lt, zlg_gt, zlg_le, zlg_ge, zlg_eq, Int32.toInt_toInt64, Int64.reduceToInt, zw_zw, zw_sw1, zw_sw2, zw_sw3, zw_sw4, zw_sw5, zw_sw6, zw_sw7, ne_eq, zi_in, zi_cl, zi_le, zi_lt, zi_eq, zi_neg, zi_0le, zb_0, if_true, if_false, eq_self, zb_T, zb_F, Bool.false_eq_true, zO_eq, zO_ne1, zO_ne2, zO_nn, zi_ne1, zi_ne2, zi_lt1, zi_le1, zi_lt2, zi_le2, Int32.reduceLT, Int32.reduceLE, Nat.reduceLT, Nat.reduceLeDiff, Int32.reduceMul, Int32.reduceAdd, Int32.reduceSub, not_false_eq_true, not_true_eq_false, E_X4_operand, R_X4_operand, SHF, PF, zi_s, zE_31 he, upd_upd, zE_p he, c_ahead he hN h120, c_isDigit, c_nameOf, show (¬ zdg 45) = True from eq_true (by decide), show znm 45 = -2 by decide, h6, o1, o2, q, c_add he _ _ a1 a2]
          rw [zone]
          rw [if_neg hd, if_neg (not_not_intro h2), if_neg h3, if_neg h4, if_pos h6]
          by_cases h5 : (zone (zah (I 32) N) nm r (p + 1)).1 = true
          · rw [if_neg (not_not_intro h5), if_pos h5, zb_t rfl, List.append_assoc]
          · rw [if_pos h5, if_neg h5, zb_f (fun z => Bool.noConfusion z)]
        · simp (disch := first | assumption | rfl | omega | decide | exact zb_01 _) only [zabs_e, zmax_e, zmin_e, zrf_s, zpush_s, zpush_n, zw_app, upd_app, updL_app, Nat.reduceEqDiff, Nat.add_left_cancel_iff, Nat.add_eq_left, Nat.left_eq_add, ↓reduceIte, true_and, and_true, Int32.reduceToNatClampNeg, zin_O, zi_ltO, zi_leO, zi_Olt, zi_Ole, zi_eqO, Nat.not_lt_zero, Nat.zero_le, List.append_nil, zrn_n, zrn_s, List.cons_append, List.nil_append, zlg_lt, zlg_gt, zlg_le, zlg_ge, zlg_eq, Int32.toInt_toInt64, Int64.reduceToInt, zw_zw, zw_sw1, zw_sw2, zw_sw3, zw_sw4, zw_sw5, zw_sw6, zw_sw7, ne_eq, zi_in, zi_cl, zi_le, zi_lt, zi_eq, zi_neg, zi_0le, zb_0, if_true, if_false, eq_self, zb_T, zb_F, Bool.false_eq_true, zO_eq, zO_ne1, zO_ne2, zO_nn, zi_ne1, zi_ne2, zi_lt1, zi_le1, zi_lt2, zi_le2, Int32.reduceLT, Int32.reduceLE, Nat.reduceLT, Nat.reduceLeDiff, Int32.reduceMul, Int32.reduceAdd, Int32.reduceSub, not_false_eq_true, not_true_eq_false, E_X4_operand, R_X4_operand, SHF, PF, zi_s, zE_31 he, upd_upd, zE_p he, c_ahead he hN h120, c_isDigit, c_nameOf, hd2, h2, h3, h4, h6, o1, o2]
          rw [zone]
          rw [if_neg hd, if_neg (not_not_intro h2), if_neg h3, if_neg h4, if_neg h6, zb_f (fun z => Bool.noConfusion z), List.append_nil]
  · rw [zone]
    rw [if_neg hd, if_pos h2]
    simp (disch := first | assumption | rfl | omega | decide | exact zb_01 _) only [zabs_e, zmax_e, zmin_e, zrf_s, zpush_s, zpush_n, zw_app, upd_app, updL_app, Nat.reduceEqDiff, Nat.add_left_cancel_iff, Nat.add_eq_left, Nat.left_eq_add, ↓reduceIte, true_and, and_true, Int32.reduceToNatClampNeg, zin_O, zi_ltO, zi_leO, zi_Olt, zi_Ole, zi_eqO, Nat.not_lt_zero, Nat.zero_le, List.append_nil, zrn_n, zrn_s, List.cons_append, List.nil_append, zlg_lt, zlg_gt, zlg_le, zlg_ge, zlg_eq, Int32.toInt_toInt64, Int64.reduceToInt, zw_zw, zw_sw1, zw_sw2, zw_sw3, zw_sw4, zw_sw5, zw_sw6, zw_sw7, ne_eq, zi_in, zi_cl, zi_le, zi_lt, zi_eq, zi_neg, zi_0le, zb_0, if_true, if_false, eq_self, zb_T, zb_F, Bool.false_eq_true, zO_eq, zO_ne1, zO_ne2, zO_nn, zi_ne1, zi_ne2, zi_lt1, zi_le1, zi_lt2, zi_le2, Int32.reduceLT, Int32.reduceLE, Nat.reduceLT, Nat.reduceLeDiff, Int32.reduceMul, Int32.reduceAdd, Int32.reduceSub, not_false_eq_true, not_true_eq_false, E_X4_operand, R_X4_operand, SHF, PF, zi_s, zE_31 he, upd_upd, zE_p he, c_ahead he hN h120, c_isDigit, c_nameOf, hd2, h2, c_add he _ _ a1 a2, zb_t]
theorem zCO_r (he : zpr e) (hN : I 31 1 = nI N) (h120 : N ≤ 120) (nm : Nat → Int32) : ∀ r, r ≤ 6 → zCO N e f g I L (7 * r + 3) (6 - r) (zone (zah (I 32) N) nm r)
  | 0, _ => zCO_0 he hN h120 nm
  | r + 1, hr => by
    have e1 := zCO_s he hN h120 nm (K := 7 * r + 3) (r := r) (by omega) (by omega) (zCO_r he hN h120 nm r (by omega))
    rw [show 7 * (r + 1) + 3 = 7 * r + 3 + 7 by omega, show 6 - (r + 1) = 5 - r by omega]
    exact e1
/-- what a LINE's half is -/
def zall (ah nm : Nat → Int32) : Nat → zR := zexp ah (zone ah nm 6)
theorem zall_bd {s nm : Nat → Int32} : zBd N (zall (zah s N) nm) := zexp_bd (zone_bd 6)
theorem c_all (he : zpr e) (hN : I 31 1 = nI N) (h120 : N ≤ 120) (nm : Nat → Int32) : zCC N e f g I L 51 0 0 (zall (zah (I 32) N) nm) := zCC_exp he hN h120 (by omega) (zone_bd 6) (zCO_r he hN h120 nm 6 (Nat.le_refl _))
end PARSE2
