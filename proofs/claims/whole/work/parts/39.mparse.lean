/-! the reference reads -/
def zAc (c : Nat → Int32) (p : Nat) (ft o : Int32) : Nat → Int32 := fun k => if k = 18 then nI p else if k = 20 then ft else if k = 21 then o else c k
theorem zAc_app (c : Nat → Int32) (p : Nat) (ft o : Int32) (k : Nat) : zAc c p ft o k = if k = 18 then nI p else if k = 20 then ft else if k = 21 then o else c k := rfl
theorem zAc_18 (c : Nat → Int32) (p q : Nat) (ft o : Int32) : upd (zAc c p ft o) 18 (nI q) = zAc c q ft o := by
  funext k; simp only [upd, zAc]; by_cases h : k = 18 <;> simp [h]
theorem zAc_20 (c : Nat → Int32) (p : Nat) (ft o x : Int32) : upd (zAc c p ft o) 20 x = zAc c p x o := by
  funext k; simp only [upd, zAc]; by_cases h : k = 20 <;> simp [h]
theorem zAc_21 (c : Nat → Int32) (p : Nat) (ft o x : Int32) : upd (zAc c p ft o) 21 x = zAc c p ft x := by
  funext k; simp only [upd, zAc]; by_cases h : k = 21 <;> simp [h]
/-- the byte at p; 0 behind the end -/
def zmb (s : Nat → Int32) (N p : Nat) : Int32 := if p < N then s p else 0
theorem zmb_lt {s : Nat → Int32} {N p : Nat} (h : p < N) : zmb s N p = zah s N p := by unfold zmb zah; rw [if_pos h, if_pos h]
theorem zmb_eq {s : Nat → Int32} {N p : Nat} {c : Int32} (h0 : ¬ 0 = c) (h1 : ¬ -1 = c) : (zmb s N p = c) = (zah s N p = c) := by
  unfold zmb zah
  by_cases h : p < N
  · rw [if_pos h, if_pos h]
  · rw [if_neg h, if_neg h]
    exact propext ⟨fun z => absurd z h0, fun z => absurd z h1⟩
theorem zmb_lt48 {s : Nat → Int32} {N p : Nat} : (zmb s N p < 48) = (zah s N p < 48) := by
  unfold zmb zah
  split
  · rfl
  · exact propext ⟨fun _ => by decide, fun _ => by decide⟩
theorem zmb_gt57 {s : Nat → Int32} {N p : Nat} : (57 < zmb s N p) = (57 < zah s N p) := by
  unfold zmb zah
  split
  · rfl
  · exact propext ⟨fun z => absurd z (by decide), fun z => absurd z (by decide)⟩
def zmn (x : Int32) : Int32 := if znm x = -2 then -1 else znm x
theorem zmn_mb {s : Nat → Int32} {N p : Nat} : zmn (zmb s N p) = zmn (zah s N p) := by
  unfold zmb zah
  split
  · rfl
  · decide
theorem zah_end {s : Nat → Int32} {N p : Nat} (h : N ≤ p) : zah s N p = -1 := if_neg (by omega)
/-- how many are open behind a good one -/
def zOo (o : Int32) (X : Nat → zR) : Prop := ∀ p, (X p).1 = true → (X p).2.2.2.2 = o
theorem zloop_oo {ah : Nat → Int32} {lev o : Int32} {X : Nat → zR} (hX : zOo o X) : ∀ k p c v o1, o1 = o → (zloop ah lev X k p c v o1).1 = true → (zloop ah lev X k p c v o1).2.2.2.2 = o
  | 0, p, c, v, o1, h, _ => h
  | k + 1, p, c, v, o1, h, h2 => by
    unfold zloop at h2 ⊢
    by_cases e : zlvl (ah p) = lev
    · rw [if_pos e] at h2 ⊢
      by_cases e2 : (X (p + 1)).1 = true
      · rw [if_pos e2] at h2 ⊢
        exact zloop_oo hX k _ _ _ _ (hX _ e2) h2
      · rw [if_neg e2] at h2
        exact Bool.noConfusion h2
    · rw [if_neg e]
      exact h
theorem zlev_oo {ah : Nat → Int32} {lev o : Int32} {k : Nat} {X : Nat → zR} (hX : zOo o X) : zOo o (zlev ah lev k X) := by
  intro p h
  unfold zlev at h ⊢
  by_cases e : (X p).1 = true
  · rw [if_pos e] at h ⊢
    exact zloop_oo hX k _ _ _ _ (hX _ e) h
  · rw [if_neg e] at h
    exact absurd h e
theorem zexp_oo {ah : Nat → Int32} {o : Int32} {X : Nat → zR} (hX : zOo o X) : zOo o (zexp ah X) := zlev_oo (zlev_oo (zlev_oo (zlev_oo (zlev_oo hX))))
theorem zone_oo {ah nm : Nat → Int32} : ∀ r, r ≤ 6 → zOo (nI (6 - r)) (zone ah nm r)
  | 0, _ => by
    intro p h
    unfold zone at h ⊢
    split <;> try rfl
    split <;> rfl
  | r + 1, hr => by
    have ih := zone_oo (ah := ah) (nm := nm) r (by omega)
    have ih2 := zexp_oo (ah := ah) ih
    have e0 : nI (6 - r) - 1 = nI (5 - r) := by
      rw [show 6 - r = 5 - r + 1 by omega]; exact nI_pred _
    intro p h
    rw [zone] at h ⊢
    rw [show 6 - (r + 1) = 5 - r by omega]
    by_cases h1 : zdg (ah p)
    · rw [if_pos h1]
    rw [if_neg h1] at h ⊢
    by_cases h2 : znm (ah p) = -2
    · rw [if_neg (not_not_intro h2)] at h ⊢
      by_cases h3 : ah p = 40
      · rw [if_pos h3] at h ⊢
        by_cases h4 : (zexp ah (zone ah nm r) (p + 1)).1 = true
        · rw [if_pos h4] at h ⊢
          by_cases h5 : ah (zexp ah (zone ah nm r) (p + 1)).2.1 = 41
          · rw [if_pos h5]
            dsimp only
            rw [ih2 _ h4, e0]
          · rw [if_neg h5] at h
            exact Bool.noConfusion h
        · rw [if_neg h4] at h
          exact Bool.noConfusion h
      rw [if_neg h3] at h ⊢
      by_cases h4 : ah p = 33
      · rw [if_pos h4] at h ⊢
        by_cases h5 : (zone ah nm r (p + 1)).1 = true
        · rw [if_pos h5]
          dsimp only
          rw [ih _ h5, e0]
        · rw [if_neg h5] at h
          exact Bool.noConfusion h
      rw [if_neg h4] at h ⊢
      by_cases h5 : ah p = 45
      · rw [if_pos h5] at h ⊢
        by_cases h6 : (zone ah nm r (p + 1)).1 = true
        · rw [if_pos h6]
          dsimp only
          rw [ih _ h6, e0]
        · rw [if_neg h6] at h
          exact Bool.noConfusion h
      rw [if_neg h5]
    · rw [if_pos h2]
section MPARSE
variable {d f g N p : Nat} {t : Option Nat} {I : Nat → Nat → Int32} {L : Nat → Nat → Int64} {s : Nat → Int32} {Q : Option Value → zMm → Prop}
/-- what is read -/
def zmR (I : Nat → Nat → Int32) (s : Nat → Int32) (N : Nat) : Prop := I 80 19 = nI N ∧ N ≤ 120 ∧ ((I 80 17 = -1 ∧ s = I 88) ∨ (I 80 17 = 0 ∧ s = I 89))
theorem m_byteAt (hR : zmR I s N) (hp : p < 2147483648) (ft o : Int32) : zWM (d + 1) 146 [.ref 80] (zSH, zw I 80 (zAc (I 80) (p) (ft) (o)), L, zP f g t) Q = Q (some (.int (zmb s N p))) (zSH, zw I 80 (zAc (I 80) (p) (ft) (o)), L, zP f g t) := by
  obtain ⟨h1, h2, h3⟩ := hR
  unfold zmb
  rcases h3 with ⟨h3, h4⟩ | ⟨h3, h4⟩
  · subst h4
    by_cases h : p < N
    · have h5 : ¬ N ≤ p := by omega
      simp (disch := first | assumption | rfl | omega | decide | exact zb_01 _) only [zabs_e, zmax_e, zmin_e, zrf_s, zpush_s, zpush_n, zw_app, upd_app, updL_app, Nat.reduceEqDiff, Nat.add_left_cancel_iff, Nat.add_eq_left, Nat.left_eq_add, ↓reduceIte, true_and, and_true, Int32.reduceToNatClampNeg, zin_O, zi_ltO, zi_leO, zi_Olt, zi_Ole, zi_eqO, Nat.not_lt_zero, Nat.zero_le, List.append_nil, zrn_n, zrn_s, List.cons_append, List.nil_append, zlg_lt, zlg_gt, zlg_le, zlg_ge, zlg_eq, Int32.toInt_toInt64, Int64.reduceToInt, zw_zw, zw_sw1, zw_sw2, zw_sw3, zw_sw4, zw_sw5, zw_sw6, zw_sw7, ne_eq, zi_in, zi_cl, zi_le, zi_lt, zi_eq, zi_neg, zi_0le, zb_0, if_true, if_false, eq_self, zb_T, zb_F, Bool.false_eq_true, zO_eq, zO_ne1, zO_ne2, zO_nn, zi_ne1, zi_ne2, zi_lt1, zi_le1, zi_lt2, zi_le2, Int32.reduceLT, Int32.reduceLE, Nat.reduceLT, Nat.reduceLeDiff, Int32.reduceMul, Int32.reduceAdd, Int32.reduceSub, not_false_eq_true, not_true_eq_false, E_X10_byteAt, R_X10_byteAt, SHF, PF, zAc_app, h1, h3, h, h5, Int32.reduceLT]
    · have h5 : N ≤ p := by omega
      simp (disch := first | assumption | rfl | omega | decide | exact zb_01 _) only [zabs_e, zmax_e, zmin_e, zrf_s, zpush_s, zpush_n, zw_app, upd_app, updL_app, Nat.reduceEqDiff, Nat.add_left_cancel_iff, Nat.add_eq_left, Nat.left_eq_add, ↓reduceIte, true_and, and_true, Int32.reduceToNatClampNeg, zin_O, zi_ltO, zi_leO, zi_Olt, zi_Ole, zi_eqO, Nat.not_lt_zero, Nat.zero_le, List.append_nil, zrn_n, zrn_s, List.cons_append, List.nil_append, zlg_lt, zlg_gt, zlg_le, zlg_ge, zlg_eq, Int32.toInt_toInt64, Int64.reduceToInt, zw_zw, zw_sw1, zw_sw2, zw_sw3, zw_sw4, zw_sw5, zw_sw6, zw_sw7, ne_eq, zi_in, zi_cl, zi_le, zi_lt, zi_eq, zi_neg, zi_0le, zb_0, if_true, if_false, eq_self, zb_T, zb_F, Bool.false_eq_true, zO_eq, zO_ne1, zO_ne2, zO_nn, zi_ne1, zi_ne2, zi_lt1, zi_le1, zi_lt2, zi_le2, Int32.reduceLT, Int32.reduceLE, Nat.reduceLT, Nat.reduceLeDiff, Int32.reduceMul, Int32.reduceAdd, Int32.reduceSub, not_false_eq_true, not_true_eq_false, E_X10_byteAt, R_X10_byteAt, SHF, PF, zAc_app, h1, h3, h, h5, Int32.reduceLT]
  · subst h4
    by_cases h : p < N
    · have h5 : ¬ N ≤ p := by omega
      simp (disch := first | assumption | rfl | omega | decide | exact zb_01 _) only [zabs_e, zmax_e, zmin_e, zrf_s, zpush_s, zpush_n, zw_app, upd_app, updL_app, Nat.reduceEqDiff, Nat.add_left_cancel_iff, Nat.add_eq_left, Nat.left_eq_add, ↓reduceIte, true_and, and_true, Int32.reduceToNatClampNeg, zin_O, zi_ltO, zi_leO, zi_Olt, zi_Ole, zi_eqO, Nat.not_lt_zero, Nat.zero_le, List.append_nil, zrn_n, zrn_s, List.cons_append, List.nil_append, zlg_lt, zlg_gt, zlg_le, zlg_ge, zlg_eq, Int32.toInt_toInt64, Int64.reduceToInt, zw_zw, zw_sw1, zw_sw2, zw_sw3, zw_sw4, zw_sw5, zw_sw6, zw_sw7, ne_eq, zi_in, zi_cl, zi_le, zi_lt, zi_eq, zi_neg, zi_0le, zb_0, if_true, if_false, eq_self, zb_T, zb_F, Bool.false_eq_true, zO_eq, zO_ne1, zO_ne2, zO_nn, zi_ne1, zi_ne2, zi_lt1, zi_le1, zi_lt2, zi_le2, Int32.reduceLT, Int32.reduceLE, Nat.reduceLT, Nat.reduceLeDiff, Int32.reduceMul, Int32.reduceAdd, Int32.reduceSub, not_false_eq_true, not_true_eq_false, E_X10_byteAt, R_X10_byteAt, SHF, PF, zAc_app, h1, h3, h, h5, Int32.reduceLT, Int32.zero_add]
    · have h5 : N ≤ p := by omega
      simp (disch := first | assumption | rfl | omega | decide | exact zb_01 _) only [zabs_e, zmax_e, zmin_e, zrf_s, zpush_s, zpush_n, zw_app, upd_app, updL_app, Nat.reduceEqDiff, Nat.add_left_cancel_iff, Nat.add_eq_left, Nat.left_eq_add, ↓reduceIte, true_and, and_true, Int32.reduceToNatClampNeg, zin_O, zi_ltO, zi_leO, zi_Olt, zi_Ole, zi_eqO, Nat.not_lt_zero, Nat.zero_le, List.append_nil, zrn_n, zrn_s, List.cons_append, List.nil_append, zlg_lt, zlg_gt, zlg_le, zlg_ge, zlg_eq, Int32.toInt_toInt64, Int64.reduceToInt, zw_zw, zw_sw1, zw_sw2, zw_sw3, zw_sw4, zw_sw5, zw_sw6, zw_sw7, ne_eq, zi_in, zi_cl, zi_le, zi_lt, zi_eq, zi_neg, zi_0le, zb_0, if_true, if_false, eq_self, zb_T, zb_F, Bool.false_eq_true, zO_eq, zO_ne1, zO_ne2, zO_nn, zi_ne1, zi_ne2, zi_lt1, zi_le1, zi_lt2, zi_le2, Int32.reduceLT, Int32.reduceLE, Nat.reduceLT, Nat.reduceLeDiff, Int32.reduceMul, Int32.reduceAdd, Int32.reduceSub, not_false_eq_true, not_true_eq_false, E_X10_byteAt, R_X10_byteAt, SHF, PF, zAc_app, h1, h3, h, h5, Int32.reduceLT]
theorem m_wrong0 (p : Nat) (o : Int32) : zWM (d + 1) 147 [.ref 80] (zSH, zw I 80 (zAc (I 80) (p) (-1) (o)), L, zP f g t) Q = Q (some (.int 0)) (zSH, zw I 80 (zAc (I 80) (p) (nI p) (o)), L, zP f g t) := by
  simp (disch := first | assumption | rfl | omega | decide | exact zb_01 _) only [zabs_e, zmax_e, zmin_e, zrf_s, zpush_s, zpush_n, zw_app, upd_app, updL_app, Nat.reduceEqDiff, Nat.add_left_cancel_iff, Nat.add_eq_left, Nat.left_eq_add, ↓reduceIte, true_and, and_true, Int32.reduceToNatClampNeg, zin_O, zi_ltO, zi_leO, zi_Olt, zi_Ole, zi_eqO, Nat.not_lt_zero, Nat.zero_le, List.append_nil, zrn_n, zrn_s, List.cons_append, List.nil_append, zlg_lt, zlg_gt, zlg_le, zlg_ge, zlg_eq, Int32.toInt_toInt64, Int64.reduceToInt, zw_zw, zw_sw1, zw_sw2, zw_sw3, zw_sw4, zw_sw5, zw_sw6, zw_sw7, ne_eq, zi_in, zi_cl, zi_le, zi_lt, zi_eq, zi_neg, zi_0le, zb_0, if_true, if_false, eq_self, zb_T, zb_F, Bool.false_eq_true, zO_eq, zO_ne1, zO_ne2, zO_nn, zi_ne1, zi_ne2, zi_lt1, zi_le1, zi_lt2, zi_le2, Int32.reduceLT, Int32.reduceLE, Nat.reduceLT, Nat.reduceLeDiff, Int32.reduceMul, Int32.reduceAdd, Int32.reduceSub, not_false_eq_true, not_true_eq_false, E_X10_wrong, R_X10_wrong, SHF, PF, zAc_app, zAc_20, Int32.reduceLT, Int32.reduceLE]
theorem m_wrong1 {q : Nat} (p : Nat) (o : Int32) (hq : q < 2147483648) : zWM (d + 1) 147 [.ref 80] (zSH, zw I 80 (zAc (I 80) (p) (nI q) (o)), L, zP f g t) Q = Q (some (.int 0)) (zSH, zw I 80 (zAc (I 80) (p) (nI q) (o)), L, zP f g t) := by
  simp (disch := first | assumption | rfl | omega | decide | exact zb_01 _) only [zabs_e, zmax_e, zmin_e, zrf_s, zpush_s, zpush_n, zw_app, upd_app, updL_app, Nat.reduceEqDiff, Nat.add_left_cancel_iff, Nat.add_eq_left, Nat.left_eq_add, ↓reduceIte, true_and, and_true, Int32.reduceToNatClampNeg, zin_O, zi_ltO, zi_leO, zi_Olt, zi_Ole, zi_eqO, Nat.not_lt_zero, Nat.zero_le, List.append_nil, zrn_n, zrn_s, List.cons_append, List.nil_append, zlg_lt, zlg_gt, zlg_le, zlg_ge, zlg_eq, Int32.toInt_toInt64, Int64.reduceToInt, zw_zw, zw_sw1, zw_sw2, zw_sw3, zw_sw4, zw_sw5, zw_sw6, zw_sw7, ne_eq, zi_in, zi_cl, zi_le, zi_lt, zi_eq, zi_neg, zi_0le, zb_0, if_true, if_false, eq_self, zb_T, zb_F, Bool.false_eq_true, zO_eq, zO_ne1, zO_ne2, zO_nn, zi_ne1, zi_ne2, zi_lt1, zi_le1, zi_lt2, zi_le2, Int32.reduceLT, Int32.reduceLE, Nat.reduceLT, Nat.reduceLeDiff, Int32.reduceMul, Int32.reduceAdd, Int32.reduceSub, not_false_eq_true, not_true_eq_false, E_X10_wrong, R_X10_wrong, SHF, PF, zAc_app, zAc_20]
theorem m_takes0 (hR : zmR I s N) (hp : p < 2147483648) (o c : Int32) (h0 : ¬ 0 = c) (h1 : ¬ -1 = c) : zWM (d + 2) 148 [.ref 80, .int c] (zSH, zw I 80 (zAc (I 80) (p) (-1) (o)), L, zP f g t) Q = if zah s N p = c then Q (some (.int 1)) (zSH, zw I 80 (zAc (I 80) (p + 1) (-1) (o)), L, zP f g t) else Q (some (.int 0)) (zSH, zw I 80 (zAc (I 80) (p) (-1) (o)), L, zP f g t) := by
  simp (disch := first | assumption | rfl | omega | decide | exact zb_01 _) only [zabs_e, zmax_e, zmin_e, zrf_s, zpush_s, zpush_n, zw_app, upd_app, updL_app, Nat.reduceEqDiff, Nat.add_left_cancel_iff, Nat.add_eq_left, Nat.left_eq_add, ↓reduceIte, true_and, and_true, Int32.reduceToNatClampNeg, zin_O, zi_ltO, zi_leO, zi_Olt, zi_Ole, zi_eqO, Nat.not_lt_zero, Nat.zero_le, List.append_nil, zrn_n, zrn_s, List.cons_append, List.nil_append, zlg_lt, zlg_gt, zlg_le, zlg_ge, zlg_eq, Int32.toInt_toInt64, Int64.reduceToInt, zw_zw, zw_sw1, zw_sw2, zw_sw3, zw_sw4, zw_sw5, zw_sw6, zw_sw7, ne_eq, zi_in, zi_cl, zi_le, zi_lt, zi_eq, zi_neg, zi_0le, zb_0, if_true, if_false, eq_self, zb_T, zb_F, Bool.false_eq_true, zO_eq, zO_ne1, zO_ne2, zO_nn, zi_ne1, zi_ne2, zi_lt1, zi_le1, zi_lt2, zi_le2, Int32.reduceLT, Int32.reduceLE, Nat.reduceLT, Nat.reduceLeDiff, Int32.reduceMul, Int32.reduceAdd, Int32.reduceSub, not_false_eq_true, not_true_eq_false, E_X10_takes, R_X10_takes, SHF, PF, zAc_app, zAc_18, zi_s, m_byteAt hR, zmb_eq]
theorem m_takes1 {q : Nat} (p : Nat) (o c : Int32) (hq : q < 2147483648) : zWM (d + 2) 148 [.ref 80, .int c] (zSH, zw I 80 (zAc (I 80) (p) (nI q) (o)), L, zP f g t) Q = Q (some (.int 0)) (zSH, zw I 80 (zAc (I 80) (p) (nI q) (o)), L, zP f g t) := by
  simp (disch := first | assumption | rfl | omega | decide | exact zb_01 _) only [zabs_e, zmax_e, zmin_e, zrf_s, zpush_s, zpush_n, zw_app, upd_app, updL_app, Nat.reduceEqDiff, Nat.add_left_cancel_iff, Nat.add_eq_left, Nat.left_eq_add, ↓reduceIte, true_and, and_true, Int32.reduceToNatClampNeg, zin_O, zi_ltO, zi_leO, zi_Olt, zi_Ole, zi_eqO, Nat.not_lt_zero, Nat.zero_le, List.append_nil, zrn_n, zrn_s, List.cons_append, List.nil_append, zlg_lt, zlg_gt, zlg_le, zlg_ge, zlg_eq, Int32.toInt_toInt64, Int64.reduceToInt, zw_zw, zw_sw1, zw_sw2, zw_sw3, zw_sw4, zw_sw5, zw_sw6, zw_sw7, ne_eq, zi_in, zi_cl, zi_le, zi_lt, zi_eq, zi_neg, zi_0le, zb_0, if_true, if_false, eq_self, zb_T, zb_F, Bool.false_eq_true, zO_eq, zO_ne1, zO_ne2, zO_nn, zi_ne1, zi_ne2, zi_lt1, zi_le1, zi_lt2, zi_le2, Int32.reduceLT, Int32.reduceLE, Nat.reduceLT, Nat.reduceLeDiff, Int32.reduceMul, Int32.reduceAdd, Int32.reduceSub, not_false_eq_true, not_true_eq_false, E_X10_takes, R_X10_takes, SHF, PF, zAc_app]
end MPARSE
