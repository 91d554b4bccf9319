section RNDS
variable {d f g n k a b z bb j l s w : Nat} {t : Option Nat} {I J K : Nat → Nat → Int32} {L : Nat → Nat → Int64} {Q : Option Value → zMm → Prop} {X : Nat → Int32}
abbrev zrB (X : Nat → Int32) (l n s i : Nat) : Prop := s + 4 * i + 4 ≤ l ∧ n + i < 24 ∧ zok1 (X (s + 4 * i)) (X (s + 4 * i + 1)) (X (s + 4 * i + 2)) (X (s + 4 * i + 3))
/-- how many ROUNDS a shelf gives -/
def zrc (X : Nat → Int32) (l n s : Nat) : Nat → Nat → Nat
  | 0, i => i
  | c + 1, i => if zrB X l n s i then zrc X l n s c (i + 1) else i
def zcI (I : Nat → Nat → Int32) (X : Nat → Int32) (n s i : Nat) (J : Nat → Nat → Int32) : Prop := (∀ a, ¬ (1 ≤ a ∧ a ≤ 13) → a ≠ 33 → J a = I a) ∧ J 33 = upd (I 33) 6 0 ∧ n + i ≤ 24 ∧ tSet J 1 (n + i) ∧ (∀ k, k < n → J 2 k = I 2 k ∧ J 3 k = I 3 k ∧ J 5 k = I 5 k ∧ J 6 k = I 6 k) ∧ ∀ k, k < i → J 2 (n + k) = X (s + 4 * k) ∧ J 3 (n + k) = X (s + 4 * k + 1) ∧ J 5 (n + k) = X (s + 4 * k + 2) ∧ J 6 (n + k) = X (s + 4 * k + 3) ∧ zok1 (X (s + 4 * k)) (X (s + 4 * k + 1)) (X (s + 4 * k + 2)) (X (s + 4 * k + 3))
theorem r1_raise (hn : K 1 6 = nI n) (h24 : n < 24) (p dm x y : Int32) : ∃ K', (∀ d Q, zWM (d + 2) 60 [.ref 1, .int p, .int dm, .int x, .int y] (zSH, K, L, zP f g t) Q = Q none (zSH, K', L, zP f g t)) ∧ (∀ a, ¬ (1 ≤ a ∧ a ≤ 13) → K' a = K a) ∧ tSet K' 1 (n + 1) ∧ K' 2 = upd (K 2) n p ∧ K' 3 = upd (K 3) n dm ∧ K' 5 = upd (K 5) n x ∧ K' 6 = upd (K 6) n y := by
  have h6 : tUp K 1 n p dm x y 1 6 = nI (n + 1) := rfl
  refine ⟨tW (tUp K 1 n p dm x y) 1 (n + 1), fun d Q => c_raise (Or.inl rfl) hn h24 p dm x y, fun a ha => ?_, tW_set h6 h24, ?_, ?_, ?_, ?_⟩
  · rw [tW_o (by omega), tUp_o (by omega)]
  all_goals (rw [tW_o (by omega)]; rfl)
theorem zi_ak (a k : Nat) : nI a + nI k = nI (a + k) := nI_add a k
theorem zhp {e l : Nat} (he : e < 2147483648) (hl : l ≤ 60) : (0 ≤ nI e ∧ 0 ≤ (4 : Int32) ∧ 4 ≤ nI l ∧ nI e ≤ nI l - 4) ↔ e + 4 ≤ l := by
  have t0 : (0 : Int32).toInt = 0 := by decide
  have t4 : (4 : Int32).toInt = 4 := by decide
  have e1 := zi_nt he
  have e2 := zi_nt (n := l) (by omega)
  have e3 : (nI l - 4).toInt = l - 4 := by rw [zt_sub (by rw [e2]; omega) (by rw [e2]; omega), e2, t4]
  simp only [Int32.le_iff_toInt_le, t0, t4, e1, e2, e3]
  omega
theorem c_rnds_l (hj : j < 6) (hl : I (68 + 2 * j) 3 = nI l) (h60 : l ≤ 60) (hX : ∀ k, k < 60 → (L (69 + 2 * j) k).toInt32 = X k) (hs : s < 2147483648) (hw : w ≤ 15) (x y : Int32) : ∀ c i J, c + i = w → zcI I X n s i J → (i = 0 ∨ s + 4 * i ≤ l) → ∃ J', zcI I X n s (zrc X l n s c i) J' ∧ ∀ d Q (l7 l8 l9 l10 : Value), zWp (d + 98) zi_75 none 65 [.ref 0, .int x, .int y, .int (nI w), .ref (68 + 2 * j), .int (nI i), .int (nI (s + 4 * i)), l7, l8, l9, l10] [] (zSH, J, L, zP f g t) Q = Q (some (.int (nI (zrc X l n s c i)))) (zSH, J', L, zP f g t) := by
  intro c
  obtain ⟨a1, a2, a3, a4, a5⟩ := zSHd hj f g t
  induction c with
  | zero =>
    intro i J hc hJ hi
    refine ⟨J, hJ, fun d Q l7 l8 l9 l10 => ?_⟩
    have h : i = w := by omega
    subst h
    rw [H_X9_rounds_65]
    simp (disch := first | assumption | rfl | omega | decide | exact zb_01 _) only [zabs_e, zmax_e, zmin_e, zrf_s, zpush_s, zpush_n, zw_app, upd_app, updL_app, Nat.reduceEqDiff, Nat.add_left_cancel_iff, Nat.add_eq_left, Nat.left_eq_add, ↓reduceIte, true_and, and_true, Int32.reduceToNatClampNeg, zin_O, zi_ltO, zi_leO, zi_Olt, zi_Ole, zi_eqO, Nat.not_lt_zero, Nat.zero_le, List.append_nil, zrn_n, zrn_s, List.cons_append, List.nil_append, zlg_lt, zlg_gt, zlg_le, zlg_ge, zlg_eq, Int32.toInt_toInt64, Int64.reduceToInt, zw_zw, zw_sw1, zw_sw2, zw_sw3, zw_sw4, zw_sw5, zw_sw6, zw_sw7, ne_eq, zi_in, zi_cl, zi_le, zi_lt, zi_eq, zi_neg, zi_0le, zb_0, if_true, if_false, eq_self, zb_T, zb_F, Bool.false_eq_true, zO_eq, zO_ne1, zO_ne2, zO_nn, zi_ne1, zi_ne2, zi_lt1, zi_le1, zi_lt2, zi_le2, Int32.reduceLT, Int32.reduceLE, Nat.reduceLT, Nat.reduceLeDiff, Int32.reduceMul, Int32.reduceAdd, Int32.reduceSub, not_false_eq_true, not_true_eq_false, Int32.reduceToInt, Int.reduceLE, Int.reduceLT, Int.reduceNeg, ite_self, R_X9_rounds, SHF, PF, Nat.le_refl, zrc]
  | succ c ih =>
    intro i J hc hJ hi
    obtain ⟨J1, J2, J3, J4, J5, J6⟩ := id hJ
    have h1 : ¬ w ≤ i := by omega
    have h2 : i < w := by omega
    have j68 : J (68 + 2 * j) = I (68 + 2 * j) := J1 _ (by omega) (by omega)
    have he : s + 4 * i < 2147483648 := by omega
    have qp := fun d Q => c_hasPl (d := d) (f := f) (g := g) (t := t) (I := J) (L := L) (Q := Q) (s := 68 + 2 * j) a2 (nI (s + 4 * i)) 4
    rw [j68, hl] at qp
    by_cases b1 : s + 4 * i + 4 ≤ l
    · simp only [zb_t ((zhp he h60).mpr b1)] at qp
      by_cases b2 : n + i < 24
      · have b2' : ¬ 24 ≤ n + i := by omega
        have e0 : s + 4 * i < 60 := by omega
        have e1 : s + 4 * i + 1 < 60 := by omega
        have e2 : s + 4 * i + 2 < 60 := by omega
        have e3 : s + 4 * i + 3 < 60 := by omega
        have x0 := hX _ e0
        have x1 := hX _ e1
        have x2 := hX _ e2
        have x3 := hX _ e3
        have f1 : nI (s + 4 * i) + 1 = nI (s + 4 * i + 1) := zi_ak _ 1
        have f2 : nI (s + 4 * i) + 2 = nI (s + 4 * i + 2) := zi_ak _ 2
        have f3 : nI (s + 4 * i) + 3 = nI (s + 4 * i + 3) := zi_ak _ 3
        have f4 : nI (s + 4 * i) + 4 = nI (s + 4 * (i + 1)) := zi_ak _ 4
        by_cases b3 : zok1 (X (s + 4 * i)) (X (s + 4 * i + 1)) (X (s + 4 * i + 2)) (X (s + 4 * i + 3))
        · obtain ⟨K, q1, k1, k2, k3, k4, k5, k6⟩ := r1_raise (f := f) (g := g) (t := t) (L := L) (K := J) (n := n + i) J4.1 b2 (X (s + 4 * i)) (X (s + 4 * i + 1)) (X (s + 4 * i + 2)) (X (s + 4 * i + 3))
          have hK : zcI I X n s (i + 1) K := by
            refine ⟨fun a ha hb => (k1 a ha).trans (J1 a ha hb), (k1 33 (by omega)).trans J2, b2, k2, fun k hk => ?_, fun k hk => ?_⟩
            · rw [k3, k4, k5, k6]
              simp only [upd]
              rw [if_neg (by omega), if_neg (by omega), if_neg (by omega), if_neg (by omega)]
              exact J5 k hk
            · rw [k3, k4, k5, k6]
              simp only [upd]
              by_cases e : k = i
              · subst e
                rw [if_pos rfl, if_pos rfl, if_pos rfl, if_pos rfl]
                exact ⟨rfl, rfl, rfl, rfl, b3⟩
              · rw [if_neg (by omega), if_neg (by omega), if_neg (by omega), if_neg (by omega)]
                exact J6 k (by omega)
          obtain ⟨J', z1, q2⟩ := ih (i + 1) K (by omega) hK (by omega)
          rw [show zrc X l n s (c + 1) i = _ from if_pos ⟨b1, b2, b3⟩]
          refine ⟨J', z1, fun d Q l7 l8 l9 l10 => ?_⟩
          rw [← q2 d Q (.int (X (s + 4 * i))) (.int (X (s + 4 * i + 1))) (.int (X (s + 4 * i + 2))) (.int (X (s + 4 * i + 3))), H_X9_rounds_65]
          simp (disch := first | assumption | rfl | omega | decide | exact zb_01 _) only [zabs_e, zmax_e, zmin_e, zrf_s, zpush_s, zpush_n, zw_app, upd_app, updL_app, Nat.reduceEqDiff, Nat.add_left_cancel_iff, Nat.add_eq_left, Nat.left_eq_add, ↓reduceIte, true_and, and_true, Int32.reduceToNatClampNeg, zin_O, zi_ltO, zi_leO, zi_Olt, zi_Ole, zi_eqO, Nat.not_lt_zero, Nat.zero_le, List.append_nil, zrn_n, zrn_s, List.cons_append, List.nil_append, zlg_lt, zlg_gt, zlg_le, zlg_ge, zlg_eq, Int32.toInt_toInt64, Int64.reduceToInt, zw_zw, zw_sw1, zw_sw2, zw_sw3, zw_sw4, zw_sw5, zw_sw6, zw_sw7, ne_eq, zi_in, zi_cl, zi_le, zi_lt, zi_eq, zi_neg, zi_0le, zb_0, if_true, if_false, eq_self, zb_T, zb_F, Bool.false_eq_true, zO_eq, zO_ne1, zO_ne2, zO_nn, zi_ne1, zi_ne2, zi_lt1, zi_le1, zi_lt2, zi_le2, Int32.reduceLT, Int32.reduceLE, Nat.reduceLT, Nat.reduceLeDiff, Int32.reduceMul, Int32.reduceAdd, Int32.reduceSub, not_false_eq_true, not_true_eq_false, Int32.reduceToInt, Int.reduceLE, Int.reduceLT, Int.reduceNeg, ite_self, R_X9_rounds, SHF, PF, h1, h2, qp, J4.1, b2, b2', a1, a2, a3, a4, a5, e0, e1, e2, e3, f1, f2, f3, f4, x0, x1, x2, x3, c_fitsO, zb_t b3, q1, zi_s]
        · rw [show zrc X l n s (c + 1) i = _ from if_neg (fun q => b3 q.2.2)]
          refine ⟨J, hJ, fun d Q l7 l8 l9 l10 => ?_⟩
          rw [H_X9_rounds_65]
          simp (disch := first | assumption | rfl | omega | decide | exact zb_01 _) only [zabs_e, zmax_e, zmin_e, zrf_s, zpush_s, zpush_n, zw_app, upd_app, updL_app, Nat.reduceEqDiff, Nat.add_left_cancel_iff, Nat.add_eq_left, Nat.left_eq_add, ↓reduceIte, true_and, and_true, Int32.reduceToNatClampNeg, zin_O, zi_ltO, zi_leO, zi_Olt, zi_Ole, zi_eqO, Nat.not_lt_zero, Nat.zero_le, List.append_nil, zrn_n, zrn_s, List.cons_append, List.nil_append, zlg_lt, zlg_gt, zlg_le, zlg_ge, zlg_eq, Int32.toInt_toInt64, Int64.reduceToInt, zw_zw, zw_sw1, zw_sw2, zw_sw3, zw_sw4, zw_sw5, zw_sw6, zw_sw7, ne_eq, zi_in, zi_cl, zi_le, zi_lt, zi_eq, zi_neg, zi_0le, zb_0, if_true, if_false, eq_self, zb_T, zb_F, Bool.false_eq_true, zO_eq, zO_ne1, zO_ne2, zO_nn, zi_ne1, zi_ne2, zi_lt1, zi_le1, zi_lt2, zi_le2, Int32.reduceLT, Int32.reduceLE, Nat.reduceLT, Nat.reduceLeDiff, Int32.reduceMul, Int32.reduceAdd, Int32.reduceSub, not_false_eq_true, not_true_eq_false, Int32.reduceToInt, Int.reduceLE, Int.reduceLT, Int.reduceNeg, ite_self, R_X9_rounds, SHF, PF, h1, h2, qp, J4.1, b2, b2', a1, a2, a3, a4, a5, e0, e1, e2, e3, f1, f2, f3, f4, x0, x1, x2, x3, c_fitsO, zb_f b3, zi_s]
      · rw [show zrc X l n s (c + 1) i = _ from if_neg (fun q => b2 q.2.1)]
        refine ⟨J, hJ, fun d Q l7 l8 l9 l10 => ?_⟩
        have b2' : 24 ≤ n + i := by omega
        rw [H_X9_rounds_65]
        simp (disch := first | assumption | rfl | omega | decide | exact zb_01 _) only [zabs_e, zmax_e, zmin_e, zrf_s, zpush_s, zpush_n, zw_app, upd_app, updL_app, Nat.reduceEqDiff, Nat.add_left_cancel_iff, Nat.add_eq_left, Nat.left_eq_add, ↓reduceIte, true_and, and_true, Int32.reduceToNatClampNeg, zin_O, zi_ltO, zi_leO, zi_Olt, zi_Ole, zi_eqO, Nat.not_lt_zero, Nat.zero_le, List.append_nil, zrn_n, zrn_s, List.cons_append, List.nil_append, zlg_lt, zlg_gt, zlg_le, zlg_ge, zlg_eq, Int32.toInt_toInt64, Int64.reduceToInt, zw_zw, zw_sw1, zw_sw2, zw_sw3, zw_sw4, zw_sw5, zw_sw6, zw_sw7, ne_eq, zi_in, zi_cl, zi_le, zi_lt, zi_eq, zi_neg, zi_0le, zb_0, if_true, if_false, eq_self, zb_T, zb_F, Bool.false_eq_true, zO_eq, zO_ne1, zO_ne2, zO_nn, zi_ne1, zi_ne2, zi_lt1, zi_le1, zi_lt2, zi_le2, Int32.reduceLT, Int32.reduceLE, Nat.reduceLT, Nat.reduceLeDiff, Int32.reduceMul, Int32.reduceAdd, Int32.reduceSub, not_false_eq_true, not_true_eq_false, Int32.reduceToInt, Int.reduceLE, Int.reduceLT, Int.reduceNeg, ite_self, R_X9_rounds, SHF, PF, h1, h2, qp, J4.1, b2, b2', zi_s]
    · simp only [zb_f (fun q => b1 ((zhp he h60).mp q))] at qp
      rw [show zrc X l n s (c + 1) i = _ from if_neg (fun q => b1 q.1)]
      refine ⟨J, hJ, fun d Q l7 l8 l9 l10 => ?_⟩
      rw [H_X9_rounds_65]
      simp (disch := first | assumption | rfl | omega | decide | exact zb_01 _) only [zabs_e, zmax_e, zmin_e, zrf_s, zpush_s, zpush_n, zw_app, upd_app, updL_app, Nat.reduceEqDiff, Nat.add_left_cancel_iff, Nat.add_eq_left, Nat.left_eq_add, ↓reduceIte, true_and, and_true, Int32.reduceToNatClampNeg, zin_O, zi_ltO, zi_leO, zi_Olt, zi_Ole, zi_eqO, Nat.not_lt_zero, Nat.zero_le, List.append_nil, zrn_n, zrn_s, List.cons_append, List.nil_append, zlg_lt, zlg_gt, zlg_le, zlg_ge, zlg_eq, Int32.toInt_toInt64, Int64.reduceToInt, zw_zw, zw_sw1, zw_sw2, zw_sw3, zw_sw4, zw_sw5, zw_sw6, zw_sw7, ne_eq, zi_in, zi_cl, zi_le, zi_lt, zi_eq, zi_neg, zi_0le, zb_0, if_true, if_false, eq_self, zb_T, zb_F, Bool.false_eq_true, zO_eq, zO_ne1, zO_ne2, zO_nn, zi_ne1, zi_ne2, zi_lt1, zi_le1, zi_lt2, zi_le2, Int32.reduceLT, Int32.reduceLE, Nat.reduceLT, Nat.reduceLeDiff, Int32.reduceMul, Int32.reduceAdd, Int32.reduceSub, not_false_eq_true, not_true_eq_false, Int32.reduceToInt, Int.reduceLE, Int.reduceLT, Int.reduceNeg, ite_self, R_X9_rounds, SHF, PF, h1, h2, qp, zi_s]
def zmI (J : Nat → Nat → Int32) (X : Nat → Int32) (n s i : Nat) (M : Nat → Nat → Int32) : Prop := (∀ a, a ≠ 80 → a ≠ 81 → a ≠ 85 → M a = J a) ∧ M 80 = upd (J 80) 6 (nI (n + i)) ∧ n + i ≤ 24 ∧ (∀ k, (k < n ∨ (24 ≤ k ∧ k < 24 + n) ∨ (48 ≤ k ∧ k < 48 + n) ∨ 72 ≤ k) → M 81 k = J 81 k) ∧ (∀ k, k < n → M 85 k = J 85 k) ∧ ∀ k, k < i → M 85 (n + k) = X (s + 4 * k) ∧ M 81 (n + k) = X (s + 4 * k + 2) ∧ M 81 (24 + (n + k)) = X (s + 4 * k + 3) ∧ M 81 (48 + (n + k)) = X (s + 4 * k + 1)
theorem r2_adds (h8 : K 80 6 = nI n) (h24 : n < 24) (p dm x y : Int32) : ∃ K', (∀ d Q, zWM (d + 1) 133 [.ref 80, .int p, .int dm, .int x, .int y] (zSH, K, L, zP f g t) Q = Q none (zSH, K', L, zP f g t)) ∧ (∀ a, a ≠ 80 → a ≠ 81 → a ≠ 85 → K' a = K a) ∧ K' 80 = upd (K 80) 6 (nI (n + 1)) ∧ K' 85 = upd (K 85) n p ∧ K' 81 = upd (upd (upd (K 81) n x) (24 + n) y) (48 + n) dm :=
  ⟨_, fun d Q => m_adds h8 h24 p dm x y, fun a h1 h2 h3 => by rw [zw_n h1, zw_n h2, zw_n h3], rfl, rfl, rfl⟩
theorem zhp2 {s l i : Nat} (hs : s < 2147483648) (hl : l ≤ 60) (hi : i ≤ 15) : (nI s ≤ nI l - 4 - nI (4 * i)) ↔ s + 4 * i + 4 ≤ l := by
  have t4 : (4 : Int32).toInt = 4 := by decide
  have e1 := zi_nt hs
  have e2 := zi_nt (n := l) (by omega)
  have e4 := zi_nt (n := 4 * i) (by omega)
  have e3 : (nI l - 4).toInt = l - 4 := by rw [zt_sub (by rw [e2]; omega) (by rw [e2]; omega), e2, t4]
  have e5 : (nI l - 4 - nI (4 * i)).toInt = l - 4 - (4 * i : Nat) := by rw [zt_sub (by rw [e3, e4]; omega) (by rw [e3, e4]; omega), e3, e4]
  simp only [Int32.le_iff_toInt_le, e1, e5]
  omega
theorem m_rnds_l (hj : j < 6) (hl : J 101 j = nI l) (h60 : l ≤ 60) (hX : ∀ k, k < 60 → L 102 (60 * j + k) = (X k).toInt64) (hs : s < 2147483648) (hw : w ≤ 15) : ∀ c i M, c + i = w → zmI J X n s i M → ∃ M', zmI J X n s (zrc X l n s c i) M' ∧ ∀ d Q (l6 : Value), zWp (d + 98) zi_137 none 69 [.ref 80, .int (nI j), .int (nI s), .int (nI w), .int (nI i), .int 1, l6] [] (zSH, M, L, zP f g t) Q = Q (some (.int (nI (zrc X l n s c i)))) (zSH, M', L, zP f g t) := by
  intro c
  induction c with
  | zero =>
    intro i M hc hM
    refine ⟨M, hM, fun d Q l6 => ?_⟩
    have h : i = w := by omega
    subst h
    rw [H_X10_rounds_69]
    simp (disch := first | assumption | rfl | omega | decide | exact zb_01 _) only [zabs_e, zmax_e, zmin_e, zrf_s, zpush_s, zpush_n, zw_app, upd_app, updL_app, Nat.reduceEqDiff, Nat.add_left_cancel_iff, Nat.add_eq_left, Nat.left_eq_add, ↓reduceIte, true_and, and_true, Int32.reduceToNatClampNeg, zin_O, zi_ltO, zi_leO, zi_Olt, zi_Ole, zi_eqO, Nat.not_lt_zero, Nat.zero_le, List.append_nil, zrn_n, zrn_s, List.cons_append, List.nil_append, zlg_lt, zlg_gt, zlg_le, zlg_ge, zlg_eq, Int32.toInt_toInt64, Int64.reduceToInt, zw_zw, zw_sw1, zw_sw2, zw_sw3, zw_sw4, zw_sw5, zw_sw6, zw_sw7, ne_eq, zi_in, zi_cl, zi_le, zi_lt, zi_eq, zi_neg, zi_0le, zb_0, if_true, if_false, eq_self, zb_T, zb_F, Bool.false_eq_true, zO_eq, zO_ne1, zO_ne2, zO_nn, zi_ne1, zi_ne2, zi_lt1, zi_le1, zi_lt2, zi_le2, Int32.reduceLT, Int32.reduceLE, Nat.reduceLT, Nat.reduceLeDiff, Int32.reduceMul, Int32.reduceAdd, Int32.reduceSub, not_false_eq_true, not_true_eq_false, Int32.reduceToInt, Int.reduceLE, Int.reduceLT, Int.reduceNeg, ite_self, R_X10_rounds, SHF, PF, Nat.le_refl, zrc]
  | succ c ih =>
    intro i M hc hM
    obtain ⟨M1, M2, M3, M4, M5, M6⟩ := id hM
    have h1 : ¬ w ≤ i := by omega
    have h2 : i < w := by omega
    have m101 : M 101 j = nI l := by rw [M1 101 (by omega) (by omega) (by omega)]; exact hl
    have m80 : M 80 6 = nI (n + i) := by rw [M2]; rfl
    have hi : i ≤ 15 := by omega
    have x4 : 4 * nI i = nI (4 * i) := by
      unfold nI
      rw [Int32.ofNat_mul]
      rfl
    have ex : ∀ d Q (l6 : Value), zWp (d + 98) zi_137 none 69 [.ref 80, .int (nI j), .int (nI s), .int (nI w), .int (nI i), .int 0, l6] [] (zSH, M, L, zP f g t) Q = Q (some (.int (nI i))) (zSH, M, L, zP f g t) := fun d Q l6 => by
      rw [H_X10_rounds_69]
      simp (disch := first | assumption | rfl | omega | decide | exact zb_01 _) only [zabs_e, zmax_e, zmin_e, zrf_s, zpush_s, zpush_n, zw_app, upd_app, updL_app, Nat.reduceEqDiff, Nat.add_left_cancel_iff, Nat.add_eq_left, Nat.left_eq_add, ↓reduceIte, true_and, and_true, Int32.reduceToNatClampNeg, zin_O, zi_ltO, zi_leO, zi_Olt, zi_Ole, zi_eqO, Nat.not_lt_zero, Nat.zero_le, List.append_nil, zrn_n, zrn_s, List.cons_append, List.nil_append, zlg_lt, zlg_gt, zlg_le, zlg_ge, zlg_eq, Int32.toInt_toInt64, Int64.reduceToInt, zw_zw, zw_sw1, zw_sw2, zw_sw3, zw_sw4, zw_sw5, zw_sw6, zw_sw7, ne_eq, zi_in, zi_cl, zi_le, zi_lt, zi_eq, zi_neg, zi_0le, zb_0, if_true, if_false, eq_self, zb_T, zb_F, Bool.false_eq_true, zO_eq, zO_ne1, zO_ne2, zO_nn, zi_ne1, zi_ne2, zi_lt1, zi_le1, zi_lt2, zi_le2, Int32.reduceLT, Int32.reduceLE, Nat.reduceLT, Nat.reduceLeDiff, Int32.reduceMul, Int32.reduceAdd, Int32.reduceSub, not_false_eq_true, not_true_eq_false, Int32.reduceToInt, Int.reduceLE, Int.reduceLT, Int.reduceNeg, ite_self, R_X10_rounds, SHF, PF]
    by_cases b1 : s + 4 * i + 4 ≤ l
    · have b1' := (zhp2 hs h60 hi).mpr b1
      have b1'' : ¬ nI l - 4 - nI (4 * i) < nI s := Int32.not_lt.mpr b1'
      by_cases b2 : n + i < 24
      · have b2' : ¬ 24 ≤ n + i := by omega
        have e0 : 60 * j + s + 4 * i < 360 := by omega
        have e1 : 60 * j + s + 4 * i + 1 < 360 := by omega
        have e2 : 60 * j + s + 4 * i + 2 < 360 := by omega
        have e3 : 60 * j + s + 4 * i + 3 < 360 := by omega
        have x0 : L 102 (60 * j + s + 4 * i) = (X (s + 4 * i)).toInt64 := by rw [Nat.add_assoc]; exact hX _ (by omega)
        have x1 : L 102 (60 * j + s + 4 * i + 1) = (X (s + 4 * i + 1)).toInt64 := by rw [show 60 * j + s + 4 * i + 1 = 60 * j + (s + 4 * i + 1) by omega]; exact hX _ (by omega)
        have x2 : L 102 (60 * j + s + 4 * i + 2) = (X (s + 4 * i + 2)).toInt64 := by rw [show 60 * j + s + 4 * i + 2 = 60 * j + (s + 4 * i + 2) by omega]; exact hX _ (by omega)
        have x3 : L 102 (60 * j + s + 4 * i + 3) = (X (s + 4 * i + 3)).toInt64 := by rw [show 60 * j + s + 4 * i + 3 = 60 * j + (s + 4 * i + 3) by omega]; exact hX _ (by omega)
        have f1 : nI (60 * j + s + 4 * i) + 1 = nI (60 * j + s + 4 * i + 1) := zi_ak _ 1
        have f2 : nI (60 * j + s + 4 * i) + 2 = nI (60 * j + s + 4 * i + 2) := zi_ak _ 2
        have f3 : nI (60 * j + s + 4 * i) + 3 = nI (60 * j + s + 4 * i + 3) := zi_ak _ 3
        by_cases b3 : zok1 (X (s + 4 * i)) (X (s + 4 * i + 1)) (X (s + 4 * i + 2)) (X (s + 4 * i + 3))
        · obtain ⟨K, q1, k1, k2, k3, k4⟩ := r2_adds (f := f) (g := g) (t := t) (L := L) (K := M) (n := n + i) m80 b2 (X (s + 4 * i)) (X (s + 4 * i + 1)) (X (s + 4 * i + 2)) (X (s + 4 * i + 3))
          have hK : zmI J X n s (i + 1) K := by
            refine ⟨fun a h1 h2 h3 => (k1 a h1 h2 h3).trans (M1 a h1 h2 h3), by rw [k2, M2, upd_upd]; rfl, b2, fun k hk => ?_, fun k hk => ?_, fun k hk => ?_⟩
            · rw [k4]
              simp only [upd]
              rw [if_neg (by omega), if_neg (by omega), if_neg (by omega)]
              exact M4 k hk
            · rw [k3]
              simp only [upd]
              rw [if_neg (by omega)]
              exact M5 k hk
            · rw [k3, k4]
              simp only [upd]
              by_cases e : k = i
              · subst e
                rw [if_pos rfl, if_neg (by omega), if_neg (by omega), if_pos rfl, if_neg (by omega), if_pos rfl, if_pos rfl]
                exact ⟨rfl, rfl, rfl, rfl⟩
              · repeat' rw [if_neg (by omega)]
                exact M6 k (by omega)
          obtain ⟨M', z1, q2⟩ := ih (i + 1) K (by omega) hK
          rw [show zrc X l n s (c + 1) i = _ from if_pos ⟨b1, b2, b3⟩]
          refine ⟨M', z1, fun d Q l6 => ?_⟩
          rw [← q2 d Q (.int (nI (60 * j + s + 4 * i))), H_X10_rounds_69]
          simp (disch := first | assumption | rfl | omega | decide | exact zb_01 _) only [zabs_e, zmax_e, zmin_e, zrf_s, zpush_s, zpush_n, zw_app, upd_app, updL_app, Nat.reduceEqDiff, Nat.add_left_cancel_iff, Nat.add_eq_left, Nat.left_eq_add, ↓reduceIte, true_and, and_true, Int32.reduceToNatClampNeg, zin_O, zi_ltO, zi_leO, zi_Olt, zi_Ole, zi_eqO, Nat.not_lt_zero, Nat.zero_le, List.append_nil, zrn_n, zrn_s, List.cons_append, List.nil_append, zlg_lt, zlg_gt, zlg_le, zlg_ge, zlg_eq, Int32.toInt_toInt64, Int64.reduceToInt, zw_zw, zw_sw1, zw_sw2, zw_sw3, zw_sw4, zw_sw5, zw_sw6, zw_sw7, ne_eq, zi_in, zi_cl, zi_le, zi_lt, zi_eq, zi_neg, zi_0le, zb_0, if_true, if_false, eq_self, zb_T, zb_F, Bool.false_eq_true, zO_eq, zO_ne1, zO_ne2, zO_nn, zi_ne1, zi_ne2, zi_lt1, zi_le1, zi_lt2, zi_le2, Int32.reduceLT, Int32.reduceLE, Nat.reduceLT, Nat.reduceLeDiff, Int32.reduceMul, Int32.reduceAdd, Int32.reduceSub, not_false_eq_true, not_true_eq_false, Int32.reduceToInt, Int.reduceLE, Int.reduceLT, Int.reduceNeg, ite_self, R_X10_rounds, SHF, PF, h1, h2, hj, m101, m80, b1', b1'', b2, b2', x4, zi_x60, zi_ak, e0, e1, e2, e3, f1, f2, f3, x0, x1, x2, x3, m_isOneO, zb_t b3, Int32.toInt32_toInt64, q1, zi_s]
        · rw [show zrc X l n s (c + 1) i = _ from if_neg (fun q => b3 q.2.2)]
          refine ⟨M, hM, fun d Q l6 => ?_⟩
          rw [← ex d Q (.int (nI (60 * j + s + 4 * i))), H_X10_rounds_69]
          simp (disch := first | assumption | rfl | omega | decide | exact zb_01 _) only [zabs_e, zmax_e, zmin_e, zrf_s, zpush_s, zpush_n, zw_app, upd_app, updL_app, Nat.reduceEqDiff, Nat.add_left_cancel_iff, Nat.add_eq_left, Nat.left_eq_add, ↓reduceIte, true_and, and_true, Int32.reduceToNatClampNeg, zin_O, zi_ltO, zi_leO, zi_Olt, zi_Ole, zi_eqO, Nat.not_lt_zero, Nat.zero_le, List.append_nil, zrn_n, zrn_s, List.cons_append, List.nil_append, zlg_lt, zlg_gt, zlg_le, zlg_ge, zlg_eq, Int32.toInt_toInt64, Int64.reduceToInt, zw_zw, zw_sw1, zw_sw2, zw_sw3, zw_sw4, zw_sw5, zw_sw6, zw_sw7, ne_eq, zi_in, zi_cl, zi_le, zi_lt, zi_eq, zi_neg, zi_0le, zb_0, if_true, if_false, eq_self, zb_T, zb_F, Bool.false_eq_true, zO_eq, zO_ne1, zO_ne2, zO_nn, zi_ne1, zi_ne2, zi_lt1, zi_le1, zi_lt2, zi_le2, Int32.reduceLT, Int32.reduceLE, Nat.reduceLT, Nat.reduceLeDiff, Int32.reduceMul, Int32.reduceAdd, Int32.reduceSub, not_false_eq_true, not_true_eq_false, Int32.reduceToInt, Int.reduceLE, Int.reduceLT, Int.reduceNeg, ite_self, R_X10_rounds, SHF, PF, h1, h2, hj, m101, m80, b1', b1'', b2, b2', x4, zi_x60, zi_ak, e0, e1, e2, e3, f1, f2, f3, x0, x1, x2, x3, m_isOneO, zb_f b3, zi_s]
      · rw [show zrc X l n s (c + 1) i = _ from if_neg (fun q => b2 q.2.1)]
        refine ⟨M, hM, fun d Q l6 => ?_⟩
        have b2' : 24 ≤ n + i := by omega
        rw [← ex d Q (.int (nI (60 * j + s + 4 * i))), H_X10_rounds_69]
        simp (disch := first | assumption | rfl | omega | decide | exact zb_01 _) only [zabs_e, zmax_e, zmin_e, zrf_s, zpush_s, zpush_n, zw_app, upd_app, updL_app, Nat.reduceEqDiff, Nat.add_left_cancel_iff, Nat.add_eq_left, Nat.left_eq_add, ↓reduceIte, true_and, and_true, Int32.reduceToNatClampNeg, zin_O, zi_ltO, zi_leO, zi_Olt, zi_Ole, zi_eqO, Nat.not_lt_zero, Nat.zero_le, List.append_nil, zrn_n, zrn_s, List.cons_append, List.nil_append, zlg_lt, zlg_gt, zlg_le, zlg_ge, zlg_eq, Int32.toInt_toInt64, Int64.reduceToInt, zw_zw, zw_sw1, zw_sw2, zw_sw3, zw_sw4, zw_sw5, zw_sw6, zw_sw7, ne_eq, zi_in, zi_cl, zi_le, zi_lt, zi_eq, zi_neg, zi_0le, zb_0, if_true, if_false, eq_self, zb_T, zb_F, Bool.false_eq_true, zO_eq, zO_ne1, zO_ne2, zO_nn, zi_ne1, zi_ne2, zi_lt1, zi_le1, zi_lt2, zi_le2, Int32.reduceLT, Int32.reduceLE, Nat.reduceLT, Nat.reduceLeDiff, Int32.reduceMul, Int32.reduceAdd, Int32.reduceSub, not_false_eq_true, not_true_eq_false, Int32.reduceToInt, Int.reduceLE, Int.reduceLT, Int.reduceNeg, ite_self, R_X10_rounds, SHF, PF, h1, h2, hj, m101, m80, b1', b1'', b2, b2', x4, zi_x60, zi_ak, zi_s]
    · have b1' : ¬ nI s ≤ nI l - 4 - nI (4 * i) := fun q => b1 ((zhp2 hs h60 hi).mp q)
      have b1'' : nI l - 4 - nI (4 * i) < nI s := Int32.not_le.mp b1'
      rw [show zrc X l n s (c + 1) i = _ from if_neg (fun q => b1 q.1)]
      refine ⟨M, hM, fun d Q l6 => ?_⟩
      rw [← ex d Q (.int (nI (60 * j + s + 4 * i))), H_X10_rounds_69]
      simp (disch := first | assumption | rfl | omega | decide | exact zb_01 _) only [zabs_e, zmax_e, zmin_e, zrf_s, zpush_s, zpush_n, zw_app, upd_app, updL_app, Nat.reduceEqDiff, Nat.add_left_cancel_iff, Nat.add_eq_left, Nat.left_eq_add, ↓reduceIte, true_and, and_true, Int32.reduceToNatClampNeg, zin_O, zi_ltO, zi_leO, zi_Olt, zi_Ole, zi_eqO, Nat.not_lt_zero, Nat.zero_le, List.append_nil, zrn_n, zrn_s, List.cons_append, List.nil_append, zlg_lt, zlg_gt, zlg_le, zlg_ge, zlg_eq, Int32.toInt_toInt64, Int64.reduceToInt, zw_zw, zw_sw1, zw_sw2, zw_sw3, zw_sw4, zw_sw5, zw_sw6, zw_sw7, ne_eq, zi_in, zi_cl, zi_le, zi_lt, zi_eq, zi_neg, zi_0le, zb_0, if_true, if_false, eq_self, zb_T, zb_F, Bool.false_eq_true, zO_eq, zO_ne1, zO_ne2, zO_nn, zi_ne1, zi_ne2, zi_lt1, zi_le1, zi_lt2, zi_le2, Int32.reduceLT, Int32.reduceLE, Nat.reduceLT, Nat.reduceLeDiff, Int32.reduceMul, Int32.reduceAdd, Int32.reduceSub, not_false_eq_true, not_true_eq_false, Int32.reduceToInt, Int.reduceLE, Int.reduceLT, Int.reduceNeg, ite_self, R_X10_rounds, SHF, PF, h1, h2, hj, m101, m80, b1', b1'', x4, zi_x60, zi_ak, zi_s]
end RNDS
