/-! the class's towers: all that changes them -/
theorem zhi_s {j n : Nat} {new old : Nat → Int32} (h : j < n) : upd (fun i => if j + 1 ≤ i ∧ i < n then new i else old i) j (new j) = fun i => if j ≤ i ∧ i < n then new i else old i := by
  funext i
  simp only [upd]
  by_cases e : i = j
  · subst e; simp [h]
  · by_cases h2 : j + 1 ≤ i ∧ i < n
    · have h3 : j ≤ i ∧ i < n := ⟨by omega, h2.2⟩
      rw [if_neg e, if_pos h2, if_pos h3]
    · have h3 : ¬ (j ≤ i ∧ i < n) := by omega
      rw [if_neg e, if_neg h2, if_neg h3]
/-- the entries from j on are new -/
def zhi {α : Type} (j n : Nat) (new old : Nat → α) : Nat → α := fun i => if j ≤ i ∧ i < n then new i else old i
theorem zhi_n {α : Type} {n : Nat} {new old : Nat → α} : zhi n n new old = old := by
  funext i; unfold zhi; exact if_neg (by omega)
theorem zhi_0 {α : Type} {n : Nat} {new old : Nat → α} : zhi 0 n new old = zfl n new old := by
  funext i; unfold zhi zfl; simp
theorem zhi_u {j n : Nat} {new old : Nat → Int32} (h : j < n) : upd (zhi (j + 1) n new old) j (new j) = zhi j n new old := zhi_s h
def tmx (I : Nat → Nat → Int32) (a : Nat) : Nat → Int32 := fun k => sumI (I a) (k + 1)
def twe (I : Nat → Nat → Int32) (b n : Nat) : Nat → Int32 := fun k => sumI (I (b + 1)) n - sumI (I (b + 1)) (k + 1)
def tpm (I : Nat → Nat → Int32) (b a : Nat) : Nat → Int32 := fun i => I (b + 1) i * sumI (I (b + a)) (i + 1)
def tmo (I : Nat → Nat → Int32) (b a n : Nat) : Nat → Int32 := fun k => sumI (tpm I b a) n - sumI (tpm I b a) (k + 1)
/-- the middles worked out -/
def tJ (I : Nat → Nat → Int32) (b n : Nat) : Nat → Nat → Int32 := zw (zw I (b + 7) (zfl n (tmx I (b + 4)) (I (b + 7)))) (b + 8) (zfl n (tmx I (b + 5)) (I (b + 8)))
/-- all worked out -/
def tW (I : Nat → Nat → Int32) (b n : Nat) : Nat → Nat → Int32 := zw (zw (zw (tJ I b n) (b + 9) (zfl n (twe I b n) (I (b + 9)))) (b + 11) (zfl n (tmo I b 4 n) (I (b + 11)))) (b + 12) (zfl n (tmo I b 5 n) (I (b + 12)))
theorem zim1 (x : Int32) : x + -1 = x - 1 := by rw [Int32.sub_eq_add_neg]
section SETTLE
variable {d b n f g : Nat} {t : Option Nat} {I : Nat → Nat → Int32} {L : Nat → Nat → Int64} {Q : Option Value → zMm → Prop}
theorem settle2 (hb : zTb b) (hn : I b 6 = nI n) (h24 : n ≤ 24) (l1 l2 : Int32) : ∀ j, j ≤ n → zWp d zi_64 none 76 [.ref b, .int l1, .int l2, .int (sumI (I (b + 1)) n - sumI (I (b + 1)) j), .int (sumI (tpm I b 4) n - sumI (tpm I b 4) j), .int (sumI (tpm I b 5) n - sumI (tpm I b 5) j), .int (nI j - 1)] [] (zSH, zw (zw (zw (tJ I b n) (b + 9) (zhi j n (twe I b n) (I (b + 9)))) (b + 11) (zhi j n (tmo I b 4 n) (I (b + 11)))) (b + 12) (zhi j n (tmo I b 5 n) (I (b + 12))), L, zP f g t) Q =
    Q none (zSH, tW I b n, L, zP f g t) := by
  obtain ⟨h0, ⟨k1, n1⟩, ⟨k2, n2⟩, ⟨k3, n3⟩, ⟨k4, n4⟩, ⟨k5, n5⟩, ⟨k6, n6⟩, ⟨k7, n7⟩, ⟨k8, n8⟩, ⟨k9, n9⟩, ⟨k10, n10⟩, ⟨k11, n11⟩, ⟨k12, n12⟩, hp⟩ := TWf hb f g t
  intro j
  induction j with
  | zero =>
    intro _
    have e2 : (nI 0 - 1 < 0) = True := eq_true (by decide)
    rw [H_X8_settle_76]
    simp (disch := first | assumption | rfl | omega | decide | exact zb_01 _) only [zabs_e, zmax_e, zmin_e, zrf_s, zpush_s, zpush_n, zw_app, upd_app, updL_app, Nat.reduceEqDiff, Nat.add_left_cancel_iff, Nat.add_eq_left, Nat.left_eq_add, ↓reduceIte, true_and, and_true, Int32.reduceToNatClampNeg, zin_O, zi_ltO, zi_leO, zi_Olt, zi_Ole, zi_eqO, Nat.not_lt_zero, Nat.zero_le, List.append_nil, zrn_n, zrn_s, List.cons_append, List.nil_append, zlg_lt, zlg_gt, zlg_le, zlg_ge, zlg_eq, Int32.toInt_toInt64, Int64.reduceToInt, zw_zw, zw_sw1, zw_sw2, zw_sw3, zw_sw4, zw_sw5, zw_sw6, zw_sw7, ne_eq, zi_in, zi_cl, zi_le, zi_lt, zi_eq, zi_neg, zi_0le, zb_0, if_true, if_false, eq_self, zb_T, zb_F, Bool.false_eq_true, zO_eq, zO_ne1, zO_ne2, zO_nn, zi_ne1, zi_ne2, zi_lt1, zi_le1, zi_lt2, zi_le2, Int32.reduceLT, Int32.reduceLE, Nat.reduceLT, Nat.reduceLeDiff, Int32.reduceMul, Int32.reduceAdd, Int32.reduceSub, not_false_eq_true, not_true_eq_false, R_X8_settle, e2, zhi_0]
    rfl
  | succ j ih =>
    intro hj
    have hl : j < n := by omega
    rw [nI_pred j, H_X8_settle_76, ← ih (by omega)]
    have e1 : ∀ (y : Nat → Int32), upd (zhi (j + 1) n (twe I b n) y) j (sumI (I (b + 1)) n - sumI (I (b + 1)) (j + 1)) = zhi j n (twe I b n) y := fun y => zhi_u hl
    have e2 : ∀ (a : Nat) (y : Nat → Int32), upd (zhi (j + 1) n (tmo I b a n) y) j (sumI (tpm I b a) n - sumI (tpm I b a) (j + 1)) = zhi j n (tmo I b a n) y := fun a y => zhi_u hl
    have e3 : ∀ (p : Nat → Int32), sumI p n - sumI p (j + 1) + p j = sumI p n - sumI p j := by intro p; rw [sumI]; grind
    have e4 : I (b + 1) j * tmx I (b + 4) j = tpm I b 4 j := rfl
    have e5 : I (b + 1) j * tmx I (b + 5) j = tpm I b 5 j := rfl
    have e6 := e3 (tpm I b 4)
    have e7 := e3 (tpm I b 5)
    have e8 := e3 (I (b + 1))
    simp (disch := first | assumption | rfl | omega | decide | exact zb_01 _) only [zabs_e, zmax_e, zmin_e, zrf_s, zpush_s, zpush_n, zw_app, upd_app, updL_app, Nat.reduceEqDiff, Nat.add_left_cancel_iff, Nat.add_eq_left, Nat.left_eq_add, ↓reduceIte, true_and, and_true, Int32.reduceToNatClampNeg, zin_O, zi_ltO, zi_leO, zi_Olt, zi_Ole, zi_eqO, Nat.not_lt_zero, Nat.zero_le, List.append_nil, zrn_n, zrn_s, List.cons_append, List.nil_append, zlg_lt, zlg_gt, zlg_le, zlg_ge, zlg_eq, Int32.toInt_toInt64, Int64.reduceToInt, zw_zw, zw_sw1, zw_sw2, zw_sw3, zw_sw4, zw_sw5, zw_sw6, zw_sw7, ne_eq, zi_in, zi_cl, zi_le, zi_lt, zi_eq, zi_neg, zi_0le, zb_0, if_true, if_false, eq_self, zb_T, zb_F, Bool.false_eq_true, zO_eq, zO_ne1, zO_ne2, zO_nn, zi_ne1, zi_ne2, zi_lt1, zi_le1, zi_lt2, zi_le2, Int32.reduceLT, Int32.reduceLE, Nat.reduceLT, Nat.reduceLeDiff, Int32.reduceMul, Int32.reduceAdd, Int32.reduceSub, not_false_eq_true, not_true_eq_false, R_X8_settle, n1, n2, n3, n4, n5, n6, n7, n8, n9, n10, n11, n12, hp, tJ, e1, e2, zfl_lt, e4, e5, e6, e7, e8, zim1]
theorem c_settle (hb : zTb b) (hn : I b 6 = nI n) (h24 : n ≤ 24) : zWM (d + 1) 64 [.ref b] (zSH, I, L, zP f g t) Q = Q none (zSH, tW I b n, L, zP f g t) := by
  obtain ⟨h0, ⟨k1, n1⟩, ⟨k2, n2⟩, ⟨k3, n3⟩, ⟨k4, n4⟩, ⟨k5, n5⟩, ⟨k6, n6⟩, ⟨k7, n7⟩, ⟨k8, n8⟩, ⟨k9, n9⟩, ⟨k10, n10⟩, ⟨k11, n11⟩, ⟨k12, n12⟩, hp⟩ := TWf hb f g t
  have e1 := fun l4 l5 l6 => settle1 (d := d) (f := f) (g := g) (t := t) (L := L) (Q := Q) hb hn h24 n 0 l4 l5 l6 (by omega)
  simp only [zfl_0, zw_id] at e1
  have e2 := settle2 (d := d) (f := f) (g := g) (t := t) (L := L) (Q := Q) hb hn h24 (sumI (I (b + 4)) n) (sumI (I (b + 5)) n) n (Nat.le_refl _)
  have e3 : ∀ (x : Int32), x - x = 0 := by intro x; grind
  rw [zhi_n, zhi_n, zhi_n, e3, e3, e3] at e2
  have e4 : zw (zw (zw (tJ I b n) (b + 9) (I (b + 9))) (b + 11) (I (b + 11))) (b + 12) (I (b + 12)) = tJ I b n := by
    rw [zw_same (f := tJ I b n) (a := b + 9) (by simp [tJ, zw]), zw_same (f := tJ I b n) (a := b + 11) (by simp [tJ, zw]), zw_same (f := tJ I b n) (a := b + 12) (by simp [tJ, zw])]
  rw [e4] at e2
  simp (disch := first | assumption | rfl | omega | decide | exact zb_01 _) only [zabs_e, zmax_e, zmin_e, zrf_s, zpush_s, zpush_n, zw_app, upd_app, updL_app, Nat.reduceEqDiff, Nat.add_left_cancel_iff, Nat.add_eq_left, Nat.left_eq_add, ↓reduceIte, true_and, and_true, Int32.reduceToNatClampNeg, zin_O, zi_ltO, zi_leO, zi_Olt, zi_Ole, zi_eqO, Nat.not_lt_zero, Nat.zero_le, List.append_nil, zrn_n, zrn_s, List.cons_append, List.nil_append, zlg_lt, zlg_gt, zlg_le, zlg_ge, zlg_eq, Int32.toInt_toInt64, Int64.reduceToInt, zw_zw, zw_sw1, zw_sw2, zw_sw3, zw_sw4, zw_sw5, zw_sw6, zw_sw7, ne_eq, zi_in, zi_cl, zi_le, zi_lt, zi_eq, zi_neg, zi_0le, zb_0, if_true, if_false, eq_self, zb_T, zb_F, Bool.false_eq_true, zO_eq, zO_ne1, zO_ne2, zO_nn, zi_ne1, zi_ne2, zi_lt1, zi_le1, zi_lt2, zi_le2, Int32.reduceLT, Int32.reduceLE, Nat.reduceLT, Nat.reduceLeDiff, Int32.reduceMul, Int32.reduceAdd, Int32.reduceSub, not_false_eq_true, not_true_eq_false, E_X8_settle, R_X8_settle]
  exact (e1 _ _ _).trans e2
theorem tW_7 : tW I b n (b + 7) = zfl n (tmx I (b + 4)) (I (b + 7)) := by simp [tW, tJ, zw]
theorem tW_8 : tW I b n (b + 8) = zfl n (tmx I (b + 5)) (I (b + 8)) := by simp [tW, tJ, zw]
theorem tW_9 : tW I b n (b + 9) = zfl n (twe I b n) (I (b + 9)) := by simp [tW, tJ, zw]
theorem tW_11 : tW I b n (b + 11) = zfl n (tmo I b 4 n) (I (b + 11)) := by simp [tW, tJ, zw]
theorem tW_12 : tW I b n (b + 12) = zfl n (tmo I b 5 n) (I (b + 12)) := by simp [tW, tJ, zw]
theorem tW_o {a : Nat} (h : a < b + 7 ∨ b + 12 < a) : tW I b n a = I a := by
  simp only [tW, tJ, zw]
  repeat' rw [if_neg (by omega)]
theorem tW_set (hn : I b 6 = nI n) (h24 : n ≤ 24) : tSet (tW I b n) b n := by
  refine ⟨by rw [tW_o (by omega)]; exact hn, h24, fun j hj => ?_⟩
  rw [tW_7, tW_8, tW_9, tW_11, tW_12, zfl_lt hj, zfl_lt hj, zfl_lt hj, zfl_lt hj, zfl_lt hj, tW_o (by omega), tW_o (by omega), tW_o (by omega)]
  exact ⟨rfl, rfl, rfl, rfl, rfl⟩
/-- a ROUND more, not worked out -/
def tUp (I : Nat → Nat → Int32) (b n : Nat) (p dm x y : Int32) : Nat → Nat → Int32 := zw (zw (zw (zw (zw I (b + 1) (upd (I (b + 1)) n p)) (b + 2) (upd (I (b + 2)) n dm)) (b + 4) (upd (I (b + 4)) n x)) (b + 5) (upd (I (b + 5)) n y)) b (upd (I b) 6 (nI (n + 1)))
theorem c_raise (hb : zTb b) (hn : I b 6 = nI n) (h24 : n < 24) (p dm x y : Int32) : zWM (d + 2) 60 [.ref b, .int p, .int dm, .int x, .int y] (zSH, I, L, zP f g t) Q = Q none (zSH, tW (tUp I b n p dm x y) b (n + 1), L, zP f g t) := by
  obtain ⟨h0, ⟨k1, n1⟩, ⟨k2, n2⟩, ⟨k3, n3⟩, ⟨k4, n4⟩, ⟨k5, n5⟩, ⟨k6, n6⟩, ⟨k7, n7⟩, ⟨k8, n8⟩, ⟨k9, n9⟩, ⟨k10, n10⟩, ⟨k11, n11⟩, ⟨k12, n12⟩, hp⟩ := TWf hb f g t
  have e := fun Q => c_settle (d := d) (f := f) (g := g) (t := t) (L := L) (Q := Q) (I := tUp I b n p dm x y) (n := n + 1) hb (by simp [tUp, zw_app, upd]) (by omega)
  simp (disch := first | assumption | rfl | omega | decide | exact zb_01 _) only [zabs_e, zmax_e, zmin_e, zrf_s, zpush_s, zpush_n, zw_app, upd_app, updL_app, Nat.reduceEqDiff, Nat.add_left_cancel_iff, Nat.add_eq_left, Nat.left_eq_add, ↓reduceIte, true_and, and_true, Int32.reduceToNatClampNeg, zin_O, zi_ltO, zi_leO, zi_Olt, zi_Ole, zi_eqO, Nat.not_lt_zero, Nat.zero_le, List.append_nil, zrn_n, zrn_s, List.cons_append, List.nil_append, zlg_lt, zlg_gt, zlg_le, zlg_ge, zlg_eq, Int32.toInt_toInt64, Int64.reduceToInt, zw_zw, zw_sw1, zw_sw2, zw_sw3, zw_sw4, zw_sw5, zw_sw6, zw_sw7, ne_eq, zi_in, zi_cl, zi_le, zi_lt, zi_eq, zi_neg, zi_0le, zb_0, if_true, if_false, eq_self, zb_T, zb_F, Bool.false_eq_true, zO_eq, zO_ne1, zO_ne2, zO_nn, zi_ne1, zi_ne2, zi_lt1, zi_le1, zi_lt2, zi_le2, Int32.reduceLT, Int32.reduceLE, Nat.reduceLT, Nat.reduceLeDiff, Int32.reduceMul, Int32.reduceAdd, Int32.reduceSub, not_false_eq_true, not_true_eq_false, E_X8_raise, R_X8_raise, n1, n2, n3, n4, n5, n6, n7, n8, n9, n10, n11, n12, hp, hn, zi_s]
  rw [if_pos h24]
  exact (e _).trans (by simp (disch := first | assumption | rfl | omega | decide | exact zb_01 _) only [zabs_e, zmax_e, zmin_e, zrf_s, zpush_s, zpush_n, zw_app, upd_app, updL_app, Nat.reduceEqDiff, Nat.add_left_cancel_iff, Nat.add_eq_left, Nat.left_eq_add, ↓reduceIte, true_and, and_true, Int32.reduceToNatClampNeg, zin_O, zi_ltO, zi_leO, zi_Olt, zi_Ole, zi_eqO, Nat.not_lt_zero, Nat.zero_le, List.append_nil, zrn_n, zrn_s, List.cons_append, List.nil_append, zlg_lt, zlg_gt, zlg_le, zlg_ge, zlg_eq, Int32.toInt_toInt64, Int64.reduceToInt, zw_zw, zw_sw1, zw_sw2, zw_sw3, zw_sw4, zw_sw5, zw_sw6, zw_sw7, ne_eq, zi_in, zi_cl, zi_le, zi_lt, zi_eq, zi_neg, zi_0le, zb_0, if_true, if_false, eq_self, zb_T, zb_F, Bool.false_eq_true, zO_eq, zO_ne1, zO_ne2, zO_nn, zi_ne1, zi_ne2, zi_lt1, zi_le1, zi_lt2, zi_le2, Int32.reduceLT, Int32.reduceLE, Nat.reduceLT, Nat.reduceLeDiff, Int32.reduceMul, Int32.reduceAdd, Int32.reduceSub, not_false_eq_true, not_true_eq_false, R_X8_raise])
theorem c_lower (hb : zTb b) (hn : I b 6 = nI (n + 1)) (h24 : n < 24) : zWM (d + 2) 61 [.ref b] (zSH, I, L, zP f g t) Q = Q none (zSH, tW (zw I b (upd (I b) 6 (nI n))) b n, L, zP f g t) := by
  obtain ⟨h0, ⟨k1, n1⟩, ⟨k2, n2⟩, ⟨k3, n3⟩, ⟨k4, n4⟩, ⟨k5, n5⟩, ⟨k6, n6⟩, ⟨k7, n7⟩, ⟨k8, n8⟩, ⟨k9, n9⟩, ⟨k10, n10⟩, ⟨k11, n11⟩, ⟨k12, n12⟩, hp⟩ := TWf hb f g t
  have e := fun Q => c_settle (d := d) (f := f) (g := g) (t := t) (L := L) (Q := Q) (I := zw I b (upd (I b) 6 (nI n))) (n := n) hb (by simp [zw_app, upd]) (by omega)
  have e2 : (nI (n + 1) ≤ 0) = False := eq_false (nI_nle (by omega) (by omega))
  simp (disch := first | assumption | rfl | omega | decide | exact zb_01 _) only [zabs_e, zmax_e, zmin_e, zrf_s, zpush_s, zpush_n, zw_app, upd_app, updL_app, Nat.reduceEqDiff, Nat.add_left_cancel_iff, Nat.add_eq_left, Nat.left_eq_add, ↓reduceIte, true_and, and_true, Int32.reduceToNatClampNeg, zin_O, zi_ltO, zi_leO, zi_Olt, zi_Ole, zi_eqO, Nat.not_lt_zero, Nat.zero_le, List.append_nil, zrn_n, zrn_s, List.cons_append, List.nil_append, zlg_lt, zlg_gt, zlg_le, zlg_ge, zlg_eq, Int32.toInt_toInt64, Int64.reduceToInt, zw_zw, zw_sw1, zw_sw2, zw_sw3, zw_sw4, zw_sw5, zw_sw6, zw_sw7, ne_eq, zi_in, zi_cl, zi_le, zi_lt, zi_eq, zi_neg, zi_0le, zb_0, if_true, if_false, eq_self, zb_T, zb_F, Bool.false_eq_true, zO_eq, zO_ne1, zO_ne2, zO_nn, zi_ne1, zi_ne2, zi_lt1, zi_le1, zi_lt2, zi_le2, Int32.reduceLT, Int32.reduceLE, Nat.reduceLT, Nat.reduceLeDiff, Int32.reduceMul, Int32.reduceAdd, Int32.reduceSub, not_false_eq_true, not_true_eq_false, E_X8_lower, R_X8_lower, n1, n2, n3, n4, n5, n6, n7, n8, n9, n10, n11, n12, hp, hn, e2, nI_pred, e]
theorem c_slide0 (hb : zTb b) (hn : I b 6 = nI n) (h24 : n ≤ 24) (k : Nat) (hk : k < n) (v : Int32) : zWM (d + 2) 62 [.ref b, .int (nI k), .int 0, .int v] (zSH, I, L, zP f g t) Q = Q none (zSH, tW (zw I (b + 4) (upd (I (b + 4)) k v)) b n, L, zP f g t) := by
  obtain ⟨h0, ⟨k1, n1⟩, ⟨k2, n2⟩, ⟨k3, n3⟩, ⟨k4, n4⟩, ⟨k5, n5⟩, ⟨k6, n6⟩, ⟨k7, n7⟩, ⟨k8, n8⟩, ⟨k9, n9⟩, ⟨k10, n10⟩, ⟨k11, n11⟩, ⟨k12, n12⟩, hp⟩ := TWf hb f g t
  have e := fun Q => c_settle (d := d) (f := f) (g := g) (t := t) (L := L) (Q := Q) (I := zw I (b + 4) (upd (I (b + 4)) k v)) (n := n) hb (by simp [zw_app, upd]; exact hn) (by omega)
  simp (disch := first | assumption | rfl | omega | decide | exact zb_01 _) only [zabs_e, zmax_e, zmin_e, zrf_s, zpush_s, zpush_n, zw_app, upd_app, updL_app, Nat.reduceEqDiff, Nat.add_left_cancel_iff, Nat.add_eq_left, Nat.left_eq_add, ↓reduceIte, true_and, and_true, Int32.reduceToNatClampNeg, zin_O, zi_ltO, zi_leO, zi_Olt, zi_Ole, zi_eqO, Nat.not_lt_zero, Nat.zero_le, List.append_nil, zrn_n, zrn_s, List.cons_append, List.nil_append, zlg_lt, zlg_gt, zlg_le, zlg_ge, zlg_eq, Int32.toInt_toInt64, Int64.reduceToInt, zw_zw, zw_sw1, zw_sw2, zw_sw3, zw_sw4, zw_sw5, zw_sw6, zw_sw7, ne_eq, zi_in, zi_cl, zi_le, zi_lt, zi_eq, zi_neg, zi_0le, zb_0, if_true, if_false, eq_self, zb_T, zb_F, Bool.false_eq_true, zO_eq, zO_ne1, zO_ne2, zO_nn, zi_ne1, zi_ne2, zi_lt1, zi_le1, zi_lt2, zi_le2, Int32.reduceLT, Int32.reduceLE, Nat.reduceLT, Nat.reduceLeDiff, Int32.reduceMul, Int32.reduceAdd, Int32.reduceSub, not_false_eq_true, not_true_eq_false, E_X8_slide, R_X8_slide, n1, n2, n3, n4, n5, n6, n7, n8, n9, n10, n11, n12, hp, hn, e]
theorem c_slide1 (hb : zTb b) (hn : I b 6 = nI n) (h24 : n ≤ 24) (k : Nat) (hk : k < n) (v : Int32) : zWM (d + 2) 62 [.ref b, .int (nI k), .int 1, .int v] (zSH, I, L, zP f g t) Q = Q none (zSH, tW (zw I (b + 5) (upd (I (b + 5)) k v)) b n, L, zP f g t) := by
  obtain ⟨h0, ⟨k1, n1⟩, ⟨k2, n2⟩, ⟨k3, n3⟩, ⟨k4, n4⟩, ⟨k5, n5⟩, ⟨k6, n6⟩, ⟨k7, n7⟩, ⟨k8, n8⟩, ⟨k9, n9⟩, ⟨k10, n10⟩, ⟨k11, n11⟩, ⟨k12, n12⟩, hp⟩ := TWf hb f g t
  have e := fun Q => c_settle (d := d) (f := f) (g := g) (t := t) (L := L) (Q := Q) (I := zw I (b + 5) (upd (I (b + 5)) k v)) (n := n) hb (by simp [zw_app, upd]; exact hn) (by omega)
  simp (disch := first | assumption | rfl | omega | decide | exact zb_01 _) only [zabs_e, zmax_e, zmin_e, zrf_s, zpush_s, zpush_n, zw_app, upd_app, updL_app, Nat.reduceEqDiff, Nat.add_left_cancel_iff, Nat.add_eq_left, Nat.left_eq_add, ↓reduceIte, true_and, and_true, Int32.reduceToNatClampNeg, zin_O, zi_ltO, zi_leO, zi_Olt, zi_Ole, zi_eqO, Nat.not_lt_zero, Nat.zero_le, List.append_nil, zrn_n, zrn_s, List.cons_append, List.nil_append, zlg_lt, zlg_gt, zlg_le, zlg_ge, zlg_eq, Int32.toInt_toInt64, Int64.reduceToInt, zw_zw, zw_sw1, zw_sw2, zw_sw3, zw_sw4, zw_sw5, zw_sw6, zw_sw7, ne_eq, zi_in, zi_cl, zi_le, zi_lt, zi_eq, zi_neg, zi_0le, zb_0, if_true, if_false, eq_self, zb_T, zb_F, Bool.false_eq_true, zO_eq, zO_ne1, zO_ne2, zO_nn, zi_ne1, zi_ne2, zi_lt1, zi_le1, zi_lt2, zi_le2, Int32.reduceLT, Int32.reduceLE, Nat.reduceLT, Nat.reduceLeDiff, Int32.reduceMul, Int32.reduceAdd, Int32.reduceSub, not_false_eq_true, not_true_eq_false, E_X8_slide, R_X8_slide, n1, n2, n3, n4, n5, n6, n7, n8, n9, n10, n11, n12, hp, hn, e]
/-- as the one at 1, not worked out -/
def tCp (I : Nat → Nat → Int32) (b n : Nat) : Nat → Nat → Int32 := zw (zw (zw (zw (zw I b (upd (I b) 6 (nI n))) (b + 1) (zfl n (I 2) (I (b + 1)))) (b + 2) (zfl n (I 3) (I (b + 2)))) (b + 4) (zfl n (I 5) (I (b + 4)))) (b + 5) (zfl n (I 6) (I (b + 5)))
theorem c_copy14 (hn : I 1 6 = nI n) (h24 : n ≤ 24) : zWM (d + 2) 63 [.ref 14, .ref 1] (zSH, I, L, zP f g t) Q = Q none (zSH, tW (tCp I 14 n) 14 n, L, zP f g t) := by
  have q0 : 0 ≤ nI n := nI_pos' (by omega)
  have q1 : (0 : Int32).toNatClampNeg + (nI n).toNatClampNeg ≤ 24 := by rw [zi_cl (by omega)]; exact (Nat.zero_add n).symm ▸ h24
  have r2 : (0 : Int32).toNatClampNeg + (nI n).toNatClampNeg ≤ zAn zSH 2 := q1
  have r3 : (0 : Int32).toNatClampNeg + (nI n).toNatClampNeg ≤ zAn zSH 3 := q1
  have r5 : (0 : Int32).toNatClampNeg + (nI n).toNatClampNeg ≤ zAn zSH 5 := q1
  have r6 : (0 : Int32).toNatClampNeg + (nI n).toNatClampNeg ≤ zAn zSH 6 := q1
  have r15 : (0 : Int32).toNatClampNeg + (nI n).toNatClampNeg ≤ zAn zSH 15 := q1
  have r16 : (0 : Int32).toNatClampNeg + (nI n).toNatClampNeg ≤ zAn zSH 16 := q1
  have r18 : (0 : Int32).toNatClampNeg + (nI n).toNatClampNeg ≤ zAn zSH 18 := q1
  have r19 : (0 : Int32).toNatClampNeg + (nI n).toNatClampNeg ≤ zAn zSH 19 := q1
  have e := fun Q => c_settle (d := d) (f := f) (g := g) (t := t) (L := L) (Q := Q) (I := tCp I 14 n) (n := n) (b := 14) (by unfold zTb; omega) (by simp [tCp, zw_app, upd]) (by omega)
  simp (disch := first | assumption | rfl | omega | decide | exact zb_01 _) only [zabs_e, zmax_e, zmin_e, zrf_s, zpush_s, zpush_n, zw_app, upd_app, updL_app, Nat.reduceEqDiff, Nat.add_left_cancel_iff, Nat.add_eq_left, Nat.left_eq_add, ↓reduceIte, true_and, and_true, Int32.reduceToNatClampNeg, zin_O, zi_ltO, zi_leO, zi_Olt, zi_Ole, zi_eqO, Nat.not_lt_zero, Nat.zero_le, List.append_nil, zrn_n, zrn_s, List.cons_append, List.nil_append, zlg_lt, zlg_gt, zlg_le, zlg_ge, zlg_eq, Int32.toInt_toInt64, Int64.reduceToInt, zw_zw, zw_sw1, zw_sw2, zw_sw3, zw_sw4, zw_sw5, zw_sw6, zw_sw7, ne_eq, zi_in, zi_cl, zi_le, zi_lt, zi_eq, zi_neg, zi_0le, zb_0, if_true, if_false, eq_self, zb_T, zb_F, Bool.false_eq_true, zO_eq, zO_ne1, zO_ne2, zO_nn, zi_ne1, zi_ne2, zi_lt1, zi_le1, zi_lt2, zi_le2, Int32.reduceLT, Int32.reduceLE, Nat.reduceLT, Nat.reduceLeDiff, Int32.reduceMul, Int32.reduceAdd, Int32.reduceSub, not_false_eq_true, not_true_eq_false, E_X8_copy, R_X8_copy, PF, SHF, hn, zcpy0]
  exact (e _).trans (by simp (disch := first | assumption | rfl | omega | decide | exact zb_01 _) only [zabs_e, zmax_e, zmin_e, zrf_s, zpush_s, zpush_n, zw_app, upd_app, updL_app, Nat.reduceEqDiff, Nat.add_left_cancel_iff, Nat.add_eq_left, Nat.left_eq_add, ↓reduceIte, true_and, and_true, Int32.reduceToNatClampNeg, zin_O, zi_ltO, zi_leO, zi_Olt, zi_Ole, zi_eqO, Nat.not_lt_zero, Nat.zero_le, List.append_nil, zrn_n, zrn_s, List.cons_append, List.nil_append, zlg_lt, zlg_gt, zlg_le, zlg_ge, zlg_eq, Int32.toInt_toInt64, Int64.reduceToInt, zw_zw, zw_sw1, zw_sw2, zw_sw3, zw_sw4, zw_sw5, zw_sw6, zw_sw7, ne_eq, zi_in, zi_cl, zi_le, zi_lt, zi_eq, zi_neg, zi_0le, zb_0, if_true, if_false, eq_self, zb_T, zb_F, Bool.false_eq_true, zO_eq, zO_ne1, zO_ne2, zO_nn, zi_ne1, zi_ne2, zi_lt1, zi_le1, zi_lt2, zi_le2, Int32.reduceLT, Int32.reduceLE, Nat.reduceLT, Nat.reduceLeDiff, Int32.reduceMul, Int32.reduceAdd, Int32.reduceSub, not_false_eq_true, not_true_eq_false, R_X8_copy])
theorem c_copy38 (hn : I 1 6 = nI n) (h24 : n ≤ 24) : zWM (d + 2) 63 [.ref 38, .ref 1] (zSH, I, L, zP f g t) Q = Q none (zSH, tW (tCp I 38 n) 38 n, L, zP f g t) := by
  have q0 : 0 ≤ nI n := nI_pos' (by omega)
  have q1 : (0 : Int32).toNatClampNeg + (nI n).toNatClampNeg ≤ 24 := by rw [zi_cl (by omega)]; exact (Nat.zero_add n).symm ▸ h24
  have r2 : (0 : Int32).toNatClampNeg + (nI n).toNatClampNeg ≤ zAn zSH 2 := q1
  have r3 : (0 : Int32).toNatClampNeg + (nI n).toNatClampNeg ≤ zAn zSH 3 := q1
  have r5 : (0 : Int32).toNatClampNeg + (nI n).toNatClampNeg ≤ zAn zSH 5 := q1
  have r6 : (0 : Int32).toNatClampNeg + (nI n).toNatClampNeg ≤ zAn zSH 6 := q1
  have r39 : (0 : Int32).toNatClampNeg + (nI n).toNatClampNeg ≤ zAn zSH 39 := q1
  have r40 : (0 : Int32).toNatClampNeg + (nI n).toNatClampNeg ≤ zAn zSH 40 := q1
  have r42 : (0 : Int32).toNatClampNeg + (nI n).toNatClampNeg ≤ zAn zSH 42 := q1
  have r43 : (0 : Int32).toNatClampNeg + (nI n).toNatClampNeg ≤ zAn zSH 43 := q1
  have e := fun Q => c_settle (d := d) (f := f) (g := g) (t := t) (L := L) (Q := Q) (I := tCp I 38 n) (n := n) (b := 38) (by unfold zTb; omega) (by simp [tCp, zw_app, upd]) (by omega)
  simp (disch := first | assumption | rfl | omega | decide | exact zb_01 _) only [zabs_e, zmax_e, zmin_e, zrf_s, zpush_s, zpush_n, zw_app, upd_app, updL_app, Nat.reduceEqDiff, Nat.add_left_cancel_iff, Nat.add_eq_left, Nat.left_eq_add, ↓reduceIte, true_and, and_true, Int32.reduceToNatClampNeg, zin_O, zi_ltO, zi_leO, zi_Olt, zi_Ole, zi_eqO, Nat.not_lt_zero, Nat.zero_le, List.append_nil, zrn_n, zrn_s, List.cons_append, List.nil_append, zlg_lt, zlg_gt, zlg_le, zlg_ge, zlg_eq, Int32.toInt_toInt64, Int64.reduceToInt, zw_zw, zw_sw1, zw_sw2, zw_sw3, zw_sw4, zw_sw5, zw_sw6, zw_sw7, ne_eq, zi_in, zi_cl, zi_le, zi_lt, zi_eq, zi_neg, zi_0le, zb_0, if_true, if_false, eq_self, zb_T, zb_F, Bool.false_eq_true, zO_eq, zO_ne1, zO_ne2, zO_nn, zi_ne1, zi_ne2, zi_lt1, zi_le1, zi_lt2, zi_le2, Int32.reduceLT, Int32.reduceLE, Nat.reduceLT, Nat.reduceLeDiff, Int32.reduceMul, Int32.reduceAdd, Int32.reduceSub, not_false_eq_true, not_true_eq_false, E_X8_copy, R_X8_copy, PF, SHF, hn, zcpy0]
  exact (e _).trans (by simp (disch := first | assumption | rfl | omega | decide | exact zb_01 _) only [zabs_e, zmax_e, zmin_e, zrf_s, zpush_s, zpush_n, zw_app, upd_app, updL_app, Nat.reduceEqDiff, Nat.add_left_cancel_iff, Nat.add_eq_left, Nat.left_eq_add, ↓reduceIte, true_and, and_true, Int32.reduceToNatClampNeg, zin_O, zi_ltO, zi_leO, zi_Olt, zi_Ole, zi_eqO, Nat.not_lt_zero, Nat.zero_le, List.append_nil, zrn_n, zrn_s, List.cons_append, List.nil_append, zlg_lt, zlg_gt, zlg_le, zlg_ge, zlg_eq, Int32.toInt_toInt64, Int64.reduceToInt, zw_zw, zw_sw1, zw_sw2, zw_sw3, zw_sw4, zw_sw5, zw_sw6, zw_sw7, ne_eq, zi_in, zi_cl, zi_le, zi_lt, zi_eq, zi_neg, zi_0le, zb_0, if_true, if_false, eq_self, zb_T, zb_F, Bool.false_eq_true, zO_eq, zO_ne1, zO_ne2, zO_nn, zi_ne1, zi_ne2, zi_lt1, zi_le1, zi_lt2, zi_le2, Int32.reduceLT, Int32.reduceLE, Nat.reduceLT, Nat.reduceLeDiff, Int32.reduceMul, Int32.reduceAdd, Int32.reduceSub, not_false_eq_true, not_true_eq_false, R_X8_copy])
theorem c_allP_l (hb : zTb b) (hn : I b 6 = nI n) (h24 : n ≤ 24) : ∀ c j, c + j = n → zWp d zi_71 none 4 [.ref b, .int (sumI (I (b + 1)) j), .int (nI j)] [] (zSH, I, L, zP f g t) Q = Q (some (.int (sumI (I (b + 1)) n))) (zSH, I, L, zP f g t) := by
  obtain ⟨h0, ⟨k1, n1⟩, ⟨k2, n2⟩, ⟨k3, n3⟩, ⟨k4, n4⟩, ⟨k5, n5⟩, ⟨k6, n6⟩, ⟨k7, n7⟩, ⟨k8, n8⟩, ⟨k9, n9⟩, ⟨k10, n10⟩, ⟨k11, n11⟩, ⟨k12, n12⟩, hp⟩ := TWf hb f g t
  intro c
  induction c with
  | zero =>
    intro j hj
    have hj : j = n := by omega
    subst hj
    rw [H_X8_allPallets_4]
    simp (disch := first | assumption | rfl | omega | decide | exact zb_01 _) only [zabs_e, zmax_e, zmin_e, zrf_s, zpush_s, zpush_n, zw_app, upd_app, updL_app, Nat.reduceEqDiff, Nat.add_left_cancel_iff, Nat.add_eq_left, Nat.left_eq_add, ↓reduceIte, true_and, and_true, Int32.reduceToNatClampNeg, zin_O, zi_ltO, zi_leO, zi_Olt, zi_Ole, zi_eqO, Nat.not_lt_zero, Nat.zero_le, List.append_nil, zrn_n, zrn_s, List.cons_append, List.nil_append, zlg_lt, zlg_gt, zlg_le, zlg_ge, zlg_eq, Int32.toInt_toInt64, Int64.reduceToInt, zw_zw, zw_sw1, zw_sw2, zw_sw3, zw_sw4, zw_sw5, zw_sw6, zw_sw7, ne_eq, zi_in, zi_cl, zi_le, zi_lt, zi_eq, zi_neg, zi_0le, zb_0, if_true, if_false, eq_self, zb_T, zb_F, Bool.false_eq_true, zO_eq, zO_ne1, zO_ne2, zO_nn, zi_ne1, zi_ne2, zi_lt1, zi_le1, zi_lt2, zi_le2, Int32.reduceLT, Int32.reduceLE, Nat.reduceLT, Nat.reduceLeDiff, Int32.reduceMul, Int32.reduceAdd, Int32.reduceSub, not_false_eq_true, not_true_eq_false, R_X8_allPallets, n1, n2, n3, n4, n5, n6, n7, n8, n9, n10, n11, n12, hp, hn, Nat.le_refl]
  | succ c ih =>
    intro j hj
    have h1 : ¬ n ≤ j := by omega
    rw [H_X8_allPallets_4]
    simp (disch := first | assumption | rfl | omega | decide | exact zb_01 _) only [zabs_e, zmax_e, zmin_e, zrf_s, zpush_s, zpush_n, zw_app, upd_app, updL_app, Nat.reduceEqDiff, Nat.add_left_cancel_iff, Nat.add_eq_left, Nat.left_eq_add, ↓reduceIte, true_and, and_true, Int32.reduceToNatClampNeg, zin_O, zi_ltO, zi_leO, zi_Olt, zi_Ole, zi_eqO, Nat.not_lt_zero, Nat.zero_le, List.append_nil, zrn_n, zrn_s, List.cons_append, List.nil_append, zlg_lt, zlg_gt, zlg_le, zlg_ge, zlg_eq, Int32.toInt_toInt64, Int64.reduceToInt, zw_zw, zw_sw1, zw_sw2, zw_sw3, zw_sw4, zw_sw5, zw_sw6, zw_sw7, ne_eq, zi_in, zi_cl, zi_le, zi_lt, zi_eq, zi_neg, zi_0le, zb_0, if_true, if_false, eq_self, zb_T, zb_F, Bool.false_eq_true, zO_eq, zO_ne1, zO_ne2, zO_nn, zi_ne1, zi_ne2, zi_lt1, zi_le1, zi_lt2, zi_le2, Int32.reduceLT, Int32.reduceLE, Nat.reduceLT, Nat.reduceLeDiff, Int32.reduceMul, Int32.reduceAdd, Int32.reduceSub, not_false_eq_true, not_true_eq_false, R_X8_allPallets, n1, n2, n3, n4, n5, n6, n7, n8, n9, n10, n11, n12, hp, hn, h1, zi_s]
    exact ih (j + 1) (by omega)
theorem c_allP (hb : zTb b) (hn : I b 6 = nI n) (h24 : n ≤ 24) : zWM (d + 1) 71 [.ref b] (zSH, I, L, zP f g t) Q = Q (some (.int (sumI (I (b + 1)) n))) (zSH, I, L, zP f g t) := by
  simp (disch := first | assumption | rfl | omega | decide | exact zb_01 _) only [zabs_e, zmax_e, zmin_e, zrf_s, zpush_s, zpush_n, zw_app, upd_app, updL_app, Nat.reduceEqDiff, Nat.add_left_cancel_iff, Nat.add_eq_left, Nat.left_eq_add, ↓reduceIte, true_and, and_true, Int32.reduceToNatClampNeg, zin_O, zi_ltO, zi_leO, zi_Olt, zi_Ole, zi_eqO, Nat.not_lt_zero, Nat.zero_le, List.append_nil, zrn_n, zrn_s, List.cons_append, List.nil_append, zlg_lt, zlg_gt, zlg_le, zlg_ge, zlg_eq, Int32.toInt_toInt64, Int64.reduceToInt, zw_zw, zw_sw1, zw_sw2, zw_sw3, zw_sw4, zw_sw5, zw_sw6, zw_sw7, ne_eq, zi_in, zi_cl, zi_le, zi_lt, zi_eq, zi_neg, zi_0le, zb_0, if_true, if_false, eq_self, zb_T, zb_F, Bool.false_eq_true, zO_eq, zO_ne1, zO_ne2, zO_nn, zi_ne1, zi_ne2, zi_lt1, zi_le1, zi_lt2, zi_le2, Int32.reduceLT, Int32.reduceLE, Nat.reduceLT, Nat.reduceLeDiff, Int32.reduceMul, Int32.reduceAdd, Int32.reduceSub, not_false_eq_true, not_true_eq_false, E_X8_allPallets, R_X8_allPallets]
  exact c_allP_l hb hn h24 n 0 (by omega)
theorem m_allP_l (hn : I 80 6 = nI n) (h24 : n ≤ 24) : ∀ c j, c + j = n → zWp d zi_194 none 4 [.ref 80, .int (sumI (I 85) j), .int (nI j)] [] (zSH, I, L, zP f g t) Q = Q (some (.int (sumI (I 85) n))) (zSH, I, L, zP f g t) := by
  intro c
  induction c with
  | zero =>
    intro j hj
    have hj : j = n := by omega
    subst hj
    rw [H_X10_allPallets_4]
    simp (disch := first | assumption | rfl | omega | decide | exact zb_01 _) only [zabs_e, zmax_e, zmin_e, zrf_s, zpush_s, zpush_n, zw_app, upd_app, updL_app, Nat.reduceEqDiff, Nat.add_left_cancel_iff, Nat.add_eq_left, Nat.left_eq_add, ↓reduceIte, true_and, and_true, Int32.reduceToNatClampNeg, zin_O, zi_ltO, zi_leO, zi_Olt, zi_Ole, zi_eqO, Nat.not_lt_zero, Nat.zero_le, List.append_nil, zrn_n, zrn_s, List.cons_append, List.nil_append, zlg_lt, zlg_gt, zlg_le, zlg_ge, zlg_eq, Int32.toInt_toInt64, Int64.reduceToInt, zw_zw, zw_sw1, zw_sw2, zw_sw3, zw_sw4, zw_sw5, zw_sw6, zw_sw7, ne_eq, zi_in, zi_cl, zi_le, zi_lt, zi_eq, zi_neg, zi_0le, zb_0, if_true, if_false, eq_self, zb_T, zb_F, Bool.false_eq_true, zO_eq, zO_ne1, zO_ne2, zO_nn, zi_ne1, zi_ne2, zi_lt1, zi_le1, zi_lt2, zi_le2, Int32.reduceLT, Int32.reduceLE, Nat.reduceLT, Nat.reduceLeDiff, Int32.reduceMul, Int32.reduceAdd, Int32.reduceSub, not_false_eq_true, not_true_eq_false, R_X10_allPallets, PF, SHF, hn, Nat.le_refl]
  | succ c ih =>
    intro j hj
    have h1 : ¬ n ≤ j := by omega
    rw [H_X10_allPallets_4]
    simp (disch := first | assumption | rfl | omega | decide | exact zb_01 _) only [zabs_e, zmax_e, zmin_e, zrf_s, zpush_s, zpush_n, zw_app, upd_app, updL_app, Nat.reduceEqDiff, Nat.add_left_cancel_iff, Nat.add_eq_left, Nat.left_eq_add, ↓reduceIte, true_and, and_true, Int32.reduceToNatClampNeg, zin_O, zi_ltO, zi_leO, zi_Olt, zi_Ole, zi_eqO, Nat.not_lt_zero, Nat.zero_le, List.append_nil, zrn_n, zrn_s, List.cons_append, List.nil_append, zlg_lt, zlg_gt, zlg_le, zlg_ge, zlg_eq, Int32.toInt_toInt64, Int64.reduceToInt, zw_zw, zw_sw1, zw_sw2, zw_sw3, zw_sw4, zw_sw5, zw_sw6, zw_sw7, ne_eq, zi_in, zi_cl, zi_le, zi_lt, zi_eq, zi_neg, zi_0le, zb_0, if_true, if_false, eq_self, zb_T, zb_F, Bool.false_eq_true, zO_eq, zO_ne1, zO_ne2, zO_nn, zi_ne1, zi_ne2, zi_lt1, zi_le1, zi_lt2, zi_le2, Int32.reduceLT, Int32.reduceLE, Nat.reduceLT, Nat.reduceLeDiff, Int32.reduceMul, Int32.reduceAdd, Int32.reduceSub, not_false_eq_true, not_true_eq_false, R_X10_allPallets, PF, SHF, hn, h1, zi_s]
    exact ih (j + 1) (by omega)
theorem m_allP (hn : I 80 6 = nI n) (h24 : n ≤ 24) : zWM (d + 1) 194 [.ref 80] (zSH, I, L, zP f g t) Q = Q (some (.int (sumI (I 85) n))) (zSH, I, L, zP f g t) := by
  simp (disch := first | assumption | rfl | omega | decide | exact zb_01 _) only [zabs_e, zmax_e, zmin_e, zrf_s, zpush_s, zpush_n, zw_app, upd_app, updL_app, Nat.reduceEqDiff, Nat.add_left_cancel_iff, Nat.add_eq_left, Nat.left_eq_add, ↓reduceIte, true_and, and_true, Int32.reduceToNatClampNeg, zin_O, zi_ltO, zi_leO, zi_Olt, zi_Ole, zi_eqO, Nat.not_lt_zero, Nat.zero_le, List.append_nil, zrn_n, zrn_s, List.cons_append, List.nil_append, zlg_lt, zlg_gt, zlg_le, zlg_ge, zlg_eq, Int32.toInt_toInt64, Int64.reduceToInt, zw_zw, zw_sw1, zw_sw2, zw_sw3, zw_sw4, zw_sw5, zw_sw6, zw_sw7, ne_eq, zi_in, zi_cl, zi_le, zi_lt, zi_eq, zi_neg, zi_0le, zb_0, if_true, if_false, eq_self, zb_T, zb_F, Bool.false_eq_true, zO_eq, zO_ne1, zO_ne2, zO_nn, zi_ne1, zi_ne2, zi_lt1, zi_le1, zi_lt2, zi_le2, Int32.reduceLT, Int32.reduceLE, Nat.reduceLT, Nat.reduceLeDiff, Int32.reduceMul, Int32.reduceAdd, Int32.reduceSub, not_false_eq_true, not_true_eq_false, E_X10_allPallets, R_X10_allPallets]
  exact m_allP_l hn h24 n 0 (by omega)
end SETTLE
