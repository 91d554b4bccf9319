/-! the class's FIRE -/
theorem zvo_congr {nm nm' : Nat → Int32} (h : ∀ j, j < 6 → nm j = nm' j) (v : Int32) : zvo nm v = zvo nm' v := by
  unfold zvo
  split
  · rename_i h2
    apply h
    have h3 := Int32.le_iff_toInt_le.mp h2.1
    have h4 := Int32.lt_iff_toInt_lt.mp h2.2
    have t6 : (6 : Int32).toInt = 6 := by decide
    rw [Int32.toNatClampNeg]
    omega
  · rfl
theorem zwo_congr {nm nm' : Nat → Int32} (h : ∀ j, j < 6 → nm j = nm' j) : ∀ c st cnt, zwo nm c st cnt = zwo nm' c st cnt
  | [], _, _ => rfl
  | x :: c, st, cnt => by
    unfold zwo
    simp only [zwo_congr h c, zvo_congr h]
/-- THE LAW as the class holds it -/
def zLc (I : Nat → Nat → Int32) (e : Nat) : zLawT → Prop
  | none => I e 3 = 0
  | some c => I e 3 = nI c.length ∧ 0 < c.length ∧ c.length ≤ 121 ∧ ∀ j x, c[j]? = some x → I (e + 1) j = x.1 ∧ I (e + 2) j = x.2
section CFIRE
variable {d e f g n k m : Nat} {t : Option Nat} {I : Nat → Nat → Int32} {L : Nat → Nat → Int64} {Q : Option Value → zMm → Prop} {law : zLawT}
theorem c_worth (he : zpr e) {cs : List (Int32 × Int32)} (hl : I e 3 = nI cs.length) (hc : cs.length ≤ 121) (hp : ∀ j x, cs[j]? = some x → I (e + 1) j = x.1 ∧ I (e + 2) j = x.2) : ∃ S' : Nat → Int32, ∀ d Q, zWM (d + 2) 44 [.ref e, .ref 37] (zSH, I, L, zP f g t) Q = Q (some (.int (zwo (I 37) cs [] true))) (zSH, zw I (e + 3) S', L, zP f g t) := by
  rcases he with rfl | rfl
  · obtain ⟨S', h⟩ := c_worth_l60 (f := f) (g := g) (t := t) (L := L) hl hc hp cs 0 [] (I 63) true rfl (Nat.zero_le _) (zSk_0 _) (Nat.zero_le _)
    refine ⟨S', fun d Q => ?_⟩
    simp only [zw_id] at h
    have h2 := h d (.retAddr 0) Q
    simp (disch := first | assumption | rfl | omega | decide | exact zb_01 _) only [zabs_e, zmax_e, zmin_e, zrf_s, zpush_s, zpush_n, zw_app, upd_app, updL_app, Nat.reduceEqDiff, Nat.add_left_cancel_iff, Nat.add_eq_left, Nat.left_eq_add, ↓reduceIte, true_and, and_true, Int32.reduceToNatClampNeg, zin_O, zi_ltO, zi_leO, zi_Olt, zi_Ole, zi_eqO, Nat.not_lt_zero, Nat.zero_le, List.append_nil, zrn_n, zrn_s, List.cons_append, List.nil_append, zlg_lt, zlg_gt, zlg_le, zlg_ge, zlg_eq, Int32.toInt_toInt64, Int64.reduceToInt, zw_zw, zw_sw1, zw_sw2, zw_sw3, zw_sw4, zw_sw5, zw_sw6, zw_sw7, ne_eq, zi_in, zi_cl, zi_le, zi_lt, zi_eq, zi_neg, zi_0le, zb_0, if_true, if_false, eq_self, zb_T, zb_F, Bool.false_eq_true, zO_eq, zO_ne1, zO_ne2, zO_nn, zi_ne1, zi_ne2, zi_lt1, zi_le1, zi_lt2, zi_le2, Int32.reduceLT, Int32.reduceLE, Nat.reduceLT, Nat.reduceLeDiff, Int32.reduceMul, Int32.reduceAdd, Int32.reduceSub, not_false_eq_true, not_true_eq_false, E_X5_worth, R_X5_worth]
    exact h2
  · obtain ⟨S', h⟩ := c_worth_l64 (f := f) (g := g) (t := t) (L := L) hl hc hp cs 0 [] (I 67) true rfl (Nat.zero_le _) (zSk_0 _) (Nat.zero_le _)
    refine ⟨S', fun d Q => ?_⟩
    simp only [zw_id] at h
    have h2 := h d (.retAddr 0) Q
    simp (disch := first | assumption | rfl | omega | decide | exact zb_01 _) only [zabs_e, zmax_e, zmin_e, zrf_s, zpush_s, zpush_n, zw_app, upd_app, updL_app, Nat.reduceEqDiff, Nat.add_left_cancel_iff, Nat.add_eq_left, Nat.left_eq_add, ↓reduceIte, true_and, and_true, Int32.reduceToNatClampNeg, zin_O, zi_ltO, zi_leO, zi_Olt, zi_Ole, zi_eqO, Nat.not_lt_zero, Nat.zero_le, List.append_nil, zrn_n, zrn_s, List.cons_append, List.nil_append, zlg_lt, zlg_gt, zlg_le, zlg_ge, zlg_eq, Int32.toInt_toInt64, Int64.reduceToInt, zw_zw, zw_sw1, zw_sw2, zw_sw3, zw_sw4, zw_sw5, zw_sw6, zw_sw7, ne_eq, zi_in, zi_cl, zi_le, zi_lt, zi_eq, zi_neg, zi_0le, zb_0, if_true, if_false, eq_self, zb_T, zb_F, Bool.false_eq_true, zO_eq, zO_ne1, zO_ne2, zO_nn, zi_ne1, zi_ne2, zi_lt1, zi_le1, zi_lt2, zi_le2, Int32.reduceLT, Int32.reduceLE, Nat.reduceLT, Nat.reduceLeDiff, Int32.reduceMul, Int32.reduceAdd, Int32.reduceSub, not_false_eq_true, not_true_eq_false, E_X5_worth, R_X5_worth]
    exact h2
theorem c_loss (he : zpr e) (hL : zLc I e law) (hk : k < 24) (hm : m < 61) (now : Int32) {w : Int32} (hw : I 37 5 = w) : ∃ N S : Nat → Int32, N 5 = w ∧ ∀ d Q, zWM (d + 3) 17 [.ref 33, .ref 1, .ref e, .int (nI k), .int (nI m), .int now] (zSH, I, L, zP f g t) Q = Q (some (.int (zls now (zam law (I 2) (I 3) w k m now)))) (zSH, zw (zw I 37 N) (e + 3) S, L, zP f g t) := by
  have hs := zpr_s he
  cases law with
  | none =>
    have hL : I e 3 = 0 := hL
    refine ⟨I 37, I (e + 3), hw, fun d Q => ?_⟩
    rw [zw_id, zw_id]
    simp (disch := first | assumption | rfl | omega | decide | exact zb_01 _) only [zabs_e, zmax_e, zmin_e, zrf_s, zpush_s, zpush_n, zw_app, upd_app, updL_app, Nat.reduceEqDiff, Nat.add_left_cancel_iff, Nat.add_eq_left, Nat.left_eq_add, ↓reduceIte, true_and, and_true, Int32.reduceToNatClampNeg, zin_O, zi_ltO, zi_leO, zi_Olt, zi_Ole, zi_eqO, Nat.not_lt_zero, Nat.zero_le, List.append_nil, zrn_n, zrn_s, List.cons_append, List.nil_append, zlg_lt, zlg_gt, zlg_le, zlg_ge, zlg_eq, Int32.toInt_toInt64, Int64.reduceToInt, zw_zw, zw_sw1, zw_sw2, zw_sw3, zw_sw4, zw_sw5, zw_sw6, zw_sw7, ne_eq, zi_in, zi_cl, zi_le, zi_lt, zi_eq, zi_neg, zi_0le, zb_0, if_true, if_false, eq_self, zb_T, zb_F, Bool.false_eq_true, zO_eq, zO_ne1, zO_ne2, zO_nn, zi_ne1, zi_ne2, zi_lt1, zi_le1, zi_lt2, zi_le2, Int32.reduceLT, Int32.reduceLE, Nat.reduceLT, Nat.reduceLeDiff, Int32.reduceMul, Int32.reduceAdd, Int32.reduceSub, not_false_eq_true, not_true_eq_false, E_X2_loss, R_X2_loss, SHF, PF, hs, hL, hw, zls, zam]
  | some c =>
    obtain ⟨h1, h2, h3, h4⟩ := (hL : I e 3 = nI c.length ∧ 0 < c.length ∧ c.length ≤ 121 ∧ ∀ j x, c[j]? = some x → I (e + 1) j = x.1 ∧ I (e + 2) j = x.2)
    have hne : e ≠ 37 ∧ e + 1 ≠ 37 ∧ e + 2 ≠ 37 := by rcases he with rfl | rfl <;> decide
    have n0 : ¬ nI c.length = 0 := nI_ne0 h2 (by omega)
    obtain ⟨S', q⟩ := c_worth (f := f) (g := g) (t := t) (L := L) (I := zw I 37 (upd (upd (upd (upd (upd (I 37) 0 now) 1 (I 2 k)) 2 (I 3 k)) 3 (nI k)) 4 (nI m))) he (cs := c) (by rw [zw_n hne.1]; exact h1) h3 (by rw [zw_n hne.2.1, zw_n hne.2.2]; exact h4)
    refine ⟨upd (upd (upd (upd (upd (I 37) 0 now) 1 (I 2 k)) 2 (I 3 k)) 3 (nI k)) 4 (nI m), S', by simp only [upd, hw]; rfl, fun d Q => ?_⟩
    have e1 : zwo (zw I 37 (upd (upd (upd (upd (upd (I 37) 0 now) 1 (I 2 k)) 2 (I 3 k)) 3 (nI k)) 4 (nI m)) 37) c [] true = zam (some c) (I 2) (I 3) w k m now := by
      refine zwo_congr (fun j hj => ?_) _ _ _
      rw [zw_s]
      simp only [upd, znms]
      match j, hj with
      | 0, _ => rfl
      | 1, _ => rfl
      | 2, _ => rfl
      | 3, _ => rfl
      | 4, _ => rfl
      | 5, _ => exact hw
      | k + 6, h => exact absurd h (by omega)
    simp only [e1] at q
    simp (disch := first | assumption | rfl | omega | decide | exact zb_01 _) only [zabs_e, zmax_e, zmin_e, zrf_s, zpush_s, zpush_n, zw_app, upd_app, updL_app, Nat.reduceEqDiff, Nat.add_left_cancel_iff, Nat.add_eq_left, Nat.left_eq_add, ↓reduceIte, true_and, and_true, Int32.reduceToNatClampNeg, zin_O, zi_ltO, zi_leO, zi_Olt, zi_Ole, zi_eqO, Nat.not_lt_zero, Nat.zero_le, List.append_nil, zrn_n, zrn_s, List.cons_append, List.nil_append, zlg_lt, zlg_gt, zlg_le, zlg_ge, zlg_eq, Int32.toInt_toInt64, Int64.reduceToInt, zw_zw, zw_sw1, zw_sw2, zw_sw3, zw_sw4, zw_sw5, zw_sw6, zw_sw7, ne_eq, zi_in, zi_cl, zi_le, zi_lt, zi_eq, zi_neg, zi_0le, zb_0, if_true, if_false, eq_self, zb_T, zb_F, Bool.false_eq_true, zO_eq, zO_ne1, zO_ne2, zO_nn, zi_ne1, zi_ne2, zi_lt1, zi_le1, zi_lt2, zi_le2, Int32.reduceLT, Int32.reduceLE, Nat.reduceLT, Nat.reduceLeDiff, Int32.reduceMul, Int32.reduceAdd, Int32.reduceSub, not_false_eq_true, not_true_eq_false, E_X2_loss, R_X2_loss, SHF, PF, hs, h1, n0, q, zls]
theorem c_counted (p s x : Int32) (h : zMm) : zWM (d + 1) 18 [.int p, .int s, .int x] h Q = Q (some (.int (zct p s x))) h := by
  simp (disch := first | assumption | rfl | omega | decide | exact zb_01 _) only [zabs_e, zmax_e, zmin_e, zrf_s, zpush_s, zpush_n, zw_app, upd_app, updL_app, Nat.reduceEqDiff, Nat.add_left_cancel_iff, Nat.add_eq_left, Nat.left_eq_add, ↓reduceIte, true_and, and_true, Int32.reduceToNatClampNeg, zin_O, zi_ltO, zi_leO, zi_Olt, zi_Ole, zi_eqO, Nat.not_lt_zero, Nat.zero_le, List.append_nil, zrn_n, zrn_s, List.cons_append, List.nil_append, zlg_lt, zlg_gt, zlg_le, zlg_ge, zlg_eq, Int32.toInt_toInt64, Int64.reduceToInt, zw_zw, zw_sw1, zw_sw2, zw_sw3, zw_sw4, zw_sw5, zw_sw6, zw_sw7, ne_eq, zi_in, zi_cl, zi_le, zi_lt, zi_eq, zi_neg, zi_0le, zb_0, if_true, if_false, eq_self, zb_T, zb_F, Bool.false_eq_true, zO_eq, zO_ne1, zO_ne2, zO_nn, zi_ne1, zi_ne2, zi_lt1, zi_le1, zi_lt2, zi_le2, Int32.reduceLT, Int32.reduceLE, Nat.reduceLT, Nat.reduceLeDiff, Int32.reduceMul, Int32.reduceAdd, Int32.reduceSub, not_false_eq_true, not_true_eq_false, E_X2_counted, R_X2_counted]
  unfold zct
  repeat' split
  all_goals rfl
theorem c_isMinute (x : Int32) (h : zMm) : zWM (d + 1) 13 [.int x] h Q = Q (some (.int (zb (0 ≤ x ∧ x < 61)))) h := by
  simp (disch := first | assumption | rfl | omega | decide | exact zb_01 _) only [zabs_e, zmax_e, zmin_e, zrf_s, zpush_s, zpush_n, zw_app, upd_app, updL_app, Nat.reduceEqDiff, Nat.add_left_cancel_iff, Nat.add_eq_left, Nat.left_eq_add, ↓reduceIte, true_and, and_true, Int32.reduceToNatClampNeg, zin_O, zi_ltO, zi_leO, zi_Olt, zi_Ole, zi_eqO, Nat.not_lt_zero, Nat.zero_le, List.append_nil, zrn_n, zrn_s, List.cons_append, List.nil_append, zlg_lt, zlg_gt, zlg_le, zlg_ge, zlg_eq, Int32.toInt_toInt64, Int64.reduceToInt, zw_zw, zw_sw1, zw_sw2, zw_sw3, zw_sw4, zw_sw5, zw_sw6, zw_sw7, ne_eq, zi_in, zi_cl, zi_le, zi_lt, zi_eq, zi_neg, zi_0le, zb_0, if_true, if_false, eq_self, zb_T, zb_F, Bool.false_eq_true, zO_eq, zO_ne1, zO_ne2, zO_nn, zi_ne1, zi_ne2, zi_lt1, zi_le1, zi_lt2, zi_le2, Int32.reduceLT, Int32.reduceLE, Nat.reduceLT, Nat.reduceLeDiff, Int32.reduceMul, Int32.reduceAdd, Int32.reduceSub, not_false_eq_true, not_true_eq_false, E_X2_isMinute, R_X2_isMinute]
  repeat' split
  all_goals first | rfl | rw [zb_t (by first | omega | (simp only [Int32.lt_iff_toInt_lt, Int32.le_iff_toInt_le, ← Int32.toInt_inj, Int32.reduceToInt] at *; omega))] | rw [zb_f (by first | omega | (simp only [Int32.lt_iff_toInt_lt, Int32.le_iff_toInt_le, ← Int32.toInt_inj, Int32.reduceToInt] at *; omega))]
theorem zi_m24 (m k : Nat) : nI m * 24 + nI k = nI (24 * m + k) := by
  rw [Nat.mul_comm]
  unfold nI
  rw [Int32.ofNat_add, Int32.ofNat_mul]
  rfl
theorem zi_24m (m k : Nat) : 24 * nI m + nI k = nI (24 * m + k) := by
  unfold nI
  rw [Int32.ofNat_add, Int32.ofNat_mul]
  rfl
theorem c_left0 (hk : k < 24) : zWM (d + 2) 19 [.ref 33, .int (-1), .int (nI k)] (zSH, I, L, zP f g t) Q = Q (some (.int (I 34 k))) (zSH, I, L, zP f g t) := by
  have e : ¬ (0 ≤ (-1 : Int32) ∧ (-1 : Int32) < 61) := by decide
  have e2 := fun Q h => c_isMinute (d := d) (Q := Q) (-1) h
  simp only [zb_f e] at e2
  simp (disch := first | assumption | rfl | omega | decide | exact zb_01 _) only [zabs_e, zmax_e, zmin_e, zrf_s, zpush_s, zpush_n, zw_app, upd_app, updL_app, Nat.reduceEqDiff, Nat.add_left_cancel_iff, Nat.add_eq_left, Nat.left_eq_add, ↓reduceIte, true_and, and_true, Int32.reduceToNatClampNeg, zin_O, zi_ltO, zi_leO, zi_Olt, zi_Ole, zi_eqO, Nat.not_lt_zero, Nat.zero_le, List.append_nil, zrn_n, zrn_s, List.cons_append, List.nil_append, zlg_lt, zlg_gt, zlg_le, zlg_ge, zlg_eq, Int32.toInt_toInt64, Int64.reduceToInt, zw_zw, zw_sw1, zw_sw2, zw_sw3, zw_sw4, zw_sw5, zw_sw6, zw_sw7, ne_eq, zi_in, zi_cl, zi_le, zi_lt, zi_eq, zi_neg, zi_0le, zb_0, if_true, if_false, eq_self, zb_T, zb_F, Bool.false_eq_true, zO_eq, zO_ne1, zO_ne2, zO_nn, zi_ne1, zi_ne2, zi_lt1, zi_le1, zi_lt2, zi_le2, Int32.reduceLT, Int32.reduceLE, Nat.reduceLT, Nat.reduceLeDiff, Int32.reduceMul, Int32.reduceAdd, Int32.reduceSub, not_false_eq_true, not_true_eq_false, E_X2_leftBehind, R_X2_leftBehind, SHF, PF, e2]
theorem c_leftS (hk : k < 24) (hm : m < 61) : zWM (d + 2) 19 [.ref 33, .int (nI m), .int (nI k)] (zSH, I, L, zP f g t) Q = Q (some (.int (I 36 (24 * m + k)))) (zSH, I, L, zP f g t) := by
  have e : (0 ≤ nI m ∧ nI m < 61) := ⟨nI_pos' (by omega), nI_lt hm (by decide)⟩
  have e2 := fun Q h => c_isMinute (d := d) (Q := Q) (nI m) h
  simp only [zb_t e] at e2
  simp (disch := first | assumption | rfl | omega | decide | exact zb_01 _) only [zabs_e, zmax_e, zmin_e, zrf_s, zpush_s, zpush_n, zw_app, upd_app, updL_app, Nat.reduceEqDiff, Nat.add_left_cancel_iff, Nat.add_eq_left, Nat.left_eq_add, ↓reduceIte, true_and, and_true, Int32.reduceToNatClampNeg, zin_O, zi_ltO, zi_leO, zi_Olt, zi_Ole, zi_eqO, Nat.not_lt_zero, Nat.zero_le, List.append_nil, zrn_n, zrn_s, List.cons_append, List.nil_append, zlg_lt, zlg_gt, zlg_le, zlg_ge, zlg_eq, Int32.toInt_toInt64, Int64.reduceToInt, zw_zw, zw_sw1, zw_sw2, zw_sw3, zw_sw4, zw_sw5, zw_sw6, zw_sw7, ne_eq, zi_in, zi_cl, zi_le, zi_lt, zi_eq, zi_neg, zi_0le, zb_0, if_true, if_false, eq_self, zb_T, zb_F, Bool.false_eq_true, zO_eq, zO_ne1, zO_ne2, zO_nn, zi_ne1, zi_ne2, zi_lt1, zi_le1, zi_lt2, zi_le2, Int32.reduceLT, Int32.reduceLE, Nat.reduceLT, Nat.reduceLeDiff, Int32.reduceMul, Int32.reduceAdd, Int32.reduceSub, not_false_eq_true, not_true_eq_false, E_X2_leftBehind, R_X2_leftBehind, SHF, PF, e2, zi_m24]
/-- FUEL left as minute m begins is s -/
def zPv (I : Nat → Nat → Int32) (m n : Nat) (s : Nat → Int32) : Prop := ∀ k, k < n → (if m = 0 then I 34 k else I 36 (24 * (m - 1) + k)) = s k
theorem c_prev {s : Nat → Int32} (h24 : n ≤ 24) (hm : m < 61) (hv : zPv I m n s) (hk : k < n) : zWM (d + 2) 19 [.ref 33, .int (nI m - 1), .int (nI k)] (zSH, I, L, zP f g t) Q = Q (some (.int (s k))) (zSH, I, L, zP f g t) := by
  have h := hv k hk
  by_cases h0 : m = 0
  · subst h0
    rw [if_pos rfl] at h
    rw [show nI 0 - 1 = -1 by decide, c_left0 (by omega), h]
  · rw [if_neg h0] at h
    obtain ⟨j, rfl⟩ : ∃ j, m = j + 1 := ⟨m - 1, by omega⟩
    rw [nI_pred, c_leftS (by omega) (by omega), ← h]
    rfl
/-- so many ROUNDS of minute m are written -/
def zlf (m j : Nat) (s old : Nat → Int32) : Nat → Int32 := fun i => if 24 * m ≤ i ∧ i < 24 * m + j then s (i - 24 * m) else old i
theorem zlf_0 (m : Nat) (s old : Nat → Int32) : zlf m 0 s old = old := by
  funext i; unfold zlf; exact if_neg (by omega)
theorem zlf_s (m j : Nat) (s old : Nat → Int32) : upd (zlf m j s old) (24 * m + j) (s j) = zlf m (j + 1) s old := by
  funext i
  simp only [upd, zlf]
  by_cases h : i = 24 * m + j
  · subst h
    rw [if_pos rfl, if_pos (by omega), show 24 * m + j - 24 * m = j by omega]
  · rw [if_neg h]
    by_cases h2 : 24 * m ≤ i ∧ i < 24 * m + j
    · rw [if_pos h2, if_pos (by omega)]
    · rw [if_neg h2, if_neg (by omega)]
theorem zlf_at {m j k : Nat} {s old : Nat → Int32} (h : k < j) : zlf m j s old (24 * m + k) = s k := by
  unfold zlf
  rw [if_pos (by omega), show 24 * m + k - 24 * m = k by omega]
theorem zlf_o {m j i : Nat} {s old : Nat → Int32} (h : i < 24 * m) : zlf m j s old i = old i := if_neg (by omega)
/-- in a minute, behind so many ROUNDS -/
def zSM (I : Nat → Nat → Int32) (e m j : Nat) (s cn N S : Nat → Int32) : Nat → Nat → Int32 := zw (zw (zw (zw I 36 (zlf m j s (I 36))) 39 (zfl j cn (I 39))) 37 N) (e + 3) S
theorem zSM_0 (e m : Nat) (s cn : Nat → Int32) : zSM I e m 0 s cn (I 37) (I (e + 3)) = I := by
  unfold zSM
  rw [zlf_0, zfl_0, zw_id, zw_id, zw_id, zw_id]
theorem zSM_l (he : zpr e) (m j : Nat) (s cn N S N2 S2 : Nat → Int32) : zw (zw (zSM I e m j s cn N S) 37 N2) (e + 3) S2 = zSM I e m j s cn N2 S2 := by
  rcases he with rfl | rfl <;> (funext x; simp only [zSM, zw]; repeat' split) <;> first | rfl | omega
theorem zSM_u (he : zpr e) (m j : Nat) (s cn N S : Nat → Int32) : zw (zw (zSM I e m j s cn N S) 36 (zlf m (j + 1) s (I 36))) 39 (zfl (j + 1) cn (I 39)) = zSM I e m (j + 1) s cn N S := by
  rcases he with rfl | rfl <;> (funext x; simp only [zSM, zw]; repeat' split) <;> first | rfl | omega
theorem zSM_36 (he : zpr e) (m j : Nat) (s cn N S : Nat → Int32) : zSM I e m j s cn N S 36 = zlf m j s (I 36) := by
  rcases he with rfl | rfl <;> rfl
theorem zSM_39 (he : zpr e) (m j : Nat) (s cn N S : Nat → Int32) : zSM I e m j s cn N S 39 = zfl j cn (I 39) := by
  rcases he with rfl | rfl <;> rfl
theorem zSM_37 (he : zpr e) (m j : Nat) (s cn N S : Nat → Int32) : zSM I e m j s cn N S 37 = N := by
  rcases he with rfl | rfl <;> rfl
theorem zSM_o (he : zpr e) {m j a : Nat} {s cn N S : Nat → Int32} (h1 : a ≠ 36) (h2 : a ≠ 39) (h3 : a ≠ 37) (h4 : a ≠ 63) (h5 : a ≠ 67) : zSM I e m j s cn N S a = I a := by
  rcases he with rfl | rfl <;> (simp only [zSM, zw]; repeat' split) <;> first | rfl | omega
theorem zLc_o {I' : Nat → Nat → Int32} (h0 : I' e = I e) (h1 : I' (e + 1) = I (e + 1)) (h2 : I' (e + 2) = I (e + 2)) (h : zLc I e law) : zLc I' e law := by
  cases law with
  | none => unfold zLc at *; rw [h0]; exact h
  | some c => unfold zLc at *; rw [h0, h1, h2]; exact h
theorem zLc_SM (he : zpr e) {m j : Nat} {s cn N S : Nat → Int32} (h : zLc I e law) : zLc (zSM I e m j s cn N S) e law := by
  rcases he with rfl | rfl <;> exact zLc_o rfl rfl rfl h
theorem zPv_SM (he : zpr e) {m j : Nat} {s cn N S s0 : Nat → Int32} (h24 : n ≤ 24) (h : zPv I m n s0) : zPv (zSM I e m j s cn N S) m n s0 := by
  intro k hk
  rw [zSM_36 he, zSM_o he (by decide) (by decide) (by decide) (by decide) (by decide), ← h k hk]
  by_cases h0 : m = 0
  · rw [if_pos h0, if_pos h0]
  · rw [if_neg h0, if_neg h0, zlf_o (by omega)]
theorem zgn_s (s : Nat → Int32) (j : Nat) : (zgn (j + 1) s) ↔ zgn j s ∧ s j = 0 := ⟨fun h => ⟨fun i hi => h i (by omega), h j (by omega)⟩, fun h i hi => by
  by_cases e : i = j
  · subst e; exact h.2
  · exact h.1 i (by omega)⟩
theorem zb_if {P : Prop} [Decidable P] {s : Int32} {G : Prop} [Decidable G] (hG : G ↔ P ∧ s = 0) (F : Int32 → Prop) : (if ¬ P then F 0 else if s = 0 then F 1 else F 0) = F (zb G) := by
  by_cases h1 : P
  · by_cases h2 : s = 0
    · rw [if_neg (not_not_intro h1), if_pos h2, zb_t (hG.mpr ⟨h1, h2⟩)]
    · rw [if_neg (not_not_intro h1), if_neg h2, zb_f (fun z => h2 (hG.mp z).2)]
  · rw [if_pos h1, zb_f (fun z => h1 (hG.mp z).1)]
/-- the rest of a minute, a ROUND's fuel being known -/
theorem c_smo_1 (he : zpr e) {w : Int32} (hL : zLc I e law) (hn : I 33 5 = nI n) (hn3 : I 38 6 = nI n) (h24 : n ≤ 24) (hm : m < 61) (h1 : ∀ k, k < n → I 34 k = zf1 (I 2) (I 3) k) (h2 : ∀ k, k < n → I 35 k = zlit (I 2) (I 3) k) (hv : zPv I m n (zfu law (I 2) (I 3) w m)) {j : Nat} (hj : j < n) {N S : Nat → Int32} (hN : N 5 = w) : ∃ N' S' : Nat → Int32, N' 5 = w ∧ ∀ d l6 l7 Q, ∃ l6' l7' : Int32, zWp (d + 3) zi_15 none 6 [.ref 33, .ref 1, .ref e, .int (nI m), .int (zb (zgn j (zfu law (I 2) (I 3) w (m + 1)))), .int (nI j), l6, l7] [] (zSH, zSM I e m j (zfu law (I 2) (I 3) w (m + 1)) (zcn law (I 2) (I 3) w m) N S, L, zP f g t) Q = zWp (d + 3) zi_15 none 6 [.ref 33, .ref 1, .ref e, .int (nI m), .int (zb (zgn (j + 1) (zfu law (I 2) (I 3) w (m + 1)))), .int (nI (j + 1)), .int l6', .int l7'] [] (zSH, zSM I e m (j + 1) (zfu law (I 2) (I 3) w (m + 1)) (zcn law (I 2) (I 3) w m) N' S', L, zP f g t) Q := by
  have hs := zpr_s he
  have hg := zgn_s (zfu law (I 2) (I 3) w (m + 1)) j
  have o33 := fun N S => zSM_o (I := I) he (m := m) (j := j) (a := 33) (s := zfu law (I 2) (I 3) w (m + 1)) (cn := zcn law (I 2) (I 3) w m) (N := N) (S := S) (by decide) (by decide) (by decide) (by decide) (by decide)
  have o34 := fun N S => zSM_o (I := I) he (m := m) (j := j) (a := 34) (s := zfu law (I 2) (I 3) w (m + 1)) (cn := zcn law (I 2) (I 3) w m) (N := N) (S := S) (by decide) (by decide) (by decide) (by decide) (by decide)
  have o35 := fun N S => zSM_o (I := I) he (m := m) (j := j) (a := 35) (s := zfu law (I 2) (I 3) w (m + 1)) (cn := zcn law (I 2) (I 3) w m) (N := N) (S := S) (by decide) (by decide) (by decide) (by decide) (by decide)
  have o2 := fun N S => zSM_o (I := I) he (m := m) (j := j) (a := 2) (s := zfu law (I 2) (I 3) w (m + 1)) (cn := zcn law (I 2) (I 3) w m) (N := N) (S := S) (by decide) (by decide) (by decide) (by decide) (by decide)
  have o3 := fun N S => zSM_o (I := I) he (m := m) (j := j) (a := 3) (s := zfu law (I 2) (I 3) w (m + 1)) (cn := zcn law (I 2) (I 3) w m) (N := N) (S := S) (by decide) (by decide) (by decide) (by decide) (by decide)
  have hlt : ¬ n ≤ j := by omega
  have q1 := fun N S d Q => c_prev (d := d) (f := f) (g := g) (t := t) (L := L) (Q := Q) (I := zSM I e m j (zfu law (I 2) (I 3) w (m + 1)) (zcn law (I 2) (I 3) w m) N S) h24 hm (zPv_SM he h24 hv) hj
  have e1 := zlf_s m j (zfu law (I 2) (I 3) w (m + 1)) (I 36)
  have e2 := zfl_s j (zcn law (I 2) (I 3) w m) (I 39)
  have u1 := fun N S => zSM_u (I := I) he m j (zfu law (I 2) (I 3) w (m + 1)) (zcn law (I 2) (I 3) w m) N S
  have ec : zct (I 2 j) (zfu law (I 2) (I 3) w (m + 1) j) (zf1 (I 2) (I 3) j) = zcn law (I 2) (I 3) w m j := rfl
  have hjn : j < 2147483648 := by omega
  by_cases hl : nI m < zlit (I 2) (I 3) j
  · have hfu : zfu law (I 2) (I 3) w (m + 1) j = zfu law (I 2) (I 3) w m j := by rw [zfu, if_pos hl]
    refine ⟨N, S, hN, fun d l6 l7 Q => ⟨zfu law (I 2) (I 3) w m j, zfu law (I 2) (I 3) w (m + 1) j, ?_⟩⟩
    rw [← hfu] at q1 ⊢
    have hl2 : ¬ zlit (I 2) (I 3) j ≤ nI m := Int32.not_le.mpr hl
    rw [H_X2_smoulder_6]
    simp (disch := first | assumption | rfl | omega | decide | exact zb_01 _) only [zabs_e, zmax_e, zmin_e, zrf_s, zpush_s, zpush_n, zw_app, upd_app, updL_app, Nat.reduceEqDiff, Nat.add_left_cancel_iff, Nat.add_eq_left, Nat.left_eq_add, ↓reduceIte, true_and, and_true, Int32.reduceToNatClampNeg, zin_O, zi_ltO, zi_leO, zi_Olt, zi_Ole, zi_eqO, Nat.not_lt_zero, Nat.zero_le, List.append_nil, zrn_n, zrn_s, List.cons_append, List.nil_append, zlg_lt, zlg_gt, zlg_le, zlg_ge, zlg_eq, Int32.toInt_toInt64, Int64.reduceToInt, zw_zw, zw_sw1, zw_sw2, zw_sw3, zw_sw4, zw_sw5, zw_sw6, zw_sw7, ne_eq, zi_in, zi_cl, zi_le, zi_lt, zi_eq, zi_neg, zi_0le, zb_0, if_true, if_false, eq_self, zb_T, zb_F, Bool.false_eq_true, zO_eq, zO_ne1, zO_ne2, zO_nn, zi_ne1, zi_ne2, zi_lt1, zi_le1, zi_lt2, zi_le2, Int32.reduceLT, Int32.reduceLE, Nat.reduceLT, Nat.reduceLeDiff, Int32.reduceMul, Int32.reduceAdd, Int32.reduceSub, not_false_eq_true, not_true_eq_false, R_X2_smoulder, SHF, PF, o33, hn, hlt, q1, o35, h2, hl2, zi_m24, zSM_36 he, e1, o2, o34, h1, c_counted, ec, zSM_39 he, e2, u1, zi_s]
    exact zb_if hg (fun z => zWp (d + 3) zi_15 none 6 [.ref 33, .ref 1, .ref e, .int (nI m), .int z, .int (nI (j + 1)), _, _] [] _ Q)
  · obtain ⟨N', S', hN', ql⟩ := c_loss (f := f) (g := g) (t := t) (L := L) (k := j) (m := m) (w := w) (I := zSM I e m j (zfu law (I 2) (I 3) w (m + 1)) (zcn law (I 2) (I 3) w m) N S) he (zLc_SM he hL) (by omega) hm (zfu law (I 2) (I 3) w m j) (by rw [zSM_37 he]; exact hN)
    rw [o2, o3, zSM_l he] at ql
    have hfu : zfu law (I 2) (I 3) w (m + 1) j = zfu law (I 2) (I 3) w m j - zls (zfu law (I 2) (I 3) w m j) (zam law (I 2) (I 3) w j m (zfu law (I 2) (I 3) w m j)) := by rw [zfu, if_neg hl]
    refine ⟨N', S', hN', fun d l6 l7 Q => ⟨zfu law (I 2) (I 3) w m j, zfu law (I 2) (I 3) w (m + 1) j, ?_⟩⟩
    have hl2 : zlit (I 2) (I 3) j ≤ nI m := Int32.not_lt.mp hl
    rw [H_X2_smoulder_6]
    simp (disch := first | assumption | rfl | omega | decide | exact zb_01 _) only [zabs_e, zmax_e, zmin_e, zrf_s, zpush_s, zpush_n, zw_app, upd_app, updL_app, Nat.reduceEqDiff, Nat.add_left_cancel_iff, Nat.add_eq_left, Nat.left_eq_add, ↓reduceIte, true_and, and_true, Int32.reduceToNatClampNeg, zin_O, zi_ltO, zi_leO, zi_Olt, zi_Ole, zi_eqO, Nat.not_lt_zero, Nat.zero_le, List.append_nil, zrn_n, zrn_s, List.cons_append, List.nil_append, zlg_lt, zlg_gt, zlg_le, zlg_ge, zlg_eq, Int32.toInt_toInt64, Int64.reduceToInt, zw_zw, zw_sw1, zw_sw2, zw_sw3, zw_sw4, zw_sw5, zw_sw6, zw_sw7, ne_eq, zi_in, zi_cl, zi_le, zi_lt, zi_eq, zi_neg, zi_0le, zb_0, if_true, if_false, eq_self, zb_T, zb_F, Bool.false_eq_true, zO_eq, zO_ne1, zO_ne2, zO_nn, zi_ne1, zi_ne2, zi_lt1, zi_le1, zi_lt2, zi_le2, Int32.reduceLT, Int32.reduceLE, Nat.reduceLT, Nat.reduceLeDiff, Int32.reduceMul, Int32.reduceAdd, Int32.reduceSub, not_false_eq_true, not_true_eq_false, R_X2_smoulder, SHF, PF, o33, hn, hlt, q1, o35, h2, hl2, ql, ← hfu, zi_m24, zSM_36 he, e1, o2, o34, h1, c_counted, ec, zSM_39 he, e2, u1, zi_s]
    exact zb_if hg (fun z => zWp (d + 3) zi_15 none 6 [.ref 33, .ref 1, .ref e, .int (nI m), .int z, .int (nI (j + 1)), _, _] [] _ Q)
theorem c_smo_l (he : zpr e) {w : Int32} (hL : zLc I e law) (hn : I 33 5 = nI n) (hn3 : I 38 6 = nI n) (h24 : n ≤ 24) (hm : m < 61) (h1 : ∀ k, k < n → I 34 k = zf1 (I 2) (I 3) k) (h2 : ∀ k, k < n → I 35 k = zlit (I 2) (I 3) k) (hv : zPv I m n (zfu law (I 2) (I 3) w m)) : ∀ (c j : Nat) (N S : Nat → Int32), c + j = n → N 5 = w → ∃ N' S' : Nat → Int32, N' 5 = w ∧ ∀ d l6 l7 Q, zWp (d + 3) zi_15 none 6 [.ref 33, .ref 1, .ref e, .int (nI m), .int (zb (zgn j (zfu law (I 2) (I 3) w (m + 1)))), .int (nI j), l6, l7] [] (zSH, zSM I e m j (zfu law (I 2) (I 3) w (m + 1)) (zcn law (I 2) (I 3) w m) N S, L, zP f g t) Q = Q (some (.int (zb (zgn n (zfu law (I 2) (I 3) w (m + 1)))))) (zSH, tW (zSM I e m n (zfu law (I 2) (I 3) w (m + 1)) (zcn law (I 2) (I 3) w m) N' S') 38 n, L, zP f g t) := by
  intro c
  induction c with
  | zero =>
    intro j N S hj hN
    have hj : j = n := by omega
    subst hj
    refine ⟨N, S, hN, fun d l6 l7 Q => ?_⟩
    have o33 := fun N S => zSM_o (I := I) he (m := m) (j := j) (a := 33) (s := zfu law (I 2) (I 3) w (m + 1)) (cn := zcn law (I 2) (I 3) w m) (N := N) (S := S) (by decide) (by decide) (by decide) (by decide) (by decide)
    have o38 := zSM_o (I := I) he (m := m) (j := j) (a := 38) (s := zfu law (I 2) (I 3) w (m + 1)) (cn := zcn law (I 2) (I 3) w m) (N := N) (S := S) (by decide) (by decide) (by decide) (by decide) (by decide)
    have q := fun Q => c_settle (d := d + 2) (f := f) (g := g) (t := t) (L := L) (Q := Q) (b := 38) (n := j) (I := zSM I e m j (zfu law (I 2) (I 3) w (m + 1)) (zcn law (I 2) (I 3) w m) N S) (Or.inr (Or.inr rfl)) (by rw [o38]; exact hn3) h24
    rw [H_X2_smoulder_6]
    simp (disch := first | assumption | rfl | omega | decide | exact zb_01 _) only [zabs_e, zmax_e, zmin_e, zrf_s, zpush_s, zpush_n, zw_app, upd_app, updL_app, Nat.reduceEqDiff, Nat.add_left_cancel_iff, Nat.add_eq_left, Nat.left_eq_add, ↓reduceIte, true_and, and_true, Int32.reduceToNatClampNeg, zin_O, zi_ltO, zi_leO, zi_Olt, zi_Ole, zi_eqO, Nat.not_lt_zero, Nat.zero_le, List.append_nil, zrn_n, zrn_s, List.cons_append, List.nil_append, zlg_lt, zlg_gt, zlg_le, zlg_ge, zlg_eq, Int32.toInt_toInt64, Int64.reduceToInt, zw_zw, zw_sw1, zw_sw2, zw_sw3, zw_sw4, zw_sw5, zw_sw6, zw_sw7, ne_eq, zi_in, zi_cl, zi_le, zi_lt, zi_eq, zi_neg, zi_0le, zb_0, if_true, if_false, eq_self, zb_T, zb_F, Bool.false_eq_true, zO_eq, zO_ne1, zO_ne2, zO_nn, zi_ne1, zi_ne2, zi_lt1, zi_le1, zi_lt2, zi_le2, Int32.reduceLT, Int32.reduceLE, Nat.reduceLT, Nat.reduceLeDiff, Int32.reduceMul, Int32.reduceAdd, Int32.reduceSub, not_false_eq_true, not_true_eq_false, R_X2_smoulder, SHF, PF, o33, hn, Nat.le_refl, q]
  | succ c ih =>
    intro j N S hj hN
    obtain ⟨N', S', hN', q⟩ := c_smo_1 (f := f) (g := g) (t := t) (L := L) he hL hn hn3 h24 hm h1 h2 hv (show j < n by omega) (S := S) hN
    obtain ⟨N2, S2, hN2, q2⟩ := ih (j + 1) N' S' (by omega) hN'
    refine ⟨N2, S2, hN2, fun d l6 l7 Q => ?_⟩
    obtain ⟨l6', l7', q3⟩ := q d l6 l7 Q
    rw [q3]
    exact q2 d _ _ Q
theorem c_smoulder (he : zpr e) {w : Int32} (hL : zLc I e law) (hn : I 33 5 = nI n) (hn3 : I 38 6 = nI n) (h24 : n ≤ 24) (hm : m < 61) (h1 : ∀ k, k < n → I 34 k = zf1 (I 2) (I 3) k) (h2 : ∀ k, k < n → I 35 k = zlit (I 2) (I 3) k) (hv : zPv I m n (zfu law (I 2) (I 3) w m)) (hw : I 37 5 = w) : ∃ N' S' : Nat → Int32, N' 5 = w ∧ ∀ d Q, zWM (d + 4) 15 [.ref 33, .ref 1, .ref e, .int (nI m)] (zSH, I, L, zP f g t) Q = Q (some (.int (zb (zgn n (zfu law (I 2) (I 3) w (m + 1)))))) (zSH, tW (zSM I e m n (zfu law (I 2) (I 3) w (m + 1)) (zcn law (I 2) (I 3) w m) N' S') 38 n, L, zP f g t) := by
  obtain ⟨N, S, hN, q⟩ := c_smo_l (f := f) (g := g) (t := t) (L := L) he hL hn hn3 h24 hm h1 h2 hv n 0 (I 37) (I (e + 3)) (by omega) hw
  refine ⟨N, S, hN, fun d Q => ?_⟩
  rw [zSM_0] at q
  have z1 : zb (zgn 0 (zfu law (I 2) (I 3) w (m + 1))) = 1 := zb_t (fun i hi => absurd hi (by omega))
  rw [z1] at q
  simp (disch := first | assumption | rfl | omega | decide | exact zb_01 _) only [zabs_e, zmax_e, zmin_e, zrf_s, zpush_s, zpush_n, zw_app, upd_app, updL_app, Nat.reduceEqDiff, Nat.add_left_cancel_iff, Nat.add_eq_left, Nat.left_eq_add, ↓reduceIte, true_and, and_true, Int32.reduceToNatClampNeg, zin_O, zi_ltO, zi_leO, zi_Olt, zi_Ole, zi_eqO, Nat.not_lt_zero, Nat.zero_le, List.append_nil, zrn_n, zrn_s, List.cons_append, List.nil_append, zlg_lt, zlg_gt, zlg_le, zlg_ge, zlg_eq, Int32.toInt_toInt64, Int64.reduceToInt, zw_zw, zw_sw1, zw_sw2, zw_sw3, zw_sw4, zw_sw5, zw_sw6, zw_sw7, ne_eq, zi_in, zi_cl, zi_le, zi_lt, zi_eq, zi_neg, zi_0le, zb_0, if_true, if_false, eq_self, zb_T, zb_F, Bool.false_eq_true, zO_eq, zO_ne1, zO_ne2, zO_nn, zi_ne1, zi_ne2, zi_lt1, zi_le1, zi_lt2, zi_le2, Int32.reduceLT, Int32.reduceLE, Nat.reduceLT, Nat.reduceLeDiff, Int32.reduceMul, Int32.reduceAdd, Int32.reduceSub, not_false_eq_true, not_true_eq_false, E_X2_smoulder, R_X2_smoulder]
  exact q d _ _ Q
end CFIRE
