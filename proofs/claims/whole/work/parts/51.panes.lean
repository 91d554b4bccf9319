/-! HEAT at PANES -/
/-- the sum over ROUNDS -/
def zgL (far up : Int32) (v : Nat → Int32) : Nat → Int32
  | 0 => 0
  | i + 1 => zgL far up v i + v i * 100 / (far + zabs (nI i - up))
def zbh (c x : Int32) : Int32 := zmax 0 (x - 20 * c)
/-- the first minute, from one on -/
def zck (h : Nat → Int32) (lim : Int32) : Nat → Nat → Int32
  | 0, _ => -2
  | c + 1, m => if lim ≤ h m then nI m else zck h lim c (m + 1)
def zbR (g : Nat → Int32) : Nat → Int32
  | 0 => 0
  | m + 1 => zmax (zbR g m) (g m)
def zbf (B lim : Int32) : Nat → Nat → Int32
  | 0, _ => -2
  | c + 1, k => if zbh (nI k) B < lim then nI k else zbf B lim c (k + 1)
/-- the last minute that counts -/
def zla (fm : Int32) : Nat := if fm = -2 then 60 else fm.toNatClampNeg
abbrev zpn (far up : Int32) : Prop := 1 ≤ far.toInt ∧ far.toInt ≤ 99 ∧ 0 ≤ up.toInt ∧ up.toInt ≤ 23
theorem zaw_v {far up : Int32} (h : zpn far up) {i : Nat} (hi : i < 24) : 1 ≤ (far + zabs (nI i - up)).toInt ∧ (far + zabs (nI i - up)).toInt ≤ 200 := by
  obtain ⟨h1, h2, h3, h4⟩ := h
  have e1 : (nI i - up).toInt = i - up.toInt := by rw [zt_sub (by rw [zi_nt (by omega)]; omega) (by rw [zi_nt (by omega)]; omega), zi_nt (by omega)]
  have e2 := zabs_v (x := nI i - up) (by omega)
  have e3 : (far + zabs (nI i - up)).toInt = far.toInt + (zabs (nI i - up)).toInt := zt_add (by omega) (by omega)
  omega
theorem zaw_n {far up : Int32} (h : zpn far up) {i : Nat} (hi : i < 24) : ¬ far + zabs (nI i - up) ≤ 0 ∧ ¬ far + zabs (nI i - up) = 0 := by
  have t0 : (0 : Int32).toInt = 0 := by decide
  have e := zaw_v h hi
  refine ⟨fun z => ?_, fun z => ?_⟩
  · have := Int32.le_iff_toInt_le.mp z; omega
  · rw [z] at e; omega
theorem zdv {a b : Int32} (ha : 0 ≤ a.toInt) (hb : 1 ≤ b.toInt) : 0 ≤ (a / b).toInt ∧ (a / b).toInt ≤ a.toInt := by
  have h1 : 0 ≤ a.toInt.tdiv b.toInt := Int.tdiv_nonneg ha (by omega)
  have h2 : a.toInt.tdiv b.toInt ≤ a.toInt := Int.tdiv_le_self _ ha
  have h3 := Int32.toInt_lt a
  have e : (a / b).toInt = a.toInt.tdiv b.toInt := by
    rw [Int32.toInt_div]
    exact Int.bmod_eq_of_le (by omega) (by omega)
  omega
theorem zgL_bd {far up : Int32} (h : zpn far up) {v : Nat → Int32} : ∀ n, n ≤ 24 → (∀ k, k < n → 0 ≤ (v k).toInt ∧ (v k).toInt ≤ 108) → 0 ≤ (zgL far up v n).toInt ∧ (zgL far up v n).toInt ≤ 10800 * n
  | 0, _, _ => by unfold zgL; decide
  | n + 1, hn, hv => by
    have t100 : (100 : Int32).toInt = 100 := by decide
    have ih := zgL_bd h n (by omega) (fun k hk => hv k (by omega))
    have e := hv n (by omega)
    have e1 : (v n * 100).toInt = 100 * (v n).toInt := zt_kr 100 t100 (by omega) (by omega)
    have e2 := zdv (a := v n * 100) (b := far + zabs (nI n - up)) (by omega) (zaw_v h (by omega)).1
    rw [zgL, zt_add (by omega) (by omega)]
    omega
theorem zgL_congr {far up : Int32} {v v' : Nat → Int32} : ∀ n, (∀ k, k < n → v k = v' k) → zgL far up v n = zgL far up v' n
  | 0, _ => rfl
  | n + 1, h => by rw [zgL, zgL, zgL_congr n (fun k hk => h k (by omega)), h n (by omega)]
theorem zbh_mx {c x y : Int32} (hc : 0 ≤ c.toInt ∧ c.toInt ≤ 9) (hx : 0 ≤ x.toInt ∧ x.toInt ≤ 300000) (hy : 0 ≤ y.toInt ∧ y.toInt ≤ 300000) : zbh c (zmax x y) = zmax (zbh c x) (zbh c y) := by
  have t0 : (0 : Int32).toInt = 0 := by decide
  have t20 : (20 : Int32).toInt = 20 := by decide
  have e : (20 * c).toInt = 20 * c.toInt := zt_k 20 t20 (by omega) (by omega)
  have ex : (x - 20 * c).toInt = x.toInt - 20 * c.toInt := by rw [zt_sub (by omega) (by omega), e]
  have ey : (y - 20 * c).toInt = y.toInt - 20 * c.toInt := by rw [zt_sub (by omega) (by omega), e]
  unfold zbh
  refine Int32.toInt_inj.mp ?_
  have a1 := zmax_v 0 (x - 20 * c)
  have a2 := zmax_v 0 (y - 20 * c)
  rcases zmax_v x y with ⟨h1, h2⟩ | ⟨h1, h2⟩ <;> rw [h2] <;> rcases a1 with ⟨h3, h4⟩ | ⟨h3, h4⟩ <;> rw [h4] <;> rcases a2 with ⟨h5, h6⟩ | ⟨h5, h6⟩ <;> rw [h6] <;> (first | omega | (rcases zmax_v (x - 20 * c) (y - 20 * c) with ⟨h7, h8⟩ | ⟨h7, h8⟩ <;> rw [h8] <;> omega) | (rcases zmax_v (x - 20 * c) 0 with ⟨h7, h8⟩ | ⟨h7, h8⟩ <;> rw [h8] <;> omega) | (rcases zmax_v 0 (y - 20 * c) with ⟨h7, h8⟩ | ⟨h7, h8⟩ <;> rw [h8] <;> omega) | (rcases zmax_v (0 : Int32) 0 with ⟨h7, h8⟩ | ⟨h7, h8⟩ <;> rw [h8] <;> omega))
theorem zbh_0 {c : Int32} (hc : 0 ≤ c.toInt ∧ c.toInt ≤ 9) : zbh c 0 = 0 := by
  have t0 : (0 : Int32).toInt = 0 := by decide
  have t20 : (20 : Int32).toInt = 20 := by decide
  have e : (20 * c).toInt = 20 * c.toInt := zt_k 20 t20 (by omega) (by omega)
  have ex : ((0 : Int32) - 20 * c).toInt = 0 - 20 * c.toInt := by rw [zt_sub (by omega) (by omega), e, t0]
  unfold zbh
  rcases zmax_v 0 (0 - 20 * c) with ⟨h7, h8⟩ | ⟨h7, h8⟩
  · omega
  · exact h8
theorem zbR_bd {g : Nat → Int32} : ∀ m, (∀ j, j < m → 0 ≤ (g j).toInt ∧ (g j).toInt ≤ 300000) → 0 ≤ (zbR g m).toInt ∧ (zbR g m).toInt ≤ 300000
  | 0, _ => by unfold zbR; decide
  | m + 1, h => by
    have ih := zbR_bd m (fun j hj => h j (by omega))
    have e := h m (by omega)
    rw [zbR]
    rcases zmax_v (zbR g m) (g m) with ⟨h7, h8⟩ | ⟨h7, h8⟩ <;> rw [h8] <;> assumption
theorem zbR_bh {g : Nat → Int32} {c : Int32} (hc : 0 ≤ c.toInt ∧ c.toInt ≤ 9) : ∀ m, (∀ j, j < m → 0 ≤ (g j).toInt ∧ (g j).toInt ≤ 300000) → zbR (fun j => zbh c (g j)) m = zbh c (zbR g m)
  | 0, _ => (zbh_0 hc).symm
  | m + 1, h => by
    rw [zbR, zbR, zbR_bh hc m (fun j hj => h j (by omega)), zbh_mx hc (zbR_bd m (fun j hj => h j (by omega))) (h m (by omega))]
theorem zmx_lt {x y l : Int32} : zmax x y < l ↔ x < l ∧ y < l := by
  simp only [Int32.lt_iff_toInt_lt]
  rcases zmax_v x y with ⟨h7, h8⟩ | ⟨h7, h8⟩ <;> rw [h8] <;> omega
theorem zbR_lt {h : Nat → Int32} {l : Int32} (hl : 0 < l) : ∀ m, (zbR h m < l) ↔ ∀ j, j < m → h j < l
  | 0 => ⟨fun _ j hj => absurd hj (by omega), fun _ => hl⟩
  | m + 1 => by
    rw [zbR, zmx_lt, zbR_lt hl m]
    refine ⟨fun z j hj => ?_, fun z => ⟨fun j hj => z j (by omega), z m (by omega)⟩⟩
    by_cases e : j = m
    · subst e; exact z.2
    · exact z.1 j (by omega)
theorem zck_n {h : Nat → Int32} {lim : Int32} : ∀ c m, c + m ≤ 61 → ((0 ≤ zck h lim c m) ↔ ¬ ∀ j, m ≤ j → j < m + c → h j < lim)
  | 0, m, _ => ⟨fun z => absurd z (by unfold zck; decide), fun z => absurd (fun j h1 h2 => by omega) z⟩
  | c + 1, m, hm => by
    unfold zck
    by_cases e : lim ≤ h m
    · rw [if_pos e]
      exact ⟨fun _ z => absurd e (Int32.not_le.mpr (z m (Nat.le_refl _) (by omega))), fun _ => nI_pos' (by omega)⟩
    · rw [if_neg e, zck_n c (m + 1) (by omega)]
      refine not_congr ⟨fun z j h1 h2 => ?_, fun z j h1 h2 => z j (by omega) (by omega)⟩
      by_cases e2 : j = m
      · subst e2; exact Int32.not_le.mp e
      · exact z j (by omega) (by omega)
theorem zla_le {fm : Int32} (h : fm = -2 ∨ ∃ j, j < 61 ∧ fm = nI j) : zla fm < 61 := by
  unfold zla
  rcases h with h | ⟨j, hj, h⟩
  · rw [if_pos h]; decide
  · subst h
    split
    · decide
    · rw [zi_cl (by omega)]; exact hj
section PANES
variable {d e f g n k m p : Nat} {t : Option Nat} {I : Nat → Nat → Int32} {L : Nat → Nat → Int64} {Q : Option Value → zMm → Prop} {law : zLawT}
/-- FUEL as the class's fire holds it -/
def zFk (I : Nat → Nat → Int32) (n : Nat) (s : Nat → Nat → Int32) : Prop := I 33 5 = nI n ∧ (∀ k, k < n → I 34 k = s 0 k) ∧ ∀ m k, m < 61 → k < n → I 36 (24 * m + k) = s (m + 1) k
theorem zFk_p {s : Nat → Nat → Int32} (h : zFk I n s) (hm : m < 61) : zPv I m n (s m) := by
  intro k hk
  by_cases h0 : m = 0
  · subst h0
    rw [if_pos rfl]
    exact h.2.1 k hk
  · obtain ⟨j, rfl⟩ : ∃ j, m = j + 1 := ⟨m - 1, by omega⟩
    rw [if_neg h0]
    exact h.2.2 j k (by omega) hk
theorem c_glow_l {s : Nat → Nat → Int32} (h : zFk I n s) (h24 : n ≤ 24) (hm : m < 61) {far up : Int32} (hp : zpn far up) : ∀ c i (l6 : Value), c + i = n → zWp (d + 2) zi_20 none 6 [.ref 33, .int far, .int up, .int (nI m), .int (zgL far up (fun k => s m k - s (m + 1) k) i), .int (nI i), l6] [] (zSH, I, L, zP f g t) Q = Q (some (.int (zgL far up (fun k => s m k - s (m + 1) k) n))) (zSH, I, L, zP f g t) := by
  intro c
  induction c with
  | zero =>
    intro i l6 hi
    have hi : i = n := by omega
    subst hi
    rw [H_X2_glow_6]
    simp (disch := first | assumption | rfl | omega | decide | exact zb_01 _) only [zabs_e, zmax_e, zmin_e, zrf_s, zpush_s, zpush_n, zw_app, upd_app, updL_app, Nat.reduceEqDiff, Nat.add_left_cancel_iff, Nat.add_eq_left, Nat.left_eq_add, ↓reduceIte, true_and, and_true, Int32.reduceToNatClampNeg, zin_O, zi_ltO, zi_leO, zi_Olt, zi_Ole, zi_eqO, Nat.not_lt_zero, Nat.zero_le, List.append_nil, zrn_n, zrn_s, List.cons_append, List.nil_append, zlg_lt, zlg_gt, zlg_le, zlg_ge, zlg_eq, Int32.toInt_toInt64, Int64.reduceToInt, zw_zw, zw_sw1, zw_sw2, zw_sw3, zw_sw4, zw_sw5, zw_sw6, zw_sw7, ne_eq, zi_in, zi_cl, zi_le, zi_lt, zi_eq, zi_neg, zi_0le, zb_0, if_true, if_false, eq_self, zb_T, zb_F, Bool.false_eq_true, zO_eq, zO_ne1, zO_ne2, zO_nn, zi_ne1, zi_ne2, zi_lt1, zi_le1, zi_lt2, zi_le2, Int32.reduceLT, Int32.reduceLE, Nat.reduceLT, Nat.reduceLeDiff, Int32.reduceMul, Int32.reduceAdd, Int32.reduceSub, not_false_eq_true, not_true_eq_false, R_X2_glow, SHF, PF, h.1, Nat.le_refl]
  | succ c ih =>
    intro i l6 hi
    have hlt : ¬ n ≤ i := by omega
    obtain ⟨w1, w2⟩ := zaw_n hp (show i < 24 by omega)
    have q1 := fun Q => c_prev (d := d) (f := f) (g := g) (t := t) (L := L) (Q := Q) h24 hm (zFk_p h hm) (show i < n by omega)
    have q2 := fun Q => c_leftS (d := d) (f := f) (g := g) (t := t) (I := I) (L := L) (Q := Q) (show i < 24 by omega) hm
    rw [h.2.2 m i hm (by omega)] at q2
    rw [H_X2_glow_6, ← ih (i + 1) (.int (far + zabs (nI i - up))) (by omega)]
    simp (disch := first | assumption | rfl | omega | decide | exact zb_01 _) only [zabs_e, zmax_e, zmin_e, zrf_s, zpush_s, zpush_n, zw_app, upd_app, updL_app, Nat.reduceEqDiff, Nat.add_left_cancel_iff, Nat.add_eq_left, Nat.left_eq_add, ↓reduceIte, true_and, and_true, Int32.reduceToNatClampNeg, zin_O, zi_ltO, zi_leO, zi_Olt, zi_Ole, zi_eqO, Nat.not_lt_zero, Nat.zero_le, List.append_nil, zrn_n, zrn_s, List.cons_append, List.nil_append, zlg_lt, zlg_gt, zlg_le, zlg_ge, zlg_eq, Int32.toInt_toInt64, Int64.reduceToInt, zw_zw, zw_sw1, zw_sw2, zw_sw3, zw_sw4, zw_sw5, zw_sw6, zw_sw7, ne_eq, zi_in, zi_cl, zi_le, zi_lt, zi_eq, zi_neg, zi_0le, zb_0, if_true, if_false, eq_self, zb_T, zb_F, Bool.false_eq_true, zO_eq, zO_ne1, zO_ne2, zO_nn, zi_ne1, zi_ne2, zi_lt1, zi_le1, zi_lt2, zi_le2, Int32.reduceLT, Int32.reduceLE, Nat.reduceLT, Nat.reduceLeDiff, Int32.reduceMul, Int32.reduceAdd, Int32.reduceSub, not_false_eq_true, not_true_eq_false, R_X2_glow, SHF, PF, h.1, hlt, w1, w2, q1, q2, zi_s, zgL]
theorem c_glow {s : Nat → Nat → Int32} (h : zFk I n s) (h24 : n ≤ 24) (hm : m < 61) {far up : Int32} (hp : zpn far up) : zWM (d + 3) 20 [.ref 33, .int far, .int up, .int (nI m)] (zSH, I, L, zP f g t) Q = Q (some (.int (zgL far up (fun k => s m k - s (m + 1) k) n))) (zSH, I, L, zP f g t) := by
  simp (disch := first | assumption | rfl | omega | decide | exact zb_01 _) only [zabs_e, zmax_e, zmin_e, zrf_s, zpush_s, zpush_n, zw_app, upd_app, updL_app, Nat.reduceEqDiff, Nat.add_left_cancel_iff, Nat.add_eq_left, Nat.left_eq_add, ↓reduceIte, true_and, and_true, Int32.reduceToNatClampNeg, zin_O, zi_ltO, zi_leO, zi_Olt, zi_Ole, zi_eqO, Nat.not_lt_zero, Nat.zero_le, List.append_nil, zrn_n, zrn_s, List.cons_append, List.nil_append, zlg_lt, zlg_gt, zlg_le, zlg_ge, zlg_eq, Int32.toInt_toInt64, Int64.reduceToInt, zw_zw, zw_sw1, zw_sw2, zw_sw3, zw_sw4, zw_sw5, zw_sw6, zw_sw7, ne_eq, zi_in, zi_cl, zi_le, zi_lt, zi_eq, zi_neg, zi_0le, zb_0, if_true, if_false, eq_self, zb_T, zb_F, Bool.false_eq_true, zO_eq, zO_ne1, zO_ne2, zO_nn, zi_ne1, zi_ne2, zi_lt1, zi_le1, zi_lt2, zi_le2, Int32.reduceLT, Int32.reduceLE, Nat.reduceLT, Nat.reduceLeDiff, Int32.reduceMul, Int32.reduceAdd, Int32.reduceSub, not_false_eq_true, not_true_eq_false, E_X2_glow, R_X2_glow]
  exact c_glow_l h h24 hm hp n 0 _ (by omega)
theorem c_behind (c x : Int32) (h : zMm) : zWM (d + 1) 26 [.int c, .int x] h Q = Q (some (.int (zbh c x))) h := by
  simp (disch := first | assumption | rfl | omega | decide | exact zb_01 _) only [zabs_e, zmax_e, zmin_e, zrf_s, zpush_s, zpush_n, zw_app, upd_app, updL_app, Nat.reduceEqDiff, Nat.add_left_cancel_iff, Nat.add_eq_left, Nat.left_eq_add, ↓reduceIte, true_and, and_true, Int32.reduceToNatClampNeg, zin_O, zi_ltO, zi_leO, zi_Olt, zi_Ole, zi_eqO, Nat.not_lt_zero, Nat.zero_le, List.append_nil, zrn_n, zrn_s, List.cons_append, List.nil_append, zlg_lt, zlg_gt, zlg_le, zlg_ge, zlg_eq, Int32.toInt_toInt64, Int64.reduceToInt, zw_zw, zw_sw1, zw_sw2, zw_sw3, zw_sw4, zw_sw5, zw_sw6, zw_sw7, ne_eq, zi_in, zi_cl, zi_le, zi_lt, zi_eq, zi_neg, zi_0le, zb_0, if_true, if_false, eq_self, zb_T, zb_F, Bool.false_eq_true, zO_eq, zO_ne1, zO_ne2, zO_nn, zi_ne1, zi_ne2, zi_lt1, zi_le1, zi_lt2, zi_le2, Int32.reduceLT, Int32.reduceLE, Nat.reduceLT, Nat.reduceLeDiff, Int32.reduceMul, Int32.reduceAdd, Int32.reduceSub, not_false_eq_true, not_true_eq_false, E_X3_behind, R_X3_behind]
  rfl
/-- HEAT without BOARDS at a PANE, by minutes -/
abbrev zgf (far up : Int32) (n : Nat) (s : Nat → Nat → Int32) : Nat → Int32 := fun m => zgL far up (fun k => s m k - s (m + 1) k) n
theorem c_heatOf {s : Nat → Nat → Int32} (h : zFk I n s) (h24 : n ≤ 24) (hm : m < 61) (hp8 : p < 8) (hp : zpn (I 28 p) (I 29 p)) : zWM (d + 4) 25 [.ref 27, .int (nI p), .int (nI m), .ref 33] (zSH, I, L, zP f g t) Q = Q (some (.int (zbh (I 30 p) (zgf (I 28 p) (I 29 p) n s m)))) (zSH, I, L, zP f g t) := by
  simp (disch := first | assumption | rfl | omega | decide | exact zb_01 _) only [zabs_e, zmax_e, zmin_e, zrf_s, zpush_s, zpush_n, zw_app, upd_app, updL_app, Nat.reduceEqDiff, Nat.add_left_cancel_iff, Nat.add_eq_left, Nat.left_eq_add, ↓reduceIte, true_and, and_true, Int32.reduceToNatClampNeg, zin_O, zi_ltO, zi_leO, zi_Olt, zi_Ole, zi_eqO, Nat.not_lt_zero, Nat.zero_le, List.append_nil, zrn_n, zrn_s, List.cons_append, List.nil_append, zlg_lt, zlg_gt, zlg_le, zlg_ge, zlg_eq, Int32.toInt_toInt64, Int64.reduceToInt, zw_zw, zw_sw1, zw_sw2, zw_sw3, zw_sw4, zw_sw5, zw_sw6, zw_sw7, ne_eq, zi_in, zi_cl, zi_le, zi_lt, zi_eq, zi_neg, zi_0le, zb_0, if_true, if_false, eq_self, zb_T, zb_F, Bool.false_eq_true, zO_eq, zO_ne1, zO_ne2, zO_nn, zi_ne1, zi_ne2, zi_lt1, zi_le1, zi_lt2, zi_le2, Int32.reduceLT, Int32.reduceLE, Nat.reduceLT, Nat.reduceLeDiff, Int32.reduceMul, Int32.reduceAdd, Int32.reduceSub, not_false_eq_true, not_true_eq_false, E_X3_heatOf, R_X3_heatOf, SHF, PF, c_glow h h24 hm hp, c_behind]
theorem c_lastOf (hf : I 33 7 = -2 ∨ ∃ j, j < 61 ∧ I 33 7 = nI j) : zWM (d + 1) 30 [.ref 33] (zSH, I, L, zP f g t) Q = Q (some (.int (nI (zla (I 33 7))))) (zSH, I, L, zP f g t) := by
  unfold zla
  rcases hf with h | ⟨j, hj, h⟩
  · rw [if_pos h]
    simp (disch := first | assumption | rfl | omega | decide | exact zb_01 _) only [zabs_e, zmax_e, zmin_e, zrf_s, zpush_s, zpush_n, zw_app, upd_app, updL_app, Nat.reduceEqDiff, Nat.add_left_cancel_iff, Nat.add_eq_left, Nat.left_eq_add, ↓reduceIte, true_and, and_true, Int32.reduceToNatClampNeg, zin_O, zi_ltO, zi_leO, zi_Olt, zi_Ole, zi_eqO, Nat.not_lt_zero, Nat.zero_le, List.append_nil, zrn_n, zrn_s, List.cons_append, List.nil_append, zlg_lt, zlg_gt, zlg_le, zlg_ge, zlg_eq, Int32.toInt_toInt64, Int64.reduceToInt, zw_zw, zw_sw1, zw_sw2, zw_sw3, zw_sw4, zw_sw5, zw_sw6, zw_sw7, ne_eq, zi_in, zi_cl, zi_le, zi_lt, zi_eq, zi_neg, zi_0le, zb_0, if_true, if_false, eq_self, zb_T, zb_F, Bool.false_eq_true, zO_eq, zO_ne1, zO_ne2, zO_nn, zi_ne1, zi_ne2, zi_lt1, zi_le1, zi_lt2, zi_le2, Int32.reduceLT, Int32.reduceLE, Nat.reduceLT, Nat.reduceLeDiff, Int32.reduceMul, Int32.reduceAdd, Int32.reduceSub, not_false_eq_true, not_true_eq_false, E_X3_lastOf, R_X3_lastOf, SHF, PF, h]
    rfl
  · have h2 : ¬ nI j = -2 := by rw [zi_ne1 (n := j) (m := 2) (by omega) (by omega) (by omega)]; exact not_false
    rw [h, if_neg h2, zi_cl (by omega)]
    simp (disch := first | assumption | rfl | omega | decide | exact zb_01 _) only [zabs_e, zmax_e, zmin_e, zrf_s, zpush_s, zpush_n, zw_app, upd_app, updL_app, Nat.reduceEqDiff, Nat.add_left_cancel_iff, Nat.add_eq_left, Nat.left_eq_add, ↓reduceIte, true_and, and_true, Int32.reduceToNatClampNeg, zin_O, zi_ltO, zi_leO, zi_Olt, zi_Ole, zi_eqO, Nat.not_lt_zero, Nat.zero_le, List.append_nil, zrn_n, zrn_s, List.cons_append, List.nil_append, zlg_lt, zlg_gt, zlg_le, zlg_ge, zlg_eq, Int32.toInt_toInt64, Int64.reduceToInt, zw_zw, zw_sw1, zw_sw2, zw_sw3, zw_sw4, zw_sw5, zw_sw6, zw_sw7, ne_eq, zi_in, zi_cl, zi_le, zi_lt, zi_eq, zi_neg, zi_0le, zb_0, if_true, if_false, eq_self, zb_T, zb_F, Bool.false_eq_true, zO_eq, zO_ne1, zO_ne2, zO_nn, zi_ne1, zi_ne2, zi_lt1, zi_le1, zi_lt2, zi_le2, Int32.reduceLT, Int32.reduceLE, Nat.reduceLT, Nat.reduceLeDiff, Int32.reduceMul, Int32.reduceAdd, Int32.reduceSub, not_false_eq_true, not_true_eq_false, E_X3_lastOf, R_X3_lastOf, SHF, PF, h, h2]
theorem c_bright_l {s : Nat → Nat → Int32} (h : zFk I n s) (h24 : n ≤ 24) {E : Nat} (hE : E < 61) (hp8 : p < 8) (hp : zpn (I 28 p) (I 29 p)) : ∀ c i, c + i = E + 1 → zWp (d + 3) zi_31 none 6 [.ref 27, .int (nI p), .int (nI E), .ref 33, .int (zbR (zgf (I 28 p) (I 29 p) n s) i), .int (nI i)] [] (zSH, I, L, zP f g t) Q = Q (some (.int (zbR (zgf (I 28 p) (I 29 p) n s) (E + 1)))) (zSH, I, L, zP f g t) := by
  intro c
  induction c with
  | zero =>
    intro i hi
    have hi : i = E + 1 := by omega
    subst hi
    rw [H_X3_brightest_6]
    simp (disch := first | assumption | rfl | omega | decide | exact zb_01 _) only [zabs_e, zmax_e, zmin_e, zrf_s, zpush_s, zpush_n, zw_app, upd_app, updL_app, Nat.reduceEqDiff, Nat.add_left_cancel_iff, Nat.add_eq_left, Nat.left_eq_add, ↓reduceIte, true_and, and_true, Int32.reduceToNatClampNeg, zin_O, zi_ltO, zi_leO, zi_Olt, zi_Ole, zi_eqO, Nat.not_lt_zero, Nat.zero_le, List.append_nil, zrn_n, zrn_s, List.cons_append, List.nil_append, zlg_lt, zlg_gt, zlg_le, zlg_ge, zlg_eq, Int32.toInt_toInt64, Int64.reduceToInt, zw_zw, zw_sw1, zw_sw2, zw_sw3, zw_sw4, zw_sw5, zw_sw6, zw_sw7, ne_eq, zi_in, zi_cl, zi_le, zi_lt, zi_eq, zi_neg, zi_0le, zb_0, if_true, if_false, eq_self, zb_T, zb_F, Bool.false_eq_true, zO_eq, zO_ne1, zO_ne2, zO_nn, zi_ne1, zi_ne2, zi_lt1, zi_le1, zi_lt2, zi_le2, Int32.reduceLT, Int32.reduceLE, Nat.reduceLT, Nat.reduceLeDiff, Int32.reduceMul, Int32.reduceAdd, Int32.reduceSub, not_false_eq_true, not_true_eq_false, R_X3_brightest, SHF, PF, Nat.lt_succ_self]
  | succ c ih =>
    intro i hi
    have hlt : ¬ E < i := by omega
    have q := fun Q => c_glow (d := d) (f := f) (g := g) (t := t) (L := L) (Q := Q) h h24 (show i < 61 by omega) hp
    rw [H_X3_brightest_6, ← ih (i + 1) (by omega)]
    simp (disch := first | assumption | rfl | omega | decide | exact zb_01 _) only [zabs_e, zmax_e, zmin_e, zrf_s, zpush_s, zpush_n, zw_app, upd_app, updL_app, Nat.reduceEqDiff, Nat.add_left_cancel_iff, Nat.add_eq_left, Nat.left_eq_add, ↓reduceIte, true_and, and_true, Int32.reduceToNatClampNeg, zin_O, zi_ltO, zi_leO, zi_Olt, zi_Ole, zi_eqO, Nat.not_lt_zero, Nat.zero_le, List.append_nil, zrn_n, zrn_s, List.cons_append, List.nil_append, zlg_lt, zlg_gt, zlg_le, zlg_ge, zlg_eq, Int32.toInt_toInt64, Int64.reduceToInt, zw_zw, zw_sw1, zw_sw2, zw_sw3, zw_sw4, zw_sw5, zw_sw6, zw_sw7, ne_eq, zi_in, zi_cl, zi_le, zi_lt, zi_eq, zi_neg, zi_0le, zb_0, if_true, if_false, eq_self, zb_T, zb_F, Bool.false_eq_true, zO_eq, zO_ne1, zO_ne2, zO_nn, zi_ne1, zi_ne2, zi_lt1, zi_le1, zi_lt2, zi_le2, Int32.reduceLT, Int32.reduceLE, Nat.reduceLT, Nat.reduceLeDiff, Int32.reduceMul, Int32.reduceAdd, Int32.reduceSub, not_false_eq_true, not_true_eq_false, R_X3_brightest, SHF, PF, hlt, q, zi_s, zbR]
theorem c_bright {s : Nat → Nat → Int32} (h : zFk I n s) (h24 : n ≤ 24) {E : Nat} (hE : E < 61) (hp8 : p < 8) (hp : zpn (I 28 p) (I 29 p)) : zWM (d + 4) 31 [.ref 27, .int (nI p), .int (nI E), .ref 33] (zSH, I, L, zP f g t) Q = Q (some (.int (zbR (zgf (I 28 p) (I 29 p) n s) (E + 1)))) (zSH, I, L, zP f g t) := by
  simp (disch := first | assumption | rfl | omega | decide | exact zb_01 _) only [zabs_e, zmax_e, zmin_e, zrf_s, zpush_s, zpush_n, zw_app, upd_app, updL_app, Nat.reduceEqDiff, Nat.add_left_cancel_iff, Nat.add_eq_left, Nat.left_eq_add, ↓reduceIte, true_and, and_true, Int32.reduceToNatClampNeg, zin_O, zi_ltO, zi_leO, zi_Olt, zi_Ole, zi_eqO, Nat.not_lt_zero, Nat.zero_le, List.append_nil, zrn_n, zrn_s, List.cons_append, List.nil_append, zlg_lt, zlg_gt, zlg_le, zlg_ge, zlg_eq, Int32.toInt_toInt64, Int64.reduceToInt, zw_zw, zw_sw1, zw_sw2, zw_sw3, zw_sw4, zw_sw5, zw_sw6, zw_sw7, ne_eq, zi_in, zi_cl, zi_le, zi_lt, zi_eq, zi_neg, zi_0le, zb_0, if_true, if_false, eq_self, zb_T, zb_F, Bool.false_eq_true, zO_eq, zO_ne1, zO_ne2, zO_nn, zi_ne1, zi_ne2, zi_lt1, zi_le1, zi_lt2, zi_le2, Int32.reduceLT, Int32.reduceLE, Nat.reduceLT, Nat.reduceLeDiff, Int32.reduceMul, Int32.reduceAdd, Int32.reduceSub, not_false_eq_true, not_true_eq_false, E_X3_brightest, R_X3_brightest]
  exact c_bright_l h h24 hE hp8 hp (E + 1) 0 (by omega)
theorem c_hottestOf {s : Nat → Nat → Int32} (h : zFk I n s) (h24 : n ≤ 24) (hp8 : p < 8) (hp : zpn (I 28 p) (I 29 p)) : zWM (d + 5) 28 [.ref 27, .int (nI p), .ref 33] (zSH, I, L, zP f g t) Q = Q (some (.int (zbh (I 30 p) (zbR (zgf (I 28 p) (I 29 p) n s) 61)))) (zSH, I, L, zP f g t) := by
  have q := fun Q => c_bright (d := d) (f := f) (g := g) (t := t) (L := L) (Q := Q) h h24 (E := 60) (by decide) hp8 hp
  rw [show nI 60 = 60 from rfl] at q
  simp (disch := first | assumption | rfl | omega | decide | exact zb_01 _) only [zabs_e, zmax_e, zmin_e, zrf_s, zpush_s, zpush_n, zw_app, upd_app, updL_app, Nat.reduceEqDiff, Nat.add_left_cancel_iff, Nat.add_eq_left, Nat.left_eq_add, ↓reduceIte, true_and, and_true, Int32.reduceToNatClampNeg, zin_O, zi_ltO, zi_leO, zi_Olt, zi_Ole, zi_eqO, Nat.not_lt_zero, Nat.zero_le, List.append_nil, zrn_n, zrn_s, List.cons_append, List.nil_append, zlg_lt, zlg_gt, zlg_le, zlg_ge, zlg_eq, Int32.toInt_toInt64, Int64.reduceToInt, zw_zw, zw_sw1, zw_sw2, zw_sw3, zw_sw4, zw_sw5, zw_sw6, zw_sw7, ne_eq, zi_in, zi_cl, zi_le, zi_lt, zi_eq, zi_neg, zi_0le, zb_0, if_true, if_false, eq_self, zb_T, zb_F, Bool.false_eq_true, zO_eq, zO_ne1, zO_ne2, zO_nn, zi_ne1, zi_ne2, zi_lt1, zi_le1, zi_lt2, zi_le2, Int32.reduceLT, Int32.reduceLE, Nat.reduceLT, Nat.reduceLeDiff, Int32.reduceMul, Int32.reduceAdd, Int32.reduceSub, not_false_eq_true, not_true_eq_false, E_X3_hottestOf, R_X3_hottestOf, SHF, PF, q, c_behind]
theorem c_crackOf_l {s : Nat → Nat → Int32} (h : zFk I n s) (h24 : n ≤ 24) {E : Nat} (hE : E < 61) (hp8 : p < 8) (hp : zpn (I 28 p) (I 29 p)) : ∀ c i, c + i = E + 1 → zWp (d + 4) zi_27 none 8 [.ref 27, .int (nI p), .ref 33, .int (nI E), .int (nI i)] [] (zSH, I, L, zP f g t) Q = Q (some (.int (zck (fun m => zbh (I 30 p) (zgf (I 28 p) (I 29 p) n s m)) (I 27 4) c i))) (zSH, I, L, zP f g t) := by
  intro c
  induction c with
  | zero =>
    intro i hi
    have hi : i = E + 1 := by omega
    subst hi
    rw [H_X3_crackOf_8]
    simp (disch := first | assumption | rfl | omega | decide | exact zb_01 _) only [zabs_e, zmax_e, zmin_e, zrf_s, zpush_s, zpush_n, zw_app, upd_app, updL_app, Nat.reduceEqDiff, Nat.add_left_cancel_iff, Nat.add_eq_left, Nat.left_eq_add, ↓reduceIte, true_and, and_true, Int32.reduceToNatClampNeg, zin_O, zi_ltO, zi_leO, zi_Olt, zi_Ole, zi_eqO, Nat.not_lt_zero, Nat.zero_le, List.append_nil, zrn_n, zrn_s, List.cons_append, List.nil_append, zlg_lt, zlg_gt, zlg_le, zlg_ge, zlg_eq, Int32.toInt_toInt64, Int64.reduceToInt, zw_zw, zw_sw1, zw_sw2, zw_sw3, zw_sw4, zw_sw5, zw_sw6, zw_sw7, ne_eq, zi_in, zi_cl, zi_le, zi_lt, zi_eq, zi_neg, zi_0le, zb_0, if_true, if_false, eq_self, zb_T, zb_F, Bool.false_eq_true, zO_eq, zO_ne1, zO_ne2, zO_nn, zi_ne1, zi_ne2, zi_lt1, zi_le1, zi_lt2, zi_le2, Int32.reduceLT, Int32.reduceLE, Nat.reduceLT, Nat.reduceLeDiff, Int32.reduceMul, Int32.reduceAdd, Int32.reduceSub, not_false_eq_true, not_true_eq_false, R_X3_crackOf, SHF, PF, Nat.lt_succ_self, zck]
  | succ c ih =>
    intro i hi
    have hlt : ¬ E < i := by omega
    have q := fun Q => c_heatOf (d := d) (f := f) (g := g) (t := t) (L := L) (Q := Q) h h24 (show i < 61 by omega) hp8 hp
    have ih2 := ih (i + 1) (by omega)
    rw [H_X3_crackOf_8]
    simp (disch := first | assumption | rfl | omega | decide | exact zb_01 _) only [zabs_e, zmax_e, zmin_e, zrf_s, zpush_s, zpush_n, zw_app, upd_app, updL_app, Nat.reduceEqDiff, Nat.add_left_cancel_iff, Nat.add_eq_left, Nat.left_eq_add, ↓reduceIte, true_and, and_true, Int32.reduceToNatClampNeg, zin_O, zi_ltO, zi_leO, zi_Olt, zi_Ole, zi_eqO, Nat.not_lt_zero, Nat.zero_le, List.append_nil, zrn_n, zrn_s, List.cons_append, List.nil_append, zlg_lt, zlg_gt, zlg_le, zlg_ge, zlg_eq, Int32.toInt_toInt64, Int64.reduceToInt, zw_zw, zw_sw1, zw_sw2, zw_sw3, zw_sw4, zw_sw5, zw_sw6, zw_sw7, ne_eq, zi_in, zi_cl, zi_le, zi_lt, zi_eq, zi_neg, zi_0le, zb_0, if_true, if_false, eq_self, zb_T, zb_F, Bool.false_eq_true, zO_eq, zO_ne1, zO_ne2, zO_nn, zi_ne1, zi_ne2, zi_lt1, zi_le1, zi_lt2, zi_le2, Int32.reduceLT, Int32.reduceLE, Nat.reduceLT, Nat.reduceLeDiff, Int32.reduceMul, Int32.reduceAdd, Int32.reduceSub, not_false_eq_true, not_true_eq_false, R_X3_crackOf, SHF, PF, hlt, q, zi_s, zck]
    rw [ih2]
    by_cases h1 : I 27 4 ≤ zbh (I 30 p) (zgf (I 28 p) (I 29 p) n s i)
    · rw [if_pos h1, if_neg (Int32.not_lt.mpr h1)]
    · rw [if_neg h1, if_pos (Int32.not_le.mp h1)]
theorem c_crackOf {s : Nat → Nat → Int32} (h : zFk I n s) (h24 : n ≤ 24) (hf : I 33 7 = -2 ∨ ∃ j, j < 61 ∧ I 33 7 = nI j) (hp8 : p < 8) (hp : zpn (I 28 p) (I 29 p)) : zWM (d + 5) 27 [.ref 27, .int (nI p), .ref 33] (zSH, I, L, zP f g t) Q = Q (some (.int (zck (fun m => zbh (I 30 p) (zgf (I 28 p) (I 29 p) n s m)) (I 27 4) (zla (I 33 7) + 1) 0))) (zSH, I, L, zP f g t) := by
  simp (disch := first | assumption | rfl | omega | decide | exact zb_01 _) only [zabs_e, zmax_e, zmin_e, zrf_s, zpush_s, zpush_n, zw_app, upd_app, updL_app, Nat.reduceEqDiff, Nat.add_left_cancel_iff, Nat.add_eq_left, Nat.left_eq_add, ↓reduceIte, true_and, and_true, Int32.reduceToNatClampNeg, zin_O, zi_ltO, zi_leO, zi_Olt, zi_Ole, zi_eqO, Nat.not_lt_zero, Nat.zero_le, List.append_nil, zrn_n, zrn_s, List.cons_append, List.nil_append, zlg_lt, zlg_gt, zlg_le, zlg_ge, zlg_eq, Int32.toInt_toInt64, Int64.reduceToInt, zw_zw, zw_sw1, zw_sw2, zw_sw3, zw_sw4, zw_sw5, zw_sw6, zw_sw7, ne_eq, zi_in, zi_cl, zi_le, zi_lt, zi_eq, zi_neg, zi_0le, zb_0, if_true, if_false, eq_self, zb_T, zb_F, Bool.false_eq_true, zO_eq, zO_ne1, zO_ne2, zO_nn, zi_ne1, zi_ne2, zi_lt1, zi_le1, zi_lt2, zi_le2, Int32.reduceLT, Int32.reduceLE, Nat.reduceLT, Nat.reduceLeDiff, Int32.reduceMul, Int32.reduceAdd, Int32.reduceSub, not_false_eq_true, not_true_eq_false, E_X3_crackOf, R_X3_crackOf, c_lastOf hf]
  exact c_crackOf_l h h24 (zla_le hf) hp8 hp (zla (I 33 7) + 1) 0 (by omega)
theorem c_boardsFor_l (B : Int32) : ∀ c i, c + i = 10 → zWp (d + 1) zi_29 none 14 [.ref 27, .int (nI p), .ref 33, .int B, .int (nI i)] [] (zSH, I, L, zP f g t) Q = Q (some (.int (zbf B (I 27 4) c i))) (zSH, I, L, zP f g t) := by
  intro c
  induction c with
  | zero =>
    intro i hi
    have hi : i = 10 := by omega
    subst hi
    rw [H_X3_boardsFor_14]
    simp (disch := first | assumption | rfl | omega | decide | exact zb_01 _) only [zabs_e, zmax_e, zmin_e, zrf_s, zpush_s, zpush_n, zw_app, upd_app, updL_app, Nat.reduceEqDiff, Nat.add_left_cancel_iff, Nat.add_eq_left, Nat.left_eq_add, ↓reduceIte, true_and, and_true, Int32.reduceToNatClampNeg, zin_O, zi_ltO, zi_leO, zi_Olt, zi_Ole, zi_eqO, Nat.not_lt_zero, Nat.zero_le, List.append_nil, zrn_n, zrn_s, List.cons_append, List.nil_append, zlg_lt, zlg_gt, zlg_le, zlg_ge, zlg_eq, Int32.toInt_toInt64, Int64.reduceToInt, zw_zw, zw_sw1, zw_sw2, zw_sw3, zw_sw4, zw_sw5, zw_sw6, zw_sw7, ne_eq, zi_in, zi_cl, zi_le, zi_lt, zi_eq, zi_neg, zi_0le, zb_0, if_true, if_false, eq_self, zb_T, zb_F, Bool.false_eq_true, zO_eq, zO_ne1, zO_ne2, zO_nn, zi_ne1, zi_ne2, zi_lt1, zi_le1, zi_lt2, zi_le2, Int32.reduceLT, Int32.reduceLE, Nat.reduceLT, Nat.reduceLeDiff, Int32.reduceMul, Int32.reduceAdd, Int32.reduceSub, not_false_eq_true, not_true_eq_false, R_X3_boardsFor, SHF, PF, zbf]
  | succ c ih =>
    intro i hi
    have hlt : ¬ 9 < i := by omega
    have ih2 := ih (i + 1) (by omega)
    rw [H_X3_boardsFor_14]
    simp (disch := first | assumption | rfl | omega | decide | exact zb_01 _) only [zabs_e, zmax_e, zmin_e, zrf_s, zpush_s, zpush_n, zw_app, upd_app, updL_app, Nat.reduceEqDiff, Nat.add_left_cancel_iff, Nat.add_eq_left, Nat.left_eq_add, ↓reduceIte, true_and, and_true, Int32.reduceToNatClampNeg, zin_O, zi_ltO, zi_leO, zi_Olt, zi_Ole, zi_eqO, Nat.not_lt_zero, Nat.zero_le, List.append_nil, zrn_n, zrn_s, List.cons_append, List.nil_append, zlg_lt, zlg_gt, zlg_le, zlg_ge, zlg_eq, Int32.toInt_toInt64, Int64.reduceToInt, zw_zw, zw_sw1, zw_sw2, zw_sw3, zw_sw4, zw_sw5, zw_sw6, zw_sw7, ne_eq, zi_in, zi_cl, zi_le, zi_lt, zi_eq, zi_neg, zi_0le, zb_0, if_true, if_false, eq_self, zb_T, zb_F, Bool.false_eq_true, zO_eq, zO_ne1, zO_ne2, zO_nn, zi_ne1, zi_ne2, zi_lt1, zi_le1, zi_lt2, zi_le2, Int32.reduceLT, Int32.reduceLE, Nat.reduceLT, Nat.reduceLeDiff, Int32.reduceMul, Int32.reduceAdd, Int32.reduceSub, not_false_eq_true, not_true_eq_false, R_X3_boardsFor, SHF, PF, hlt, c_behind, zi_s, zbf]
    rw [ih2]
    by_cases h1 : zbh (nI i) B < I 27 4
    · rw [if_pos h1, if_neg (Int32.not_le.mpr h1)]
    · rw [if_neg h1, if_pos (Int32.not_lt.mp h1)]
theorem c_boardsFor {s : Nat → Nat → Int32} (h : zFk I n s) (h24 : n ≤ 24) (hf : I 33 7 = -2 ∨ ∃ j, j < 61 ∧ I 33 7 = nI j) (hp8 : p < 8) (hp : zpn (I 28 p) (I 29 p)) : zWM (d + 5) 29 [.ref 27, .int (nI p), .ref 33] (zSH, I, L, zP f g t) Q = Q (some (.int (zbf (zbR (zgf (I 28 p) (I 29 p) n s) (zla (I 33 7) + 1)) (I 27 4) 10 0))) (zSH, I, L, zP f g t) := by
  have q := fun Q => c_bright (d := d) (f := f) (g := g) (t := t) (L := L) (Q := Q) h h24 (zla_le hf) hp8 hp
  simp (disch := first | assumption | rfl | omega | decide | exact zb_01 _) only [zabs_e, zmax_e, zmin_e, zrf_s, zpush_s, zpush_n, zw_app, upd_app, updL_app, Nat.reduceEqDiff, Nat.add_left_cancel_iff, Nat.add_eq_left, Nat.left_eq_add, ↓reduceIte, true_and, and_true, Int32.reduceToNatClampNeg, zin_O, zi_ltO, zi_leO, zi_Olt, zi_Ole, zi_eqO, Nat.not_lt_zero, Nat.zero_le, List.append_nil, zrn_n, zrn_s, List.cons_append, List.nil_append, zlg_lt, zlg_gt, zlg_le, zlg_ge, zlg_eq, Int32.toInt_toInt64, Int64.reduceToInt, zw_zw, zw_sw1, zw_sw2, zw_sw3, zw_sw4, zw_sw5, zw_sw6, zw_sw7, ne_eq, zi_in, zi_cl, zi_le, zi_lt, zi_eq, zi_neg, zi_0le, zb_0, if_true, if_false, eq_self, zb_T, zb_F, Bool.false_eq_true, zO_eq, zO_ne1, zO_ne2, zO_nn, zi_ne1, zi_ne2, zi_lt1, zi_le1, zi_lt2, zi_le2, Int32.reduceLT, Int32.reduceLE, Nat.reduceLT, Nat.reduceLeDiff, Int32.reduceMul, Int32.reduceAdd, Int32.reduceSub, not_false_eq_true, not_true_eq_false, E_X3_boardsFor, R_X3_boardsFor, c_lastOf hf, q]
  have l := c_boardsFor_l (d := d + 3) (f := f) (g := g) (t := t) (I := I) (L := L) (Q := Q) (p := p) (zbR (zgf (I 28 p) (I 29 p) n s) (zla (I 33 7) + 1)) 10 0 (by omega)
  exact l
/-! the reference -/
theorem m_heatBy_l {v : Nat → Int32} (hn : I 80 6 = nI n) (hv : ∀ k, k < n → I 96 (24 * m + k) = v k) (h24 : n ≤ 24) (hm : m < 61) (hp8 : p < 8) (hp : zpn (I 86 p) (I 87 p)) (b : Int32) : ∀ c i, c + i = n → zWp (d + 1) zi_175 none 6 [.ref 80, .int (nI p), .int (nI m), .int b, .int (zgL (I 86 p) (I 87 p) v i), .int (nI i)] [] (zSH, I, L, zP f g t) Q = Q (some (.int (zbh b (zgL (I 86 p) (I 87 p) v n)))) (zSH, I, L, zP f g t) := by
  intro c
  induction c with
  | zero =>
    intro i hi
    have hi : i = n := by omega
    subst hi
    rw [H_X10_heatBy_6]
    simp (disch := first | assumption | rfl | omega | decide | exact zb_01 _) only [zabs_e, zmax_e, zmin_e, zrf_s, zpush_s, zpush_n, zw_app, upd_app, updL_app, Nat.reduceEqDiff, Nat.add_left_cancel_iff, Nat.add_eq_left, Nat.left_eq_add, ↓reduceIte, true_and, and_true, Int32.reduceToNatClampNeg, zin_O, zi_ltO, zi_leO, zi_Olt, zi_Ole, zi_eqO, Nat.not_lt_zero, Nat.zero_le, List.append_nil, zrn_n, zrn_s, List.cons_append, List.nil_append, zlg_lt, zlg_gt, zlg_le, zlg_ge, zlg_eq, Int32.toInt_toInt64, Int64.reduceToInt, zw_zw, zw_sw1, zw_sw2, zw_sw3, zw_sw4, zw_sw5, zw_sw6, zw_sw7, ne_eq, zi_in, zi_cl, zi_le, zi_lt, zi_eq, zi_neg, zi_0le, zb_0, if_true, if_false, eq_self, zb_T, zb_F, Bool.false_eq_true, zO_eq, zO_ne1, zO_ne2, zO_nn, zi_ne1, zi_ne2, zi_lt1, zi_le1, zi_lt2, zi_le2, Int32.reduceLT, Int32.reduceLE, Nat.reduceLT, Nat.reduceLeDiff, Int32.reduceMul, Int32.reduceAdd, Int32.reduceSub, not_false_eq_true, not_true_eq_false, R_X10_heatBy, SHF, PF, hn, Nat.le_refl]
    unfold zbh zmax
    by_cases h1 : 0 < zgL (I 86 p) (I 87 p) v i - 20 * b
    · rw [if_pos h1, if_pos (Int32.le_of_lt h1)]
    · rw [if_neg h1]
      by_cases h2 : 0 ≤ zgL (I 86 p) (I 87 p) v i - 20 * b
      · rw [if_pos h2, Int32.le_antisymm h2 (Int32.not_lt.mp h1)]
      · rw [if_neg h2]
  | succ c ih =>
    intro i hi
    have hlt : ¬ n ≤ i := by omega
    obtain ⟨w1, w2⟩ := zaw_n hp (show i < 24 by omega)
    have hvi := hv i (by omega)
    rw [H_X10_heatBy_6, ← ih (i + 1) (by omega)]
    simp (disch := first | assumption | rfl | omega | decide | exact zb_01 _) only [zabs_e, zmax_e, zmin_e, zrf_s, zpush_s, zpush_n, zw_app, upd_app, updL_app, Nat.reduceEqDiff, Nat.add_left_cancel_iff, Nat.add_eq_left, Nat.left_eq_add, ↓reduceIte, true_and, and_true, Int32.reduceToNatClampNeg, zin_O, zi_ltO, zi_leO, zi_Olt, zi_Ole, zi_eqO, Nat.not_lt_zero, Nat.zero_le, List.append_nil, zrn_n, zrn_s, List.cons_append, List.nil_append, zlg_lt, zlg_gt, zlg_le, zlg_ge, zlg_eq, Int32.toInt_toInt64, Int64.reduceToInt, zw_zw, zw_sw1, zw_sw2, zw_sw3, zw_sw4, zw_sw5, zw_sw6, zw_sw7, ne_eq, zi_in, zi_cl, zi_le, zi_lt, zi_eq, zi_neg, zi_0le, zb_0, if_true, if_false, eq_self, zb_T, zb_F, Bool.false_eq_true, zO_eq, zO_ne1, zO_ne2, zO_nn, zi_ne1, zi_ne2, zi_lt1, zi_le1, zi_lt2, zi_le2, Int32.reduceLT, Int32.reduceLE, Nat.reduceLT, Nat.reduceLeDiff, Int32.reduceMul, Int32.reduceAdd, Int32.reduceSub, not_false_eq_true, not_true_eq_false, R_X10_heatBy, SHF, PF, hn, hlt, zi_24m, hvi, m_sizeOf, w2, zi_s, zgL]
theorem m_heatBy {v : Nat → Int32} (hn : I 80 6 = nI n) (hv : ∀ k, k < n → I 96 (24 * m + k) = v k) (h24 : n ≤ 24) (hm : m < 61) (hp8 : p < 8) (hp : zpn (I 86 p) (I 87 p)) (b : Int32) : zWM (d + 2) 175 [.ref 80, .int (nI p), .int (nI m), .int b] (zSH, I, L, zP f g t) Q = Q (some (.int (zbh b (zgL (I 86 p) (I 87 p) v n)))) (zSH, I, L, zP f g t) := by
  simp (disch := first | assumption | rfl | omega | decide | exact zb_01 _) only [zabs_e, zmax_e, zmin_e, zrf_s, zpush_s, zpush_n, zw_app, upd_app, updL_app, Nat.reduceEqDiff, Nat.add_left_cancel_iff, Nat.add_eq_left, Nat.left_eq_add, ↓reduceIte, true_and, and_true, Int32.reduceToNatClampNeg, zin_O, zi_ltO, zi_leO, zi_Olt, zi_Ole, zi_eqO, Nat.not_lt_zero, Nat.zero_le, List.append_nil, zrn_n, zrn_s, List.cons_append, List.nil_append, zlg_lt, zlg_gt, zlg_le, zlg_ge, zlg_eq, Int32.toInt_toInt64, Int64.reduceToInt, zw_zw, zw_sw1, zw_sw2, zw_sw3, zw_sw4, zw_sw5, zw_sw6, zw_sw7, ne_eq, zi_in, zi_cl, zi_le, zi_lt, zi_eq, zi_neg, zi_0le, zb_0, if_true, if_false, eq_self, zb_T, zb_F, Bool.false_eq_true, zO_eq, zO_ne1, zO_ne2, zO_nn, zi_ne1, zi_ne2, zi_lt1, zi_le1, zi_lt2, zi_le2, Int32.reduceLT, Int32.reduceLE, Nat.reduceLT, Nat.reduceLeDiff, Int32.reduceMul, Int32.reduceAdd, Int32.reduceSub, not_false_eq_true, not_true_eq_false, E_X10_heatBy, R_X10_heatBy]
  exact m_heatBy_l hn hv h24 hm hp8 hp b n 0 (by omega)
theorem zi_a74' (j : Nat) : 74 + nI j = nI (74 + j) := zi_a74 j
theorem m_heatAt {v : Nat → Int32} (hn : I 80 6 = nI n) (hv : ∀ k, k < n → I 96 (24 * m + k) = v k) (h24 : n ≤ 24) (hm : m < 61) (hp8 : p < 8) (hp : zpn (I 86 p) (I 87 p)) : zWM (d + 3) 176 [.ref 80, .int (nI p), .int (nI m)] (zSH, I, L, zP f g t) Q = Q (some (.int (zbh (I 81 (74 + p)) (zgL (I 86 p) (I 87 p) v n)))) (zSH, I, L, zP f g t) := by
  have q := fun b Q => m_heatBy (d := d) (f := f) (g := g) (t := t) (L := L) (Q := Q) hn hv h24 hm hp8 hp b
  simp (disch := first | assumption | rfl | omega | decide | exact zb_01 _) only [zabs_e, zmax_e, zmin_e, zrf_s, zpush_s, zpush_n, zw_app, upd_app, updL_app, Nat.reduceEqDiff, Nat.add_left_cancel_iff, Nat.add_eq_left, Nat.left_eq_add, ↓reduceIte, true_and, and_true, Int32.reduceToNatClampNeg, zin_O, zi_ltO, zi_leO, zi_Olt, zi_Ole, zi_eqO, Nat.not_lt_zero, Nat.zero_le, List.append_nil, zrn_n, zrn_s, List.cons_append, List.nil_append, zlg_lt, zlg_gt, zlg_le, zlg_ge, zlg_eq, Int32.toInt_toInt64, Int64.reduceToInt, zw_zw, zw_sw1, zw_sw2, zw_sw3, zw_sw4, zw_sw5, zw_sw6, zw_sw7, ne_eq, zi_in, zi_cl, zi_le, zi_lt, zi_eq, zi_neg, zi_0le, zb_0, if_true, if_false, eq_self, zb_T, zb_F, Bool.false_eq_true, zO_eq, zO_ne1, zO_ne2, zO_nn, zi_ne1, zi_ne2, zi_lt1, zi_le1, zi_lt2, zi_le2, Int32.reduceLT, Int32.reduceLE, Nat.reduceLT, Nat.reduceLeDiff, Int32.reduceMul, Int32.reduceAdd, Int32.reduceSub, not_false_eq_true, not_true_eq_false, E_X10_heatAt, R_X10_heatAt, SHF, PF, zi_a74, q]
theorem m_crackOf_l {s : Nat → Nat → Int32} (hn : I 80 6 = nI n) (hv : ∀ m k, m < 61 → k < n → I 96 (24 * m + k) = s m k - s (m + 1) k) (h24 : n ≤ 24) {E : Nat} (hE : E < 61) (hp8 : p < 8) (hp : zpn (I 86 p) (I 87 p)) (b : Int32) : ∀ c i, c + i = E + 1 → zWp (d + 2) zi_178 none 20 [.ref 80, .int (nI p), .int b, .int (nI E), .int (nI i)] [] (zSH, I, L, zP f g t) Q = Q (some (.int (zck (fun m => zbh b (zgf (I 86 p) (I 87 p) n s m)) (I 81 82) c i))) (zSH, I, L, zP f g t) := by
  intro c
  induction c with
  | zero =>
    intro i hi
    have hi : i = E + 1 := by omega
    subst hi
    rw [H_X10_crackOf_20]
    simp (disch := first | assumption | rfl | omega | decide | exact zb_01 _) only [zabs_e, zmax_e, zmin_e, zrf_s, zpush_s, zpush_n, zw_app, upd_app, updL_app, Nat.reduceEqDiff, Nat.add_left_cancel_iff, Nat.add_eq_left, Nat.left_eq_add, ↓reduceIte, true_and, and_true, Int32.reduceToNatClampNeg, zin_O, zi_ltO, zi_leO, zi_Olt, zi_Ole, zi_eqO, Nat.not_lt_zero, Nat.zero_le, List.append_nil, zrn_n, zrn_s, List.cons_append, List.nil_append, zlg_lt, zlg_gt, zlg_le, zlg_ge, zlg_eq, Int32.toInt_toInt64, Int64.reduceToInt, zw_zw, zw_sw1, zw_sw2, zw_sw3, zw_sw4, zw_sw5, zw_sw6, zw_sw7, ne_eq, zi_in, zi_cl, zi_le, zi_lt, zi_eq, zi_neg, zi_0le, zb_0, if_true, if_false, eq_self, zb_T, zb_F, Bool.false_eq_true, zO_eq, zO_ne1, zO_ne2, zO_nn, zi_ne1, zi_ne2, zi_lt1, zi_le1, zi_lt2, zi_le2, Int32.reduceLT, Int32.reduceLE, Nat.reduceLT, Nat.reduceLeDiff, Int32.reduceMul, Int32.reduceAdd, Int32.reduceSub, not_false_eq_true, not_true_eq_false, R_X10_crackOf, SHF, PF, Nat.lt_succ_self, zck]
  | succ c ih =>
    intro i hi
    have hlt : ¬ E < i := by omega
    have q := fun Q => m_heatBy (d := d) (f := f) (g := g) (t := t) (L := L) (Q := Q) hn (fun k hk => hv i k (by omega) hk) h24 (show i < 61 by omega) hp8 hp b
    have ih2 := ih (i + 1) (by omega)
    rw [H_X10_crackOf_20]
    simp (disch := first | assumption | rfl | omega | decide | exact zb_01 _) only [zabs_e, zmax_e, zmin_e, zrf_s, zpush_s, zpush_n, zw_app, upd_app, updL_app, Nat.reduceEqDiff, Nat.add_left_cancel_iff, Nat.add_eq_left, Nat.left_eq_add, ↓reduceIte, true_and, and_true, Int32.reduceToNatClampNeg, zin_O, zi_ltO, zi_leO, zi_Olt, zi_Ole, zi_eqO, Nat.not_lt_zero, Nat.zero_le, List.append_nil, zrn_n, zrn_s, List.cons_append, List.nil_append, zlg_lt, zlg_gt, zlg_le, zlg_ge, zlg_eq, Int32.toInt_toInt64, Int64.reduceToInt, zw_zw, zw_sw1, zw_sw2, zw_sw3, zw_sw4, zw_sw5, zw_sw6, zw_sw7, ne_eq, zi_in, zi_cl, zi_le, zi_lt, zi_eq, zi_neg, zi_0le, zb_0, if_true, if_false, eq_self, zb_T, zb_F, Bool.false_eq_true, zO_eq, zO_ne1, zO_ne2, zO_nn, zi_ne1, zi_ne2, zi_lt1, zi_le1, zi_lt2, zi_le2, Int32.reduceLT, Int32.reduceLE, Nat.reduceLT, Nat.reduceLeDiff, Int32.reduceMul, Int32.reduceAdd, Int32.reduceSub, not_false_eq_true, not_true_eq_false, R_X10_crackOf, SHF, PF, hlt, q, zi_s, zck]
    rw [ih2]
    by_cases h1 : I 81 82 ≤ zbh b (zgf (I 86 p) (I 87 p) n s i)
    · rw [if_pos h1, if_neg (Int32.not_lt.mpr h1)]
    · rw [if_neg h1, if_pos (Int32.not_le.mp h1)]
theorem m_crackOf {s : Nat → Nat → Int32} (hn : I 80 6 = nI n) (hv : ∀ m k, m < 61 → k < n → I 96 (24 * m + k) = s m k - s (m + 1) k) (h24 : n ≤ 24) (hf : I 80 29 = -2 ∨ ∃ j, j < 61 ∧ I 80 29 = nI j) (hp8 : p < 8) (hp : zpn (I 86 p) (I 87 p)) (b : Int32) : zWM (d + 3) 178 [.ref 80, .int (nI p), .int b] (zSH, I, L, zP f g t) Q = Q (some (.int (zck (fun m => zbh b (zgf (I 86 p) (I 87 p) n s m)) (I 81 82) (zla (I 80 29) + 1) 0))) (zSH, I, L, zP f g t) := by
  have l := m_crackOf_l (d := d) (f := f) (g := g) (t := t) (L := L) (Q := Q) hn hv h24 (zla_le hf) hp8 hp b (zla (I 80 29) + 1) 0 (by omega)
  rw [← l]
  have e3 := zng_1 hf
  unfold zla
  by_cases h : I 80 29 = -2
  · have h2 : ¬ 0 ≤ I 80 29 := by rw [e3]; exact not_not_intro h
    rw [if_pos h]
    simp (disch := first | assumption | rfl | omega | decide | exact zb_01 _) only [zabs_e, zmax_e, zmin_e, zrf_s, zpush_s, zpush_n, zw_app, upd_app, updL_app, Nat.reduceEqDiff, Nat.add_left_cancel_iff, Nat.add_eq_left, Nat.left_eq_add, ↓reduceIte, true_and, and_true, Int32.reduceToNatClampNeg, zin_O, zi_ltO, zi_leO, zi_Olt, zi_Ole, zi_eqO, Nat.not_lt_zero, Nat.zero_le, List.append_nil, zrn_n, zrn_s, List.cons_append, List.nil_append, zlg_lt, zlg_gt, zlg_le, zlg_ge, zlg_eq, Int32.toInt_toInt64, Int64.reduceToInt, zw_zw, zw_sw1, zw_sw2, zw_sw3, zw_sw4, zw_sw5, zw_sw6, zw_sw7, ne_eq, zi_in, zi_cl, zi_le, zi_lt, zi_eq, zi_neg, zi_0le, zb_0, if_true, if_false, eq_self, zb_T, zb_F, Bool.false_eq_true, zO_eq, zO_ne1, zO_ne2, zO_nn, zi_ne1, zi_ne2, zi_lt1, zi_le1, zi_lt2, zi_le2, Int32.reduceLT, Int32.reduceLE, Nat.reduceLT, Nat.reduceLeDiff, Int32.reduceMul, Int32.reduceAdd, Int32.reduceSub, not_false_eq_true, not_true_eq_false, E_X10_crackOf, R_X10_crackOf, SHF, PF, h2]
    rfl
  · have h2 : 0 ≤ I 80 29 := by rw [e3]; exact h
    rw [if_neg h]
    have h3 : nI (I 80 29).toNatClampNeg = I 80 29 := by
      rcases hf with z | ⟨j, hj, z⟩
      · exact absurd z h
      · rw [z, zi_cl (by omega)]
    rw [h3]
    simp (disch := first | assumption | rfl | omega | decide | exact zb_01 _) only [zabs_e, zmax_e, zmin_e, zrf_s, zpush_s, zpush_n, zw_app, upd_app, updL_app, Nat.reduceEqDiff, Nat.add_left_cancel_iff, Nat.add_eq_left, Nat.left_eq_add, ↓reduceIte, true_and, and_true, Int32.reduceToNatClampNeg, zin_O, zi_ltO, zi_leO, zi_Olt, zi_Ole, zi_eqO, Nat.not_lt_zero, Nat.zero_le, List.append_nil, zrn_n, zrn_s, List.cons_append, List.nil_append, zlg_lt, zlg_gt, zlg_le, zlg_ge, zlg_eq, Int32.toInt_toInt64, Int64.reduceToInt, zw_zw, zw_sw1, zw_sw2, zw_sw3, zw_sw4, zw_sw5, zw_sw6, zw_sw7, ne_eq, zi_in, zi_cl, zi_le, zi_lt, zi_eq, zi_neg, zi_0le, zb_0, if_true, if_false, eq_self, zb_T, zb_F, Bool.false_eq_true, zO_eq, zO_ne1, zO_ne2, zO_nn, zi_ne1, zi_ne2, zi_lt1, zi_le1, zi_lt2, zi_le2, Int32.reduceLT, Int32.reduceLE, Nat.reduceLT, Nat.reduceLeDiff, Int32.reduceMul, Int32.reduceAdd, Int32.reduceSub, not_false_eq_true, not_true_eq_false, E_X10_crackOf, R_X10_crackOf, SHF, PF, h2]
    rfl
theorem m_boardsFor_l {s : Nat → Nat → Int32} (hn : I 80 6 = nI n) (hv : ∀ m k, m < 61 → k < n → I 96 (24 * m + k) = s m k - s (m + 1) k) (h24 : n ≤ 24) (hs : ∀ m k, m < 61 → k < n → 0 ≤ (s m k - s (m + 1) k).toInt ∧ (s m k - s (m + 1) k).toInt ≤ 108) (hf : I 80 29 = -2 ∨ ∃ j, j < 61 ∧ I 80 29 = nI j) (hp8 : p < 8) (hp : zpn (I 86 p) (I 87 p)) (hlim : 0 < I 81 82) : ∀ c i, c + i = 10 → zWp (d + 3) zi_180 none 2 [.ref 80, .int (nI p), .int (nI i)] [] (zSH, I, L, zP f g t) Q = Q (some (.int (zbf (zbR (zgf (I 86 p) (I 87 p) n s) (zla (I 80 29) + 1)) (I 81 82) c i))) (zSH, I, L, zP f g t) := by
  intro c
  induction c with
  | zero =>
    intro i hi
    have hi : i = 10 := by omega
    subst hi
    rw [H_X10_boardsFor_2]
    simp (disch := first | assumption | rfl | omega | decide | exact zb_01 _) only [zabs_e, zmax_e, zmin_e, zrf_s, zpush_s, zpush_n, zw_app, upd_app, updL_app, Nat.reduceEqDiff, Nat.add_left_cancel_iff, Nat.add_eq_left, Nat.left_eq_add, ↓reduceIte, true_and, and_true, Int32.reduceToNatClampNeg, zin_O, zi_ltO, zi_leO, zi_Olt, zi_Ole, zi_eqO, Nat.not_lt_zero, Nat.zero_le, List.append_nil, zrn_n, zrn_s, List.cons_append, List.nil_append, zlg_lt, zlg_gt, zlg_le, zlg_ge, zlg_eq, Int32.toInt_toInt64, Int64.reduceToInt, zw_zw, zw_sw1, zw_sw2, zw_sw3, zw_sw4, zw_sw5, zw_sw6, zw_sw7, ne_eq, zi_in, zi_cl, zi_le, zi_lt, zi_eq, zi_neg, zi_0le, zb_0, if_true, if_false, eq_self, zb_T, zb_F, Bool.false_eq_true, zO_eq, zO_ne1, zO_ne2, zO_nn, zi_ne1, zi_ne2, zi_lt1, zi_le1, zi_lt2, zi_le2, Int32.reduceLT, Int32.reduceLE, Nat.reduceLT, Nat.reduceLeDiff, Int32.reduceMul, Int32.reduceAdd, Int32.reduceSub, not_false_eq_true, not_true_eq_false, R_X10_boardsFor, SHF, PF, zbf]
  | succ c ih =>
    intro i hi
    have hlt : ¬ 9 < i := by omega
    have hla := zla_le hf
    have q := fun Q => m_crackOf (d := d) (f := f) (g := g) (t := t) (L := L) (Q := Q) hn hv h24 hf hp8 hp (nI i)
    have ih2 := ih (i + 1) (by omega)
    have hi9 : 0 ≤ (nI i).toInt ∧ (nI i).toInt ≤ 9 := by rw [zi_nt (by omega)]; omega
    have hbd : ∀ j, j < zla (I 80 29) + 1 → 0 ≤ (zgf (I 86 p) (I 87 p) n s j).toInt ∧ (zgf (I 86 p) (I 87 p) n s j).toInt ≤ 300000 := fun j hj => by
      have e := zgL_bd hp (v := fun k => s j k - s (j + 1) k) n h24 (fun k hk => hs j k (by omega) hk)
      exact ⟨e.1, Int.le_trans e.2 (by omega)⟩
    have e1 := zck_n (h := fun m => zbh (nI i) (zgf (I 86 p) (I 87 p) n s m)) (lim := I 81 82) (zla (I 80 29) + 1) 0 (by omega)
    have e2 := zbR_lt (h := fun m => zbh (nI i) (zgf (I 86 p) (I 87 p) n s m)) hlim (zla (I 80 29) + 1)
    rw [zbR_bh hi9 _ hbd] at e2
    have e3 : (0 ≤ zck (fun m => zbh (nI i) (zgf (I 86 p) (I 87 p) n s m)) (I 81 82) (zla (I 80 29) + 1) 0) = ¬ zbh (nI i) (zbR (zgf (I 86 p) (I 87 p) n s) (zla (I 80 29) + 1)) < I 81 82 := by
      rw [e1, e2]
      refine propext (not_congr ⟨fun z j hj => z j (by omega) (by omega), fun z j h1 h2 => z j (by omega)⟩)
    rw [H_X10_boardsFor_2]
    simp (disch := first | assumption | rfl | omega | decide | exact zb_01 _) only [zabs_e, zmax_e, zmin_e, zrf_s, zpush_s, zpush_n, zw_app, upd_app, updL_app, Nat.reduceEqDiff, Nat.add_left_cancel_iff, Nat.add_eq_left, Nat.left_eq_add, ↓reduceIte, true_and, and_true, Int32.reduceToNatClampNeg, zin_O, zi_ltO, zi_leO, zi_Olt, zi_Ole, zi_eqO, Nat.not_lt_zero, Nat.zero_le, List.append_nil, zrn_n, zrn_s, List.cons_append, List.nil_append, zlg_lt, zlg_gt, zlg_le, zlg_ge, zlg_eq, Int32.toInt_toInt64, Int64.reduceToInt, zw_zw, zw_sw1, zw_sw2, zw_sw3, zw_sw4, zw_sw5, zw_sw6, zw_sw7, ne_eq, zi_in, zi_cl, zi_le, zi_lt, zi_eq, zi_neg, zi_0le, zb_0, if_true, if_false, eq_self, zb_T, zb_F, Bool.false_eq_true, zO_eq, zO_ne1, zO_ne2, zO_nn, zi_ne1, zi_ne2, zi_lt1, zi_le1, zi_lt2, zi_le2, Int32.reduceLT, Int32.reduceLE, Nat.reduceLT, Nat.reduceLeDiff, Int32.reduceMul, Int32.reduceAdd, Int32.reduceSub, not_false_eq_true, not_true_eq_false, R_X10_boardsFor, SHF, PF, hlt, q, zi_s, zbf, e3]
    rw [ih2]
    by_cases h1 : zbh (nI i) (zbR (zgf (I 86 p) (I 87 p) n s) (zla (I 80 29) + 1)) < I 81 82
    · rw [if_pos h1, if_neg (not_not_intro h1)]
    · rw [if_neg h1, if_pos h1]
theorem m_boardsFor {s : Nat → Nat → Int32} (hn : I 80 6 = nI n) (hv : ∀ m k, m < 61 → k < n → I 96 (24 * m + k) = s m k - s (m + 1) k) (h24 : n ≤ 24) (hs : ∀ m k, m < 61 → k < n → 0 ≤ (s m k - s (m + 1) k).toInt ∧ (s m k - s (m + 1) k).toInt ≤ 108) (hf : I 80 29 = -2 ∨ ∃ j, j < 61 ∧ I 80 29 = nI j) (hp8 : p < 8) (hp : zpn (I 86 p) (I 87 p)) (hlim : 0 < I 81 82) : zWM (d + 4) 180 [.ref 80, .int (nI p)] (zSH, I, L, zP f g t) Q = Q (some (.int (zbf (zbR (zgf (I 86 p) (I 87 p) n s) (zla (I 80 29) + 1)) (I 81 82) 10 0))) (zSH, I, L, zP f g t) := by
  simp (disch := first | assumption | rfl | omega | decide | exact zb_01 _) only [zabs_e, zmax_e, zmin_e, zrf_s, zpush_s, zpush_n, zw_app, upd_app, updL_app, Nat.reduceEqDiff, Nat.add_left_cancel_iff, Nat.add_eq_left, Nat.left_eq_add, ↓reduceIte, true_and, and_true, Int32.reduceToNatClampNeg, zin_O, zi_ltO, zi_leO, zi_Olt, zi_Ole, zi_eqO, Nat.not_lt_zero, Nat.zero_le, List.append_nil, zrn_n, zrn_s, List.cons_append, List.nil_append, zlg_lt, zlg_gt, zlg_le, zlg_ge, zlg_eq, Int32.toInt_toInt64, Int64.reduceToInt, zw_zw, zw_sw1, zw_sw2, zw_sw3, zw_sw4, zw_sw5, zw_sw6, zw_sw7, ne_eq, zi_in, zi_cl, zi_le, zi_lt, zi_eq, zi_neg, zi_0le, zb_0, if_true, if_false, eq_self, zb_T, zb_F, Bool.false_eq_true, zO_eq, zO_ne1, zO_ne2, zO_nn, zi_ne1, zi_ne2, zi_lt1, zi_le1, zi_lt2, zi_le2, Int32.reduceLT, Int32.reduceLE, Nat.reduceLT, Nat.reduceLeDiff, Int32.reduceMul, Int32.reduceAdd, Int32.reduceSub, not_false_eq_true, not_true_eq_false, E_X10_boardsFor, R_X10_boardsFor]
  exact m_boardsFor_l hn hv h24 hs hf hp8 hp hlim 10 0 (by omega)
end PANES
