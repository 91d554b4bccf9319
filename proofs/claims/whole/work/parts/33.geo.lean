/-! a stack's balance: PALLETS p, SLIPS s, WIND w, n ROUNDS -/
theorem zring1 (W A B c : Int32) : W + (A - B) + c = W + (A + c - B) := by grind
theorem zring3 (A B c : Int32) : (A - B) + c = A + c - B := by grind
theorem zmx (a b s : Int32) : zmax a b ≤ s ↔ a ≤ s ∧ b ≤ s := by
  unfold zmax
  split
  · rename_i h
    exact ⟨fun h2 => ⟨Int32.le_trans (Int32.le_of_lt h) h2, h2⟩, fun h2 => h2.2⟩
  · rename_i h
    exact ⟨fun h2 => ⟨h2, Int32.le_trans (Int32.not_lt.mp h) h2⟩, fun h2 => h2.1⟩
def psF (p s : Nat → Int32) (k : Nat) : Nat → Int32 := fun j => 6 * p j * (sumI s (j + 1) - sumI s (k + 1))
def psh (n : Nat) (p s : Nat → Int32) (w : Int32) (k : Nat) : Int32 := w * (nI n - 1 - nI k) + (sumI (psF p s k) n - sumI (psF p s k) (k + 1))
def zab (n : Nat) (p : Nat → Int32) (k : Nat) : Int32 := sumI p n - sumI p (k + 1)
abbrev zHo (n : Nat) (p sx sy : Nat → Int32) (wx wy : Int32) (k : Nat) : Prop := zabs (psh n p sx wx k) ≤ 3 * p k * zab n p k ∧ zabs (psh n p sy wy k) ≤ 3 * p k * zab n p k
def zFf (n : Nat) (p sx sy : Nat → Int32) (wx wy : Int32) : Nat → Nat → Int32
  | 0, _ => -2
  | c + 1, i => if zHo n p sx sy wx wy i then zFf n p sx sy wx wy c (i + 1) else nI i
/-- FALLS AT, from below; -2 -/
def zFa (n : Nat) (p sx sy : Nat → Int32) (wx wy : Int32) : Int32 := zFf n p sx sy wx wy n 0
/-- WHITHER -/
def zWh (n : Nat) (p sx sy : Nat → Int32) (wx wy : Int32) (k : Nat) : Int32 := if zabs (psh n p sx wx k) < zabs (psh n p sy wy k) then (if 0 ≤ psh n p sy wy k then 1 else 3) else (if 0 ≤ psh n p sx wx k then 0 else 2)
theorem psF_congr {n k : Nat} {p p' s s' : Nat → Int32} (hp : ∀ j, j < n → p j = p' j) (hs : ∀ j, j < n → s j = s' j) (hk : k < n) : ∀ j, j < n → psF p s k j = psF p' s' k j := by
  intro j hj
  unfold psF
  rw [hp j hj, sumI_congr (t := s') (fun i hi => hs i (by omega)), sumI_congr (s := s) (t := s') (n := k + 1) (fun i hi => hs i (by omega))]
theorem psh_congr {n k : Nat} {p p' s s' : Nat → Int32} {w : Int32} (hp : ∀ j, j < n → p j = p' j) (hs : ∀ j, j < n → s j = s' j) (hk : k < n) : psh n p s w k = psh n p' s' w k := by
  unfold psh
  rw [sumI_congr (psF_congr hp hs hk), sumI_congr (s := psF p s k) (t := psF p' s' k) (n := k + 1) (fun j hj => psF_congr hp hs hk j (by omega))]
theorem zab_congr {n k : Nat} {p p' : Nat → Int32} (hp : ∀ j, j < n → p j = p' j) (hk : k < n) : zab n p k = zab n p' k := by
  unfold zab
  rw [sumI_congr hp, sumI_congr (s := p) (t := p') (n := k + 1) (fun j hj => hp j (by omega))]
theorem zHo_congr {n k : Nat} {p p' sx sx' sy sy' : Nat → Int32} {wx wy : Int32} (hp : ∀ j, j < n → p j = p' j) (hx : ∀ j, j < n → sx j = sx' j) (hy : ∀ j, j < n → sy j = sy' j) (hk : k < n) : zHo n p sx sy wx wy k ↔ zHo n p' sx' sy' wx wy k := by
  unfold zHo
  rw [psh_congr hp hx hk, psh_congr hp hy hk, zab_congr hp hk, hp k hk]
theorem zFf_congr {n : Nat} {p p' sx sx' sy sy' : Nat → Int32} {wx wy : Int32} (hp : ∀ j, j < n → p j = p' j) (hx : ∀ j, j < n → sx j = sx' j) (hy : ∀ j, j < n → sy j = sy' j) : ∀ c i, c + i = n → zFf n p sx sy wx wy c i = zFf n p' sx' sy' wx wy c i
  | 0, _, _ => rfl
  | c + 1, i, h => by
    unfold zFf
    have e := zHo_congr (wx := wx) (wy := wy) hp hx hy (k := i) (by omega)
    by_cases h1 : zHo n p sx sy wx wy i
    · rw [if_pos h1, if_pos (e.mp h1), zFf_congr hp hx hy c (i + 1) (by omega)]
    · rw [if_neg h1, if_neg (fun z => h1 (e.mpr z))]
theorem zFa_congr {n : Nat} {p p' sx sx' sy sy' : Nat → Int32} {wx wy : Int32} (hp : ∀ j, j < n → p j = p' j) (hx : ∀ j, j < n → sx j = sx' j) (hy : ∀ j, j < n → sy j = sy' j) : zFa n p sx sy wx wy = zFa n p' sx' sy' wx wy := zFf_congr hp hx hy n 0 (by omega)
theorem zWh_congr {n k : Nat} {p p' sx sx' sy sy' : Nat → Int32} {wx wy : Int32} (hp : ∀ j, j < n → p j = p' j) (hx : ∀ j, j < n → sx j = sx' j) (hy : ∀ j, j < n → sy j = sy' j) (hk : k < n) : zWh n p sx sy wx wy k = zWh n p' sx' sy' wx wy k := by
  unfold zWh
  rw [psh_congr hp hx hk, psh_congr hp hy hk]
/-- where it falls: there is such a ROUND, and it does not hold -/
theorem zFf_spec {n : Nat} {p sx sy : Nat → Int32} {wx wy : Int32} : ∀ c i, (zFf n p sx sy wx wy c i = -2) ∨ ∃ k, i ≤ k ∧ k < i + c ∧ zFf n p sx sy wx wy c i = nI k ∧ ¬ zHo n p sx sy wx wy k
  | 0, _ => Or.inl rfl
  | c + 1, i => by
    unfold zFf
    by_cases h1 : zHo n p sx sy wx wy i
    · rw [if_pos h1]
      rcases zFf_spec (n := n) (p := p) (sx := sx) (sy := sy) (wx := wx) (wy := wy) c (i + 1) with h | ⟨k, h2, h3, h4, h5⟩
      · exact Or.inl h
      · exact Or.inr ⟨k, by omega, by omega, h4, h5⟩
    · rw [if_neg h1]
      exact Or.inr ⟨i, Nat.le_refl _, by omega, rfl, h1⟩
theorem zFa_spec {n : Nat} {p sx sy : Nat → Int32} {wx wy : Int32} : (zFa n p sx sy wx wy = -2) ∨ ∃ k, k < n ∧ zFa n p sx sy wx wy = nI k ∧ ¬ zHo n p sx sy wx wy k := by
  rcases zFf_spec (n := n) (p := p) (sx := sx) (sy := sy) (wx := wx) (wy := wy) n 0 with h | ⟨k, h2, h3, h4, h5⟩
  · exact Or.inl h
  · exact Or.inr ⟨k, by omega, h4, h5⟩
/-- the class's tower at b holds n ROUNDS, and what hangs on them is worked out -/
def tSet (I : Nat → Nat → Int32) (b n : Nat) : Prop := I b 6 = nI n ∧ n ≤ 24 ∧ ∀ j, j < n → I (b + 7) j = sumI (I (b + 4)) (j + 1) ∧ I (b + 8) j = sumI (I (b + 5)) (j + 1) ∧ I (b + 9) j = sumI (I (b + 1)) n - sumI (I (b + 1)) (j + 1) ∧ I (b + 11) j = sumI (fun i => I (b + 1) i * sumI (I (b + 4)) (i + 1)) n - sumI (fun i => I (b + 1) i * sumI (I (b + 4)) (i + 1)) (j + 1) ∧ I (b + 12) j = sumI (fun i => I (b + 1) i * sumI (I (b + 5)) (i + 1)) n - sumI (fun i => I (b + 1) i * sumI (I (b + 5)) (i + 1)) (j + 1)
theorem psF_sum (p s : Nat → Int32) (k : Nat) : ∀ m, sumI (psF p s k) m = 6 * (sumI (fun i => p i * sumI s (i + 1)) m - sumI p m * sumI s (k + 1))
  | 0 => by simp only [sumI]; grind
  | m + 1 => by
    rw [sumI, psF_sum p s k m]
    simp only [psF, sumI]
    grind
theorem tPx_e {I : Nat → Nat → Int32} {b n k : Nat} {w : Int32} (h : tSet I b n) (hk : k < n) : tPx I b k w = psh n (I (b + 1)) (I (b + 4)) w k := by
  obtain ⟨h1, h2, h3⟩ := h
  obtain ⟨m1, m2, m3, m4, m5⟩ := h3 k hk
  unfold tPx psh
  rw [h1, m1, m3, m4, psF_sum, psF_sum]
  grind
theorem tPy_e {I : Nat → Nat → Int32} {b n k : Nat} {w : Int32} (h : tSet I b n) (hk : k < n) : tPy I b k w = psh n (I (b + 1)) (I (b + 5)) w k := by
  obtain ⟨h1, h2, h3⟩ := h
  obtain ⟨m1, m2, m3, m4, m5⟩ := h3 k hk
  unfold tPy psh
  rw [h1, m2, m3, m5, psF_sum, psF_sum]
  grind
theorem tHo_e {I : Nat → Nat → Int32} {b n k : Nat} {wx wy : Int32} (h : tSet I b n) (hk : k < n) : tHo I b k wx wy ↔ zHo n (I (b + 1)) (I (b + 4)) (I (b + 5)) wx wy k := by
  unfold tHo zHo
  rw [zmx, tPx_e h hk, tPy_e h hk, (h.2.2 k hk).2.2.1]
  rfl
section GEO
variable {d b n f g : Nat} {t : Option Nat} {I : Nat → Nat → Int32} {L : Nat → Nat → Int64} {Q : Option Value → zMm → Prop}
theorem c_fallsAt_l (hb : zTb b) (hs : tSet I b n) (wx wy : Int32) : ∀ c i, c + i = n → zWp (d + 3) zi_69 none 2 [.ref b, .int wx, .int wy, .int (nI i)] [] (zSH, I, L, zP f g t) Q = Q (some (.int (zFf n (I (b + 1)) (I (b + 4)) (I (b + 5)) wx wy c i))) (zSH, I, L, zP f g t) := by
  have h0 := (TWf hb f g t).1
  have hn := hs.1
  have h24 := hs.2.1
  intro c
  induction c with
  | zero =>
    intro i hi
    have hi : i = n := by omega
    subst hi
    rw [H_X8_fallsAt_2]
    simp (disch := first | assumption | rfl | omega | decide | exact zb_01 _) only [zabs_e, zmax_e, zmin_e, zrf_s, zpush_s, zpush_n, zw_app, upd_app, updL_app, Nat.reduceEqDiff, Nat.add_left_cancel_iff, Nat.add_eq_left, Nat.left_eq_add, ↓reduceIte, true_and, and_true, Int32.reduceToNatClampNeg, zin_O, zi_ltO, zi_leO, zi_Olt, zi_Ole, zi_eqO, Nat.not_lt_zero, Nat.zero_le, List.append_nil, zrn_n, zrn_s, List.cons_append, List.nil_append, zlg_lt, zlg_gt, zlg_le, zlg_ge, zlg_eq, Int32.toInt_toInt64, Int64.reduceToInt, zw_zw, zw_sw1, zw_sw2, zw_sw3, zw_sw4, zw_sw5, zw_sw6, zw_sw7, ne_eq, zi_in, zi_cl, zi_le, zi_lt, zi_eq, zi_neg, zi_0le, zb_0, if_true, if_false, eq_self, zb_T, zb_F, Bool.false_eq_true, zO_eq, zO_ne1, zO_ne2, zO_nn, zi_ne1, zi_ne2, zi_lt1, zi_le1, zi_lt2, zi_le2, Int32.reduceLT, Int32.reduceLE, Nat.reduceLT, Nat.reduceLeDiff, Int32.reduceMul, Int32.reduceAdd, Int32.reduceSub, not_false_eq_true, not_true_eq_false, R_X8_fallsAt, hn, Nat.le_refl, zFf]
  | succ c ih =>
    intro i hi
    have hlt : ¬ n ≤ i := by omega
    have e := tHo_e (wx := wx) (wy := wy) hs (k := i) (by omega)
    rw [H_X8_fallsAt_2]
    simp (disch := first | assumption | rfl | omega | decide | exact zb_01 _) only [zabs_e, zmax_e, zmin_e, zrf_s, zpush_s, zpush_n, zw_app, upd_app, updL_app, Nat.reduceEqDiff, Nat.add_left_cancel_iff, Nat.add_eq_left, Nat.left_eq_add, ↓reduceIte, true_and, and_true, Int32.reduceToNatClampNeg, zin_O, zi_ltO, zi_leO, zi_Olt, zi_Ole, zi_eqO, Nat.not_lt_zero, Nat.zero_le, List.append_nil, zrn_n, zrn_s, List.cons_append, List.nil_append, zlg_lt, zlg_gt, zlg_le, zlg_ge, zlg_eq, Int32.toInt_toInt64, Int64.reduceToInt, zw_zw, zw_sw1, zw_sw2, zw_sw3, zw_sw4, zw_sw5, zw_sw6, zw_sw7, ne_eq, zi_in, zi_cl, zi_le, zi_lt, zi_eq, zi_neg, zi_0le, zb_0, if_true, if_false, eq_self, zb_T, zb_F, Bool.false_eq_true, zO_eq, zO_ne1, zO_ne2, zO_nn, zi_ne1, zi_ne2, zi_lt1, zi_le1, zi_lt2, zi_le2, Int32.reduceLT, Int32.reduceLE, Nat.reduceLT, Nat.reduceLeDiff, Int32.reduceMul, Int32.reduceAdd, Int32.reduceSub, not_false_eq_true, not_true_eq_false, R_X8_fallsAt, hn, hlt, c_bears hb, zi_s]
    unfold zFf
    by_cases h1 : tHo I b i wx wy
    · rw [if_pos (e.mp h1), ← ih (i + 1) (by omega)]
      simp (disch := first | assumption | rfl | omega | decide | exact zb_01 _) only [zabs_e, zmax_e, zmin_e, zrf_s, zpush_s, zpush_n, zw_app, upd_app, updL_app, Nat.reduceEqDiff, Nat.add_left_cancel_iff, Nat.add_eq_left, Nat.left_eq_add, ↓reduceIte, true_and, and_true, Int32.reduceToNatClampNeg, zin_O, zi_ltO, zi_leO, zi_Olt, zi_Ole, zi_eqO, Nat.not_lt_zero, Nat.zero_le, List.append_nil, zrn_n, zrn_s, List.cons_append, List.nil_append, zlg_lt, zlg_gt, zlg_le, zlg_ge, zlg_eq, Int32.toInt_toInt64, Int64.reduceToInt, zw_zw, zw_sw1, zw_sw2, zw_sw3, zw_sw4, zw_sw5, zw_sw6, zw_sw7, ne_eq, zi_in, zi_cl, zi_le, zi_lt, zi_eq, zi_neg, zi_0le, zb_0, if_true, if_false, eq_self, zb_T, zb_F, Bool.false_eq_true, zO_eq, zO_ne1, zO_ne2, zO_nn, zi_ne1, zi_ne2, zi_lt1, zi_le1, zi_lt2, zi_le2, Int32.reduceLT, Int32.reduceLE, Nat.reduceLT, Nat.reduceLeDiff, Int32.reduceMul, Int32.reduceAdd, Int32.reduceSub, not_false_eq_true, not_true_eq_false, h1, show ¬ (1 : Int32) = 0 by decide]
    · rw [if_neg (fun z => h1 (e.mpr z))]
      simp (disch := first | assumption | rfl | omega | decide | exact zb_01 _) only [zabs_e, zmax_e, zmin_e, zrf_s, zpush_s, zpush_n, zw_app, upd_app, updL_app, Nat.reduceEqDiff, Nat.add_left_cancel_iff, Nat.add_eq_left, Nat.left_eq_add, ↓reduceIte, true_and, and_true, Int32.reduceToNatClampNeg, zin_O, zi_ltO, zi_leO, zi_Olt, zi_Ole, zi_eqO, Nat.not_lt_zero, Nat.zero_le, List.append_nil, zrn_n, zrn_s, List.cons_append, List.nil_append, zlg_lt, zlg_gt, zlg_le, zlg_ge, zlg_eq, Int32.toInt_toInt64, Int64.reduceToInt, zw_zw, zw_sw1, zw_sw2, zw_sw3, zw_sw4, zw_sw5, zw_sw6, zw_sw7, ne_eq, zi_in, zi_cl, zi_le, zi_lt, zi_eq, zi_neg, zi_0le, zb_0, if_true, if_false, eq_self, zb_T, zb_F, Bool.false_eq_true, zO_eq, zO_ne1, zO_ne2, zO_nn, zi_ne1, zi_ne2, zi_lt1, zi_le1, zi_lt2, zi_le2, Int32.reduceLT, Int32.reduceLE, Nat.reduceLT, Nat.reduceLeDiff, Int32.reduceMul, Int32.reduceAdd, Int32.reduceSub, not_false_eq_true, not_true_eq_false, h1]
theorem c_fallsAt (hb : zTb b) (hs : tSet I b n) (wx wy : Int32) : zWM (d + 4) 69 [.ref b, .int wx, .int wy] (zSH, I, L, zP f g t) Q = Q (some (.int (zFa n (I (b + 1)) (I (b + 4)) (I (b + 5)) wx wy))) (zSH, I, L, zP f g t) := by
  simp (disch := first | assumption | rfl | omega | decide | exact zb_01 _) only [zabs_e, zmax_e, zmin_e, zrf_s, zpush_s, zpush_n, zw_app, upd_app, updL_app, Nat.reduceEqDiff, Nat.add_left_cancel_iff, Nat.add_eq_left, Nat.left_eq_add, ↓reduceIte, true_and, and_true, Int32.reduceToNatClampNeg, zin_O, zi_ltO, zi_leO, zi_Olt, zi_Ole, zi_eqO, Nat.not_lt_zero, Nat.zero_le, List.append_nil, zrn_n, zrn_s, List.cons_append, List.nil_append, zlg_lt, zlg_gt, zlg_le, zlg_ge, zlg_eq, Int32.toInt_toInt64, Int64.reduceToInt, zw_zw, zw_sw1, zw_sw2, zw_sw3, zw_sw4, zw_sw5, zw_sw6, zw_sw7, ne_eq, zi_in, zi_cl, zi_le, zi_lt, zi_eq, zi_neg, zi_0le, zb_0, if_true, if_false, eq_self, zb_T, zb_F, Bool.false_eq_true, zO_eq, zO_ne1, zO_ne2, zO_nn, zi_ne1, zi_ne2, zi_lt1, zi_le1, zi_lt2, zi_le2, Int32.reduceLT, Int32.reduceLE, Nat.reduceLT, Nat.reduceLeDiff, Int32.reduceMul, Int32.reduceAdd, Int32.reduceSub, not_false_eq_true, not_true_eq_false, E_X8_fallsAt, R_X8_fallsAt]
  exact c_fallsAt_l hb hs wx wy n 0 (by omega)
theorem c_whitherT (hb : zTb b) (hs : tSet I b n) (k : Nat) (hk : k < n) (wx wy : Int32) : zWM (d + 2) 70 [.ref b, .int (nI k), .int wx, .int wy] (zSH, I, L, zP f g t) Q = Q (some (.int (zWh n (I (b + 1)) (I (b + 4)) (I (b + 5)) wx wy k))) (zSH, I, L, zP f g t) := by
  rw [c_whither hb k wx wy (by have := hs.2.1; omega), tPx_e hs hk, tPy_e hs hk]
  rfl
end GEO
