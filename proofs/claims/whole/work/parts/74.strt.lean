theorem zmax_le {x y : Int32} (h : x ≤ y) : zmax x y = y := by
  unfold zmax
  split
  · rfl
  · rename_i q
    exact Int32.le_antisymm h (Int32.not_lt.mp q)
theorem zmax_nle {x y : Int32} (h : ¬ x ≤ y) : zmax x y = x := if_neg (fun q => h (Int32.le_of_lt q))
section STRT
variable {d f g n k a b z bb : Nat} {t : Option Nat} {I J K : Nat → Nat → Int32} {L : Nat → Nat → Int64} {Q : Option Value → zMm → Prop}
theorem zwm_congr {n : Nat} {p p' sx sx' sy sy' : Nat → Int32} {wx wy : Int32} (hp : ∀ j, j < n → p j = p' j) (hx : ∀ j, j < n → sx j = sx' j) (hy : ∀ j, j < n → sy j = sy' j) : ∀ i, i ≤ n → zwm n p sx sy wx wy i = zwm n p' sx' sy' wx wy i
  | 0, _ => rfl
  | i + 1, h => by
    have e := zFa_congr (n := n) (p := upd p i (p i - 1)) (p' := upd p' i (p' i - 1)) (sx := sx) (sx' := sx') (sy := sy) (sy' := sy') (wx := wx) (wy := wy) (fun j hj => by
      simp only [upd]
      split
      · rw [hp i (by omega)]
      · exact hp j hj) hx hy
    unfold zwm
    rw [e, hp i (by omega), zwm_congr hp hx hy i (by omega)]
theorem zRel_th (hR : zRel I L f g) (hJ : zth J I) (X : Nat → Int32) : zRel (zw J 91 X) L f g :=
  zRel_s (I := I) (fun a ha => (zw_n (fun e => ha (by unfold zsc; omega))).trans (hJ a (by unfold zsc at ha; omega))) (fun k _ => by rw [zw_n (by decide), hJ 80 (by omega)]) hR
theorem op_without (hR : zRel I L f g) : zOp 92 167 [] I L f g t := by
  obtain ⟨law, n, k, a, b, z, bb, hfg, ht, hw, hp, hs, hi, hc, hy, hl, hb, hr, hh, hf⟩ := id hR
  have hn := ht.1
  have hn8 := ht.2.1
  have h24 := ht.2.2.1
  obtain ⟨J, hJ, qc⟩ := c_without_l (f := f) (g := g) (t := t) (L := L) hn h24 n 0 I (by omega) (fun _ _ => rfl)
  obtain ⟨X, qm⟩ := m_without_l (f := f) (g := g) (t := t) (L := L) (I := J) (n := n) (by rw [hJ 80 (by omega)]; exact hn8) h24 n 0 (J 91) (by omega)
  have e : zwm n (J 85) (J 81) (mSy J) (J 81 72) (J 81 73) n = zwm n (I 2) (I 5) (I 6) (I 0 14) (I 0 15) n := by
    rw [mSy_c (hJ 81 (by omega)), hJ 81 (by omega), hJ 85 (by omega), hw.1.1, hw.1.2.1]
    exact zwm_congr (fun j hj => (ht.2.2.2.2 j hj).1) (fun j hj => (ht.2.2.2.2 j hj).2.1) (fun j hj => (ht.2.2.2.2 j hj).2.2.1) n (Nat.le_refl _)
  rw [e, zw_id] at qm
  refine zOp_m (.int (zwm n (I 2) (I 5) (I 6) (I 0 14) (I 0 15) n)) J (zw J 91 X) (fun d Q => ?_) (fun d Q => ?_) (zRel_th hR hJ X)
  · rw [← qc (d + 1) Q]
    simp (disch := first | assumption | rfl | omega | decide | exact zb_01 _) only [zabs_e, zmax_e, zmin_e, zrf_s, zpush_s, zpush_n, zw_app, upd_app, updL_app, Nat.reduceEqDiff, Nat.add_left_cancel_iff, Nat.add_eq_left, Nat.left_eq_add, ↓reduceIte, true_and, and_true, Int32.reduceToNatClampNeg, zin_O, zi_ltO, zi_leO, zi_Olt, zi_Ole, zi_eqO, Nat.not_lt_zero, Nat.zero_le, List.append_nil, zrn_n, zrn_s, List.cons_append, List.nil_append, zlg_lt, zlg_gt, zlg_le, zlg_ge, zlg_eq, Int32.toInt_toInt64, Int64.reduceToInt, zw_zw, zw_sw1, zw_sw2, zw_sw3, zw_sw4, zw_sw5, zw_sw6, zw_sw7, ne_eq, zi_in, zi_cl, zi_le, zi_lt, zi_eq, zi_neg, zi_0le, zb_0, if_true, if_false, eq_self, zb_T, zb_F, Bool.false_eq_true, zO_eq, zO_ne1, zO_ne2, zO_nn, zi_ne1, zi_ne2, zi_lt1, zi_le1, zi_lt2, zi_le2, Int32.reduceLT, Int32.reduceLE, Nat.reduceLT, Nat.reduceLeDiff, Int32.reduceMul, Int32.reduceAdd, Int32.reduceSub, not_false_eq_true, not_true_eq_false, Int32.reduceToInt, Int.reduceLE, Int.reduceLT, Int.reduceNeg, ite_self, E_X9_without, R_X9_without]
    rfl
  · rw [← qm (d + 1) Q]
    simp (disch := first | assumption | rfl | omega | decide | exact zb_01 _) only [zabs_e, zmax_e, zmin_e, zrf_s, zpush_s, zpush_n, zw_app, upd_app, updL_app, Nat.reduceEqDiff, Nat.add_left_cancel_iff, Nat.add_eq_left, Nat.left_eq_add, ↓reduceIte, true_and, and_true, Int32.reduceToNatClampNeg, zin_O, zi_ltO, zi_leO, zi_Olt, zi_Ole, zi_eqO, Nat.not_lt_zero, Nat.zero_le, List.append_nil, zrn_n, zrn_s, List.cons_append, List.nil_append, zlg_lt, zlg_gt, zlg_le, zlg_ge, zlg_eq, Int32.toInt_toInt64, Int64.reduceToInt, zw_zw, zw_sw1, zw_sw2, zw_sw3, zw_sw4, zw_sw5, zw_sw6, zw_sw7, ne_eq, zi_in, zi_cl, zi_le, zi_lt, zi_eq, zi_neg, zi_0le, zb_0, if_true, if_false, eq_self, zb_T, zb_F, Bool.false_eq_true, zO_eq, zO_ne1, zO_ne2, zO_nn, zi_ne1, zi_ne2, zi_lt1, zi_le1, zi_lt2, zi_le2, Int32.reduceLT, Int32.reduceLE, Nat.reduceLT, Nat.reduceLeDiff, Int32.reduceMul, Int32.reduceAdd, Int32.reduceSub, not_false_eq_true, not_true_eq_false, Int32.reduceToInt, Int.reduceLE, Int.reduceLT, Int.reduceNeg, ite_self, E_X10_without, R_X10_without]
    rfl
/-- how far off the first stands, one more put on -/
def zSt (n : Nat) (p : Int32) (P X Y : Nat → Int32) (wx wy : Int32) (u v : Nat) : Int32 := zmax (zabs (psh (n + 1) (upd P n p) (upd X n (nI u - 4)) wx 0)) (zabs (psh (n + 1) (upd P n p) (upd Y n (nI v - 4)) wy 0))
/-- the class's choice: the first one at all, then what is less -/
def zcU (bw : Int32 × Int32) (S k : Int32) : Int32 × Int32 := if bw.1 < 0 then (S, k) else if bw.1 ≤ S then bw else (S, k)
def zcB (S : Nat → Nat → Int32) : Nat → Int32 × Int32
  | 0 => (-1, 0)
  | i + 1 => zcU (zcB S i) (S (i / 9) (i % 9)) (nI (10 * (i / 9) + i % 9))
def zmB (S : Nat → Nat → Int32) : Nat → Int32 × Int32
  | 0 => (0, -2)
  | i + 1 => if (zmB S i).2 < 0 then (S (i / 9) (i % 9), nI (10 * (i / 9) + i % 9)) else if (zmB S i).1 ≤ S (i / 9) (i % 9) then zmB S i else (S (i / 9) (i % 9), nI (10 * (i / 9) + i % 9))
theorem zcmB {S : Nat → Nat → Int32} (hS : ∀ u v, u ≤ 8 → v ≤ 8 → 0 ≤ S u v) : ∀ i, i < 81 → zcB S (i + 1) = zmB S (i + 1) ∧ ¬ (zmB S (i + 1)).2 < 0 ∧ ¬ (zmB S (i + 1)).1 < 0
  | 0, _ => by
    have e : zmB S 1 = (S 0 0, 0) := rfl
    have e2 : zcB S 1 = (S 0 0, 0) := rfl
    rw [e, e2]
    exact ⟨rfl, show ¬ (0 : Int32) < 0 by decide, Int32.not_lt.mpr (hS 0 0 (by omega) (by omega))⟩
  | i + 1, h => by
    obtain ⟨e1, e2, e3⟩ := zcmB hS i (by omega)
    have nn : ¬ nI (10 * ((i + 1) / 9) + (i + 1) % 9) < 0 := Int32.not_lt.mpr (nI_pos' (by omega))
    have ns : ¬ S ((i + 1) / 9) ((i + 1) % 9) < 0 := Int32.not_lt.mpr (hS _ _ (by omega) (by omega))
    rw [zcB, zmB, e1, if_neg e2, zcU, if_neg e3]
    split
    · exact ⟨rfl, e2, e3⟩
    · exact ⟨rfl, nn, ns⟩
/-! PUSH is small: what ROUND 0 bears is from 0 on -/
theorem zt_mulA {a b : Int32} (x y : Int) (h1 : -x ≤ a.toInt ∧ a.toInt ≤ x) (h2 : -y ≤ b.toInt ∧ b.toInt ≤ y) (h5 : x * y ≤ 2147483647) : -(x * y) ≤ (a * b).toInt ∧ (a * b).toInt ≤ x * y := by
  have e1 := Int.mul_nonneg (show 0 ≤ x - a.toInt by omega) (show 0 ≤ y + b.toInt by omega)
  have e2 := Int.mul_nonneg (show 0 ≤ x + a.toInt by omega) (show 0 ≤ y - b.toInt by omega)
  have e3 := Int.mul_nonneg (show 0 ≤ x - a.toInt by omega) (show 0 ≤ y - b.toInt by omega)
  have e4 := Int.mul_nonneg (show 0 ≤ x + a.toInt by omega) (show 0 ≤ y + b.toInt by omega)
  simp only [Int.sub_mul, Int.mul_sub, Int.add_mul, Int.mul_add] at e1 e2 e3 e4
  have e := zt_mul (a := a) (b := b) (by omega) (by omega)
  omega
theorem sumI_ab {s : Nat → Int32} {n : Nat} (B : Int) (hB : 0 ≤ B) (hB2 : B ≤ 20000) (hn : n ≤ 24) (h : ∀ j, j < n → -B ≤ (s j).toInt ∧ (s j).toInt ≤ B) : ∀ m, m ≤ n → -(B * m) ≤ (sumI s m).toInt ∧ (sumI s m).toInt ≤ B * m
  | 0, _ => by
    rw [show sumI s 0 = 0 from rfl, show ((0 : Nat) : Int) = 0 from rfl, Int.mul_zero]
    decide
  | m + 1, hm => by
    have e := sumI_ab B hB hB2 hn h m (by omega)
    have e2 := h m (by omega)
    have e3 : B * (m : Int) ≤ B * 24 := Int.mul_le_mul_of_nonneg_left (by omega) hB
    have e4 : B * ((m + 1 : Nat) : Int) = B * m + B := by rw [Int.natCast_add, Int.mul_add, show ((1 : Nat) : Int) = 1 from rfl, Int.mul_one]
    rw [e4, sumI, zt_add (by omega) (by omega)]
    omega
theorem zpsh_bd {n : Nat} {p s : Nat → Int32} {w : Int32} (hn : n ≤ 24) (h0 : 0 < n) (hp : ∀ j, j < n → 0 ≤ (p j).toInt ∧ (p j).toInt ≤ 9) (hs : ∀ j, j < n → -4 ≤ (s j).toInt ∧ (s j).toInt ≤ 4) (hw : -9 ≤ w.toInt ∧ w.toInt ≤ 9) : -300000 ≤ (psh n p s w 0).toInt := by
  have t6 : (6 : Int32).toInt = 6 := by decide
  have t1 : (1 : Int32).toInt = 1 := by decide
  have tn0 : (nI 0).toInt = 0 := by decide
  have f : ∀ j, j < n → -10800 ≤ (psF p s 0 j).toInt ∧ (psF p s 0 j).toInt ≤ 10800 := fun j hj => by
    have e1 := sumI_ab 4 (by decide) (by decide) hn hs (j + 1) (by omega)
    have e2 := sumI_ab 4 (by decide) (by decide) hn hs (0 + 1) (by omega)
    have e3 : (sumI s (j + 1) - sumI s (0 + 1)).toInt = (sumI s (j + 1)).toInt - (sumI s (0 + 1)).toInt := zt_sub (by omega) (by omega)
    have e4 := zt_mulA (a := 6) (b := p j) 6 9 (by omega) (by have := hp j hj; omega) (by decide)
    exact zt_mulA (a := 6 * p j) (b := sumI s (j + 1) - sumI s (0 + 1)) 54 200 (by omega) (by omega) (by decide)
  have g1 := sumI_ab 10800 (by decide) (by decide) hn f n (Nat.le_refl _)
  have g2 := sumI_ab 10800 (by decide) (by decide) hn f (0 + 1) (by omega)
  have tn := zi_nt (n := n) (by omega)
  have k1 : (nI n - 1).toInt = (nI n).toInt - (1 : Int32).toInt := zt_sub (by omega) (by omega)
  have k2 : (nI n - 1 - nI 0).toInt = (nI n - 1).toInt - (nI 0).toInt := zt_sub (by omega) (by omega)
  have k3 := zt_mulA (a := w) (b := nI n - 1 - nI 0) 9 24 hw (by omega) (by decide)
  have k4 : (sumI (psF p s 0) n - sumI (psF p s 0) (0 + 1)).toInt = (sumI (psF p s 0) n).toInt - (sumI (psF p s 0) (0 + 1)).toInt := zt_sub (by omega) (by omega)
  have k5 : (psh n p s w 0).toInt = (w * (nI n - 1 - nI 0)).toInt + (sumI (psF p s 0) n - sumI (psF p s 0) (0 + 1)).toInt := zt_add (by omega) (by omega)
  omega
theorem zabs_p {x : Int32} (h : -300000 ≤ x.toInt) : 0 ≤ zabs x := by
  have t0 : (0 : Int32).toInt = 0 := by decide
  unfold zabs
  split
  · assumption
  · rename_i q
    have q2 : ¬ 0 ≤ x.toInt := fun z => q (Int32.le_iff_toInt_le.mpr (by omega))
    refine Int32.le_iff_toInt_le.mpr ?_
    rw [zt_sub (by omega) (by omega)]
    omega
theorem zmax_p {x y : Int32} (h : 0 ≤ x) (k : 0 ≤ y) : 0 ≤ zmax x y := by
  unfold zmax
  split
  · exact k
  · exact h
theorem zSt_p {n : Nat} {p : Int32} {P X Y : Nat → Int32} {wx wy : Int32} (hn : n < 24) (hp : 1 ≤ p.toInt ∧ p.toInt ≤ 9) (hP : ∀ j, j < n → 0 ≤ (P j).toInt ∧ (P j).toInt ≤ 9) (hX : ∀ j, j < n → -4 ≤ (X j).toInt ∧ (X j).toInt ≤ 4) (hY : ∀ j, j < n → -4 ≤ (Y j).toInt ∧ (Y j).toInt ≤ 4) (hwx : -9 ≤ wx.toInt ∧ wx.toInt ≤ 9) (hwy : -9 ≤ wy.toInt ∧ wy.toInt ≤ 9) (u v : Nat) (hu : u ≤ 8) (hv : v ≤ 8) : 0 ≤ zSt n p P X Y wx wy u v := by
  have t4 : (4 : Int32).toInt = 4 := by decide
  have qP : ∀ j, j < n + 1 → 0 ≤ (upd P n p j).toInt ∧ (upd P n p j).toInt ≤ 9 := fun j hj => by
    simp only [upd]
    split
    · omega
    · exact hP j (by omega)
  have qS : ∀ (Z : Nat → Int32) (u : Nat), u ≤ 8 → (∀ j, j < n → -4 ≤ (Z j).toInt ∧ (Z j).toInt ≤ 4) → ∀ j, j < n + 1 → -4 ≤ (upd Z n (nI u - 4) j).toInt ∧ (upd Z n (nI u - 4) j).toInt ≤ 4 := fun Z u hu hZ j hj => by
    have tu := zi_nt (n := u) (by omega)
    have e : (nI u - 4).toInt = (nI u).toInt - (4 : Int32).toInt := zt_sub (by omega) (by omega)
    simp only [upd]
    split
    · omega
    · exact hZ j (by omega)
  unfold zSt
  exact zmax_p (zabs_p (zpsh_bd (by omega) (by omega) qP (qS X u hu hX) hwx)) (zabs_p (zpsh_bd (by omega) (by omega) qP (qS Y v hv hY) hwy))
theorem zm4a (u : Nat) : nI u - 4 + 1 = nI (u + 1) - 4 := by rw [← zi_s]; grind
theorem zm4b (u v : Nat) : 10 * (nI u - 4 + 4) + (nI v - 4) + 4 = nI (10 * u + v) := by
  have e : nI (10 * u + v) = 10 * nI u + nI v := by
    unfold nI
    rw [Int32.ofNat_add, Int32.ofNat_mul]
    rfl
  rw [e]
  grind
theorem zm4c {u : Nat} (h : u ≤ 8) : ¬ 4 < nI u - 4 := by
  have : ∀ u : Fin 9, ¬ 4 < nI u.1 - 4 := by decide
  exact this ⟨u, by omega⟩
theorem c_strt_s (hn : I 1 6 = nI n) (h24 : n < 24) (p md : Int32) (u v : Nat) (J : Nat → Nat → Int32) (hu : u ≤ 8) (hv : v ≤ 8) (hJ : zth J I) : ∃ J', zth J' I ∧ ∀ d Q (bw : Int32 × Int32) (l7 : Value), zWp (d + 98) zi_91 none 69 [.ref 0, .int p, .int md, .int bw.2, .int bw.1, .int (nI u - 4), .int (nI v - 4), l7] [] (zSH, J, L, zP f g t) Q = zWp (d + 98) zi_91 none 69 [.ref 0, .int p, .int md, .int (zcU bw (zSt n p (I 2) (I 5) (I 6) (I 0 14) (I 0 15) u v) (nI (10 * u + v))).2, .int (zcU bw (zSt n p (I 2) (I 5) (I 6) (I 0 14) (I 0 15) u v) (nI (10 * u + v))).1, .int (nI u - 4), .int (nI (v + 1) - 4), .int (zSt n p (I 2) (I 5) (I 6) (I 0 14) (I 0 15) u v)] [] (zSH, J', L, zP f g t) Q := by
  have j1 : J 1 = I 1 := hJ 1 (by omega)
  obtain ⟨K, q1, k1, k2, k3⟩ := th_copy (f := f) (g := g) (t := t) (L := L) (J := J) (n := n) (by rw [j1]; exact hn) (by omega)
  obtain ⟨K', q2, k4, k5, k6, k7, k8⟩ := th_raise (f := f) (g := g) (t := t) (L := L) (K := K) (n := n) k2.1 h24 p 0 (nI u - 4) (nI v - 4)
  have z1 : ∀ a, (a < 14 ∨ 26 < a) → K' a = I a := fun a ha => (k4 a ha).trans ((k1 a ha).trans (hJ a ha))
  have q3 : ∀ d Q, zWM (d + 2) 66 [.ref 14, .int 0, .int (I 0 14), .int (I 0 15)] (zSH, K', L, zP f g t) Q = Q (some (.int (zSt n p (I 2) (I 5) (I 6) (I 0 14) (I 0 15) u v))) (zSH, K', L, zP f g t) := by
    intro d Q
    have q := c_strain (d := d) (f := f) (g := g) (t := t) (L := L) (Q := Q) (I := K') (b := 14) (Or.inr (Or.inl rfl)) 0 (I 0 14) (I 0 15) (by omega)
    rw [tPx_e k5 (by omega), tPy_e k5 (by omega)] at q
    refine q.trans ?_
    unfold zSt
    have hP : ∀ j, j < n + 1 → K' (14 + 1) j = upd (I 2) n p j := fun j hj => by
      show K' 15 j = _
      rw [k6]
      simp only [upd]
      split
      · rfl
      · rw [(k3 j (by omega)).1, hJ 2 (by omega)]
    rw [psh_congr (p' := upd (I 2) n p) (s' := upd (I 5) n (nI u - 4)) hP (fun j hj => ?_) (by omega), psh_congr (p' := upd (I 2) n p) (s' := upd (I 6) n (nI v - 4)) hP (fun j hj => ?_) (by omega)]
    · show K' 19 j = _
      rw [k8]
      simp only [upd]
      split
      · rfl
      · rw [(k3 j (by omega)).2.2, hJ 6 (by omega)]
    · show K' 18 j = _
      rw [k7]
      simp only [upd]
      split
      · rfl
      · rw [(k3 j (by omega)).2.1, hJ 5 (by omega)]
  have y0 : K' 0 = I 0 := z1 0 (by omega)
  have hv1 := zm4c hv
  have hv2 : nI v - 4 ≤ 4 := Int32.not_lt.mp hv1
  generalize zSt n p (I 2) (I 5) (I 6) (I 0 14) (I 0 15) u v = S at q3
  refine ⟨K', z1, fun d Q bw l7 => ?_⟩
  obtain ⟨bb, ww⟩ := bw
  rw [H_X9_straight_69]
  by_cases hb : bb < 0
  · simp (disch := first | assumption | rfl | omega | decide | exact zb_01 _) only [zabs_e, zmax_e, zmin_e, zrf_s, zpush_s, zpush_n, zw_app, upd_app, updL_app, Nat.reduceEqDiff, Nat.add_left_cancel_iff, Nat.add_eq_left, Nat.left_eq_add, ↓reduceIte, true_and, and_true, Int32.reduceToNatClampNeg, zin_O, zi_ltO, zi_leO, zi_Olt, zi_Ole, zi_eqO, Nat.not_lt_zero, Nat.zero_le, List.append_nil, zrn_n, zrn_s, List.cons_append, List.nil_append, zlg_lt, zlg_gt, zlg_le, zlg_ge, zlg_eq, Int32.toInt_toInt64, Int64.reduceToInt, zw_zw, zw_sw1, zw_sw2, zw_sw3, zw_sw4, zw_sw5, zw_sw6, zw_sw7, ne_eq, zi_in, zi_cl, zi_le, zi_lt, zi_eq, zi_neg, zi_0le, zb_0, if_true, if_false, eq_self, zb_T, zb_F, Bool.false_eq_true, zO_eq, zO_ne1, zO_ne2, zO_nn, zi_ne1, zi_ne2, zi_lt1, zi_le1, zi_lt2, zi_le2, Int32.reduceLT, Int32.reduceLE, Nat.reduceLT, Nat.reduceLeDiff, Int32.reduceMul, Int32.reduceAdd, Int32.reduceSub, not_false_eq_true, not_true_eq_false, Int32.reduceToInt, Int.reduceLE, Int.reduceLT, Int.reduceNeg, ite_self, R_X9_straight, SHF, PF, hv1, hv2, q1, q2, q3, y0, hb, zcU, zm4a, zm4b]
  · have hb' : 0 ≤ bb := Int32.not_lt.mp hb
    by_cases h : bb ≤ S
    · have h' : ¬ S < bb := Int32.not_lt.mpr h
      simp (disch := first | assumption | rfl | omega | decide | exact zb_01 _) only [zabs_e, zmax_e, zmin_e, zrf_s, zpush_s, zpush_n, zw_app, upd_app, updL_app, Nat.reduceEqDiff, Nat.add_left_cancel_iff, Nat.add_eq_left, Nat.left_eq_add, ↓reduceIte, true_and, and_true, Int32.reduceToNatClampNeg, zin_O, zi_ltO, zi_leO, zi_Olt, zi_Ole, zi_eqO, Nat.not_lt_zero, Nat.zero_le, List.append_nil, zrn_n, zrn_s, List.cons_append, List.nil_append, zlg_lt, zlg_gt, zlg_le, zlg_ge, zlg_eq, Int32.toInt_toInt64, Int64.reduceToInt, zw_zw, zw_sw1, zw_sw2, zw_sw3, zw_sw4, zw_sw5, zw_sw6, zw_sw7, ne_eq, zi_in, zi_cl, zi_le, zi_lt, zi_eq, zi_neg, zi_0le, zb_0, if_true, if_false, eq_self, zb_T, zb_F, Bool.false_eq_true, zO_eq, zO_ne1, zO_ne2, zO_nn, zi_ne1, zi_ne2, zi_lt1, zi_le1, zi_lt2, zi_le2, Int32.reduceLT, Int32.reduceLE, Nat.reduceLT, Nat.reduceLeDiff, Int32.reduceMul, Int32.reduceAdd, Int32.reduceSub, not_false_eq_true, not_true_eq_false, Int32.reduceToInt, Int.reduceLE, Int.reduceLT, Int.reduceNeg, ite_self, R_X9_straight, SHF, PF, hv1, hv2, q1, q2, q3, y0, hb, hb', h, h', zcU, zm4a]
    · have h' : S < bb := Int32.not_le.mp h
      simp (disch := first | assumption | rfl | omega | decide | exact zb_01 _) only [zabs_e, zmax_e, zmin_e, zrf_s, zpush_s, zpush_n, zw_app, upd_app, updL_app, Nat.reduceEqDiff, Nat.add_left_cancel_iff, Nat.add_eq_left, Nat.left_eq_add, ↓reduceIte, true_and, and_true, Int32.reduceToNatClampNeg, zin_O, zi_ltO, zi_leO, zi_Olt, zi_Ole, zi_eqO, Nat.not_lt_zero, Nat.zero_le, List.append_nil, zrn_n, zrn_s, List.cons_append, List.nil_append, zlg_lt, zlg_gt, zlg_le, zlg_ge, zlg_eq, Int32.toInt_toInt64, Int64.reduceToInt, zw_zw, zw_sw1, zw_sw2, zw_sw3, zw_sw4, zw_sw5, zw_sw6, zw_sw7, ne_eq, zi_in, zi_cl, zi_le, zi_lt, zi_eq, zi_neg, zi_0le, zb_0, if_true, if_false, eq_self, zb_T, zb_F, Bool.false_eq_true, zO_eq, zO_ne1, zO_ne2, zO_nn, zi_ne1, zi_ne2, zi_lt1, zi_le1, zi_lt2, zi_le2, Int32.reduceLT, Int32.reduceLE, Nat.reduceLT, Nat.reduceLeDiff, Int32.reduceMul, Int32.reduceAdd, Int32.reduceSub, not_false_eq_true, not_true_eq_false, Int32.reduceToInt, Int.reduceLE, Int.reduceLT, Int.reduceNeg, ite_self, R_X9_straight, SHF, PF, hv1, hv2, q1, q2, q3, y0, hb, hb', h, h', zcU, zm4a, zm4b]
theorem c_strt_l (hn : I 1 6 = nI n) (h24 : n < 24) (p md : Int32) : ∀ c u v J, c + (9 * u + v) = 80 → u ≤ 8 → v ≤ 8 → zth J I → ∃ J', zth J' I ∧ ∀ d Q (l7 : Value), zWp (d + 98) zi_91 none 69 [.ref 0, .int p, .int md, .int (zcB (zSt n p (I 2) (I 5) (I 6) (I 0 14) (I 0 15)) (9 * u + v)).2, .int (zcB (zSt n p (I 2) (I 5) (I 6) (I 0 14) (I 0 15)) (9 * u + v)).1, .int (nI u - 4), .int (nI v - 4), l7] [] (zSH, J, L, zP f g t) Q = Q (some (.int (if md = 0 then (zcB (zSt n p (I 2) (I 5) (I 6) (I 0 14) (I 0 15)) 81).2 else (zcB (zSt n p (I 2) (I 5) (I 6) (I 0 14) (I 0 15)) 81).1))) (zSH, J', L, zP f g t) := by
  intro c
  have cs : ∀ S : Nat → Nat → Int32, ∀ u v, v ≤ 8 → zcU (zcB S (9 * u + v)) (S u v) (nI (10 * u + v)) = zcB S (9 * u + v + 1) := fun S u v hv => by
    rw [zcB, show (9 * u + v) / 9 = u by omega, show (9 * u + v) % 9 = v by omega]
  have v8 : nI (8 + 1) - 4 = 5 := by decide
  induction c with
  | zero =>
    intro u v J hc hu hv hJ
    obtain ⟨J1, z1, q1⟩ := c_strt_s (f := f) (g := g) (t := t) (L := L) hn h24 p md u v J hu hv hJ
    have hu8 : u = 8 := by omega
    have hv8 : v = 8 := by omega
    refine ⟨J1, z1, fun d Q l7 => ?_⟩
    rw [q1 d Q _ l7, cs _ u v hv]
    subst hu8 hv8
    rw [v8, H_X9_straight_69]
    simp (disch := first | assumption | rfl | omega | decide | exact zb_01 _) only [zabs_e, zmax_e, zmin_e, zrf_s, zpush_s, zpush_n, zw_app, upd_app, updL_app, Nat.reduceEqDiff, Nat.add_left_cancel_iff, Nat.add_eq_left, Nat.left_eq_add, ↓reduceIte, true_and, and_true, Int32.reduceToNatClampNeg, zin_O, zi_ltO, zi_leO, zi_Olt, zi_Ole, zi_eqO, Nat.not_lt_zero, Nat.zero_le, List.append_nil, zrn_n, zrn_s, List.cons_append, List.nil_append, zlg_lt, zlg_gt, zlg_le, zlg_ge, zlg_eq, Int32.toInt_toInt64, Int64.reduceToInt, zw_zw, zw_sw1, zw_sw2, zw_sw3, zw_sw4, zw_sw5, zw_sw6, zw_sw7, ne_eq, zi_in, zi_cl, zi_le, zi_lt, zi_eq, zi_neg, zi_0le, zb_0, if_true, if_false, eq_self, zb_T, zb_F, Bool.false_eq_true, zO_eq, zO_ne1, zO_ne2, zO_nn, zi_ne1, zi_ne2, zi_lt1, zi_le1, zi_lt2, zi_le2, Int32.reduceLT, Int32.reduceLE, Nat.reduceLT, Nat.reduceLeDiff, Int32.reduceMul, Int32.reduceAdd, Int32.reduceSub, not_false_eq_true, not_true_eq_false, Int32.reduceToInt, Int.reduceLE, Int.reduceLT, Int.reduceNeg, ite_self, R_X9_straight, SHF, PF]
    rw [H_X9_straight_59]
    simp (disch := first | assumption | rfl | omega | decide | exact zb_01 _) only [zabs_e, zmax_e, zmin_e, zrf_s, zpush_s, zpush_n, zw_app, upd_app, updL_app, Nat.reduceEqDiff, Nat.add_left_cancel_iff, Nat.add_eq_left, Nat.left_eq_add, ↓reduceIte, true_and, and_true, Int32.reduceToNatClampNeg, zin_O, zi_ltO, zi_leO, zi_Olt, zi_Ole, zi_eqO, Nat.not_lt_zero, Nat.zero_le, List.append_nil, zrn_n, zrn_s, List.cons_append, List.nil_append, zlg_lt, zlg_gt, zlg_le, zlg_ge, zlg_eq, Int32.toInt_toInt64, Int64.reduceToInt, zw_zw, zw_sw1, zw_sw2, zw_sw3, zw_sw4, zw_sw5, zw_sw6, zw_sw7, ne_eq, zi_in, zi_cl, zi_le, zi_lt, zi_eq, zi_neg, zi_0le, zb_0, if_true, if_false, eq_self, zb_T, zb_F, Bool.false_eq_true, zO_eq, zO_ne1, zO_ne2, zO_nn, zi_ne1, zi_ne2, zi_lt1, zi_le1, zi_lt2, zi_le2, Int32.reduceLT, Int32.reduceLE, Nat.reduceLT, Nat.reduceLeDiff, Int32.reduceMul, Int32.reduceAdd, Int32.reduceSub, not_false_eq_true, not_true_eq_false, Int32.reduceToInt, Int.reduceLE, Int.reduceLT, Int.reduceNeg, ite_self, R_X9_straight, SHF, PF, show nI 8 - 4 + 1 = 5 from by decide]
    by_cases hm : md = 0
    · simp (disch := first | assumption | rfl | omega | decide | exact zb_01 _) only [zabs_e, zmax_e, zmin_e, zrf_s, zpush_s, zpush_n, zw_app, upd_app, updL_app, Nat.reduceEqDiff, Nat.add_left_cancel_iff, Nat.add_eq_left, Nat.left_eq_add, ↓reduceIte, true_and, and_true, Int32.reduceToNatClampNeg, zin_O, zi_ltO, zi_leO, zi_Olt, zi_Ole, zi_eqO, Nat.not_lt_zero, Nat.zero_le, List.append_nil, zrn_n, zrn_s, List.cons_append, List.nil_append, zlg_lt, zlg_gt, zlg_le, zlg_ge, zlg_eq, Int32.toInt_toInt64, Int64.reduceToInt, zw_zw, zw_sw1, zw_sw2, zw_sw3, zw_sw4, zw_sw5, zw_sw6, zw_sw7, ne_eq, zi_in, zi_cl, zi_le, zi_lt, zi_eq, zi_neg, zi_0le, zb_0, if_true, if_false, eq_self, zb_T, zb_F, Bool.false_eq_true, zO_eq, zO_ne1, zO_ne2, zO_nn, zi_ne1, zi_ne2, zi_lt1, zi_le1, zi_lt2, zi_le2, Int32.reduceLT, Int32.reduceLE, Nat.reduceLT, Nat.reduceLeDiff, Int32.reduceMul, Int32.reduceAdd, Int32.reduceSub, not_false_eq_true, not_true_eq_false, Int32.reduceToInt, Int.reduceLE, Int.reduceLT, Int.reduceNeg, ite_self, R_X9_straight, SHF, PF, hm]
    · simp (disch := first | assumption | rfl | omega | decide | exact zb_01 _) only [zabs_e, zmax_e, zmin_e, zrf_s, zpush_s, zpush_n, zw_app, upd_app, updL_app, Nat.reduceEqDiff, Nat.add_left_cancel_iff, Nat.add_eq_left, Nat.left_eq_add, ↓reduceIte, true_and, and_true, Int32.reduceToNatClampNeg, zin_O, zi_ltO, zi_leO, zi_Olt, zi_Ole, zi_eqO, Nat.not_lt_zero, Nat.zero_le, List.append_nil, zrn_n, zrn_s, List.cons_append, List.nil_append, zlg_lt, zlg_gt, zlg_le, zlg_ge, zlg_eq, Int32.toInt_toInt64, Int64.reduceToInt, zw_zw, zw_sw1, zw_sw2, zw_sw3, zw_sw4, zw_sw5, zw_sw6, zw_sw7, ne_eq, zi_in, zi_cl, zi_le, zi_lt, zi_eq, zi_neg, zi_0le, zb_0, if_true, if_false, eq_self, zb_T, zb_F, Bool.false_eq_true, zO_eq, zO_ne1, zO_ne2, zO_nn, zi_ne1, zi_ne2, zi_lt1, zi_le1, zi_lt2, zi_le2, Int32.reduceLT, Int32.reduceLE, Nat.reduceLT, Nat.reduceLeDiff, Int32.reduceMul, Int32.reduceAdd, Int32.reduceSub, not_false_eq_true, not_true_eq_false, Int32.reduceToInt, Int.reduceLE, Int.reduceLT, Int.reduceNeg, ite_self, R_X9_straight, SHF, PF, hm]
  | succ c ih =>
    intro u v J hc hu hv hJ
    obtain ⟨J1, z1, q1⟩ := c_strt_s (f := f) (g := g) (t := t) (L := L) hn h24 p md u v J hu hv hJ
    by_cases h8 : v = 8
    · subst h8
      obtain ⟨J2, z2, q2⟩ := ih (u + 1) 0 J1 (by omega) (by omega) (by omega) z1
      refine ⟨J2, z2, fun d Q l7 => ?_⟩
      rw [q1 d Q _ l7, cs _ u 8 hv, v8, H_X9_straight_69]
      simp (disch := first | assumption | rfl | omega | decide | exact zb_01 _) only [zabs_e, zmax_e, zmin_e, zrf_s, zpush_s, zpush_n, zw_app, upd_app, updL_app, Nat.reduceEqDiff, Nat.add_left_cancel_iff, Nat.add_eq_left, Nat.left_eq_add, ↓reduceIte, true_and, and_true, Int32.reduceToNatClampNeg, zin_O, zi_ltO, zi_leO, zi_Olt, zi_Ole, zi_eqO, Nat.not_lt_zero, Nat.zero_le, List.append_nil, zrn_n, zrn_s, List.cons_append, List.nil_append, zlg_lt, zlg_gt, zlg_le, zlg_ge, zlg_eq, Int32.toInt_toInt64, Int64.reduceToInt, zw_zw, zw_sw1, zw_sw2, zw_sw3, zw_sw4, zw_sw5, zw_sw6, zw_sw7, ne_eq, zi_in, zi_cl, zi_le, zi_lt, zi_eq, zi_neg, zi_0le, zb_0, if_true, if_false, eq_self, zb_T, zb_F, Bool.false_eq_true, zO_eq, zO_ne1, zO_ne2, zO_nn, zi_ne1, zi_ne2, zi_lt1, zi_le1, zi_lt2, zi_le2, Int32.reduceLT, Int32.reduceLE, Nat.reduceLT, Nat.reduceLeDiff, Int32.reduceMul, Int32.reduceAdd, Int32.reduceSub, not_false_eq_true, not_true_eq_false, Int32.reduceToInt, Int.reduceLE, Int.reduceLT, Int.reduceNeg, ite_self, R_X9_straight, SHF, PF]
      rw [H_X9_straight_59]
      have hu1 := zm4c (u := u + 1) (by omega)
      have hu2 : nI (u + 1) - 4 ≤ 4 := Int32.not_lt.mp hu1
      rw [zm4a]
      simp (disch := first | assumption | rfl | omega | decide | exact zb_01 _) only [zabs_e, zmax_e, zmin_e, zrf_s, zpush_s, zpush_n, zw_app, upd_app, updL_app, Nat.reduceEqDiff, Nat.add_left_cancel_iff, Nat.add_eq_left, Nat.left_eq_add, ↓reduceIte, true_and, and_true, Int32.reduceToNatClampNeg, zin_O, zi_ltO, zi_leO, zi_Olt, zi_Ole, zi_eqO, Nat.not_lt_zero, Nat.zero_le, List.append_nil, zrn_n, zrn_s, List.cons_append, List.nil_append, zlg_lt, zlg_gt, zlg_le, zlg_ge, zlg_eq, Int32.toInt_toInt64, Int64.reduceToInt, zw_zw, zw_sw1, zw_sw2, zw_sw3, zw_sw4, zw_sw5, zw_sw6, zw_sw7, ne_eq, zi_in, zi_cl, zi_le, zi_lt, zi_eq, zi_neg, zi_0le, zb_0, if_true, if_false, eq_self, zb_T, zb_F, Bool.false_eq_true, zO_eq, zO_ne1, zO_ne2, zO_nn, zi_ne1, zi_ne2, zi_lt1, zi_le1, zi_lt2, zi_le2, Int32.reduceLT, Int32.reduceLE, Nat.reduceLT, Nat.reduceLeDiff, Int32.reduceMul, Int32.reduceAdd, Int32.reduceSub, not_false_eq_true, not_true_eq_false, Int32.reduceToInt, Int.reduceLE, Int.reduceLT, Int.reduceNeg, ite_self, R_X9_straight, SHF, PF, hu1, hu2]
      exact q2 d Q _
    · obtain ⟨J2, z2, q2⟩ := ih u (v + 1) J1 (by omega) (by omega) (by omega) z1
      refine ⟨J2, z2, fun d Q l7 => ?_⟩
      rw [q1 d Q _ l7, cs _ u v hv]
      exact q2 d Q _
theorem m_strt_l (hn : I 80 6 = nI n) (h24 : n < 24) (p md : Int32) (C : Nat → Int32) (hC : ∀ j, j < n + 1 → C j = upd (I 85) n p j) : ∀ c i F, c + i = 81 → (∀ j, j ≠ n → j ≠ 24 + n → F j = I 81 j) → ∀ d Q (l8 l9 l10 : Value), zWp (d + 98) zi_166 none 104 [.ref 80, .int p, .int md, .int (I 81 n), .int (I 81 (24 + n)), .int (zmB (zSt n p (I 85) (I 81) (mSy I) (I 81 72) (I 81 73)) i).2, .int (zmB (zSt n p (I 85) (I 81) (mSy I) (I 81 72) (I 81 73)) i).1, .int (nI i), l8, l9, l10] [] (zSH, zw (zw (zw I 91 C) 81 F) 80 (upd (I 80) 6 (nI (n + 1))), L, zP f g t) Q = Q (some (.int (if md = 0 then (zmB (zSt n p (I 85) (I 81) (mSy I) (I 81 72) (I 81 73)) 81).2 else (zmB (zSt n p (I 85) (I 81) (mSy I) (I 81 72) (I 81 73)) 81).1))) (zSH, zw I 91 C, L, zP f g t) := by
  intro c
  have n84 : n < 84 := by omega
  have m84 : 24 + n < 84 := by omega
  have p24 : nI (24 + (n + 1)) - 1 = nI (24 + n) := nI_pred (24 + n)
  induction c with
  | zero =>
    intro i F hi hF d Q l8 l9 l10
    have hi : i = 81 := by omega
    subst hi
    rw [H_X10_straight_104]
    have e80 : upd (upd (I 80) 6 (nI (n + 1))) 6 (nI n) = I 80 := by
      rw [upd_upd, ← hn]
      funext x
      simp only [upd]
      split
      · subst_vars; rfl
      · rfl
    have e81 : upd (upd F n (I 81 n)) (24 + n) (I 81 (24 + n)) = I 81 := by
      funext x
      simp only [upd]
      split
      · subst_vars; rfl
      · split
        · subst_vars; rfl
        · exact hF x (by assumption) (by assumption)
    have eM : zw (zw (zw I 91 C) 81 (upd (upd F n (I 81 n)) (24 + n) (I 81 (24 + n)))) 80 (upd (upd (I 80) 6 (nI (n + 1))) 6 (nI n)) = zw I 91 C := by
      rw [e80, e81, zw_same (f := zw I 91 C) (a := 81) (zw_n (by decide)), zw_same (f := zw I 91 C) (a := 80) (zw_n (by decide))]
    by_cases hm : md = 0
    · simp (disch := first | assumption | rfl | omega | decide | exact zb_01 _) only [zabs_e, zmax_e, zmin_e, zrf_s, zpush_s, zpush_n, zw_app, upd_app, updL_app, Nat.reduceEqDiff, Nat.add_left_cancel_iff, Nat.add_eq_left, Nat.left_eq_add, ↓reduceIte, true_and, and_true, Int32.reduceToNatClampNeg, zin_O, zi_ltO, zi_leO, zi_Olt, zi_Ole, zi_eqO, Nat.not_lt_zero, Nat.zero_le, List.append_nil, zrn_n, zrn_s, List.cons_append, List.nil_append, zlg_lt, zlg_gt, zlg_le, zlg_ge, zlg_eq, Int32.toInt_toInt64, Int64.reduceToInt, zw_zw, zw_sw1, zw_sw2, zw_sw3, zw_sw4, zw_sw5, zw_sw6, zw_sw7, ne_eq, zi_in, zi_cl, zi_le, zi_lt, zi_eq, zi_neg, zi_0le, zb_0, if_true, if_false, eq_self, zb_T, zb_F, Bool.false_eq_true, zO_eq, zO_ne1, zO_ne2, zO_nn, zi_ne1, zi_ne2, zi_lt1, zi_le1, zi_lt2, zi_le2, Int32.reduceLT, Int32.reduceLE, Nat.reduceLT, Nat.reduceLeDiff, Int32.reduceMul, Int32.reduceAdd, Int32.reduceSub, not_false_eq_true, not_true_eq_false, Int32.reduceToInt, Int.reduceLE, Int.reduceLT, Int.reduceNeg, ite_self, R_X10_straight, SHF, PF, n84, m84, zi_a24, nI_pred, hm]
      rw [eM]
    · simp (disch := first | assumption | rfl | omega | decide | exact zb_01 _) only [zabs_e, zmax_e, zmin_e, zrf_s, zpush_s, zpush_n, zw_app, upd_app, updL_app, Nat.reduceEqDiff, Nat.add_left_cancel_iff, Nat.add_eq_left, Nat.left_eq_add, ↓reduceIte, true_and, and_true, Int32.reduceToNatClampNeg, zin_O, zi_ltO, zi_leO, zi_Olt, zi_Ole, zi_eqO, Nat.not_lt_zero, Nat.zero_le, List.append_nil, zrn_n, zrn_s, List.cons_append, List.nil_append, zlg_lt, zlg_gt, zlg_le, zlg_ge, zlg_eq, Int32.toInt_toInt64, Int64.reduceToInt, zw_zw, zw_sw1, zw_sw2, zw_sw3, zw_sw4, zw_sw5, zw_sw6, zw_sw7, ne_eq, zi_in, zi_cl, zi_le, zi_lt, zi_eq, zi_neg, zi_0le, zb_0, if_true, if_false, eq_self, zb_T, zb_F, Bool.false_eq_true, zO_eq, zO_ne1, zO_ne2, zO_nn, zi_ne1, zi_ne2, zi_lt1, zi_le1, zi_lt2, zi_le2, Int32.reduceLT, Int32.reduceLE, Nat.reduceLT, Nat.reduceLeDiff, Int32.reduceMul, Int32.reduceAdd, Int32.reduceSub, not_false_eq_true, not_true_eq_false, Int32.reduceToInt, Int.reduceLE, Int.reduceLT, Int.reduceNeg, ite_self, R_X10_straight, SHF, PF, n84, m84, zi_a24, nI_pred, hm]
      rw [eM]
  | succ c ih =>
    intro i F hi hF d Q l8 l9 l10
    have h1 : ¬ 81 ≤ i := by omega
    have h2 : i < 81 := by omega
    have hdiv : nI i / 9 = nI (i / 9) := zdivN (by omega) (by decide)
    have hrem : nI i - nI (i / 9) * 9 = nI (i % 9) := by rw [← hdiv]; exact zremN (by omega) (by decide)
    have h10 : 10 * nI (i / 9) + nI (i % 9) = nI (10 * (i / 9) + i % 9) := by
      unfold nI
      rw [Int32.ofNat_add, Int32.ofNat_mul]
      rfl
    have q0 : ∀ d Q, zWM (d + 2) 159 [.ref 80, .int 0, .int 0] (zSH, zw (zw (zw I 91 C) 81 (upd (upd F n (nI (i / 9) - 4)) (24 + n) (nI (i % 9) - 4))) 80 (upd (I 80) 6 (nI (n + 1))), L, zP f g t) Q = Q (some (.int (psh (n + 1) (upd (I 85) n p) (upd (I 81) n (nI (i / 9) - 4)) (I 81 72) 0))) (zSH, zw (zw (zw I 91 C) 81 (upd (upd F n (nI (i / 9) - 4)) (24 + n) (nI (i % 9) - 4))) 80 (upd (I 80) 6 (nI (n + 1))), L, zP f g t) := by
      intro d Q
      refine (m_push0 (I := zw (zw (zw I 91 C) 81 (upd (upd F n (nI (i / 9) - 4)) (24 + n) (nI (i % 9) - 4))) 80 (upd (I 80) 6 (nI (n + 1)))) (n := n + 1) rfl (by omega) (Nat.succ_pos n)).trans ?_
      have e7 : (upd (upd F n (nI (i / 9) - 4)) (24 + n) (nI (i % 9) - 4)) 72 = I 81 72 := by
        simp only [upd]
        rw [if_neg (by omega), if_neg (by omega)]
        exact hF 72 (by omega) (by omega)
      have ev : psh (n + 1) C (upd (upd F n (nI (i / 9) - 4)) (24 + n) (nI (i % 9) - 4)) ((upd (upd F n (nI (i / 9) - 4)) (24 + n) (nI (i % 9) - 4)) 72) 0 = psh (n + 1) (upd (I 85) n p) (upd (I 81) n (nI (i / 9) - 4)) (I 81 72) 0 := by
        rw [e7]
        refine psh_congr (fun j hj => hC j hj) (fun j hj => ?_) (by omega)
        show upd (upd F n (nI (i / 9) - 4)) (24 + n) (nI (i % 9) - 4) j = _
        simp only [upd]
        rw [if_neg (by omega)]
        split
        · rfl
        · exact hF j (by omega) (by omega)
      show Q (some (.int (psh (n + 1) C (upd (upd F n (nI (i / 9) - 4)) (24 + n) (nI (i % 9) - 4)) ((upd (upd F n (nI (i / 9) - 4)) (24 + n) (nI (i % 9) - 4)) 72) 0))) _ = _
      rw [ev]
    have q1 : ∀ d Q, zWM (d + 2) 159 [.ref 80, .int 0, .int 1] (zSH, zw (zw (zw I 91 C) 81 (upd (upd F n (nI (i / 9) - 4)) (24 + n) (nI (i % 9) - 4))) 80 (upd (I 80) 6 (nI (n + 1))), L, zP f g t) Q = Q (some (.int (psh (n + 1) (upd (I 85) n p) (upd (mSy I) n (nI (i % 9) - 4)) (I 81 73) 0))) (zSH, zw (zw (zw I 91 C) 81 (upd (upd F n (nI (i / 9) - 4)) (24 + n) (nI (i % 9) - 4))) 80 (upd (I 80) 6 (nI (n + 1))), L, zP f g t) := by
      intro d Q
      refine (m_push1 (I := zw (zw (zw I 91 C) 81 (upd (upd F n (nI (i / 9) - 4)) (24 + n) (nI (i % 9) - 4))) 80 (upd (I 80) 6 (nI (n + 1)))) (n := n + 1) rfl (by omega) (Nat.succ_pos n)).trans ?_
      have e7 : (upd (upd F n (nI (i / 9) - 4)) (24 + n) (nI (i % 9) - 4)) 73 = I 81 73 := by
        simp only [upd]
        rw [if_neg (by omega), if_neg (by omega)]
        exact hF 73 (by omega) (by omega)
      have ev : psh (n + 1) C (fun j => (upd (upd F n (nI (i / 9) - 4)) (24 + n) (nI (i % 9) - 4)) (24 + j)) ((upd (upd F n (nI (i / 9) - 4)) (24 + n) (nI (i % 9) - 4)) 73) 0 = psh (n + 1) (upd (I 85) n p) (upd (mSy I) n (nI (i % 9) - 4)) (I 81 73) 0 := by
        rw [e7]
        refine psh_congr (fun j hj => hC j hj) (fun j hj => ?_) (by omega)
        show upd (upd F n (nI (i / 9) - 4)) (24 + n) (nI (i % 9) - 4) (24 + j) = _
        simp only [upd]
        by_cases e : j = n
        · rw [if_pos (by omega), if_pos e]
        · rw [if_neg (by omega), if_neg (by omega), if_neg e]
          exact hF (24 + j) (by omega) (by omega)
      show Q (some (.int (psh (n + 1) C (fun j => (upd (upd F n (nI (i / 9) - 4)) (24 + n) (nI (i % 9) - 4)) (24 + j)) ((upd (upd F n (nI (i / 9) - 4)) (24 + n) (nI (i % 9) - 4)) 73) 0))) _ = _
      rw [ev]
    have e := ih (i + 1) (upd (upd F n (nI (i / 9) - 4)) (24 + n) (nI (i % 9) - 4)) (by omega) (fun j j1 j2 => by
      simp only [upd]
      rw [if_neg j2, if_neg j1]
      exact hF j j1 j2) d Q
    have eS : zSt n p (I 85) (I 81) (mSy I) (I 81 72) (I 81 73) (i / 9) (i % 9) = zmax (zabs (psh (n + 1) (upd (I 85) n p) (upd (I 81) n (nI (i / 9) - 4)) (I 81 72) 0)) (zabs (psh (n + 1) (upd (I 85) n p) (upd (mSy I) n (nI (i % 9) - 4)) (I 81 73) 0)) := rfl
    rw [zmB] at e
    rw [H_X10_straight_104]
    generalize zmB (zSt n p (I 85) (I 81) (mSy I) (I 81 72) (I 81 73)) i = bw at e
    generalize zSt n p (I 85) (I 81) (mSy I) (I 81 72) (I 81 73) (i / 9) (i % 9) = S at e eS
    obtain ⟨bb, ww⟩ := bw
    generalize psh (n + 1) (upd (I 85) n p) (upd (I 81) n (nI (i / 9) - 4)) (I 81 72) 0 = s0 at q0 eS
    generalize psh (n + 1) (upd (I 85) n p) (upd (mSy I) n (nI (i % 9) - 4)) (I 81 73) 0 = s1 at q1 eS
    have fin : ∀ S', S' = S → zWp (d + 98) zi_166 none 104 [.ref 80, .int p, .int md, .int (I 81 n), .int (I 81 (24 + n)), .int (if ww < 0 then (S', nI (10 * (i / 9) + i % 9)) else if bb ≤ S' then (bb, ww) else (S', nI (10 * (i / 9) + i % 9))).2, .int (if ww < 0 then (S', nI (10 * (i / 9) + i % 9)) else if bb ≤ S' then (bb, ww) else (S', nI (10 * (i / 9) + i % 9))).1, .int (nI (i + 1)), .int (zabs s0), .int (zabs s1), .int S'] [] (zSH, zw (zw (zw I 91 C) 81 (upd (upd F n (nI (i / 9) - 4)) (24 + n) (nI (i % 9) - 4))) 80 (upd (I 80) 6 (nI (n + 1))), L, zP f g t) Q = Q (some (.int (if md = 0 then (zmB (zSt n p (I 85) (I 81) (mSy I) (I 81 72) (I 81 73)) 81).2 else (zmB (zSt n p (I 85) (I 81) (mSy I) (I 81 72) (I 81 73)) 81).1))) (zSH, zw I 91 C, L, zP f g t) := fun S' hS => by
      subst hS
      exact e _ _ _
    by_cases hm : zabs s0 ≤ zabs s1
    · have f1 := fin _ ((zmax_le hm).symm.trans eS.symm)
      rw [← f1]
      by_cases hw : ww < 0
      · have hw' : ¬ 0 ≤ ww := Int32.not_le.mpr hw
        simp (disch := first | assumption | rfl | omega | decide | exact zb_01 _) only [zabs_e, zmax_e, zmin_e, zrf_s, zpush_s, zpush_n, zw_app, upd_app, updL_app, Nat.reduceEqDiff, Nat.add_left_cancel_iff, Nat.add_eq_left, Nat.left_eq_add, ↓reduceIte, true_and, and_true, Int32.reduceToNatClampNeg, zin_O, zi_ltO, zi_leO, zi_Olt, zi_Ole, zi_eqO, Nat.not_lt_zero, Nat.zero_le, List.append_nil, zrn_n, zrn_s, List.cons_append, List.nil_append, zlg_lt, zlg_gt, zlg_le, zlg_ge, zlg_eq, Int32.toInt_toInt64, Int64.reduceToInt, zw_zw, zw_sw1, zw_sw2, zw_sw3, zw_sw4, zw_sw5, zw_sw6, zw_sw7, ne_eq, zi_in, zi_cl, zi_le, zi_lt, zi_eq, zi_neg, zi_0le, zb_0, if_true, if_false, eq_self, zb_T, zb_F, Bool.false_eq_true, zO_eq, zO_ne1, zO_ne2, zO_nn, zi_ne1, zi_ne2, zi_lt1, zi_le1, zi_lt2, zi_le2, Int32.reduceLT, Int32.reduceLE, Nat.reduceLT, Nat.reduceLeDiff, Int32.reduceMul, Int32.reduceAdd, Int32.reduceSub, not_false_eq_true, not_true_eq_false, Int32.reduceToInt, Int.reduceLE, Int.reduceLT, Int.reduceNeg, ite_self, R_X10_straight, SHF, PF, h1, h2, hdiv, hrem, n84, m84, p24, nI_pred, zi_a24, q0, q1, m_sizeOf, hm, hw, hw', h10, zi_s]
      · have hw' : 0 ≤ ww := Int32.not_lt.mp hw
        by_cases hb : bb ≤ zabs s1
        · have hb' : ¬ zabs s1 < bb := Int32.not_lt.mpr hb
          simp (disch := first | assumption | rfl | omega | decide | exact zb_01 _) only [zabs_e, zmax_e, zmin_e, zrf_s, zpush_s, zpush_n, zw_app, upd_app, updL_app, Nat.reduceEqDiff, Nat.add_left_cancel_iff, Nat.add_eq_left, Nat.left_eq_add, ↓reduceIte, true_and, and_true, Int32.reduceToNatClampNeg, zin_O, zi_ltO, zi_leO, zi_Olt, zi_Ole, zi_eqO, Nat.not_lt_zero, Nat.zero_le, List.append_nil, zrn_n, zrn_s, List.cons_append, List.nil_append, zlg_lt, zlg_gt, zlg_le, zlg_ge, zlg_eq, Int32.toInt_toInt64, Int64.reduceToInt, zw_zw, zw_sw1, zw_sw2, zw_sw3, zw_sw4, zw_sw5, zw_sw6, zw_sw7, ne_eq, zi_in, zi_cl, zi_le, zi_lt, zi_eq, zi_neg, zi_0le, zb_0, if_true, if_false, eq_self, zb_T, zb_F, Bool.false_eq_true, zO_eq, zO_ne1, zO_ne2, zO_nn, zi_ne1, zi_ne2, zi_lt1, zi_le1, zi_lt2, zi_le2, Int32.reduceLT, Int32.reduceLE, Nat.reduceLT, Nat.reduceLeDiff, Int32.reduceMul, Int32.reduceAdd, Int32.reduceSub, not_false_eq_true, not_true_eq_false, Int32.reduceToInt, Int.reduceLE, Int.reduceLT, Int.reduceNeg, ite_self, R_X10_straight, SHF, PF, h1, h2, hdiv, hrem, n84, m84, p24, nI_pred, zi_a24, q0, q1, m_sizeOf, hm, hw, hw', hb, hb', h10, zi_s]
        · have hb' : zabs s1 < bb := Int32.not_le.mp hb
          simp (disch := first | assumption | rfl | omega | decide | exact zb_01 _) only [zabs_e, zmax_e, zmin_e, zrf_s, zpush_s, zpush_n, zw_app, upd_app, updL_app, Nat.reduceEqDiff, Nat.add_left_cancel_iff, Nat.add_eq_left, Nat.left_eq_add, ↓reduceIte, true_and, and_true, Int32.reduceToNatClampNeg, zin_O, zi_ltO, zi_leO, zi_Olt, zi_Ole, zi_eqO, Nat.not_lt_zero, Nat.zero_le, List.append_nil, zrn_n, zrn_s, List.cons_append, List.nil_append, zlg_lt, zlg_gt, zlg_le, zlg_ge, zlg_eq, Int32.toInt_toInt64, Int64.reduceToInt, zw_zw, zw_sw1, zw_sw2, zw_sw3, zw_sw4, zw_sw5, zw_sw6, zw_sw7, ne_eq, zi_in, zi_cl, zi_le, zi_lt, zi_eq, zi_neg, zi_0le, zb_0, if_true, if_false, eq_self, zb_T, zb_F, Bool.false_eq_true, zO_eq, zO_ne1, zO_ne2, zO_nn, zi_ne1, zi_ne2, zi_lt1, zi_le1, zi_lt2, zi_le2, Int32.reduceLT, Int32.reduceLE, Nat.reduceLT, Nat.reduceLeDiff, Int32.reduceMul, Int32.reduceAdd, Int32.reduceSub, not_false_eq_true, not_true_eq_false, Int32.reduceToInt, Int.reduceLE, Int.reduceLT, Int.reduceNeg, ite_self, R_X10_straight, SHF, PF, h1, h2, hdiv, hrem, n84, m84, p24, nI_pred, zi_a24, q0, q1, m_sizeOf, hm, hw, hw', hb, hb', h10, zi_s]
    · have f1 := fin _ ((zmax_nle hm).symm.trans eS.symm)
      have hm' : zabs s1 < zabs s0 := Int32.not_le.mp hm
      rw [← f1]
      by_cases hw : ww < 0
      · have hw' : ¬ 0 ≤ ww := Int32.not_le.mpr hw
        simp (disch := first | assumption | rfl | omega | decide | exact zb_01 _) only [zabs_e, zmax_e, zmin_e, zrf_s, zpush_s, zpush_n, zw_app, upd_app, updL_app, Nat.reduceEqDiff, Nat.add_left_cancel_iff, Nat.add_eq_left, Nat.left_eq_add, ↓reduceIte, true_and, and_true, Int32.reduceToNatClampNeg, zin_O, zi_ltO, zi_leO, zi_Olt, zi_Ole, zi_eqO, Nat.not_lt_zero, Nat.zero_le, List.append_nil, zrn_n, zrn_s, List.cons_append, List.nil_append, zlg_lt, zlg_gt, zlg_le, zlg_ge, zlg_eq, Int32.toInt_toInt64, Int64.reduceToInt, zw_zw, zw_sw1, zw_sw2, zw_sw3, zw_sw4, zw_sw5, zw_sw6, zw_sw7, ne_eq, zi_in, zi_cl, zi_le, zi_lt, zi_eq, zi_neg, zi_0le, zb_0, if_true, if_false, eq_self, zb_T, zb_F, Bool.false_eq_true, zO_eq, zO_ne1, zO_ne2, zO_nn, zi_ne1, zi_ne2, zi_lt1, zi_le1, zi_lt2, zi_le2, Int32.reduceLT, Int32.reduceLE, Nat.reduceLT, Nat.reduceLeDiff, Int32.reduceMul, Int32.reduceAdd, Int32.reduceSub, not_false_eq_true, not_true_eq_false, Int32.reduceToInt, Int.reduceLE, Int.reduceLT, Int.reduceNeg, ite_self, R_X10_straight, SHF, PF, h1, h2, hdiv, hrem, n84, m84, p24, nI_pred, zi_a24, q0, q1, m_sizeOf, hm, hm', hw, hw', h10, zi_s]
      · have hw' : 0 ≤ ww := Int32.not_lt.mp hw
        by_cases hb : bb ≤ zabs s0
        · have hb' : ¬ zabs s0 < bb := Int32.not_lt.mpr hb
          simp (disch := first | assumption | rfl | omega | decide | exact zb_01 _) only [zabs_e, zmax_e, zmin_e, zrf_s, zpush_s, zpush_n, zw_app, upd_app, updL_app, Nat.reduceEqDiff, Nat.add_left_cancel_iff, Nat.add_eq_left, Nat.left_eq_add, ↓reduceIte, true_and, and_true, Int32.reduceToNatClampNeg, zin_O, zi_ltO, zi_leO, zi_Olt, zi_Ole, zi_eqO, Nat.not_lt_zero, Nat.zero_le, List.append_nil, zrn_n, zrn_s, List.cons_append, List.nil_append, zlg_lt, zlg_gt, zlg_le, zlg_ge, zlg_eq, Int32.toInt_toInt64, Int64.reduceToInt, zw_zw, zw_sw1, zw_sw2, zw_sw3, zw_sw4, zw_sw5, zw_sw6, zw_sw7, ne_eq, zi_in, zi_cl, zi_le, zi_lt, zi_eq, zi_neg, zi_0le, zb_0, if_true, if_false, eq_self, zb_T, zb_F, Bool.false_eq_true, zO_eq, zO_ne1, zO_ne2, zO_nn, zi_ne1, zi_ne2, zi_lt1, zi_le1, zi_lt2, zi_le2, Int32.reduceLT, Int32.reduceLE, Nat.reduceLT, Nat.reduceLeDiff, Int32.reduceMul, Int32.reduceAdd, Int32.reduceSub, not_false_eq_true, not_true_eq_false, Int32.reduceToInt, Int.reduceLE, Int.reduceLT, Int.reduceNeg, ite_self, R_X10_straight, SHF, PF, h1, h2, hdiv, hrem, n84, m84, p24, nI_pred, zi_a24, q0, q1, m_sizeOf, hm, hm', hw, hw', hb, hb', h10, zi_s]
        · have hb' : zabs s0 < bb := Int32.not_le.mp hb
          simp (disch := first | assumption | rfl | omega | decide | exact zb_01 _) only [zabs_e, zmax_e, zmin_e, zrf_s, zpush_s, zpush_n, zw_app, upd_app, updL_app, Nat.reduceEqDiff, Nat.add_left_cancel_iff, Nat.add_eq_left, Nat.left_eq_add, ↓reduceIte, true_and, and_true, Int32.reduceToNatClampNeg, zin_O, zi_ltO, zi_leO, zi_Olt, zi_Ole, zi_eqO, Nat.not_lt_zero, Nat.zero_le, List.append_nil, zrn_n, zrn_s, List.cons_append, List.nil_append, zlg_lt, zlg_gt, zlg_le, zlg_ge, zlg_eq, Int32.toInt_toInt64, Int64.reduceToInt, zw_zw, zw_sw1, zw_sw2, zw_sw3, zw_sw4, zw_sw5, zw_sw6, zw_sw7, ne_eq, zi_in, zi_cl, zi_le, zi_lt, zi_eq, zi_neg, zi_0le, zb_0, if_true, if_false, eq_self, zb_T, zb_F, Bool.false_eq_true, zO_eq, zO_ne1, zO_ne2, zO_nn, zi_ne1, zi_ne2, zi_lt1, zi_le1, zi_lt2, zi_le2, Int32.reduceLT, Int32.reduceLE, Nat.reduceLT, Nat.reduceLeDiff, Int32.reduceMul, Int32.reduceAdd, Int32.reduceSub, not_false_eq_true, not_true_eq_false, Int32.reduceToInt, Int.reduceLE, Int.reduceLT, Int.reduceNeg, ite_self, R_X10_straight, SHF, PF, h1, h2, hdiv, hrem, n84, m84, p24, nI_pred, zi_a24, q0, q1, m_sizeOf, hm, hm', hw, hw', hb, hb', h10, zi_s]
theorem zSt_c {n : Nat} {p : Int32} {P P' X X' Y Y' : Nat → Int32} {wx wy : Int32} (hp : ∀ j, j < n → P j = P' j) (hx : ∀ j, j < n → X j = X' j) (hy : ∀ j, j < n → Y j = Y' j) : zSt n p P X Y wx wy = zSt n p P' X' Y' wx wy := by
  funext u v
  have up : ∀ {A B : Nat → Int32} (x : Int32), (∀ j, j < n → A j = B j) → ∀ j, j < n + 1 → upd A n x j = upd B n x j := fun x h j hj => by
    simp only [upd]
    split
    · rfl
    · exact h j (by omega)
  unfold zSt
  rw [psh_congr (up p hp) (up (nI u - 4) hx) (Nat.succ_pos n), psh_congr (up p hp) (up (nI v - 4) hy) (Nat.succ_pos n)]
theorem op_straight (hR : zRel I L f g) (x y : Int32) : zOp 91 166 [.int x, .int y] I L f g t := by
  obtain ⟨law, n, k, a, b, z, bb, hfg, ht, hw, hp, hs, hi, hc, hy, hl, hb, hr, hh, hf⟩ := id hR
  have hn := ht.1
  have hn8 := ht.2.1
  have h24 := ht.2.2.1
  rcases zrg x (1) (9) (1) (9) (by decide) (by decide) with ⟨h1, h2, h3, h4, h5⟩ | ⟨h1, h2⟩
  · rcases zrg y (0) (1) (0) (1) (by decide) (by decide) with ⟨k1, k2, k3, k4, k5⟩ | ⟨k1, k2⟩
    · by_cases n24 : n = 24
      · subst n24
        refine zOp_s hR (.int (-3)) (fun d Q => ?_) (fun d Q => ?_)
        · simp (disch := first | assumption | rfl | omega | decide | exact zb_01 _) only [zabs_e, zmax_e, zmin_e, zrf_s, zpush_s, zpush_n, zw_app, upd_app, updL_app, Nat.reduceEqDiff, Nat.add_left_cancel_iff, Nat.add_eq_left, Nat.left_eq_add, ↓reduceIte, true_and, and_true, Int32.reduceToNatClampNeg, zin_O, zi_ltO, zi_leO, zi_Olt, zi_Ole, zi_eqO, Nat.not_lt_zero, Nat.zero_le, List.append_nil, zrn_n, zrn_s, List.cons_append, List.nil_append, zlg_lt, zlg_gt, zlg_le, zlg_ge, zlg_eq, Int32.toInt_toInt64, Int64.reduceToInt, zw_zw, zw_sw1, zw_sw2, zw_sw3, zw_sw4, zw_sw5, zw_sw6, zw_sw7, ne_eq, zi_in, zi_cl, zi_le, zi_lt, zi_eq, zi_neg, zi_0le, zb_0, if_true, if_false, eq_self, zb_T, zb_F, Bool.false_eq_true, zO_eq, zO_ne1, zO_ne2, zO_nn, zi_ne1, zi_ne2, zi_lt1, zi_le1, zi_lt2, zi_le2, Int32.reduceLT, Int32.reduceLE, Nat.reduceLT, Nat.reduceLeDiff, Int32.reduceMul, Int32.reduceAdd, Int32.reduceSub, not_false_eq_true, not_true_eq_false, Int32.reduceToInt, Int.reduceLE, Int.reduceLT, Int.reduceNeg, ite_self, E_X9_straight, R_X9_straight, SHF, PF, h2, h3, h4, h5, k2, k3, k4, k5, hn]
        · simp (disch := first | assumption | rfl | omega | decide | exact zb_01 _) only [zabs_e, zmax_e, zmin_e, zrf_s, zpush_s, zpush_n, zw_app, upd_app, updL_app, Nat.reduceEqDiff, Nat.add_left_cancel_iff, Nat.add_eq_left, Nat.left_eq_add, ↓reduceIte, true_and, and_true, Int32.reduceToNatClampNeg, zin_O, zi_ltO, zi_leO, zi_Olt, zi_Ole, zi_eqO, Nat.not_lt_zero, Nat.zero_le, List.append_nil, zrn_n, zrn_s, List.cons_append, List.nil_append, zlg_lt, zlg_gt, zlg_le, zlg_ge, zlg_eq, Int32.toInt_toInt64, Int64.reduceToInt, zw_zw, zw_sw1, zw_sw2, zw_sw3, zw_sw4, zw_sw5, zw_sw6, zw_sw7, ne_eq, zi_in, zi_cl, zi_le, zi_lt, zi_eq, zi_neg, zi_0le, zb_0, if_true, if_false, eq_self, zb_T, zb_F, Bool.false_eq_true, zO_eq, zO_ne1, zO_ne2, zO_nn, zi_ne1, zi_ne2, zi_lt1, zi_le1, zi_lt2, zi_le2, Int32.reduceLT, Int32.reduceLE, Nat.reduceLT, Nat.reduceLeDiff, Int32.reduceMul, Int32.reduceAdd, Int32.reduceSub, not_false_eq_true, not_true_eq_false, Int32.reduceToInt, Int.reduceLE, Int.reduceLT, Int.reduceNeg, ite_self, E_X10_straight, R_X10_straight, SHF, PF, m_within, h1, h2, h3, k1, hn8]
      · by_cases n0 : n = 0
        · subst n0
          refine zOp_s hR (.int (-5)) (fun d Q => ?_) (fun d Q => ?_)
          · simp (disch := first | assumption | rfl | omega | decide | exact zb_01 _) only [zabs_e, zmax_e, zmin_e, zrf_s, zpush_s, zpush_n, zw_app, upd_app, updL_app, Nat.reduceEqDiff, Nat.add_left_cancel_iff, Nat.add_eq_left, Nat.left_eq_add, ↓reduceIte, true_and, and_true, Int32.reduceToNatClampNeg, zin_O, zi_ltO, zi_leO, zi_Olt, zi_Ole, zi_eqO, Nat.not_lt_zero, Nat.zero_le, List.append_nil, zrn_n, zrn_s, List.cons_append, List.nil_append, zlg_lt, zlg_gt, zlg_le, zlg_ge, zlg_eq, Int32.toInt_toInt64, Int64.reduceToInt, zw_zw, zw_sw1, zw_sw2, zw_sw3, zw_sw4, zw_sw5, zw_sw6, zw_sw7, ne_eq, zi_in, zi_cl, zi_le, zi_lt, zi_eq, zi_neg, zi_0le, zb_0, if_true, if_false, eq_self, zb_T, zb_F, Bool.false_eq_true, zO_eq, zO_ne1, zO_ne2, zO_nn, zi_ne1, zi_ne2, zi_lt1, zi_le1, zi_lt2, zi_le2, Int32.reduceLT, Int32.reduceLE, Nat.reduceLT, Nat.reduceLeDiff, Int32.reduceMul, Int32.reduceAdd, Int32.reduceSub, not_false_eq_true, not_true_eq_false, Int32.reduceToInt, Int.reduceLE, Int.reduceLT, Int.reduceNeg, ite_self, E_X9_straight, R_X9_straight, SHF, PF, h2, h3, h4, h5, k2, k3, k4, k5, hn]
          · simp (disch := first | assumption | rfl | omega | decide | exact zb_01 _) only [zabs_e, zmax_e, zmin_e, zrf_s, zpush_s, zpush_n, zw_app, upd_app, updL_app, Nat.reduceEqDiff, Nat.add_left_cancel_iff, Nat.add_eq_left, Nat.left_eq_add, ↓reduceIte, true_and, and_true, Int32.reduceToNatClampNeg, zin_O, zi_ltO, zi_leO, zi_Olt, zi_Ole, zi_eqO, Nat.not_lt_zero, Nat.zero_le, List.append_nil, zrn_n, zrn_s, List.cons_append, List.nil_append, zlg_lt, zlg_gt, zlg_le, zlg_ge, zlg_eq, Int32.toInt_toInt64, Int64.reduceToInt, zw_zw, zw_sw1, zw_sw2, zw_sw3, zw_sw4, zw_sw5, zw_sw6, zw_sw7, ne_eq, zi_in, zi_cl, zi_le, zi_lt, zi_eq, zi_neg, zi_0le, zb_0, if_true, if_false, eq_self, zb_T, zb_F, Bool.false_eq_true, zO_eq, zO_ne1, zO_ne2, zO_nn, zi_ne1, zi_ne2, zi_lt1, zi_le1, zi_lt2, zi_le2, Int32.reduceLT, Int32.reduceLE, Nat.reduceLT, Nat.reduceLeDiff, Int32.reduceMul, Int32.reduceAdd, Int32.reduceSub, not_false_eq_true, not_true_eq_false, Int32.reduceToInt, Int.reduceLE, Int.reduceLT, Int.reduceNeg, ite_self, E_X10_straight, R_X10_straight, SHF, PF, m_within, h1, h2, h3, k1, hn8]
        · have l24 : n < 24 := by omega
          have l24' : ¬ 24 ≤ n := by omega
          have n84 : n < 84 := by omega
          have m84 : 24 + n < 84 := by omega
          obtain ⟨J, hJ, qc⟩ := c_strt_l (f := f) (g := g) (t := t) (L := L) hn l24 x y 80 0 0 I (by omega) (by omega) (by omega) (fun _ _ => rfl)
          have j80 : J 80 = I 80 := hJ 80 (by omega)
          have j81 : J 81 = I 81 := hJ 81 (by omega)
          have j85 : J 85 = I 85 := hJ 85 (by omega)
          have qk := fun d Q => m_countsAll (d := d) (f := f) (g := g) (t := t) (I := J) (L := L) (Q := Q) (n := n) (by rw [j80]; exact hn8) h24
          have qm := m_strt_l (f := f) (g := g) (t := t) (L := L) (I := J) (n := n) (by rw [j80]; exact hn8) l24 x y (upd (zfl n (J 85) (J 91)) n x) (fun j hj => by
            simp only [upd]
            split
            · rfl
            · exact zfl_lt (by omega)) 81 0 (J 81) (by omega) (fun _ _ _ => rfl)
          have eS : zSt n x (J 85) (J 81) (mSy J) (J 81 72) (J 81 73) = zSt n x (I 2) (I 5) (I 6) (I 0 14) (I 0 15) := by
            rw [mSy_c j81, j81, j85, hw.1.1, hw.1.2.1]
            exact zSt_c (fun j hj => (ht.2.2.2.2 j hj).1) (fun j hj => (ht.2.2.2.2 j hj).2.1) (fun j hj => (ht.2.2.2.2 j hj).2.2.1)
          have hS : ∀ u v, u ≤ 8 → v ≤ 8 → 0 ≤ zSt n x (I 2) (I 5) (I 6) (I 0 14) (I 0 15) u v := zSt_p l24 h1 (fun j hj => by have := (ht.2.2.2.2 j hj).2.2.2.2.1; omega) (fun j hj => (ht.2.2.2.2 j hj).2.2.2.2.2.2.1) (fun j hj => (ht.2.2.2.2 j hj).2.2.2.2.2.2.2) hw.2.1 hw.2.2.1
          rw [eS, ← (zcmB hS 80 (by decide)).1] at qm
          refine zOp_m (.int (if y = 0 then (zcB (zSt n x (I 2) (I 5) (I 6) (I 0 14) (I 0 15)) 81).2 else (zcB (zSt n x (I 2) (I 5) (I 6) (I 0 14) (I 0 15)) 81).1)) J (zw J 91 (upd (zfl n (J 85) (J 91)) n x)) (fun d Q => ?_) (fun d Q => ?_) (zRel_th hR hJ _)
          · rw [← qc (d + 1) Q (.retAddr 0)]
            simp (disch := first | assumption | rfl | omega | decide | exact zb_01 _) only [zabs_e, zmax_e, zmin_e, zrf_s, zpush_s, zpush_n, zw_app, upd_app, updL_app, Nat.reduceEqDiff, Nat.add_left_cancel_iff, Nat.add_eq_left, Nat.left_eq_add, ↓reduceIte, true_and, and_true, Int32.reduceToNatClampNeg, zin_O, zi_ltO, zi_leO, zi_Olt, zi_Ole, zi_eqO, Nat.not_lt_zero, Nat.zero_le, List.append_nil, zrn_n, zrn_s, List.cons_append, List.nil_append, zlg_lt, zlg_gt, zlg_le, zlg_ge, zlg_eq, Int32.toInt_toInt64, Int64.reduceToInt, zw_zw, zw_sw1, zw_sw2, zw_sw3, zw_sw4, zw_sw5, zw_sw6, zw_sw7, ne_eq, zi_in, zi_cl, zi_le, zi_lt, zi_eq, zi_neg, zi_0le, zb_0, if_true, if_false, eq_self, zb_T, zb_F, Bool.false_eq_true, zO_eq, zO_ne1, zO_ne2, zO_nn, zi_ne1, zi_ne2, zi_lt1, zi_le1, zi_lt2, zi_le2, Int32.reduceLT, Int32.reduceLE, Nat.reduceLT, Nat.reduceLeDiff, Int32.reduceMul, Int32.reduceAdd, Int32.reduceSub, not_false_eq_true, not_true_eq_false, Int32.reduceToInt, Int.reduceLE, Int.reduceLT, Int.reduceNeg, ite_self, E_X9_straight, R_X9_straight, SHF, PF, h2, h3, h4, h5, k2, k3, k4, k5, hn, n0, l24, l24']
            rw [H_X9_straight_59]
            simp (disch := first | assumption | rfl | omega | decide | exact zb_01 _) only [zabs_e, zmax_e, zmin_e, zrf_s, zpush_s, zpush_n, zw_app, upd_app, updL_app, Nat.reduceEqDiff, Nat.add_left_cancel_iff, Nat.add_eq_left, Nat.left_eq_add, ↓reduceIte, true_and, and_true, Int32.reduceToNatClampNeg, zin_O, zi_ltO, zi_leO, zi_Olt, zi_Ole, zi_eqO, Nat.not_lt_zero, Nat.zero_le, List.append_nil, zrn_n, zrn_s, List.cons_append, List.nil_append, zlg_lt, zlg_gt, zlg_le, zlg_ge, zlg_eq, Int32.toInt_toInt64, Int64.reduceToInt, zw_zw, zw_sw1, zw_sw2, zw_sw3, zw_sw4, zw_sw5, zw_sw6, zw_sw7, ne_eq, zi_in, zi_cl, zi_le, zi_lt, zi_eq, zi_neg, zi_0le, zb_0, if_true, if_false, eq_self, zb_T, zb_F, Bool.false_eq_true, zO_eq, zO_ne1, zO_ne2, zO_nn, zi_ne1, zi_ne2, zi_lt1, zi_le1, zi_lt2, zi_le2, Int32.reduceLT, Int32.reduceLE, Nat.reduceLT, Nat.reduceLeDiff, Int32.reduceMul, Int32.reduceAdd, Int32.reduceSub, not_false_eq_true, not_true_eq_false, Int32.reduceToInt, Int.reduceLE, Int.reduceLT, Int.reduceNeg, ite_self, R_X9_straight, SHF, PF]
            rw [show nI 0 - 4 = -4 by decide]
            rfl
          · rw [← qm (d + 1) Q (.retAddr 0) (.retAddr 0) (.retAddr 0)]
            simp (disch := first | assumption | rfl | omega | decide | exact zb_01 _) only [zabs_e, zmax_e, zmin_e, zrf_s, zpush_s, zpush_n, zw_app, upd_app, updL_app, Nat.reduceEqDiff, Nat.add_left_cancel_iff, Nat.add_eq_left, Nat.left_eq_add, ↓reduceIte, true_and, and_true, Int32.reduceToNatClampNeg, zin_O, zi_ltO, zi_leO, zi_Olt, zi_Ole, zi_eqO, Nat.not_lt_zero, Nat.zero_le, List.append_nil, zrn_n, zrn_s, List.cons_append, List.nil_append, zlg_lt, zlg_gt, zlg_le, zlg_ge, zlg_eq, Int32.toInt_toInt64, Int64.reduceToInt, zw_zw, zw_sw1, zw_sw2, zw_sw3, zw_sw4, zw_sw5, zw_sw6, zw_sw7, ne_eq, zi_in, zi_cl, zi_le, zi_lt, zi_eq, zi_neg, zi_0le, zb_0, if_true, if_false, eq_self, zb_T, zb_F, Bool.false_eq_true, zO_eq, zO_ne1, zO_ne2, zO_nn, zi_ne1, zi_ne2, zi_lt1, zi_le1, zi_lt2, zi_le2, Int32.reduceLT, Int32.reduceLE, Nat.reduceLT, Nat.reduceLeDiff, Int32.reduceMul, Int32.reduceAdd, Int32.reduceSub, not_false_eq_true, not_true_eq_false, Int32.reduceToInt, Int.reduceLE, Int.reduceLT, Int.reduceNeg, ite_self, E_X10_straight, R_X10_straight, SHF, PF, m_within, h1, h2, h3, k1, j80, hn8, n24, n0, qk, n84, m84, zi_a24, zi_s, l24]
            rw [zw_same (f := zw J 91 (upd (zfl n (J 85) (J 91)) n x)) (a := 81) (g := J 81) (zw_n (by decide))]
            rfl
    · refine zOp_s hR (.int (-1)) (fun d Q => ?_) (fun d Q => ?_)
      · rcases k2 with ⟨k2, k3⟩ | ⟨k2, k3, k4, k5⟩
        · simp (disch := first | assumption | rfl | omega | decide | exact zb_01 _) only [zabs_e, zmax_e, zmin_e, zrf_s, zpush_s, zpush_n, zw_app, upd_app, updL_app, Nat.reduceEqDiff, Nat.add_left_cancel_iff, Nat.add_eq_left, Nat.left_eq_add, ↓reduceIte, true_and, and_true, Int32.reduceToNatClampNeg, zin_O, zi_ltO, zi_leO, zi_Olt, zi_Ole, zi_eqO, Nat.not_lt_zero, Nat.zero_le, List.append_nil, zrn_n, zrn_s, List.cons_append, List.nil_append, zlg_lt, zlg_gt, zlg_le, zlg_ge, zlg_eq, Int32.toInt_toInt64, Int64.reduceToInt, zw_zw, zw_sw1, zw_sw2, zw_sw3, zw_sw4, zw_sw5, zw_sw6, zw_sw7, ne_eq, zi_in, zi_cl, zi_le, zi_lt, zi_eq, zi_neg, zi_0le, zb_0, if_true, if_false, eq_self, zb_T, zb_F, Bool.false_eq_true, zO_eq, zO_ne1, zO_ne2, zO_nn, zi_ne1, zi_ne2, zi_lt1, zi_le1, zi_lt2, zi_le2, Int32.reduceLT, Int32.reduceLE, Nat.reduceLT, Nat.reduceLeDiff, Int32.reduceMul, Int32.reduceAdd, Int32.reduceSub, not_false_eq_true, not_true_eq_false, Int32.reduceToInt, Int.reduceLE, Int.reduceLT, Int.reduceNeg, ite_self, E_X9_straight, R_X9_straight, SHF, PF, h2, h3, h4, h5, k2, k3]
        · simp (disch := first | assumption | rfl | omega | decide | exact zb_01 _) only [zabs_e, zmax_e, zmin_e, zrf_s, zpush_s, zpush_n, zw_app, upd_app, updL_app, Nat.reduceEqDiff, Nat.add_left_cancel_iff, Nat.add_eq_left, Nat.left_eq_add, ↓reduceIte, true_and, and_true, Int32.reduceToNatClampNeg, zin_O, zi_ltO, zi_leO, zi_Olt, zi_Ole, zi_eqO, Nat.not_lt_zero, Nat.zero_le, List.append_nil, zrn_n, zrn_s, List.cons_append, List.nil_append, zlg_lt, zlg_gt, zlg_le, zlg_ge, zlg_eq, Int32.toInt_toInt64, Int64.reduceToInt, zw_zw, zw_sw1, zw_sw2, zw_sw3, zw_sw4, zw_sw5, zw_sw6, zw_sw7, ne_eq, zi_in, zi_cl, zi_le, zi_lt, zi_eq, zi_neg, zi_0le, zb_0, if_true, if_false, eq_self, zb_T, zb_F, Bool.false_eq_true, zO_eq, zO_ne1, zO_ne2, zO_nn, zi_ne1, zi_ne2, zi_lt1, zi_le1, zi_lt2, zi_le2, Int32.reduceLT, Int32.reduceLE, Nat.reduceLT, Nat.reduceLeDiff, Int32.reduceMul, Int32.reduceAdd, Int32.reduceSub, not_false_eq_true, not_true_eq_false, Int32.reduceToInt, Int.reduceLE, Int.reduceLT, Int.reduceNeg, ite_self, E_X9_straight, R_X9_straight, SHF, PF, h2, h3, h4, h5, k2, k3, k4, k5]
      · simp (disch := first | assumption | rfl | omega | decide | exact zb_01 _) only [zabs_e, zmax_e, zmin_e, zrf_s, zpush_s, zpush_n, zw_app, upd_app, updL_app, Nat.reduceEqDiff, Nat.add_left_cancel_iff, Nat.add_eq_left, Nat.left_eq_add, ↓reduceIte, true_and, and_true, Int32.reduceToNatClampNeg, zin_O, zi_ltO, zi_leO, zi_Olt, zi_Ole, zi_eqO, Nat.not_lt_zero, Nat.zero_le, List.append_nil, zrn_n, zrn_s, List.cons_append, List.nil_append, zlg_lt, zlg_gt, zlg_le, zlg_ge, zlg_eq, Int32.toInt_toInt64, Int64.reduceToInt, zw_zw, zw_sw1, zw_sw2, zw_sw3, zw_sw4, zw_sw5, zw_sw6, zw_sw7, ne_eq, zi_in, zi_cl, zi_le, zi_lt, zi_eq, zi_neg, zi_0le, zb_0, if_true, if_false, eq_self, zb_T, zb_F, Bool.false_eq_true, zO_eq, zO_ne1, zO_ne2, zO_nn, zi_ne1, zi_ne2, zi_lt1, zi_le1, zi_lt2, zi_le2, Int32.reduceLT, Int32.reduceLE, Nat.reduceLT, Nat.reduceLeDiff, Int32.reduceMul, Int32.reduceAdd, Int32.reduceSub, not_false_eq_true, not_true_eq_false, Int32.reduceToInt, Int.reduceLE, Int.reduceLT, Int.reduceNeg, ite_self, E_X10_straight, R_X10_straight, SHF, PF, m_within, h1, k1]
  · refine zOp_s hR (.int (-1)) (fun d Q => ?_) (fun d Q => ?_)
    · rcases h2 with ⟨h2, h3⟩ | ⟨h2, h3, h4, h5⟩
      · simp (disch := first | assumption | rfl | omega | decide | exact zb_01 _) only [zabs_e, zmax_e, zmin_e, zrf_s, zpush_s, zpush_n, zw_app, upd_app, updL_app, Nat.reduceEqDiff, Nat.add_left_cancel_iff, Nat.add_eq_left, Nat.left_eq_add, ↓reduceIte, true_and, and_true, Int32.reduceToNatClampNeg, zin_O, zi_ltO, zi_leO, zi_Olt, zi_Ole, zi_eqO, Nat.not_lt_zero, Nat.zero_le, List.append_nil, zrn_n, zrn_s, List.cons_append, List.nil_append, zlg_lt, zlg_gt, zlg_le, zlg_ge, zlg_eq, Int32.toInt_toInt64, Int64.reduceToInt, zw_zw, zw_sw1, zw_sw2, zw_sw3, zw_sw4, zw_sw5, zw_sw6, zw_sw7, ne_eq, zi_in, zi_cl, zi_le, zi_lt, zi_eq, zi_neg, zi_0le, zb_0, if_true, if_false, eq_self, zb_T, zb_F, Bool.false_eq_true, zO_eq, zO_ne1, zO_ne2, zO_nn, zi_ne1, zi_ne2, zi_lt1, zi_le1, zi_lt2, zi_le2, Int32.reduceLT, Int32.reduceLE, Nat.reduceLT, Nat.reduceLeDiff, Int32.reduceMul, Int32.reduceAdd, Int32.reduceSub, not_false_eq_true, not_true_eq_false, Int32.reduceToInt, Int.reduceLE, Int.reduceLT, Int.reduceNeg, ite_self, E_X9_straight, R_X9_straight, SHF, PF, h2, h3]
      · simp (disch := first | assumption | rfl | omega | decide | exact zb_01 _) only [zabs_e, zmax_e, zmin_e, zrf_s, zpush_s, zpush_n, zw_app, upd_app, updL_app, Nat.reduceEqDiff, Nat.add_left_cancel_iff, Nat.add_eq_left, Nat.left_eq_add, ↓reduceIte, true_and, and_true, Int32.reduceToNatClampNeg, zin_O, zi_ltO, zi_leO, zi_Olt, zi_Ole, zi_eqO, Nat.not_lt_zero, Nat.zero_le, List.append_nil, zrn_n, zrn_s, List.cons_append, List.nil_append, zlg_lt, zlg_gt, zlg_le, zlg_ge, zlg_eq, Int32.toInt_toInt64, Int64.reduceToInt, zw_zw, zw_sw1, zw_sw2, zw_sw3, zw_sw4, zw_sw5, zw_sw6, zw_sw7, ne_eq, zi_in, zi_cl, zi_le, zi_lt, zi_eq, zi_neg, zi_0le, zb_0, if_true, if_false, eq_self, zb_T, zb_F, Bool.false_eq_true, zO_eq, zO_ne1, zO_ne2, zO_nn, zi_ne1, zi_ne2, zi_lt1, zi_le1, zi_lt2, zi_le2, Int32.reduceLT, Int32.reduceLE, Nat.reduceLT, Nat.reduceLeDiff, Int32.reduceMul, Int32.reduceAdd, Int32.reduceSub, not_false_eq_true, not_true_eq_false, Int32.reduceToInt, Int.reduceLE, Int.reduceLT, Int.reduceNeg, ite_self, E_X9_straight, R_X9_straight, SHF, PF, h2, h3, h4, h5]
    · simp (disch := first | assumption | rfl | omega | decide | exact zb_01 _) only [zabs_e, zmax_e, zmin_e, zrf_s, zpush_s, zpush_n, zw_app, upd_app, updL_app, Nat.reduceEqDiff, Nat.add_left_cancel_iff, Nat.add_eq_left, Nat.left_eq_add, ↓reduceIte, true_and, and_true, Int32.reduceToNatClampNeg, zin_O, zi_ltO, zi_leO, zi_Olt, zi_Ole, zi_eqO, Nat.not_lt_zero, Nat.zero_le, List.append_nil, zrn_n, zrn_s, List.cons_append, List.nil_append, zlg_lt, zlg_gt, zlg_le, zlg_ge, zlg_eq, Int32.toInt_toInt64, Int64.reduceToInt, zw_zw, zw_sw1, zw_sw2, zw_sw3, zw_sw4, zw_sw5, zw_sw6, zw_sw7, ne_eq, zi_in, zi_cl, zi_le, zi_lt, zi_eq, zi_neg, zi_0le, zb_0, if_true, if_false, eq_self, zb_T, zb_F, Bool.false_eq_true, zO_eq, zO_ne1, zO_ne2, zO_nn, zi_ne1, zi_ne2, zi_lt1, zi_le1, zi_lt2, zi_le2, Int32.reduceLT, Int32.reduceLE, Nat.reduceLT, Nat.reduceLeDiff, Int32.reduceMul, Int32.reduceAdd, Int32.reduceSub, not_false_eq_true, not_true_eq_false, Int32.reduceToInt, Int.reduceLE, Int.reduceLT, Int.reduceNeg, ite_self, E_X10_straight, R_X10_straight, SHF, PF, m_within, h1]
end STRT
