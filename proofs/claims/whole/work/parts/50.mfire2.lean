section MFIRE2
variable {d e f g n k m : Nat} {t : Option Nat} {I : Nat → Nat → Int32} {L : Nat → Nat → Int64} {Q : Option Value → zMm → Prop} {law : zLawT}
/-- behind m minutes -/
def zMv (I J : Nat → Nat → Int32) (n : Nat) (law : zLawT) (w : Int32) (m : Nat) : Prop :=
  (∀ a, (a < 80 ∨ (80 < a ∧ a < 90) ∨ a = 92 ∨ 96 < a) → J a = I a) ∧
  (∀ k, (k < 17 ∨ 21 < k) → (k < 29 ∨ 32 < k) → J 80 k = I 80 k) ∧
  (J 80 29, J 80 30, J 80 31, J 80 32) = zbn law n (I 85) (mDm I) (I 81) (mSy I) (I 81 72) (I 81 73) w m ∧
  (∀ k, k < n → J 93 k = zlit (I 85) (mDm I) k) ∧ (∀ k, k < n → J 94 k = zfu law (I 85) (mDm I) w m k) ∧
  (∀ m' k, m' < m → k < n → J 95 (24 * m' + k) = zfu law (I 85) (mDm I) w (m' + 1) k ∧ J 96 (24 * m' + k) = zvb law (I 85) (mDm I) w m' k)
theorem zMv_s {J : Nat → Nat → Int32} {w : Int32} {A N F : Nat → Int32} (h24 : n ≤ 24) (hA : ∀ k, (k < 17 ∨ 21 < k) → A k = J 80 k) (h : zMv I J n law w m) (hF1 : ∀ k, (k < 29 ∨ 32 < k) → F k = A k) (hF : (F 29, F 30, F 31, F 32) = zbn law n (I 85) (mDm I) (I 81) (mSy I) (I 81 72) (I 81 73) w (m + 1)) : zMv I (zw (zMM J m n (zfu law (I 85) (mDm I) w (m + 1)) (zvb law (I 85) (mDm I) w m) (zcn law (I 85) (mDm I) w m) A N) 80 F) n law w (m + 1) := by
  obtain ⟨b1, b2, b3, b4, b5, b6⟩ := h
  refine ⟨fun a h1 => ?_, fun k h1 h2 => ?_, hF, fun k hk => ?_, fun k hk => ?_, fun m' k hm hk => ?_⟩
  · rw [zw_n (by omega), zMM_o J (by omega)]
    exact b1 a h1
  · rw [zw_s, hF1 k h2, hA k h1]
    exact b2 k h1 h2
  · rw [zw_n (by decide), zMM_o J (by omega)]
    exact b4 k hk
  · rw [zw_n (by decide), zMM_94, zfl_lt hk]
  · rw [zw_n (by decide), zw_n (by decide), zMM_95, zMM_96]
    by_cases h1 : m' = m
    · subst h1
      exact ⟨zlf_at hk, zlf_at hk⟩
    · rw [zlf_o (by omega), zlf_o (by omega)]
      exact b6 m' k (by omega) hk
theorem zng_1 {x : Int32} (h : x = -2 ∨ ∃ j, j < 61 ∧ x = nI j) : (0 ≤ x) = ¬ x = -2 := by
  rcases h with h | ⟨j, hj, h⟩
  · subst h
    exact propext ⟨fun z => absurd z (by decide), fun z => absurd rfl z⟩
  · subst h
    rw [zi_0le (by omega), zi_ne1 (n := j) (m := 2) (by omega) (by omega) (by omega), not_false_eq_true]
theorem m_out {J : Nat → Nat → Int32} {G : Prop} [Decidable G] {s : Int32} (hs : s = 0 ↔ G) (h32 : J 80 32 = -2 ∨ ∃ j, j < 61 ∧ J 80 32 = nI j) (l1 : Int32) (l3 l4 : Value) : zWp d zi_172 none 194 [.ref 80, .int l1, .int s, l3, l4] [] (zSH, J, L, zP f g t) Q = zWp d zi_172 none 217 [.ref 80, .int l1, .int s, l3, l4] [] (zSH, zw J 80 (upd (J 80) 32 (if G ∧ J 80 32 = -2 then l1 else J 80 32)), L, zP f g t) Q := by
  have e := zng_1 h32
  by_cases h1 : J 80 32 = -2
  · have e1 : ¬ 0 ≤ J 80 32 := by rw [e]; exact not_not_intro h1
    by_cases h2 : s = 0
    · rw [if_pos ⟨hs.mp h2, h1⟩]
      simp (disch := first | assumption | rfl | omega | decide | exact zb_01 _) only [zabs_e, zmax_e, zmin_e, zrf_s, zpush_s, zpush_n, zw_app, upd_app, updL_app, Nat.reduceEqDiff, Nat.add_left_cancel_iff, Nat.add_eq_left, Nat.left_eq_add, ↓reduceIte, true_and, and_true, Int32.reduceToNatClampNeg, zin_O, zi_ltO, zi_leO, zi_Olt, zi_Ole, zi_eqO, Nat.not_lt_zero, Nat.zero_le, List.append_nil, zrn_n, zrn_s, List.cons_append, List.nil_append, zlg_lt, zlg_gt, zlg_le, zlg_ge, zlg_eq, Int32.toInt_toInt64, Int64.reduceToInt, zw_zw, zw_sw1, zw_sw2, zw_sw3, zw_sw4, zw_sw5, zw_sw6, zw_sw7, ne_eq, zi_in, zi_cl, zi_le, zi_lt, zi_eq, zi_neg, zi_0le, zb_0, if_true, if_false, eq_self, zb_T, zb_F, Bool.false_eq_true, zO_eq, zO_ne1, zO_ne2, zO_nn, zi_ne1, zi_ne2, zi_lt1, zi_le1, zi_lt2, zi_le2, Int32.reduceLT, Int32.reduceLE, Nat.reduceLT, Nat.reduceLeDiff, Int32.reduceMul, Int32.reduceAdd, Int32.reduceSub, not_false_eq_true, not_true_eq_false, R_X10_fire, SHF, PF, e1, h2]
    · rw [if_neg (fun z => h2 (hs.mpr z.1))]
      simp (disch := first | assumption | rfl | omega | decide | exact zb_01 _) only [zabs_e, zmax_e, zmin_e, zrf_s, zpush_s, zpush_n, zw_app, upd_app, updL_app, Nat.reduceEqDiff, Nat.add_left_cancel_iff, Nat.add_eq_left, Nat.left_eq_add, ↓reduceIte, true_and, and_true, Int32.reduceToNatClampNeg, zin_O, zi_ltO, zi_leO, zi_Olt, zi_Ole, zi_eqO, Nat.not_lt_zero, Nat.zero_le, List.append_nil, zrn_n, zrn_s, List.cons_append, List.nil_append, zlg_lt, zlg_gt, zlg_le, zlg_ge, zlg_eq, Int32.toInt_toInt64, Int64.reduceToInt, zw_zw, zw_sw1, zw_sw2, zw_sw3, zw_sw4, zw_sw5, zw_sw6, zw_sw7, ne_eq, zi_in, zi_cl, zi_le, zi_lt, zi_eq, zi_neg, zi_0le, zb_0, if_true, if_false, eq_self, zb_T, zb_F, Bool.false_eq_true, zO_eq, zO_ne1, zO_ne2, zO_nn, zi_ne1, zi_ne2, zi_lt1, zi_le1, zi_lt2, zi_le2, Int32.reduceLT, Int32.reduceLE, Nat.reduceLT, Nat.reduceLeDiff, Int32.reduceMul, Int32.reduceAdd, Int32.reduceSub, not_false_eq_true, not_true_eq_false, R_X10_fire, SHF, PF, e1, h2]
  · have e1 : 0 ≤ J 80 32 := by rw [e]; exact h1
    rw [if_neg (fun z => h1 z.2)]
    simp (disch := first | assumption | rfl | omega | decide | exact zb_01 _) only [zabs_e, zmax_e, zmin_e, zrf_s, zpush_s, zpush_n, zw_app, upd_app, updL_app, Nat.reduceEqDiff, Nat.add_left_cancel_iff, Nat.add_eq_left, Nat.left_eq_add, ↓reduceIte, true_and, and_true, Int32.reduceToNatClampNeg, zin_O, zi_ltO, zi_leO, zi_Olt, zi_Ole, zi_eqO, Nat.not_lt_zero, Nat.zero_le, List.append_nil, zrn_n, zrn_s, List.cons_append, List.nil_append, zlg_lt, zlg_gt, zlg_le, zlg_ge, zlg_eq, Int32.toInt_toInt64, Int64.reduceToInt, zw_zw, zw_sw1, zw_sw2, zw_sw3, zw_sw4, zw_sw5, zw_sw6, zw_sw7, ne_eq, zi_in, zi_cl, zi_le, zi_lt, zi_eq, zi_neg, zi_0le, zb_0, if_true, if_false, eq_self, zb_T, zb_F, Bool.false_eq_true, zO_eq, zO_ne1, zO_ne2, zO_nn, zi_ne1, zi_ne2, zi_lt1, zi_le1, zi_lt2, zi_le2, Int32.reduceLT, Int32.reduceLE, Nat.reduceLT, Nat.reduceLeDiff, Int32.reduceMul, Int32.reduceAdd, Int32.reduceSub, not_false_eq_true, not_true_eq_false, R_X10_fire, SHF, PF, e1]
theorem m_fire_l {w : Int32} (hL : zLm I law) (hn : I 80 6 = nI n) (h24 : n ≤ 24) (hpd : zPD n (I 85) (mDm I)) (hw : zabs (I 81 72) + zabs (I 81 73) = w) : ∀ (c m : Nat) (J : Nat → Nat → Int32), c + m = 61 → zMv I J n law w m → ∃ J', zMv I J' n law w 61 ∧ ∀ d l2 l3 l4 Q, zWp (d + 46) zi_172 none 101 [.ref 80, .int (nI m), l2, l3, l4] [] (zSH, J, L, zP f g t) Q = Q none (zSH, J', L, zP f g t) := by
  intro c
  induction c with
  | zero =>
    intro m J hm hb
    have hm : m = 61 := by omega
    subst hm
    refine ⟨J, hb, fun d l2 l3 l4 Q => ?_⟩
    rw [H_X10_fire_101]
    simp (disch := first | assumption | rfl | omega | decide | exact zb_01 _) only [zabs_e, zmax_e, zmin_e, zrf_s, zpush_s, zpush_n, zw_app, upd_app, updL_app, Nat.reduceEqDiff, Nat.add_left_cancel_iff, Nat.add_eq_left, Nat.left_eq_add, ↓reduceIte, true_and, and_true, Int32.reduceToNatClampNeg, zin_O, zi_ltO, zi_leO, zi_Olt, zi_Ole, zi_eqO, Nat.not_lt_zero, Nat.zero_le, List.append_nil, zrn_n, zrn_s, List.cons_append, List.nil_append, zlg_lt, zlg_gt, zlg_le, zlg_ge, zlg_eq, Int32.toInt_toInt64, Int64.reduceToInt, zw_zw, zw_sw1, zw_sw2, zw_sw3, zw_sw4, zw_sw5, zw_sw6, zw_sw7, ne_eq, zi_in, zi_cl, zi_le, zi_lt, zi_eq, zi_neg, zi_0le, zb_0, if_true, if_false, eq_self, zb_T, zb_F, Bool.false_eq_true, zO_eq, zO_ne1, zO_ne2, zO_nn, zi_ne1, zi_ne2, zi_lt1, zi_le1, zi_lt2, zi_le2, Int32.reduceLT, Int32.reduceLE, Nat.reduceLT, Nat.reduceLeDiff, Int32.reduceMul, Int32.reduceAdd, Int32.reduceSub, not_false_eq_true, not_true_eq_false, R_X10_fire, SHF, PF, Nat.le_refl]
  | succ c ih =>
    intro m J hm hb
    have hm6 : m < 61 := by omega
    have hlt : ¬ 61 ≤ m := by omega
    obtain ⟨b1, b2, b3, b4, b5, b6⟩ := id hb
    have J81 : J 81 = I 81 := b1 81 (by omega)
    have J85 : J 85 = I 85 := b1 85 (by omega)
    have JD : mDm J = mDm I := mDm_c J81
    have JS : mSy J = mSy I := mSy_c J81
    have J6 : J 80 6 = nI n := by rw [b2 6 (by omega) (by omega)]; exact hn
    obtain ⟨A, N, hA, q⟩ := m_min_l (f := f) (g := g) (t := t) (L := L) (J := J) (w := w) (law := law) (n := n) (m := m) (zLm_o (b2 16 (by omega) (by omega)) (b1 89 (by omega)) hL) J6 h24 hm6 (by rw [J85, JD]; exact hpd) (by rw [J81]; exact hw) (by rw [J85, JD]; exact b4) (by rw [J85, JD]; exact b5) n 0 (J 80) (J 90) (by omega) (fun _ _ => rfl)
    rw [zMM_0, J85, JD] at q
    have hsum := (sumI_0 (s := zfu law (I 85) (mDm I) w (m + 1)) n h24 (fun j hj => zfu_bd hpd hj (m + 1))).2
    have c3 := zbn_1 (law := law) (n := n) (p := I 85) (dm := mDm I) (w := w) (sx := I 81) (sy := mSy I) (wx := I 81 72) (wy := I 81 73) m
    have c4 := zbn_4 (law := law) (n := n) (p := I 85) (dm := mDm I) (w := w) (sx := I 81) (sy := mSy I) (wx := I 81 72) (wy := I 81 73) m
    rw [← b3] at c3 c4
    have a29 : A 29 = J 80 29 := hA 29 (by omega)
    have a30 : A 30 = J 80 30 := hA 30 (by omega)
    have a31 : A 31 = J 80 31 := hA 31 (by omega)
    have a32 : A 32 = J 80 32 := hA 32 (by omega)
    have a6 : A 6 = nI n := by rw [hA 6 (by omega)]; exact J6
    have nx := fun F => zMv_s (F := F) (N := N) h24 hA hb
    rw [zbn, ← b3] at nx
    have k80 : zMM J m n (zfu law (I 85) (mDm I) w (m + 1)) (zvb law (I 85) (mDm I) w m) (zcn law (I 85) (mDm I) w m) A N 80 = A := rfl
    have k81 : zMM J m n (zfu law (I 85) (mDm I) w (m + 1)) (zvb law (I 85) (mDm I) w m) (zcn law (I 85) (mDm I) w m) A N 81 = I 81 := by rw [zMM_o J (by omega)]; exact J81
    have k91 : zMM J m n (zfu law (I 85) (mDm I) w (m + 1)) (zvb law (I 85) (mDm I) w m) (zcn law (I 85) (mDm I) w m) A N 91 = zfl n (zcn law (I 85) (mDm I) w m) (J 91) := rfl
    generalize zMM J m n (zfu law (I 85) (mDm I) w (m + 1)) (zvb law (I 85) (mDm I) w m) (zcn law (I 85) (mDm I) w m) A N = J1 at *
    have c4' : J1 80 32 = -2 ∨ ∃ j, j < 61 ∧ J1 80 32 = nI j := by
      rw [k80, a32]
      rcases c4 with h | ⟨j, hj, h⟩
      · exact Or.inl h
      · exact Or.inr ⟨j, by omega, h⟩
    have c3' : A 29 = -2 ∨ ∃ j, j < 61 ∧ A 29 = nI j := by
      rw [a29]
      rcases c3 with h | ⟨j, hj, h⟩
      · exact Or.inl h
      · exact Or.inr ⟨j, by omega, h⟩
    have e3 := zng_1 c3'
    have qo := fun d l1 l3 l4 Q => m_out (d := d) (f := f) (g := g) (t := t) (L := L) (Q := Q) (J := J1) hsum c4' l1 l3 l4
    rw [k80] at qo
    have hcn : ∀ j, j < n → zfl n (zcn law (I 85) (mDm I) w m) (J 91) j = zcn law (I 85) (mDm I) w m j := fun j hj => zfl_lt hj
    have ef := zFa_congr (sx := I 81) (sx' := I 81) (sy := mSy I) (sy' := mSy I) (wx := I 81 72) (wy := I 81 73) hcn (fun _ _ => rfl) (fun _ _ => rfl)
    have key : ∃ F, (∀ k, (k < 29 ∨ 32 < k) → F k = A k) ∧ (F 29, F 30, F 31, F 32) = zbs m (zgn n (zfu law (I 85) (mDm I) w (m + 1))) (zFa n (zcn law (I 85) (mDm I) w m) (I 81) (mSy I) (I 81 72) (I 81 73)) (zWh n (zcn law (I 85) (mDm I) w m) (I 81) (mSy I) (I 81 72) (I 81 73) (zFa n (zcn law (I 85) (mDm I) w m) (I 81) (mSy I) (I 81 72) (I 81 73)).toNatClampNeg) (J 80 29, J 80 30, J 80 31, J 80 32) ∧ ∀ d (l2 : Int32) l3 l4 Q, ∃ l2' l3' l4' : Value, zWp (d + 46) zi_172 none 217 [.ref 80, .int (nI m), .int l2, l3, l4] [] (zSH, zw J1 80 (upd A 32 (if zgn n (zfu law (I 85) (mDm I) w (m + 1)) ∧ A 32 = -2 then nI m else A 32)), L, zP f g t) Q = zWp (d + 46) zi_172 none 101 [.ref 80, .int (nI (m + 1)), l2', l3', l4'] [] (zSH, zw J1 80 F, L, zP f g t) Q := by
      by_cases hm2 : A 29 = -2
      · have e3' : ¬ 0 ≤ A 29 := by rw [e3]; exact not_not_intro hm2
        generalize hx : (if zgn n (zfu law (I 85) (mDm I) w (m + 1)) ∧ A 32 = -2 then nI m else A 32) = x
        rw [a32] at hx
        have qf := fun d Q => m_fallsAt (d := d) (f := f) (g := g) (t := t) (L := L) (Q := Q) (I := zw J1 80 (upd A 32 x)) (n := n) (by rw [zw_s]; exact a6) h24
        have s81 : (zw J1 80 (upd A 32 x)) 81 = I 81 := k81
        have s91 : (zw J1 80 (upd A 32 x)) 91 = zfl n (zcn law (I 85) (mDm I) w m) (J 91) := k91
        have sS : mSy (zw J1 80 (upd A 32 x)) = mSy I := mSy_c s81
        rw [s81, s91, sS] at qf
        rcases zFa_spec (n := n) (p := zfl n (zcn law (I 85) (mDm I) w m) (J 91)) (sx := I 81) (sy := mSy I) (wx := I 81 72) (wy := I 81 73) with h | ⟨k, hk, h, hno⟩
        · rw [h] at qf
          rw [ef] at h
          refine ⟨upd A 32 x, fun k hk => by simp only [upd]; rw [if_neg (by omega)], ?_, fun d l2 l3 l4 Q => ⟨.int l2, .int (-2), l4, ?_⟩⟩
          · simp only [zbs, h, upd, Nat.reduceEqDiff, ↓reduceIte, not_true_eq_false, and_false, a29, a30, a31, hx]
          · have q2 := fun Q => qf (d + 42) Q
            rw [show d + 42 + 4 = d + 46 by omega] at q2
            simp (disch := first | assumption | rfl | omega | decide | exact zb_01 _) only [zabs_e, zmax_e, zmin_e, zrf_s, zpush_s, zpush_n, zw_app, upd_app, updL_app, Nat.reduceEqDiff, Nat.add_left_cancel_iff, Nat.add_eq_left, Nat.left_eq_add, ↓reduceIte, true_and, and_true, Int32.reduceToNatClampNeg, zin_O, zi_ltO, zi_leO, zi_Olt, zi_Ole, zi_eqO, Nat.not_lt_zero, Nat.zero_le, List.append_nil, zrn_n, zrn_s, List.cons_append, List.nil_append, zlg_lt, zlg_gt, zlg_le, zlg_ge, zlg_eq, Int32.toInt_toInt64, Int64.reduceToInt, zw_zw, zw_sw1, zw_sw2, zw_sw3, zw_sw4, zw_sw5, zw_sw6, zw_sw7, ne_eq, zi_in, zi_cl, zi_le, zi_lt, zi_eq, zi_neg, zi_0le, zb_0, if_true, if_false, eq_self, zb_T, zb_F, Bool.false_eq_true, zO_eq, zO_ne1, zO_ne2, zO_nn, zi_ne1, zi_ne2, zi_lt1, zi_le1, zi_lt2, zi_le2, Int32.reduceLT, Int32.reduceLE, Nat.reduceLT, Nat.reduceLeDiff, Int32.reduceMul, Int32.reduceAdd, Int32.reduceSub, not_false_eq_true, not_true_eq_false, R_X10_fire, SHF, PF, e3', q2, zi_s, Int32.reduceLT]
        · rw [h] at qf
          have ew := zWh_congr (n := n) (k := k) (sx := I 81) (sx' := I 81) (sy := mSy I) (sy' := mSy I) (wx := I 81 72) (wy := I 81 73) hcn (fun _ _ => rfl) (fun _ _ => rfl) hk
          have qw := fun d Q => m_whither (d := d) (f := f) (g := g) (t := t) (L := L) (Q := Q) (I := zw J1 80 (upd (upd (upd A 32 x) 29 (nI m)) 30 (nI k))) (n := n) (k := k) (by rw [zw_s]; exact a6) h24 hk (by
            intro j hj
            rw [show (zw J1 80 (upd (upd (upd A 32 x) 29 (nI m)) 30 (nI k))) 91 = zfl n (zcn law (I 85) (mDm I) w m) (J 91) from k91, zfl_lt hj]
            exact zcn_bd hpd m j hj) (by
            have s81 : (zw J1 80 (upd (upd (upd A 32 x) 29 (nI m)) 30 (nI k))) 81 = I 81 := k81
            have s91 : (zw J1 80 (upd (upd (upd A 32 x) 29 (nI m)) 30 (nI k))) 91 = zfl n (zcn law (I 85) (mDm I) w m) (J 91) := k91
            have sS : mSy (zw J1 80 (upd (upd (upd A 32 x) 29 (nI m)) 30 (nI k))) = mSy I := mSy_c s81
            rw [s81, s91, sS]
            exact hno)
          have t81 : (zw J1 80 (upd (upd (upd A 32 x) 29 (nI m)) 30 (nI k))) 81 = I 81 := k81
          have t91 : (zw J1 80 (upd (upd (upd A 32 x) 29 (nI m)) 30 (nI k))) 91 = zfl n (zcn law (I 85) (mDm I) w m) (J 91) := k91
          have tS : mSy (zw J1 80 (upd (upd (upd A 32 x) 29 (nI m)) 30 (nI k))) = mSy I := mSy_c t81
          rw [t81, t91, tS, ew] at qw
          rw [ef] at h
          refine ⟨upd (upd (upd (upd A 32 x) 29 (nI m)) 30 (nI k)) 31 (zWh n (zcn law (I 85) (mDm I) w m) (I 81) (mSy I) (I 81 72) (I 81 73) k), fun k hk => by simp only [upd]; rw [if_neg (by omega), if_neg (by omega), if_neg (by omega), if_neg (by omega)], ?_, fun d l2 l3 l4 Q => ⟨.int l2, .int (nI k), l4, ?_⟩⟩
          · rw [a29] at hm2
            simp only [zbs, h, hm2, zi_cl (show k < 2147483648 by omega), zi_ne1 (show k < 2147483648 by omega) (show 2 < 2147483648 by decide) (by decide), upd, Nat.reduceEqDiff, ↓reduceIte, not_false_eq_true, and_self, hx]
          · have q2 := fun Q => qf (d + 42) Q
            have q3 := fun Q => qw (d + 43) Q
            rw [show d + 42 + 4 = d + 46 by omega] at q2
            rw [show d + 43 + 3 = d + 46 by omega] at q3
            simp (disch := first | assumption | rfl | omega | decide | exact zb_01 _) only [zabs_e, zmax_e, zmin_e, zrf_s, zpush_s, zpush_n, zw_app, upd_app, updL_app, Nat.reduceEqDiff, Nat.add_left_cancel_iff, Nat.add_eq_left, Nat.left_eq_add, ↓reduceIte, true_and, and_true, Int32.reduceToNatClampNeg, zin_O, zi_ltO, zi_leO, zi_Olt, zi_Ole, zi_eqO, Nat.not_lt_zero, Nat.zero_le, List.append_nil, zrn_n, zrn_s, List.cons_append, List.nil_append, zlg_lt, zlg_gt, zlg_le, zlg_ge, zlg_eq, Int32.toInt_toInt64, Int64.reduceToInt, zw_zw, zw_sw1, zw_sw2, zw_sw3, zw_sw4, zw_sw5, zw_sw6, zw_sw7, ne_eq, zi_in, zi_cl, zi_le, zi_lt, zi_eq, zi_neg, zi_0le, zb_0, if_true, if_false, eq_self, zb_T, zb_F, Bool.false_eq_true, zO_eq, zO_ne1, zO_ne2, zO_nn, zi_ne1, zi_ne2, zi_lt1, zi_le1, zi_lt2, zi_le2, Int32.reduceLT, Int32.reduceLE, Nat.reduceLT, Nat.reduceLeDiff, Int32.reduceMul, Int32.reduceAdd, Int32.reduceSub, not_false_eq_true, not_true_eq_false, R_X10_fire, SHF, PF, e3', q2, q3, zi_s]
      · have e3' : 0 ≤ A 29 := by rw [e3]; exact hm2
        refine ⟨upd A 32 (if zgn n (zfu law (I 85) (mDm I) w (m + 1)) ∧ A 32 = -2 then nI m else A 32), fun k hk => by simp only [upd]; rw [if_neg (by omega)], ?_, fun d l2 l3 l4 Q => ⟨.int l2, .int (-1), l4, ?_⟩⟩
        · rw [a29] at hm2
          simp only [zbs, hm2, upd, Nat.reduceEqDiff, ↓reduceIte, false_and, a29, a30, a31, a32]
        · simp (disch := first | assumption | rfl | omega | decide | exact zb_01 _) only [zabs_e, zmax_e, zmin_e, zrf_s, zpush_s, zpush_n, zw_app, upd_app, updL_app, Nat.reduceEqDiff, Nat.add_left_cancel_iff, Nat.add_eq_left, Nat.left_eq_add, ↓reduceIte, true_and, and_true, Int32.reduceToNatClampNeg, zin_O, zi_ltO, zi_leO, zi_Olt, zi_Ole, zi_eqO, Nat.not_lt_zero, Nat.zero_le, List.append_nil, zrn_n, zrn_s, List.cons_append, List.nil_append, zlg_lt, zlg_gt, zlg_le, zlg_ge, zlg_eq, Int32.toInt_toInt64, Int64.reduceToInt, zw_zw, zw_sw1, zw_sw2, zw_sw3, zw_sw4, zw_sw5, zw_sw6, zw_sw7, ne_eq, zi_in, zi_cl, zi_le, zi_lt, zi_eq, zi_neg, zi_0le, zb_0, if_true, if_false, eq_self, zb_T, zb_F, Bool.false_eq_true, zO_eq, zO_ne1, zO_ne2, zO_nn, zi_ne1, zi_ne2, zi_lt1, zi_le1, zi_lt2, zi_le2, Int32.reduceLT, Int32.reduceLE, Nat.reduceLT, Nat.reduceLeDiff, Int32.reduceMul, Int32.reduceAdd, Int32.reduceSub, not_false_eq_true, not_true_eq_false, R_X10_fire, SHF, PF, e3', zi_s, Int32.reduceLT]
    obtain ⟨F, f1, hF, run⟩ := key
    obtain ⟨J', hb', run'⟩ := ih (m + 1) (zw J1 80 F) (by omega) (nx F f1 hF)
    refine ⟨J', hb', fun d l2 l3 l4 Q => ?_⟩
    obtain ⟨l4', q1⟩ := q d l4 Q
    obtain ⟨l2', l3', l5', r1⟩ := run d (sumI (zfu law (I 85) (mDm I) w (m + 1)) n) (.int (nI n)) l4' Q
    rw [← run' d l2' l3' l5' Q, ← r1, ← qo, ← q1, H_X10_fire_101]
    simp (disch := first | assumption | rfl | omega | decide | exact zb_01 _) only [zabs_e, zmax_e, zmin_e, zrf_s, zpush_s, zpush_n, zw_app, upd_app, updL_app, Nat.reduceEqDiff, Nat.add_left_cancel_iff, Nat.add_eq_left, Nat.left_eq_add, ↓reduceIte, true_and, and_true, Int32.reduceToNatClampNeg, zin_O, zi_ltO, zi_leO, zi_Olt, zi_Ole, zi_eqO, Nat.not_lt_zero, Nat.zero_le, List.append_nil, zrn_n, zrn_s, List.cons_append, List.nil_append, zlg_lt, zlg_gt, zlg_le, zlg_ge, zlg_eq, Int32.toInt_toInt64, Int64.reduceToInt, zw_zw, zw_sw1, zw_sw2, zw_sw3, zw_sw4, zw_sw5, zw_sw6, zw_sw7, ne_eq, zi_in, zi_cl, zi_le, zi_lt, zi_eq, zi_neg, zi_0le, zb_0, if_true, if_false, eq_self, zb_T, zb_F, Bool.false_eq_true, zO_eq, zO_ne1, zO_ne2, zO_nn, zi_ne1, zi_ne2, zi_lt1, zi_le1, zi_lt2, zi_le2, Int32.reduceLT, Int32.reduceLE, Nat.reduceLT, Nat.reduceLeDiff, Int32.reduceMul, Int32.reduceAdd, Int32.reduceSub, not_false_eq_true, not_true_eq_false, R_X10_fire, SHF, PF, hlt]
    rfl
theorem m_fire_0 (hn : I 80 6 = nI n) (h24 : n ≤ 24) (hpd : zPD n (I 85) (mDm I)) : ∀ (c j : Nat), c + j = n → zWp (d + 1) zi_172 none 26 [.ref 80, .int (nI j), .retAddr 0, .retAddr 0, .retAddr 0] [] (zSH, zw (zw I 94 (zfl j (zf1 (I 85) (mDm I)) (I 94))) 93 (zfl j (zlit (I 85) (mDm I)) (I 93)), L, zP f g t) Q = zWp (d + 1) zi_172 none 101 [.ref 80, .int 0, .retAddr 0, .retAddr 0, .retAddr 0] [] (zSH, zw (zw I 94 (zfl n (zf1 (I 85) (mDm I)) (I 94))) 93 (zfl n (zlit (I 85) (mDm I)) (I 93)), L, zP f g t) Q := by
  intro c
  induction c with
  | zero =>
    intro j hj
    have hj : j = n := by omega
    subst hj
    rw [H_X10_fire_26]
    simp (disch := first | assumption | rfl | omega | decide | exact zb_01 _) only [zabs_e, zmax_e, zmin_e, zrf_s, zpush_s, zpush_n, zw_app, upd_app, updL_app, Nat.reduceEqDiff, Nat.add_left_cancel_iff, Nat.add_eq_left, Nat.left_eq_add, ↓reduceIte, true_and, and_true, Int32.reduceToNatClampNeg, zin_O, zi_ltO, zi_leO, zi_Olt, zi_Ole, zi_eqO, Nat.not_lt_zero, Nat.zero_le, List.append_nil, zrn_n, zrn_s, List.cons_append, List.nil_append, zlg_lt, zlg_gt, zlg_le, zlg_ge, zlg_eq, Int32.toInt_toInt64, Int64.reduceToInt, zw_zw, zw_sw1, zw_sw2, zw_sw3, zw_sw4, zw_sw5, zw_sw6, zw_sw7, ne_eq, zi_in, zi_cl, zi_le, zi_lt, zi_eq, zi_neg, zi_0le, zb_0, if_true, if_false, eq_self, zb_T, zb_F, Bool.false_eq_true, zO_eq, zO_ne1, zO_ne2, zO_nn, zi_ne1, zi_ne2, zi_lt1, zi_le1, zi_lt2, zi_le2, Int32.reduceLT, Int32.reduceLE, Nat.reduceLT, Nat.reduceLeDiff, Int32.reduceMul, Int32.reduceAdd, Int32.reduceSub, not_false_eq_true, not_true_eq_false, R_X10_fire, SHF, PF, hn, Nat.le_refl]
  | succ c ih =>
    intro j hj
    have hlt : ¬ n ≤ j := by omega
    have e1 := zfl_s j (zf1 (I 85) (mDm I)) (I 94)
    have e2 := zfl_s j (zlit (I 85) (mDm I)) (I 93)
    have q := fun d Q => m_firstFuel (d := d) (f := f) (g := g) (t := t) (L := L) (Q := Q) (k := j) (I := zw (zw I 94 (zfl j (zf1 (I 85) (mDm I)) (I 94))) 93 (zfl j (zlit (I 85) (mDm I)) (I 93))) (by omega)
    have z1 : zf1 ((zw (zw I 94 (zfl j (zf1 (I 85) (mDm I)) (I 94))) 93 (zfl j (zlit (I 85) (mDm I)) (I 93))) 85) (mDm (zw (zw I 94 (zfl j (zf1 (I 85) (mDm I)) (I 94))) 93 (zfl j (zlit (I 85) (mDm I)) (I 93)))) j = zf1 (I 85) (mDm I) j := rfl
    rw [z1] at q
    rw [H_X10_fire_26, ← ih (j + 1) (by omega)]
    obtain ⟨p1, p2, p3⟩ := hpd j (by omega)
    cases j with
    | zero =>
      have z0 : (0 : Int32) = zlit (I 85) (mDm I) 0 := rfl
      simp (disch := first | assumption | rfl | omega | decide | exact zb_01 _) only [zabs_e, zmax_e, zmin_e, zrf_s, zpush_s, zpush_n, zw_app, upd_app, updL_app, Nat.reduceEqDiff, Nat.add_left_cancel_iff, Nat.add_eq_left, Nat.left_eq_add, ↓reduceIte, true_and, and_true, Int32.reduceToNatClampNeg, zin_O, zi_ltO, zi_leO, zi_Olt, zi_Ole, zi_eqO, Nat.not_lt_zero, Nat.zero_le, List.append_nil, zrn_n, zrn_s, List.cons_append, List.nil_append, zlg_lt, zlg_gt, zlg_le, zlg_ge, zlg_eq, Int32.toInt_toInt64, Int64.reduceToInt, zw_zw, zw_sw1, zw_sw2, zw_sw3, zw_sw4, zw_sw5, zw_sw6, zw_sw7, ne_eq, zi_in, zi_cl, zi_le, zi_lt, zi_eq, zi_neg, zi_0le, zb_0, if_true, if_false, eq_self, zb_T, zb_F, Bool.false_eq_true, zO_eq, zO_ne1, zO_ne2, zO_nn, zi_ne1, zi_ne2, zi_lt1, zi_le1, zi_lt2, zi_le2, Int32.reduceLT, Int32.reduceLE, Nat.reduceLT, Nat.reduceLeDiff, Int32.reduceMul, Int32.reduceAdd, Int32.reduceSub, not_false_eq_true, not_true_eq_false, R_X10_fire, SHF, PF, hn, hlt, q, e1, zi_s]
      rw [z0, e2]
    | succ k =>
      have z3 : ¬ k + 1 = 0 := by omega
      have zk : zfl (k + 1) (zlit (I 85) (mDm I)) (I 93) k = zlit (I 85) (mDm I) k := zfl_lt (by omega)
      have t2 : (2 : Int32).toInt = 2 := by decide
      have ed : I 81 (48 + (k + 1)) = mDm I (k + 1) := rfl
      have e5 : (2 * mDm I (k + 1)).toInt = 2 * (mDm I (k + 1)).toInt := zt_k 2 t2 (by omega) (by omega)
      have e6 : (I 85 (k + 1) - mDm I (k + 1)).toInt = (I 85 (k + 1)).toInt - (mDm I (k + 1)).toInt := zt_sub (by omega) (by omega)
      by_cases hc : I 85 (k + 1) - mDm I (k + 1) < mDm I (k + 1)
      · have z2 : zlit (I 85) (mDm I) k + 4 = zlit (I 85) (mDm I) (k + 1) := by rw [zlit, if_pos hc]
        have hc1 := Int32.lt_iff_toInt_lt.mp hc
        have hc2 : ¬ 2 * mDm I (k + 1) ≤ I 85 (k + 1) := fun z => by have := Int32.le_iff_toInt_le.mp z; omega
        simp (disch := first | assumption | rfl | omega | decide | exact zb_01 _) only [zabs_e, zmax_e, zmin_e, zrf_s, zpush_s, zpush_n, zw_app, upd_app, updL_app, Nat.reduceEqDiff, Nat.add_left_cancel_iff, Nat.add_eq_left, Nat.left_eq_add, ↓reduceIte, true_and, and_true, Int32.reduceToNatClampNeg, zin_O, zi_ltO, zi_leO, zi_Olt, zi_Ole, zi_eqO, Nat.not_lt_zero, Nat.zero_le, List.append_nil, zrn_n, zrn_s, List.cons_append, List.nil_append, zlg_lt, zlg_gt, zlg_le, zlg_ge, zlg_eq, Int32.toInt_toInt64, Int64.reduceToInt, zw_zw, zw_sw1, zw_sw2, zw_sw3, zw_sw4, zw_sw5, zw_sw6, zw_sw7, ne_eq, zi_in, zi_cl, zi_le, zi_lt, zi_eq, zi_neg, zi_0le, zb_0, if_true, if_false, eq_self, zb_T, zb_F, Bool.false_eq_true, zO_eq, zO_ne1, zO_ne2, zO_nn, zi_ne1, zi_ne2, zi_lt1, zi_le1, zi_lt2, zi_le2, Int32.reduceLT, Int32.reduceLE, Nat.reduceLT, Nat.reduceLeDiff, Int32.reduceMul, Int32.reduceAdd, Int32.reduceSub, not_false_eq_true, not_true_eq_false, R_X10_fire, SHF, PF, hn, hlt, q, e1, zi_s, z3, zi_m1, nI_pred, zk, zi_a48, ed, hc2, z2, e2]
      · have z2 : zlit (I 85) (mDm I) k + 2 = zlit (I 85) (mDm I) (k + 1) := by rw [zlit, if_neg hc]
        have hc1 := Int32.le_iff_toInt_le.mp (Int32.not_lt.mp hc)
        have hc2 : 2 * mDm I (k + 1) ≤ I 85 (k + 1) := Int32.le_iff_toInt_le.mpr (by omega)
        simp (disch := first | assumption | rfl | omega | decide | exact zb_01 _) only [zabs_e, zmax_e, zmin_e, zrf_s, zpush_s, zpush_n, zw_app, upd_app, updL_app, Nat.reduceEqDiff, Nat.add_left_cancel_iff, Nat.add_eq_left, Nat.left_eq_add, ↓reduceIte, true_and, and_true, Int32.reduceToNatClampNeg, zin_O, zi_ltO, zi_leO, zi_Olt, zi_Ole, zi_eqO, Nat.not_lt_zero, Nat.zero_le, List.append_nil, zrn_n, zrn_s, List.cons_append, List.nil_append, zlg_lt, zlg_gt, zlg_le, zlg_ge, zlg_eq, Int32.toInt_toInt64, Int64.reduceToInt, zw_zw, zw_sw1, zw_sw2, zw_sw3, zw_sw4, zw_sw5, zw_sw6, zw_sw7, ne_eq, zi_in, zi_cl, zi_le, zi_lt, zi_eq, zi_neg, zi_0le, zb_0, if_true, if_false, eq_self, zb_T, zb_F, Bool.false_eq_true, zO_eq, zO_ne1, zO_ne2, zO_nn, zi_ne1, zi_ne2, zi_lt1, zi_le1, zi_lt2, zi_le2, Int32.reduceLT, Int32.reduceLE, Nat.reduceLT, Nat.reduceLeDiff, Int32.reduceMul, Int32.reduceAdd, Int32.reduceSub, not_false_eq_true, not_true_eq_false, R_X10_fire, SHF, PF, hn, hlt, q, e1, zi_s, z3, zi_m1, nI_pred, zk, zi_a48, ed, hc2, z2, e2]
theorem m_fire (hL : zLm I law) (hn : I 80 6 = nI n) (h24 : n ≤ 24) (hpd : zPD n (I 85) (mDm I)) : ∃ J, zMv I J n law (zabs (I 81 72) + zabs (I 81 73)) 61 ∧ ∀ d Q, zWM (d + 47) 172 [.ref 80] (zSH, I, L, zP f g t) Q = Q none (zSH, J, L, zP f g t) := by
  obtain ⟨J', hb, run⟩ := m_fire_l (f := f) (g := g) (t := t) (L := L) (w := zabs (I 81 72) + zabs (I 81 73)) hL hn h24 hpd rfl 61 0 (zw (zw (zw I 80 (upd (upd (upd (upd (I 80) 29 (-2)) 30 (-2)) 31 (-2)) 32 (-2))) 94 (zfl n (zf1 (I 85) (mDm I)) (I 94))) 93 (zfl n (zlit (I 85) (mDm I)) (I 93))) (by omega) (by
    refine ⟨fun a h1 => ?_, fun k h1 h2 => ?_, rfl, fun k hk => zfl_lt hk, fun k hk => zfl_lt hk, fun m' k hm hk => absurd hm (by omega)⟩
    · rw [zw_n (by omega), zw_n (by omega), zw_n (by omega)]
    · show upd (upd (upd (upd (I 80) 29 (-2)) 30 (-2)) 31 (-2)) 32 (-2) k = _
      simp only [upd]
      repeat' rw [if_neg (by omega)])
  refine ⟨J', hb, fun d Q => ?_⟩
  have q0 := m_fire_0 (d := d + 45) (f := f) (g := g) (t := t) (L := L) (Q := Q) (I := zw I 80 (upd (upd (upd (upd (I 80) 29 (-2)) 30 (-2)) 31 (-2)) 32 (-2))) (n := n) hn h24 hpd n 0 (by omega)
  rw [zfl_0, zfl_0, zw_id, zw_id] at q0
  have r := run d (.retAddr 0) (.retAddr 0) (.retAddr 0) Q
  rw [← r]
  rw [show d + 45 + 1 = d + 46 by omega] at q0
  refine Eq.trans ?_ q0
  rw [show d + 47 = d + 46 + 1 by omega]
  simp (disch := first | assumption | rfl | omega | decide | exact zb_01 _) only [zabs_e, zmax_e, zmin_e, zrf_s, zpush_s, zpush_n, zw_app, upd_app, updL_app, Nat.reduceEqDiff, Nat.add_left_cancel_iff, Nat.add_eq_left, Nat.left_eq_add, ↓reduceIte, true_and, and_true, Int32.reduceToNatClampNeg, zin_O, zi_ltO, zi_leO, zi_Olt, zi_Ole, zi_eqO, Nat.not_lt_zero, Nat.zero_le, List.append_nil, zrn_n, zrn_s, List.cons_append, List.nil_append, zlg_lt, zlg_gt, zlg_le, zlg_ge, zlg_eq, Int32.toInt_toInt64, Int64.reduceToInt, zw_zw, zw_sw1, zw_sw2, zw_sw3, zw_sw4, zw_sw5, zw_sw6, zw_sw7, ne_eq, zi_in, zi_cl, zi_le, zi_lt, zi_eq, zi_neg, zi_0le, zb_0, if_true, if_false, eq_self, zb_T, zb_F, Bool.false_eq_true, zO_eq, zO_ne1, zO_ne2, zO_nn, zi_ne1, zi_ne2, zi_lt1, zi_le1, zi_lt2, zi_le2, Int32.reduceLT, Int32.reduceLE, Nat.reduceLT, Nat.reduceLeDiff, Int32.reduceMul, Int32.reduceAdd, Int32.reduceSub, not_false_eq_true, not_true_eq_false, E_X10_fire, R_X10_fire, SHF, PF]
  rfl
end MFIRE2
