/-! CHANGES are laid -/
/-- how many of a kind are there -/
def zcl (w n k : Nat) : Nat := if w < 3 then n else if w = 5 then k else 1
/-- as it is laid -/
def zlv (I : Nat → Nat → Int32) (w m : Nat) (v : Int32) : Int32 := if w = 2 then zmin v (I 2 m) else v
def zlS (a : Nat) : Prop := a = 0 ∨ a = 3 ∨ a = 5 ∨ a = 6 ∨ (8 ≤ a ∧ a ≤ 13) ∨ a = 27 ∨ a = 30 ∨ a = 33
section LAY
variable {d f g n k a b z bb w m : Nat} {t : Option Nat} {I J : Nat → Nat → Int32} {L : Nat → Nat → Int64} {Q : Option Value → zMm → Prop} {law : zLawT}
abbrev zRest (J : Nat → Nat → Int32) (L : Nat → Nat → Int64) (f n z bb : Nat) (law : zLawT) : Prop := zRs J ∧ zRi J ∧ zRy J z ∧ zRl J f law ∧ zRb J bb ∧ zRr J ∧ zRh J L bb ∧ zRf J n law
theorem zRest_l (hR : zRel9 I L f g law n k a b z bb) {J2 : Nat → Nat → Int32} (hJ : ∀ a, ¬ zlS a → J a = I a) (h13 : J 0 13 = I 0 13) (h33 : J 33 6 = 0) (h2 : ∀ a, a ≠ 54 → a ≠ 55 → (a < 80 ∨ 84 < a) → J2 a = J a) (h80 : ∀ q, q ≠ 4 → q ≠ 5 → J2 80 q = I 80 q) : zRest J2 L f n z bb law := by
  obtain ⟨hfg, ht, hw, hp, hs, hi, hc, hy, hl, hb, hr, hh, hf⟩ := hR
  have e : ∀ a, ¬ zlS a → a ≠ 54 → a ≠ 55 → (a < 80 ∨ 84 < a) → J2 a = I a := fun a h1 h3 h4 h5 => (h2 a h3 h4 h5).trans (hJ a h1)
  have e2 : ∀ a, ¬ zlS a → a ≠ 54 → a ≠ 55 → (a < 80 ∨ 84 < a) → ∀ q, J2 a q = I a q := fun a h1 h3 h4 h5 q => by rw [e a h1 h3 h4 h5]
  have e13 : J2 0 13 = I 0 13 := by rw [h2 0 (by omega) (by omega) (by omega)]; exact h13
  refine ⟨zRs_f ?_ ?_ ?_ ?_ ?_ ?_ ?_ hs, zRi_f e13 ?_ ?_ ?_ hi, zRy_f ?_ ?_ ?_ ?_ hy, zRl_f hfg ?_ ?_ ?_ ?_ ?_ ?_ ?_ ?_ hl, zRb_f ?_ ?_ ?_ ?_ hb, zRr_f ?_ ?_ ?_ ?_ hr, zRh_f ?_ ?_ ?_ ?_ ?_ ?_ ?_ ?_ hh, zRf_0 (by rw [h2 33 (by omega) (by omega) (by omega)]; exact h33)⟩
  all_goals first
    | exact e _ (by unfold zlS; omega) (by omega) (by omega) (by omega)
    | exact e2 _ (by unfold zlS; omega) (by omega) (by omega) (by omega) _
    | exact h80 _ (by omega) (by omega)
theorem zLay (hR : zRel9 I L f g law n k a b z bb) (hw8 : w < 8) (hm : m < zcl w n k) {v : Int32} (hv : zcr w v) : ∃ J, (∀ d Q, zWM (d + 5) 87 [.ref 0, .int (nI m), .int (nI w), .int v] (zSH, I, L, zP f g t) Q = Q none (zSH, J, L, zP f g t)) ∧ (∀ a, ¬ zlS a → J a = I a) ∧ ∀ J2 : Nat → Nat → Int32, (∀ a, a ≠ 54 → a ≠ 55 → (a < 80 ∨ 84 < a) → J2 a = J a) → J2 81 = upd (I 81) (zcb w + m) (zlv I w m v) → (∀ q, q ≠ 4 → q ≠ 5 → J2 80 q = I 80 q) → zRt J2 n ∧ zRw J2 ∧ zRp J2 k ∧ zRest J2 L f n z bb law := by
  obtain ⟨hfg, ht, hw, hp, hs, hi, hc, hy, hl, hb, hr, hh, hf⟩ := id hR
  have hn := ht.1
  have h24 := ht.2.2.1
  have tb : zTb 1 := Or.inl rfl
  have z2 : ∀ a, ¬ zlS a → ∀ F : Nat → Int32, zw I 33 F a = I a := fun a h F => zw_n (fun e => h (by unfold zlS; omega))
  match w, hw8 with
  | 0, _ =>
    have hm : m < n := hm
    have m24 : m < 24 := by omega
    have hX1 : zw (zw I 33 (upd (I 33) 6 0)) 5 (upd (I 5) m v) 1 6 = nI n := hn
    have qs : ∀ d Q, zWM (d + 2) 62 [.ref 1, .int (nI m), .int 0, .int v] (zSH, zw I 33 (upd (I 33) 6 0), L, zP f g t) Q = Q none (zSH, tW (zw (zw I 33 (upd (I 33) 6 0)) 5 (upd (I 5) m v)) 1 n, L, zP f g t) := fun d Q => c_slide0 (I := zw I 33 (upd (I 33) 6 0)) tb hn h24 m hm v
    have wo : ∀ a, (a < 8 ∨ 13 < a) → a ≠ 33 → a ≠ 5 → tW (zw (zw I 33 (upd (I 33) 6 0)) 5 (upd (I 5) m v)) 1 n a = I a := fun a h1 h2 h3 => by rw [tW_o (by omega), zw_n h3, zw_n h2]
    have w5 : tW (zw (zw I 33 (upd (I 33) 6 0)) 5 (upd (I 5) m v)) 1 n 5 = upd (I 5) m v := by rw [tW_o (by omega), zw_s]
    have w33 : tW (zw (zw I 33 (upd (I 33) 6 0)) 5 (upd (I 5) m v)) 1 n 33 = upd (I 33) 6 0 := by rw [tW_o (by omega)]; rfl
    have hst := tW_set (b := 1) hX1 h24
    generalize tW (zw (zw I 33 (upd (I 33) 6 0)) 5 (upd (I 5) m v)) 1 n = J at *
    have hJ : ∀ a, ¬ zlS a → J a = I a := fun a h => wo a (by unfold zlS at h; omega) (by unfold zlS at h; omega) (by unfold zlS at h; omega)
    refine ⟨J, fun d Q => ?_, hJ, fun J2 h2 h81 h80 => ⟨?_, ?_, ?_, zRest_l hR hJ (by rw [wo 0 (by omega) (by omega) (by omega)]) (by rw [w33]; rfl) h2 h80⟩⟩
    · simp (disch := first | assumption | rfl | omega | decide | exact zb_01 _) only [zabs_e, zmax_e, zmin_e, zrf_s, zpush_s, zpush_n, zw_app, upd_app, updL_app, Nat.reduceEqDiff, Nat.add_left_cancel_iff, Nat.add_eq_left, Nat.left_eq_add, ↓reduceIte, true_and, and_true, Int32.reduceToNatClampNeg, zin_O, zi_ltO, zi_leO, zi_Olt, zi_Ole, zi_eqO, Nat.not_lt_zero, Nat.zero_le, List.append_nil, zrn_n, zrn_s, List.cons_append, List.nil_append, zlg_lt, zlg_gt, zlg_le, zlg_ge, zlg_eq, Int32.toInt_toInt64, Int64.reduceToInt, zw_zw, zw_sw1, zw_sw2, zw_sw3, zw_sw4, zw_sw5, zw_sw6, zw_sw7, ne_eq, zi_in, zi_cl, zi_le, zi_lt, zi_eq, zi_neg, zi_0le, zb_0, if_true, if_false, eq_self, zb_T, zb_F, Bool.false_eq_true, zO_eq, zO_ne1, zO_ne2, zO_nn, zi_ne1, zi_ne2, zi_lt1, zi_le1, zi_lt2, zi_le2, Int32.reduceLT, Int32.reduceLE, Nat.reduceLT, Nat.reduceLeDiff, Int32.reduceMul, Int32.reduceAdd, Int32.reduceSub, not_false_eq_true, not_true_eq_false, Int32.reduceToInt, Int.reduceLE, Int.reduceLT, Int.reduceNeg, ite_self, E_X9_lay, R_X9_lay, SHF, PF, show nI 0 = 0 from rfl, qs]
    · have h81 : J2 81 = upd (I 81) m v := by rw [h81, show zcb 0 + m = m from Nat.zero_add m]; rfl
      refine ⟨by rw [h2 1 (by omega) (by omega) (by omega), wo 1 (by omega) (by omega) (by omega)]; exact hn, by rw [h80 6 (by omega) (by omega)]; exact ht.2.1, h24, tSet_f ?_ ?_ ?_ ?_ ?_ ?_ ?_ ?_ ?_ hst, fun j hj => ?_⟩
      all_goals first
        | (rw [h2 1 (by omega) (by omega) (by omega)]; done)
        | exact h2 _ (by omega) (by omega) (by omega)
        | skip
      obtain ⟨r1, r2, r3, r4, r5⟩ := ht.2.2.2.2 j hj
      rw [h81, h2 85 (by omega) (by omega) (by omega), h2 2 (by omega) (by omega) (by omega), h2 3 (by omega) (by omega) (by omega), h2 5 (by omega) (by omega) (by omega), h2 6 (by omega) (by omega) (by omega), wo 85 (by omega) (by omega) (by omega), wo 2 (by omega) (by omega) (by omega), wo 3 (by omega) (by omega) (by omega), wo 6 (by omega) (by omega) (by omega), w5, zup_lt (show 24 + j ≠ m by omega), zup_lt (show 48 + j ≠ m by omega)]
      by_cases e : j = m
      · subst e
        rw [zup_at, zup_at]
        exact ⟨r1, rfl, r3, r4, r5.1, r5.2.1, hv, r5.2.2.2⟩
      · rw [zup_lt e, zup_lt e]
        exact ⟨r1, r2, r3, r4, r5⟩
    · have h81' : ∀ q, 72 ≤ q → J2 81 q = I 81 q := fun q hq => by rw [h81]; exact zup_lt (by show q ≠ 0 + m; omega)
      exact zRw_f (h81' 72 (by omega)) (h81' 73 (by omega)) (h81' 82 (by omega)) (h81' 83 (by omega)) (by rw [h2 0 (by omega) (by omega) (by omega), wo 0 (by omega) (by omega) (by omega)]) (by rw [h2 0 (by omega) (by omega) (by omega), wo 0 (by omega) (by omega) (by omega)]) (by rw [h2 0 (by omega) (by omega) (by omega), wo 0 (by omega) (by omega) (by omega)]) (by rw [h2 27 (by omega) (by omega) (by omega), wo 27 (by omega) (by omega) (by omega)]) hw
    · have h81' : ∀ q, 72 ≤ q → J2 81 q = I 81 q := fun q hq => by rw [h81]; exact zup_lt (by show q ≠ 0 + m; omega)
      refine zRp_f ?_ (h80 10 (by omega) (by omega)) ?_ ?_ ?_ ?_ ?_ (fun j h1 _ => h81' j (by omega)) hp
      all_goals first
        | (rw [h2 _ (by omega) (by omega) (by omega), wo _ (by omega) (by omega) (by omega)]; done)
  | 1, _ =>
    have hm : m < n := hm
    have m24 : m < 24 := by omega
    have hX1 : zw (zw I 33 (upd (I 33) 6 0)) 6 (upd (I 6) m v) 1 6 = nI n := hn
    have qs : ∀ d Q, zWM (d + 2) 62 [.ref 1, .int (nI m), .int 1, .int v] (zSH, zw I 33 (upd (I 33) 6 0), L, zP f g t) Q = Q none (zSH, tW (zw (zw I 33 (upd (I 33) 6 0)) 6 (upd (I 6) m v)) 1 n, L, zP f g t) := fun d Q => c_slide1 (I := zw I 33 (upd (I 33) 6 0)) tb hn h24 m hm v
    have wo : ∀ a, (a < 8 ∨ 13 < a) → a ≠ 33 → a ≠ 6 → tW (zw (zw I 33 (upd (I 33) 6 0)) 6 (upd (I 6) m v)) 1 n a = I a := fun a h1 h2 h3 => by rw [tW_o (by omega), zw_n h3, zw_n h2]
    have w5 : tW (zw (zw I 33 (upd (I 33) 6 0)) 6 (upd (I 6) m v)) 1 n 6 = upd (I 6) m v := by rw [tW_o (by omega), zw_s]
    have w33 : tW (zw (zw I 33 (upd (I 33) 6 0)) 6 (upd (I 6) m v)) 1 n 33 = upd (I 33) 6 0 := by rw [tW_o (by omega)]; rfl
    have hst := tW_set (b := 1) hX1 h24
    generalize tW (zw (zw I 33 (upd (I 33) 6 0)) 6 (upd (I 6) m v)) 1 n = J at *
    have hJ : ∀ a, ¬ zlS a → J a = I a := fun a h => wo a (by unfold zlS at h; omega) (by unfold zlS at h; omega) (by unfold zlS at h; omega)
    refine ⟨J, fun d Q => ?_, hJ, fun J2 h2 h81 h80 => ⟨?_, ?_, ?_, zRest_l hR hJ (by rw [wo 0 (by omega) (by omega) (by omega)]) (by rw [w33]; rfl) h2 h80⟩⟩
    · simp (disch := first | assumption | rfl | omega | decide | exact zb_01 _) only [zabs_e, zmax_e, zmin_e, zrf_s, zpush_s, zpush_n, zw_app, upd_app, updL_app, Nat.reduceEqDiff, Nat.add_left_cancel_iff, Nat.add_eq_left, Nat.left_eq_add, ↓reduceIte, true_and, and_true, Int32.reduceToNatClampNeg, zin_O, zi_ltO, zi_leO, zi_Olt, zi_Ole, zi_eqO, Nat.not_lt_zero, Nat.zero_le, List.append_nil, zrn_n, zrn_s, List.cons_append, List.nil_append, zlg_lt, zlg_gt, zlg_le, zlg_ge, zlg_eq, Int32.toInt_toInt64, Int64.reduceToInt, zw_zw, zw_sw1, zw_sw2, zw_sw3, zw_sw4, zw_sw5, zw_sw6, zw_sw7, ne_eq, zi_in, zi_cl, zi_le, zi_lt, zi_eq, zi_neg, zi_0le, zb_0, if_true, if_false, eq_self, zb_T, zb_F, Bool.false_eq_true, zO_eq, zO_ne1, zO_ne2, zO_nn, zi_ne1, zi_ne2, zi_lt1, zi_le1, zi_lt2, zi_le2, Int32.reduceLT, Int32.reduceLE, Nat.reduceLT, Nat.reduceLeDiff, Int32.reduceMul, Int32.reduceAdd, Int32.reduceSub, not_false_eq_true, not_true_eq_false, Int32.reduceToInt, Int.reduceLE, Int.reduceLT, Int.reduceNeg, ite_self, E_X9_lay, R_X9_lay, SHF, PF, show nI 1 = 1 from rfl, qs]
    · have h81 : J2 81 = upd (I 81) (24 + m) v := by rw [h81]; rfl
      refine ⟨by rw [h2 1 (by omega) (by omega) (by omega), wo 1 (by omega) (by omega) (by omega)]; exact hn, by rw [h80 6 (by omega) (by omega)]; exact ht.2.1, h24, tSet_f ?_ ?_ ?_ ?_ ?_ ?_ ?_ ?_ ?_ hst, fun j hj => ?_⟩
      all_goals first
        | (rw [h2 1 (by omega) (by omega) (by omega)]; done)
        | exact h2 _ (by omega) (by omega) (by omega)
        | skip
      obtain ⟨r1, r2, r3, r4, r5⟩ := ht.2.2.2.2 j hj
      rw [h81, h2 85 (by omega) (by omega) (by omega), h2 2 (by omega) (by omega) (by omega), h2 3 (by omega) (by omega) (by omega), h2 5 (by omega) (by omega) (by omega), h2 6 (by omega) (by omega) (by omega), wo 85 (by omega) (by omega) (by omega), wo 2 (by omega) (by omega) (by omega), wo 3 (by omega) (by omega) (by omega), wo 5 (by omega) (by omega) (by omega), w5, zup_lt (show j ≠ 24 + m by omega), zup_lt (show 48 + j ≠ 24 + m by omega)]
      by_cases e : j = m
      · subst e
        rw [zup_at, zup_at]
        exact ⟨r1, r2, rfl, r4, r5.1, r5.2.1, r5.2.2.1, hv⟩
      · rw [zup_lt e, zup_lt (show 24 + j ≠ 24 + m by omega)]
        exact ⟨r1, r2, r3, r4, r5⟩
    · have h81' : ∀ q, 72 ≤ q → J2 81 q = I 81 q := fun q hq => by rw [h81]; exact zup_lt (by show q ≠ 24 + m; omega)
      exact zRw_f (h81' 72 (by omega)) (h81' 73 (by omega)) (h81' 82 (by omega)) (h81' 83 (by omega)) (by rw [h2 0 (by omega) (by omega) (by omega), wo 0 (by omega) (by omega) (by omega)]) (by rw [h2 0 (by omega) (by omega) (by omega), wo 0 (by omega) (by omega) (by omega)]) (by rw [h2 0 (by omega) (by omega) (by omega), wo 0 (by omega) (by omega) (by omega)]) (by rw [h2 27 (by omega) (by omega) (by omega), wo 27 (by omega) (by omega) (by omega)]) hw
    · have h81' : ∀ q, 72 ≤ q → J2 81 q = I 81 q := fun q hq => by rw [h81]; exact zup_lt (by show q ≠ 24 + m; omega)
      refine zRp_f ?_ (h80 10 (by omega) (by omega)) ?_ ?_ ?_ ?_ ?_ (fun j h1 _ => h81' j (by omega)) hp
      all_goals first
        | (rw [h2 _ (by omega) (by omega) (by omega), wo _ (by omega) (by omega) (by omega)]; done)
  | 2, _ =>
    have hm : m < n := hm
    have m24 : m < 24 := by omega
    have wo : ∀ a, a ≠ 33 → a ≠ 3 → zw (zw I 33 (upd (I 33) 6 0)) 3 (upd (I 3) m (zmin v (I 2 m))) a = I a := fun a h1 h2 => by rw [zw_n h2, zw_n h1]
    have w3 : zw (zw I 33 (upd (I 33) 6 0)) 3 (upd (I 3) m (zmin v (I 2 m))) 3 = upd (I 3) m (zmin v (I 2 m)) := rfl
    have w33 : zw (zw I 33 (upd (I 33) 6 0)) 3 (upd (I 3) m (zmin v (I 2 m))) 33 = upd (I 33) 6 0 := rfl
    have run : ∀ d Q, zWM (d + 5) 87 [.ref 0, .int (nI m), .int (nI 2), .int v] (zSH, I, L, zP f g t) Q = Q none (zSH, zw (zw I 33 (upd (I 33) 6 0)) 3 (upd (I 3) m (zmin v (I 2 m))), L, zP f g t) := fun d Q => by
      simp (disch := first | assumption | rfl | omega | decide | exact zb_01 _) only [zabs_e, zmax_e, zmin_e, zrf_s, zpush_s, zpush_n, zw_app, upd_app, updL_app, Nat.reduceEqDiff, Nat.add_left_cancel_iff, Nat.add_eq_left, Nat.left_eq_add, ↓reduceIte, true_and, and_true, Int32.reduceToNatClampNeg, zin_O, zi_ltO, zi_leO, zi_Olt, zi_Ole, zi_eqO, Nat.not_lt_zero, Nat.zero_le, List.append_nil, zrn_n, zrn_s, List.cons_append, List.nil_append, zlg_lt, zlg_gt, zlg_le, zlg_ge, zlg_eq, Int32.toInt_toInt64, Int64.reduceToInt, zw_zw, zw_sw1, zw_sw2, zw_sw3, zw_sw4, zw_sw5, zw_sw6, zw_sw7, ne_eq, zi_in, zi_cl, zi_le, zi_lt, zi_eq, zi_neg, zi_0le, zb_0, if_true, if_false, eq_self, zb_T, zb_F, Bool.false_eq_true, zO_eq, zO_ne1, zO_ne2, zO_nn, zi_ne1, zi_ne2, zi_lt1, zi_le1, zi_lt2, zi_le2, Int32.reduceLT, Int32.reduceLE, Nat.reduceLT, Nat.reduceLeDiff, Int32.reduceMul, Int32.reduceAdd, Int32.reduceSub, not_false_eq_true, not_true_eq_false, Int32.reduceToInt, Int.reduceLE, Int.reduceLT, Int.reduceNeg, ite_self, E_X9_lay, R_X9_lay, SHF, PF, show nI 2 = 2 from rfl]
    generalize zw (zw I 33 (upd (I 33) 6 0)) 3 (upd (I 3) m (zmin v (I 2 m))) = J at *
    have hJ : ∀ a, ¬ zlS a → J a = I a := fun a h => wo a (by unfold zlS at h; omega) (by unfold zlS at h; omega)
    refine ⟨J, run, hJ, fun J2 h2 h81 h80 => ⟨?_, ?_, ?_, zRest_l hR hJ (by rw [wo 0 (by omega) (by omega)]) (by rw [w33]; rfl) h2 h80⟩⟩
    · have h81 : J2 81 = upd (I 81) (48 + m) (zmin v (I 2 m)) := by rw [h81]; rfl
      have o : ∀ a, a ≠ 33 → a ≠ 3 → a ≠ 54 → a ≠ 55 → (a < 80 ∨ 84 < a) → J2 a = I a := fun a h3 h4 h5 h6 h7 => (h2 a h5 h6 h7).trans (wo a h3 h4)
      refine ⟨by rw [o 1 (by omega) (by omega) (by omega) (by omega) (by omega)]; exact hn, by rw [h80 6 (by omega) (by omega)]; exact ht.2.1, h24, tSet_f (X := I) ?_ ?_ ?_ ?_ ?_ ?_ ?_ ?_ ?_ ht.2.2.2.1, fun j hj => ?_⟩
      all_goals first
        | (rw [o 1 (by omega) (by omega) (by omega) (by omega) (by omega)]; done)
        | exact o _ (by omega) (by omega) (by omega) (by omega) (by omega)
        | skip
      obtain ⟨r1, r2, r3, r4, r5⟩ := ht.2.2.2.2 j hj
      rw [h81, o 85 (by omega) (by omega) (by omega) (by omega) (by omega), o 2 (by omega) (by omega) (by omega) (by omega) (by omega), o 5 (by omega) (by omega) (by omega) (by omega) (by omega), o 6 (by omega) (by omega) (by omega) (by omega) (by omega), h2 3 (by omega) (by omega) (by omega), w3, zup_lt (show j ≠ 48 + m by omega), zup_lt (show 24 + j ≠ 48 + m by omega)]
      by_cases e : j = m
      · subst e
        rw [zup_at, zup_at]
        refine ⟨r1, r2, r3, rfl, r5.1, ?_, r5.2.2⟩
        have hv : 0 ≤ v.toInt ∧ v.toInt ≤ 9 := hv
        have hok := r5.1
        rcases zmin_v v (I 2 j) with ⟨x1, x2⟩ | ⟨x1, x2⟩ <;> rw [x2] <;> omega
      · rw [zup_lt e, zup_lt (show 48 + j ≠ 48 + m by omega)]
        exact ⟨r1, r2, r3, r4, r5⟩
    · have h81' : ∀ q, 72 ≤ q → J2 81 q = I 81 q := fun q hq => by rw [h81]; exact zup_lt (by show q ≠ 48 + m; omega)
      exact zRw_f (h81' 72 (by omega)) (h81' 73 (by omega)) (h81' 82 (by omega)) (h81' 83 (by omega)) (by rw [h2 0 (by omega) (by omega) (by omega), wo 0 (by omega) (by omega)]) (by rw [h2 0 (by omega) (by omega) (by omega), wo 0 (by omega) (by omega)]) (by rw [h2 0 (by omega) (by omega) (by omega), wo 0 (by omega) (by omega)]) (by rw [h2 27 (by omega) (by omega) (by omega), wo 27 (by omega) (by omega)]) hw
    · have h81' : ∀ q, 72 ≤ q → J2 81 q = I 81 q := fun q hq => by rw [h81]; exact zup_lt (by show q ≠ 48 + m; omega)
      refine zRp_f ?_ (h80 10 (by omega) (by omega)) ?_ ?_ ?_ ?_ ?_ (fun j h1 _ => h81' j (by omega)) hp
      all_goals first
        | (rw [h2 _ (by omega) (by omega) (by omega), wo _ (by omega) (by omega)]; done)
  | 3, _ =>
    have hm0 : m = 0 := by have h : m < 1 := hm; omega
    subst hm0
    have wo : ∀ a, a ≠ 33 → a ≠ 0 → zw (zw I 33 (upd (I 33) 6 0)) 0 (upd (I 0) 14 v) a = I a := fun a h1 h2 => by rw [zw_n h2, zw_n h1]
    have wc : zw (zw I 33 (upd (I 33) 6 0)) 0 (upd (I 0) 14 v) 0 = upd (I 0) 14 v := rfl
    have w33 : zw (zw I 33 (upd (I 33) 6 0)) 0 (upd (I 0) 14 v) 33 = upd (I 33) 6 0 := rfl
    have w13 : zw (zw I 33 (upd (I 33) 6 0)) 0 (upd (I 0) 14 v) 0 13 = I 0 13 := rfl
    have run : ∀ d Q, zWM (d + 5) 87 [.ref 0, .int (nI 0), .int (nI 3), .int v] (zSH, I, L, zP f g t) Q = Q none (zSH, zw (zw I 33 (upd (I 33) 6 0)) 0 (upd (I 0) 14 v), L, zP f g t) := fun d Q => by
      simp (disch := first | assumption | rfl | omega | decide | exact zb_01 _) only [zabs_e, zmax_e, zmin_e, zrf_s, zpush_s, zpush_n, zw_app, upd_app, updL_app, Nat.reduceEqDiff, Nat.add_left_cancel_iff, Nat.add_eq_left, Nat.left_eq_add, ↓reduceIte, true_and, and_true, Int32.reduceToNatClampNeg, zin_O, zi_ltO, zi_leO, zi_Olt, zi_Ole, zi_eqO, Nat.not_lt_zero, Nat.zero_le, List.append_nil, zrn_n, zrn_s, List.cons_append, List.nil_append, zlg_lt, zlg_gt, zlg_le, zlg_ge, zlg_eq, Int32.toInt_toInt64, Int64.reduceToInt, zw_zw, zw_sw1, zw_sw2, zw_sw3, zw_sw4, zw_sw5, zw_sw6, zw_sw7, ne_eq, zi_in, zi_cl, zi_le, zi_lt, zi_eq, zi_neg, zi_0le, zb_0, if_true, if_false, eq_self, zb_T, zb_F, Bool.false_eq_true, zO_eq, zO_ne1, zO_ne2, zO_nn, zi_ne1, zi_ne2, zi_lt1, zi_le1, zi_lt2, zi_le2, Int32.reduceLT, Int32.reduceLE, Nat.reduceLT, Nat.reduceLeDiff, Int32.reduceMul, Int32.reduceAdd, Int32.reduceSub, not_false_eq_true, not_true_eq_false, Int32.reduceToInt, Int.reduceLE, Int.reduceLT, Int.reduceNeg, ite_self, E_X9_lay, R_X9_lay, SHF, PF, show nI 3 = 3 from rfl]
    generalize zw (zw I 33 (upd (I 33) 6 0)) 0 (upd (I 0) 14 v) = J at *
    have hJ : ∀ a, ¬ zlS a → J a = I a := fun a h => wo a (by unfold zlS at h; omega) (by unfold zlS at h; omega)
    refine ⟨J, run, hJ, fun J2 h2 h81 h80 => ?_⟩
    have h81 : J2 81 = upd (I 81) 72 v := by rw [h81]; rfl
    refine ⟨?_, ?_, ?_, zRest_l hR hJ w13 (by rw [w33]; rfl) h2 h80⟩
    · refine zRt_f (I := I) ?_ (h80 6 (by omega) (by omega)) ?_ ?_ ?_ ?_ ?_ ?_ ?_ ?_ ?_ (fun j hj => by rw [h81]; exact zup_lt (by omega)) ?_ ht
      all_goals (rw [h2 _ (by omega) (by omega) (by omega), wo _ (by omega) (by omega)])
    · have o0 : J2 0 = upd (I 0) 14 v := by rw [h2 0 (by omega) (by omega) (by omega), wc]
      have o27 : J2 27 = I 27 := by rw [h2 27 (by omega) (by omega) (by omega), wo 27 (by omega) (by omega)]
      unfold zRw
      rw [o0, o27, h81]
      have hv : -9 ≤ v.toInt ∧ v.toInt ≤ 9 := hv
      exact ⟨⟨rfl, hw.1.2.1, hw.1.2.2.1, hw.1.2.2.2⟩, hv, hw.2.2.1, hw.2.2.2.1, hw.2.2.2.2⟩
    · refine zRp_f (I := I) ?_ (h80 10 (by omega) (by omega)) ?_ ?_ ?_ ?_ ?_ (fun j h1 h3 => by rw [h81]; exact zup_lt (by omega)) hp
      all_goals first
        | (rw [h2 _ (by omega) (by omega) (by omega), wo _ (by omega) (by omega)]; done)
        | (rw [h2 27 (by omega) (by omega) (by omega), wc]; rfl)
  | 4, _ =>
    have hm0 : m = 0 := by have h : m < 1 := hm; omega
    subst hm0
    have wo : ∀ a, a ≠ 33 → a ≠ 0 → zw (zw I 33 (upd (I 33) 6 0)) 0 (upd (I 0) 15 v) a = I a := fun a h1 h2 => by rw [zw_n h2, zw_n h1]
    have wc : zw (zw I 33 (upd (I 33) 6 0)) 0 (upd (I 0) 15 v) 0 = upd (I 0) 15 v := rfl
    have w33 : zw (zw I 33 (upd (I 33) 6 0)) 0 (upd (I 0) 15 v) 33 = upd (I 33) 6 0 := rfl
    have w13 : zw (zw I 33 (upd (I 33) 6 0)) 0 (upd (I 0) 15 v) 0 13 = I 0 13 := rfl
    have run : ∀ d Q, zWM (d + 5) 87 [.ref 0, .int (nI 0), .int (nI 4), .int v] (zSH, I, L, zP f g t) Q = Q none (zSH, zw (zw I 33 (upd (I 33) 6 0)) 0 (upd (I 0) 15 v), L, zP f g t) := fun d Q => by
      simp (disch := first | assumption | rfl | omega | decide | exact zb_01 _) only [zabs_e, zmax_e, zmin_e, zrf_s, zpush_s, zpush_n, zw_app, upd_app, updL_app, Nat.reduceEqDiff, Nat.add_left_cancel_iff, Nat.add_eq_left, Nat.left_eq_add, ↓reduceIte, true_and, and_true, Int32.reduceToNatClampNeg, zin_O, zi_ltO, zi_leO, zi_Olt, zi_Ole, zi_eqO, Nat.not_lt_zero, Nat.zero_le, List.append_nil, zrn_n, zrn_s, List.cons_append, List.nil_append, zlg_lt, zlg_gt, zlg_le, zlg_ge, zlg_eq, Int32.toInt_toInt64, Int64.reduceToInt, zw_zw, zw_sw1, zw_sw2, zw_sw3, zw_sw4, zw_sw5, zw_sw6, zw_sw7, ne_eq, zi_in, zi_cl, zi_le, zi_lt, zi_eq, zi_neg, zi_0le, zb_0, if_true, if_false, eq_self, zb_T, zb_F, Bool.false_eq_true, zO_eq, zO_ne1, zO_ne2, zO_nn, zi_ne1, zi_ne2, zi_lt1, zi_le1, zi_lt2, zi_le2, Int32.reduceLT, Int32.reduceLE, Nat.reduceLT, Nat.reduceLeDiff, Int32.reduceMul, Int32.reduceAdd, Int32.reduceSub, not_false_eq_true, not_true_eq_false, Int32.reduceToInt, Int.reduceLE, Int.reduceLT, Int.reduceNeg, ite_self, E_X9_lay, R_X9_lay, SHF, PF, show nI 4 = 4 from rfl]
    generalize zw (zw I 33 (upd (I 33) 6 0)) 0 (upd (I 0) 15 v) = J at *
    have hJ : ∀ a, ¬ zlS a → J a = I a := fun a h => wo a (by unfold zlS at h; omega) (by unfold zlS at h; omega)
    refine ⟨J, run, hJ, fun J2 h2 h81 h80 => ?_⟩
    have h81 : J2 81 = upd (I 81) 73 v := by rw [h81]; rfl
    refine ⟨?_, ?_, ?_, zRest_l hR hJ w13 (by rw [w33]; rfl) h2 h80⟩
    · refine zRt_f (I := I) ?_ (h80 6 (by omega) (by omega)) ?_ ?_ ?_ ?_ ?_ ?_ ?_ ?_ ?_ (fun j hj => by rw [h81]; exact zup_lt (by omega)) ?_ ht
      all_goals (rw [h2 _ (by omega) (by omega) (by omega), wo _ (by omega) (by omega)])
    · have o0 : J2 0 = upd (I 0) 15 v := by rw [h2 0 (by omega) (by omega) (by omega), wc]
      have o27 : J2 27 = I 27 := by rw [h2 27 (by omega) (by omega) (by omega), wo 27 (by omega) (by omega)]
      unfold zRw
      rw [o0, o27, h81]
      have hv : -9 ≤ v.toInt ∧ v.toInt ≤ 9 := hv
      exact ⟨⟨hw.1.1, rfl, hw.1.2.2.1, hw.1.2.2.2⟩, hw.2.1, hv, hw.2.2.2.1, hw.2.2.2.2⟩
    · refine zRp_f (I := I) ?_ (h80 10 (by omega) (by omega)) ?_ ?_ ?_ ?_ ?_ (fun j h1 h3 => by rw [h81]; exact zup_lt (by omega)) hp
      all_goals first
        | (rw [h2 _ (by omega) (by omega) (by omega), wo _ (by omega) (by omega)]; done)
        | (rw [h2 27 (by omega) (by omega) (by omega), wc]; rfl)
  | 5, _ =>
    have hm : m < k := hm
    have m8 : m < 8 := by have := hp.2.2.1; omega
    have wo : ∀ a, a ≠ 33 → a ≠ 30 → zw (zw I 33 (upd (I 33) 6 0)) 30 (upd (I 30) m v) a = I a := fun a h1 h2 => by rw [zw_n h2, zw_n h1]
    have wc : zw (zw I 33 (upd (I 33) 6 0)) 30 (upd (I 30) m v) 30 = upd (I 30) m v := rfl
    have w33 : zw (zw I 33 (upd (I 33) 6 0)) 30 (upd (I 30) m v) 33 = upd (I 33) 6 0 := rfl
    have w13 : zw (zw I 33 (upd (I 33) 6 0)) 30 (upd (I 30) m v) 0 13 = I 0 13 := rfl
    have run : ∀ d Q, zWM (d + 5) 87 [.ref 0, .int (nI m), .int (nI 5), .int v] (zSH, I, L, zP f g t) Q = Q none (zSH, zw (zw I 33 (upd (I 33) 6 0)) 30 (upd (I 30) m v), L, zP f g t) := fun d Q => by
      simp (disch := first | assumption | rfl | omega | decide | exact zb_01 _) only [zabs_e, zmax_e, zmin_e, zrf_s, zpush_s, zpush_n, zw_app, upd_app, updL_app, Nat.reduceEqDiff, Nat.add_left_cancel_iff, Nat.add_eq_left, Nat.left_eq_add, ↓reduceIte, true_and, and_true, Int32.reduceToNatClampNeg, zin_O, zi_ltO, zi_leO, zi_Olt, zi_Ole, zi_eqO, Nat.not_lt_zero, Nat.zero_le, List.append_nil, zrn_n, zrn_s, List.cons_append, List.nil_append, zlg_lt, zlg_gt, zlg_le, zlg_ge, zlg_eq, Int32.toInt_toInt64, Int64.reduceToInt, zw_zw, zw_sw1, zw_sw2, zw_sw3, zw_sw4, zw_sw5, zw_sw6, zw_sw7, ne_eq, zi_in, zi_cl, zi_le, zi_lt, zi_eq, zi_neg, zi_0le, zb_0, if_true, if_false, eq_self, zb_T, zb_F, Bool.false_eq_true, zO_eq, zO_ne1, zO_ne2, zO_nn, zi_ne1, zi_ne2, zi_lt1, zi_le1, zi_lt2, zi_le2, Int32.reduceLT, Int32.reduceLE, Nat.reduceLT, Nat.reduceLeDiff, Int32.reduceMul, Int32.reduceAdd, Int32.reduceSub, not_false_eq_true, not_true_eq_false, Int32.reduceToInt, Int.reduceLE, Int.reduceLT, Int.reduceNeg, ite_self, E_X9_lay, R_X9_lay, SHF, PF, show nI 5 = 5 from rfl]
    generalize zw (zw I 33 (upd (I 33) 6 0)) 30 (upd (I 30) m v) = J at *
    have hJ : ∀ a, ¬ zlS a → J a = I a := fun a h => wo a (by unfold zlS at h; omega) (by unfold zlS at h; omega)
    refine ⟨J, run, hJ, fun J2 h2 h81 h80 => ?_⟩
    have h81 : J2 81 = upd (I 81) (74 + m) v := by rw [h81]; rfl
    refine ⟨?_, ?_, ?_, zRest_l hR hJ w13 (by rw [w33]; rfl) h2 h80⟩
    · refine zRt_f (I := I) ?_ (h80 6 (by omega) (by omega)) ?_ ?_ ?_ ?_ ?_ ?_ ?_ ?_ ?_ (fun j hj => by rw [h81]; exact zup_lt (by omega)) ?_ ht
      all_goals (rw [h2 _ (by omega) (by omega) (by omega), wo _ (by omega) (by omega)])
    · have o0 : J2 0 = I 0 := by rw [h2 0 (by omega) (by omega) (by omega), wo 0 (by omega) (by omega)]
      have o27 : J2 27 = I 27 := by rw [h2 27 (by omega) (by omega) (by omega), wo 27 (by omega) (by omega)]
      exact zRw_f (by rw [h81]; exact zup_lt (by omega)) (by rw [h81]; exact zup_lt (by omega)) (by rw [h81]; exact zup_lt (by omega)) (by rw [h81]; exact zup_lt (by omega)) (by rw [o0]) (by rw [o0]) (by rw [o0]) (by rw [o27]) hw
    · have o : ∀ a, a ≠ 33 → a ≠ 30 → a ≠ 54 → a ≠ 55 → (a < 80 ∨ 84 < a) → J2 a = I a := fun a h3 h4 h5 h6 h7 => (h2 a h5 h6 h7).trans (wo a h3 h4)
      have o30 : J2 30 = upd (I 30) m v := by rw [h2 30 (by omega) (by omega) (by omega), wc]
      refine ⟨by rw [o 27 (by omega) (by omega) (by omega) (by omega) (by omega)]; exact hp.1, by rw [h80 10 (by omega) (by omega)]; exact hp.2.1, hp.2.2.1, fun j hj => ?_, fun j hj => ?_⟩
      · rw [o 86 (by omega) (by omega) (by omega) (by omega) (by omega), o 87 (by omega) (by omega) (by omega) (by omega) (by omega), o 28 (by omega) (by omega) (by omega) (by omega) (by omega), o 29 (by omega) (by omega) (by omega) (by omega) (by omega)]
        exact hp.2.2.2.1 j hj
      · rw [o30, h81]
        by_cases e : j = m
        · subst e
          rw [zup_at, zup_at]
          exact ⟨rfl, hv⟩
        · rw [zup_lt e, zup_lt (show 74 + j ≠ 74 + m by omega)]
          exact hp.2.2.2.2 j hj
  | 6, _ =>
    have hm0 : m = 0 := by have h : m < 1 := hm; omega
    subst hm0
    have wo : ∀ a, a ≠ 33 → a ≠ 27 → zw (zw I 33 (upd (I 33) 6 0)) 27 (upd (I 27) 4 v) a = I a := fun a h1 h2 => by rw [zw_n h2, zw_n h1]
    have wc : zw (zw I 33 (upd (I 33) 6 0)) 27 (upd (I 27) 4 v) 27 = upd (I 27) 4 v := rfl
    have w33 : zw (zw I 33 (upd (I 33) 6 0)) 27 (upd (I 27) 4 v) 33 = upd (I 33) 6 0 := rfl
    have w13 : zw (zw I 33 (upd (I 33) 6 0)) 27 (upd (I 27) 4 v) 0 13 = I 0 13 := rfl
    have run : ∀ d Q, zWM (d + 5) 87 [.ref 0, .int (nI 0), .int (nI 6), .int v] (zSH, I, L, zP f g t) Q = Q none (zSH, zw (zw I 33 (upd (I 33) 6 0)) 27 (upd (I 27) 4 v), L, zP f g t) := fun d Q => by
      simp (disch := first | assumption | rfl | omega | decide | exact zb_01 _) only [zabs_e, zmax_e, zmin_e, zrf_s, zpush_s, zpush_n, zw_app, upd_app, updL_app, Nat.reduceEqDiff, Nat.add_left_cancel_iff, Nat.add_eq_left, Nat.left_eq_add, ↓reduceIte, true_and, and_true, Int32.reduceToNatClampNeg, zin_O, zi_ltO, zi_leO, zi_Olt, zi_Ole, zi_eqO, Nat.not_lt_zero, Nat.zero_le, List.append_nil, zrn_n, zrn_s, List.cons_append, List.nil_append, zlg_lt, zlg_gt, zlg_le, zlg_ge, zlg_eq, Int32.toInt_toInt64, Int64.reduceToInt, zw_zw, zw_sw1, zw_sw2, zw_sw3, zw_sw4, zw_sw5, zw_sw6, zw_sw7, ne_eq, zi_in, zi_cl, zi_le, zi_lt, zi_eq, zi_neg, zi_0le, zb_0, if_true, if_false, eq_self, zb_T, zb_F, Bool.false_eq_true, zO_eq, zO_ne1, zO_ne2, zO_nn, zi_ne1, zi_ne2, zi_lt1, zi_le1, zi_lt2, zi_le2, Int32.reduceLT, Int32.reduceLE, Nat.reduceLT, Nat.reduceLeDiff, Int32.reduceMul, Int32.reduceAdd, Int32.reduceSub, not_false_eq_true, not_true_eq_false, Int32.reduceToInt, Int.reduceLE, Int.reduceLT, Int.reduceNeg, ite_self, E_X9_lay, R_X9_lay, SHF, PF, show nI 6 = 6 from rfl]
    generalize zw (zw I 33 (upd (I 33) 6 0)) 27 (upd (I 27) 4 v) = J at *
    have hJ : ∀ a, ¬ zlS a → J a = I a := fun a h => wo a (by unfold zlS at h; omega) (by unfold zlS at h; omega)
    refine ⟨J, run, hJ, fun J2 h2 h81 h80 => ?_⟩
    have h81 : J2 81 = upd (I 81) 82 v := by rw [h81]; rfl
    refine ⟨?_, ?_, ?_, zRest_l hR hJ w13 (by rw [w33]; rfl) h2 h80⟩
    · refine zRt_f (I := I) ?_ (h80 6 (by omega) (by omega)) ?_ ?_ ?_ ?_ ?_ ?_ ?_ ?_ ?_ (fun j hj => by rw [h81]; exact zup_lt (by omega)) ?_ ht
      all_goals (rw [h2 _ (by omega) (by omega) (by omega), wo _ (by omega) (by omega)])
    · have o0 : J2 0 = I 0 := by rw [h2 0 (by omega) (by omega) (by omega), wo 0 (by omega) (by omega)]
      have o27 : J2 27 = upd (I 27) 4 v := by rw [h2 27 (by omega) (by omega) (by omega), wc]
      unfold zRw
      rw [o0, o27, h81]
      have hv : 1 ≤ v.toInt ∧ v.toInt ≤ 999 := hv
      exact ⟨⟨hw.1.1, hw.1.2.1, rfl, hw.1.2.2.2⟩, hw.2.1, hw.2.2.1, hv, hw.2.2.2.2⟩
    · refine zRp_f (I := I) ?_ (h80 10 (by omega) (by omega)) ?_ ?_ ?_ ?_ ?_ (fun j h1 h3 => by rw [h81]; exact zup_lt (by omega)) hp
      all_goals first
        | (rw [h2 _ (by omega) (by omega) (by omega), wo _ (by omega) (by omega)]; done)
        | (rw [h2 27 (by omega) (by omega) (by omega), wc]; rfl)
  | 7, _ =>
    have hm0 : m = 0 := by have h : m < 1 := hm; omega
    subst hm0
    have wo : ∀ a, a ≠ 33 → a ≠ 0 → zw (zw I 33 (upd (I 33) 6 0)) 0 (upd (I 0) 16 v) a = I a := fun a h1 h2 => by rw [zw_n h2, zw_n h1]
    have wc : zw (zw I 33 (upd (I 33) 6 0)) 0 (upd (I 0) 16 v) 0 = upd (I 0) 16 v := rfl
    have w33 : zw (zw I 33 (upd (I 33) 6 0)) 0 (upd (I 0) 16 v) 33 = upd (I 33) 6 0 := rfl
    have w13 : zw (zw I 33 (upd (I 33) 6 0)) 0 (upd (I 0) 16 v) 0 13 = I 0 13 := rfl
    have run : ∀ d Q, zWM (d + 5) 87 [.ref 0, .int (nI 0), .int (nI 7), .int v] (zSH, I, L, zP f g t) Q = Q none (zSH, zw (zw I 33 (upd (I 33) 6 0)) 0 (upd (I 0) 16 v), L, zP f g t) := fun d Q => by
      simp (disch := first | assumption | rfl | omega | decide | exact zb_01 _) only [zabs_e, zmax_e, zmin_e, zrf_s, zpush_s, zpush_n, zw_app, upd_app, updL_app, Nat.reduceEqDiff, Nat.add_left_cancel_iff, Nat.add_eq_left, Nat.left_eq_add, ↓reduceIte, true_and, and_true, Int32.reduceToNatClampNeg, zin_O, zi_ltO, zi_leO, zi_Olt, zi_Ole, zi_eqO, Nat.not_lt_zero, Nat.zero_le, List.append_nil, zrn_n, zrn_s, List.cons_append, List.nil_append, zlg_lt, zlg_gt, zlg_le, zlg_ge, zlg_eq, Int32.toInt_toInt64, Int64.reduceToInt, zw_zw, zw_sw1, zw_sw2, zw_sw3, zw_sw4, zw_sw5, zw_sw6, zw_sw7, ne_eq, zi_in, zi_cl, zi_le, zi_lt, zi_eq, zi_neg, zi_0le, zb_0, if_true, if_false, eq_self, zb_T, zb_F, Bool.false_eq_true, zO_eq, zO_ne1, zO_ne2, zO_nn, zi_ne1, zi_ne2, zi_lt1, zi_le1, zi_lt2, zi_le2, Int32.reduceLT, Int32.reduceLE, Nat.reduceLT, Nat.reduceLeDiff, Int32.reduceMul, Int32.reduceAdd, Int32.reduceSub, not_false_eq_true, not_true_eq_false, Int32.reduceToInt, Int.reduceLE, Int.reduceLT, Int.reduceNeg, ite_self, E_X9_lay, R_X9_lay, SHF, PF, show nI 7 = 7 from rfl]
    generalize zw (zw I 33 (upd (I 33) 6 0)) 0 (upd (I 0) 16 v) = J at *
    have hJ : ∀ a, ¬ zlS a → J a = I a := fun a h => wo a (by unfold zlS at h; omega) (by unfold zlS at h; omega)
    refine ⟨J, run, hJ, fun J2 h2 h81 h80 => ?_⟩
    have h81 : J2 81 = upd (I 81) 83 v := by rw [h81]; rfl
    refine ⟨?_, ?_, ?_, zRest_l hR hJ w13 (by rw [w33]; rfl) h2 h80⟩
    · refine zRt_f (I := I) ?_ (h80 6 (by omega) (by omega)) ?_ ?_ ?_ ?_ ?_ ?_ ?_ ?_ ?_ (fun j hj => by rw [h81]; exact zup_lt (by omega)) ?_ ht
      all_goals (rw [h2 _ (by omega) (by omega) (by omega), wo _ (by omega) (by omega)])
    · have o0 : J2 0 = upd (I 0) 16 v := by rw [h2 0 (by omega) (by omega) (by omega), wc]
      have o27 : J2 27 = I 27 := by rw [h2 27 (by omega) (by omega) (by omega), wo 27 (by omega) (by omega)]
      unfold zRw
      rw [o0, o27, h81]
      have hv : 0 ≤ v.toInt ∧ v.toInt ≤ 12 := hv
      exact ⟨⟨hw.1.1, hw.1.2.1, hw.1.2.2.1, rfl⟩, hw.2.1, hw.2.2.1, hw.2.2.2.1, hv⟩
    · refine zRp_f (I := I) ?_ (h80 10 (by omega) (by omega)) ?_ ?_ ?_ ?_ ?_ (fun j h1 h3 => by rw [h81]; exact zup_lt (by omega)) hp
      all_goals first
        | (rw [h2 _ (by omega) (by omega) (by omega), wo _ (by omega) (by omega)]; done)
        | (rw [h2 27 (by omega) (by omega) (by omega), wc]; rfl)
  | q + 8, h => exact absurd h (by omega)
end LAY
