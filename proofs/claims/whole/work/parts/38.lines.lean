/-! LINES -/
/-- a LINE: good, where, parts, whether it counts, what it gives -/
abbrev zQ := Bool × Nat × List (Int32 × Int32) × Bool × Int32
def zline (ah nm : Nat → Int32) (p : Nat) : zQ :=
  if (zall ah nm p).1 = true then
    (if ah (zall ah nm p).2.1 = 63 then
      (if (zall ah nm ((zall ah nm p).2.1 + 1)).1 = true then (true, (zall ah nm ((zall ah nm p).2.1 + 1)).2.1, (zall ah nm p).2.2.1 ++ [(63, 0)] ++ (zall ah nm ((zall ah nm p).2.1 + 1)).2.2.1 ++ [(59, 0)], decide (¬ (zall ah nm p).2.2.2.1 = 0), (zall ah nm ((zall ah nm p).2.1 + 1)).2.2.2.1)
       else (false, (zall ah nm ((zall ah nm p).2.1 + 1)).2.1, (zall ah nm p).2.2.1 ++ [(63, 0)] ++ (zall ah nm ((zall ah nm p).2.1 + 1)).2.2.1, decide (¬ (zall ah nm p).2.2.2.1 = 0), (zall ah nm ((zall ah nm p).2.1 + 1)).2.2.2.1))
     else (true, (zall ah nm p).2.1, (zall ah nm p).2.2.1 ++ [(59, 0)], true, (zall ah nm p).2.2.2.1))
  else (false, (zall ah nm p).2.1, (zall ah nm p).2.2.1, true, (zall ah nm p).2.2.2.1)
/-- further LINES, behind what has been read: v is given already -/
def zlines (ah nm : Nat → Int32) : Nat → Nat → List (Int32 × Int32) → Bool → Int32 → zQ
  | 0, p, c, gv, v => (true, p, c, gv, v)
  | k + 1, p, c, gv, v => if ah p = 59 then
      (if (zline ah nm (p + 1)).1 = true then zlines ah nm k (zline ah nm (p + 1)).2.1 (c ++ (zline ah nm (p + 1)).2.2.1) (gv || (zline ah nm (p + 1)).2.2.2.1) (if (zline ah nm (p + 1)).2.2.2.1 = true ∧ gv = false then (zline ah nm (p + 1)).2.2.2.2 else v)
       else (false, (zline ah nm (p + 1)).2.1, c ++ (zline ah nm (p + 1)).2.2.1, gv, v))
    else (true, p, c, gv, v)
def ztext (ah nm : Nat → Int32) : zQ :=
  if (zline ah nm 0).1 = true then zlines ah nm 120 (zline ah nm 0).2.1 (zline ah nm 0).2.2.1 (zline ah nm 0).2.2.2.1 (if (zline ah nm 0).2.2.2.1 = true then (zline ah nm 0).2.2.2.2 else 0)
  else (false, (zline ah nm 0).2.1, (zline ah nm 0).2.2.1, false, 0)
/-- parts are no more than bytes; the last end of a LINE is one more -/
def zBl (N : Nat) (X : Nat → zQ) : Prop := ∀ p, p ≤ N → p ≤ (X p).2.1 ∧ (X p).2.1 ≤ N ∧ (X p).2.2.1.length + p ≤ (X p).2.1 + 1
section LN
variable {s nm : Nat → Int32} {N : Nat}
theorem zline_bd : zBl N (zline (zah s N) nm) := by
  intro p hp
  have hB := zall_bd (s := s) (nm := nm) (N := N)
  have e := hB p hp
  unfold zline
  by_cases h1 : (zall (zah s N) nm p).1 = true
  · rw [if_pos h1]
    by_cases h2 : zah s N (zall (zah s N) nm p).2.1 = 63
    · have e2 := zah_lt (fun z => absurd (z.symm.trans h2) (by decide))
      have e3 := hB ((zall (zah s N) nm p).2.1 + 1) e2
      rw [if_pos h2]
      split <;> simp only [List.length_append, List.length_cons, List.length_nil] <;> exact ⟨by omega, by omega, by omega⟩
    · rw [if_neg h2]
      simp only [List.length_append, List.length_cons, List.length_nil]
      exact ⟨by omega, by omega, by omega⟩
  · rw [if_neg h1]
    exact ⟨by dsimp only; omega, by dsimp only; omega, by dsimp only; omega⟩
theorem zlines_bd : ∀ k p c gv v, p ≤ N → c.length ≤ p + 1 → p ≤ (zlines (zah s N) nm k p c gv v).2.1 ∧ (zlines (zah s N) nm k p c gv v).2.1 ≤ N ∧ (zlines (zah s N) nm k p c gv v).2.2.1.length ≤ (zlines (zah s N) nm k p c gv v).2.1 + 1
  | 0, p, c, gv, v, h, h2 => ⟨Nat.le_refl _, h, h2⟩
  | k + 1, p, c, gv, v, h, h2 => by
    unfold zlines
    by_cases e : zah s N p = 59
    · have e1 := zah_lt (fun z => absurd (z.symm.trans e) (by decide))
      have e2 := zline_bd (s := s) (nm := nm) (N := N) (p + 1) e1
      rw [if_pos e]
      by_cases e3 : (zline (zah s N) nm (p + 1)).1 = true
      · have e4 := zlines_bd k (zline (zah s N) nm (p + 1)).2.1 (c ++ (zline (zah s N) nm (p + 1)).2.2.1) (gv || (zline (zah s N) nm (p + 1)).2.2.2.1) (if (zline (zah s N) nm (p + 1)).2.2.2.1 = true ∧ gv = false then (zline (zah s N) nm (p + 1)).2.2.2.2 else v) e2.2.1 (by rw [List.length_append]; omega)
        rw [if_pos e3]
        exact ⟨by omega, e4.2.1, e4.2.2⟩
      · rw [if_neg e3]
        exact ⟨by dsimp only; omega, e2.2.1, by dsimp only; rw [List.length_append]; omega⟩
    · rw [if_neg e]
      exact ⟨Nat.le_refl _, h, h2⟩
theorem ztext_bd : (ztext (zah s N) nm).2.1 ≤ N ∧ (ztext (zah s N) nm).2.2.1.length ≤ N + 1 := by
  have e := zline_bd (s := s) (nm := nm) (N := N) 0 (Nat.zero_le _)
  unfold ztext
  by_cases h : (zline (zah s N) nm 0).1 = true
  · rw [if_pos h]
    have e2 := zlines_bd (s := s) (nm := nm) (N := N) 120 (zline (zah s N) nm 0).2.1 (zline (zah s N) nm 0).2.2.1 (zline (zah s N) nm 0).2.2.2.1 (if (zline (zah s N) nm 0).2.2.2.1 = true then (zline (zah s N) nm 0).2.2.2.2 else 0) e.2.1 (by omega)
    exact ⟨e2.2.1, by omega⟩
  · rw [if_neg h]
    exact ⟨e.2.1, by dsimp only; omega⟩
end LN
section LINES
variable {d e f g N p : Nat} {t : Option Nat} {I : Nat → Nat → Int32} {L : Nat → Nat → Int64} {c : List (Int32 × Int32)} {Q : Option Value → zMm → Prop}
theorem c_line (he : zpr e) (hN : I 31 1 = nI N) (h120 : N ≤ 120) (nm : Nat → Int32) (hp : p ≤ N) : zWM (d + 52) 34 [.ref 31] (zSH, zE e I p c, L, zP f g (some e)) Q = Q (some (.int (zb ((zline (zah (I 32) N) nm p).1 = true)))) (zSH, zE e I (zline (zah (I 32) N) nm p).2.1 (c ++ (zline (zah (I 32) N) nm p).2.2.1), L, zP f g (some e)) := by
  have hs := zpr_s he
  have a1 : zP f g (some e) e 0 = some (e + 1) := by rcases he with rfl | rfl <;> rfl
  have a2 : zP f g (some e) e 1 = some (e + 2) := by rcases he with rfl | rfl <;> rfl
  have hB := zall_bd (s := I 32) (nm := nm) (N := N) p hp
  have q1 := fun Q => c_all (e := e) (f := f) (g := g) (L := L) he hN h120 nm d p c Q hp
  simp only [show nI 0 = 0 from rfl] at q1
  by_cases h1 : (zall (zah (I 32) N) nm p).1 = true
  · by_cases h2 : zah (I 32) N (zall (zah (I 32) N) nm p).2.1 = 63
    · have e2 := zah_lt (fun z => absurd (z.symm.trans h2) (by decide))
      have q2 := fun c Q => c_all (e := e) (f := f) (g := g) (L := L) he hN h120 nm d ((zall (zah (I 32) N) nm p).2.1 + 1) c Q e2
      simp only [show nI 0 = 0 from rfl] at q2
      simp (disch := first | assumption | rfl | omega | decide | exact zb_01 _) only [zabs_e, zmax_e, zmin_e, zrf_s, zpush_s, zpush_n, zw_app, upd_app, updL_app, Nat.reduceEqDiff, Nat.add_left_cancel_iff, Nat.add_eq_left, Nat.left_eq_add, ↓reduceIte, true_and, and_true, Int32.reduceToNatClampNeg, zin_O, zi_ltO, zi_leO, zi_Olt, zi_Ole, zi_eqO, Nat.not_lt_zero, Nat.zero_le, List.append_nil, zrn_n, zrn_s, List.cons_append, List.nil_append, zlg_lt, zlg_gt, zlg_le, zlg_ge, zlg_eq, Int32.toInt_toInt64, Int64.reduceToInt, zw_zw, zw_sw1, zw_sw2, zw_sw3, zw_sw4, zw_sw5, zw_sw6, zw_sw7, ne_eq, zi_in, zi_cl, zi_le, zi_lt, zi_eq, zi_neg, zi_0le, zb_0, if_true, if_false, eq_self, zb_T, zb_F, Bool.false_eq_true, zO_eq, zO_ne1, zO_ne2, zO_nn, zi_ne1, zi_ne2, zi_lt1, zi_le1, zi_lt2, zi_le2, Int32.reduceLT, Int32.reduceLE, Nat.reduceLT, Nat.reduceLeDiff, Int32.reduceMul, Int32.reduceAdd, Int32.reduceSub, not_false_eq_true, not_true_eq_false, E_X4_line, R_X4_line, SHF, PF, zi_s, zE_31 he, upd_upd, zE_p he, c_ahead he hN h120, q1, q2, h1, h2, c_add he _ _ a1 a2]
      unfold zline
      rw [if_pos h1, if_pos h2]
      by_cases h3 : (zall (zah (I 32) N) nm ((zall (zah (I 32) N) nm p).2.1 + 1)).1 = true
      · rw [if_neg (not_not_intro h3), if_pos h3, zb_t rfl]
        simp only [List.append_assoc]
      · rw [if_pos h3, if_neg h3, zb_f (fun z => Bool.noConfusion z)]
        simp only [List.append_assoc]
    · simp (disch := first | assumption | rfl | omega | decide | exact zb_01 _) only [zabs_e, zmax_e, zmin_e, zrf_s, zpush_s, zpush_n, zw_app, upd_app, updL_app, Nat.reduceEqDiff, Nat.add_left_cancel_iff, Nat.add_eq_left, Nat.left_eq_add, ↓reduceIte, true_and, and_true, Int32.reduceToNatClampNeg, zin_O, zi_ltO, zi_leO, zi_Olt, zi_Ole, zi_eqO, Nat.not_lt_zero, Nat.zero_le, List.append_nil, zrn_n, zrn_s, List.cons_append, List.nil_append, zlg_lt, zlg_gt, zlg_le, zlg_ge, zlg_eq, Int32.toInt_toInt64, Int64.reduceToInt, zw_zw, zw_sw1, zw_sw2, zw_sw3, zw_sw4, zw_sw5, zw_sw6, zw_sw7, ne_eq, zi_in, zi_cl, zi_le, zi_lt, zi_eq, zi_neg, zi_0le, zb_0, if_true, if_false, eq_self, zb_T, zb_F, Bool.false_eq_true, zO_eq, zO_ne1, zO_ne2, zO_nn, zi_ne1, zi_ne2, zi_lt1, zi_le1, zi_lt2, zi_le2, Int32.reduceLT, Int32.reduceLE, Nat.reduceLT, Nat.reduceLeDiff, Int32.reduceMul, Int32.reduceAdd, Int32.reduceSub, not_false_eq_true, not_true_eq_false, E_X4_line, R_X4_line, SHF, PF, zi_s, zE_31 he, upd_upd, zE_p he, c_ahead he hN h120, q1, h1, h2, c_add he _ _ a1 a2]
      unfold zline
      rw [if_pos h1, if_neg h2, zb_t rfl]
      simp only [List.append_assoc]
  · simp (disch := first | assumption | rfl | omega | decide | exact zb_01 _) only [zabs_e, zmax_e, zmin_e, zrf_s, zpush_s, zpush_n, zw_app, upd_app, updL_app, Nat.reduceEqDiff, Nat.add_left_cancel_iff, Nat.add_eq_left, Nat.left_eq_add, ↓reduceIte, true_and, and_true, Int32.reduceToNatClampNeg, zin_O, zi_ltO, zi_leO, zi_Olt, zi_Ole, zi_eqO, Nat.not_lt_zero, Nat.zero_le, List.append_nil, zrn_n, zrn_s, List.cons_append, List.nil_append, zlg_lt, zlg_gt, zlg_le, zlg_ge, zlg_eq, Int32.toInt_toInt64, Int64.reduceToInt, zw_zw, zw_sw1, zw_sw2, zw_sw3, zw_sw4, zw_sw5, zw_sw6, zw_sw7, ne_eq, zi_in, zi_cl, zi_le, zi_lt, zi_eq, zi_neg, zi_0le, zb_0, if_true, if_false, eq_self, zb_T, zb_F, Bool.false_eq_true, zO_eq, zO_ne1, zO_ne2, zO_nn, zi_ne1, zi_ne2, zi_lt1, zi_le1, zi_lt2, zi_le2, Int32.reduceLT, Int32.reduceLE, Nat.reduceLT, Nat.reduceLeDiff, Int32.reduceMul, Int32.reduceAdd, Int32.reduceSub, not_false_eq_true, not_true_eq_false, E_X4_line, R_X4_line, SHF, PF, q1, h1]
    unfold zline
    rw [if_neg h1, zb_f (fun z => Bool.noConfusion z)]
theorem zP_t {e : Nat} : zw (zP f g t) 31 (va_up (zP f g t 31) 3 (some e)) = zP f g (some e) := by
  funext a k
  simp only [zw]
  by_cases h : a = 31
  · subst h
    by_cases h2 : k = 3
    · subst h2; simp [va_up, zP]
    · simp [h2, va_up, zP]
  · simp [h, zP]
theorem zP_f {e : Nat} : zw (zP f g t) 0 (va_up (zP f g t 0) 11 (some e)) = zP e g t := by
  funext a k
  simp only [zw]
  by_cases h : a = 0
  · subst h
    by_cases h2 : k = 11
    · subst h2; simp [va_up, zP]
    · simp [h2, va_up, zP]
  · simp [h, zP]
theorem zP_g {e : Nat} : zw (zP f g t) 0 (va_up (zP f g t 0) 12 (some e)) = zP f e t := by
  funext a k
  simp only [zw]
  by_cases h : a = 0
  · subst h
    by_cases h2 : k = 12
    · subst h2; simp [va_up, zP]
    · simp [h2, va_up, zP]
  · simp [h, zP]
theorem zEp_0 (old : Nat → Int32) : zEp [] old = old := by funext j; simp [zEp]
theorem zEv_0 (old : Nat → Int32) : zEv [] old = old := by funext j; simp [zEv]
theorem zE_0 (he : zpr e) : zw (zw I e (upd (I e) 3 0)) 31 (upd (I 31) 2 0) = zE e I 0 [] := by
  unfold zE
  rw [zEp_0, zEv_0, show nI (zEn []) = 0 from rfl, show nI 0 = 0 from rfl]
  rcases he with rfl | rfl
  · rw [zw_same (f := zw I 31 (upd (I 31) 2 0)) (a := 60 + 1) (g := I (60 + 1)) rfl, zw_same (f := zw I 31 (upd (I 31) 2 0)) (a := 60 + 2) (g := I (60 + 2)) rfl]
    exact zw_cm (by decide)
  · rw [zw_same (f := zw I 31 (upd (I 31) 2 0)) (a := 64 + 1) (g := I (64 + 1)) rfl, zw_same (f := zw I 31 (upd (I 31) 2 0)) (a := 64 + 2) (g := I (64 + 2)) rfl]
    exact zw_cm (by decide)
theorem c_reads (he : zpr e) (hN : I 31 1 = nI N) (h120 : N ≤ 120) (nm : Nat → Int32) : zWM (d + 53) 33 [.ref 31, .ref e] (zSH, I, L, zP f g t) Q = Q (some (.int (zb ((ztext (zah (I 32) N) nm).1 = true ∧ (ztext (zah (I 32) N) nm).2.1 = N)))) (zSH, zE e I (ztext (zah (I 32) N) nm).2.1 (ztext (zah (I 32) N) nm).2.2.1, L, zP f g (some e)) := by
  have hs := zpr_s he
  have q1 := fun c Q => c_line (d := d) (e := e) (f := f) (g := g) (L := L) (c := c) (Q := Q) he hN h120 nm (Nat.zero_le N)
  have n31 : ¬ 31 = e := by rcases he with rfl | rfl <;> decide
  have n31' : ¬ e = 31 := fun z => n31 z.symm
  have hB := zline_bd (s := I 32) (nm := nm) (N := N) 0 (Nat.zero_le _)
  have loop : ∀ k p c gv v, k ≤ 120 → p ≤ N → zWp (d + 52) zi_33 none 25 [.ref 31, .ref e, .int 1, .int (nI (120 - k))] [] (zSH, zE e I p c, L, zP f g (some e)) Q = Q (some (.int (zb ((zlines (zah (I 32) N) nm k p c gv v).1 = true ∧ (zlines (zah (I 32) N) nm k p c gv v).2.1 = N)))) (zSH, zE e I (zlines (zah (I 32) N) nm k p c gv v).2.1 (zlines (zah (I 32) N) nm k p c gv v).2.2.1, L, zP f g (some e)) := by
    intro k
    induction k with
    | zero =>
      intro p c gv v _ hp
      rw [H_X4_reads_25]
      simp (disch := first | assumption | rfl | omega | decide | exact zb_01 _) only [zabs_e, zmax_e, zmin_e, zrf_s, zpush_s, zpush_n, zw_app, upd_app, updL_app, Nat.reduceEqDiff, Nat.add_left_cancel_iff, Nat.add_eq_left, Nat.left_eq_add, ↓reduceIte, true_and, and_true, Int32.reduceToNatClampNeg, zin_O, zi_ltO, zi_leO, zi_Olt, zi_Ole, zi_eqO, Nat.not_lt_zero, Nat.zero_le, List.append_nil, zrn_n, zrn_s, List.cons_append, List.nil_append, zlg_lt, zlg_gt, zlg_le, zlg_ge, zlg_eq, Int32.toInt_toInt64, Int64.reduceToInt, zw_zw, zw_sw1, zw_sw2, zw_sw3, zw_sw4, zw_sw5, zw_sw6, zw_sw7, ne_eq, zi_in, zi_cl, zi_le, zi_lt, zi_eq, zi_neg, zi_0le, zb_0, if_true, if_false, eq_self, zb_T, zb_F, Bool.false_eq_true, zO_eq, zO_ne1, zO_ne2, zO_nn, zi_ne1, zi_ne2, zi_lt1, zi_le1, zi_lt2, zi_le2, Int32.reduceLT, Int32.reduceLE, Nat.reduceLT, Nat.reduceLeDiff, Int32.reduceMul, Int32.reduceAdd, Int32.reduceSub, not_false_eq_true, not_true_eq_false, R_X4_reads, Nat.sub_zero, Nat.le_refl, SHF, zE_31 he, hN]
      unfold zlines
      by_cases h : p = N
      · rw [if_pos h, zb_t ⟨rfl, h⟩]
      · rw [if_neg h, zb_f (fun z => h z.2)]
    | succ k ih =>
      intro p c gv v hk hp
      have g1 : ¬ 120 ≤ 120 - (k + 1) := by omega
      have g2 : 120 - (k + 1) + 1 = 120 - k := by omega
      rw [H_X4_reads_25]
      by_cases h1 : zah (I 32) N p = 59
      · have hp2 := zah_lt (fun z => absurd (z.symm.trans h1) (by decide))
        have q2 := fun c Q => c_line (d := d) (e := e) (f := f) (g := g) (L := L) (c := c) (Q := Q) he hN h120 nm (show p + 1 ≤ N from hp2)
        simp (disch := first | assumption | rfl | omega | decide | exact zb_01 _) only [zabs_e, zmax_e, zmin_e, zrf_s, zpush_s, zpush_n, zw_app, upd_app, updL_app, Nat.reduceEqDiff, Nat.add_left_cancel_iff, Nat.add_eq_left, Nat.left_eq_add, ↓reduceIte, true_and, and_true, Int32.reduceToNatClampNeg, zin_O, zi_ltO, zi_leO, zi_Olt, zi_Ole, zi_eqO, Nat.not_lt_zero, Nat.zero_le, List.append_nil, zrn_n, zrn_s, List.cons_append, List.nil_append, zlg_lt, zlg_gt, zlg_le, zlg_ge, zlg_eq, Int32.toInt_toInt64, Int64.reduceToInt, zw_zw, zw_sw1, zw_sw2, zw_sw3, zw_sw4, zw_sw5, zw_sw6, zw_sw7, ne_eq, zi_in, zi_cl, zi_le, zi_lt, zi_eq, zi_neg, zi_0le, zb_0, if_true, if_false, eq_self, zb_T, zb_F, Bool.false_eq_true, zO_eq, zO_ne1, zO_ne2, zO_nn, zi_ne1, zi_ne2, zi_lt1, zi_le1, zi_lt2, zi_le2, Int32.reduceLT, Int32.reduceLE, Nat.reduceLT, Nat.reduceLeDiff, Int32.reduceMul, Int32.reduceAdd, Int32.reduceSub, not_false_eq_true, not_true_eq_false, R_X4_reads, g1, g2, SHF, PF, zi_s, zE_31 he, upd_upd, zE_p he, c_ahead he hN h120, hN, h1, q2]
        unfold zlines
        rw [if_pos h1]
        by_cases h2 : (zline (zah (I 32) N) nm (p + 1)).1 = true
        · have e2 := ih (zline (zah (I 32) N) nm (p + 1)).2.1 (c ++ (zline (zah (I 32) N) nm (p + 1)).2.2.1) (gv || (zline (zah (I 32) N) nm (p + 1)).2.2.2.1) (if (zline (zah (I 32) N) nm (p + 1)).2.2.2.1 = true ∧ gv = false then (zline (zah (I 32) N) nm (p + 1)).2.2.2.2 else v) (by omega) (zline_bd (s := I 32) (nm := nm) (N := N) (p + 1) hp2).2.1
          rw [zb_t h2, if_pos h2]
          exact e2
        · rw [zb_f h2, if_neg h2, H_X4_reads_25]
          by_cases h3 : 120 ≤ 120 - k
          · simp (disch := first | assumption | rfl | omega | decide | exact zb_01 _) only [zabs_e, zmax_e, zmin_e, zrf_s, zpush_s, zpush_n, zw_app, upd_app, updL_app, Nat.reduceEqDiff, Nat.add_left_cancel_iff, Nat.add_eq_left, Nat.left_eq_add, ↓reduceIte, true_and, and_true, Int32.reduceToNatClampNeg, zin_O, zi_ltO, zi_leO, zi_Olt, zi_Ole, zi_eqO, Nat.not_lt_zero, Nat.zero_le, List.append_nil, zrn_n, zrn_s, List.cons_append, List.nil_append, zlg_lt, zlg_gt, zlg_le, zlg_ge, zlg_eq, Int32.toInt_toInt64, Int64.reduceToInt, zw_zw, zw_sw1, zw_sw2, zw_sw3, zw_sw4, zw_sw5, zw_sw6, zw_sw7, ne_eq, zi_in, zi_cl, zi_le, zi_lt, zi_eq, zi_neg, zi_0le, zb_0, if_true, if_false, eq_self, zb_T, zb_F, Bool.false_eq_true, zO_eq, zO_ne1, zO_ne2, zO_nn, zi_ne1, zi_ne2, zi_lt1, zi_le1, zi_lt2, zi_le2, Int32.reduceLT, Int32.reduceLE, Nat.reduceLT, Nat.reduceLeDiff, Int32.reduceMul, Int32.reduceAdd, Int32.reduceSub, not_false_eq_true, not_true_eq_false, R_X4_reads, h3]
            rw [zb_f (fun z => z.1)]
          · simp (disch := first | assumption | rfl | omega | decide | exact zb_01 _) only [zabs_e, zmax_e, zmin_e, zrf_s, zpush_s, zpush_n, zw_app, upd_app, updL_app, Nat.reduceEqDiff, Nat.add_left_cancel_iff, Nat.add_eq_left, Nat.left_eq_add, ↓reduceIte, true_and, and_true, Int32.reduceToNatClampNeg, zin_O, zi_ltO, zi_leO, zi_Olt, zi_Ole, zi_eqO, Nat.not_lt_zero, Nat.zero_le, List.append_nil, zrn_n, zrn_s, List.cons_append, List.nil_append, zlg_lt, zlg_gt, zlg_le, zlg_ge, zlg_eq, Int32.toInt_toInt64, Int64.reduceToInt, zw_zw, zw_sw1, zw_sw2, zw_sw3, zw_sw4, zw_sw5, zw_sw6, zw_sw7, ne_eq, zi_in, zi_cl, zi_le, zi_lt, zi_eq, zi_neg, zi_0le, zb_0, if_true, if_false, eq_self, zb_T, zb_F, Bool.false_eq_true, zO_eq, zO_ne1, zO_ne2, zO_nn, zi_ne1, zi_ne2, zi_lt1, zi_le1, zi_lt2, zi_le2, Int32.reduceLT, Int32.reduceLE, Nat.reduceLT, Nat.reduceLeDiff, Int32.reduceMul, Int32.reduceAdd, Int32.reduceSub, not_false_eq_true, not_true_eq_false, R_X4_reads, h3]
            rw [zb_f (fun z => z.1)]
      · simp (disch := first | assumption | rfl | omega | decide | exact zb_01 _) only [zabs_e, zmax_e, zmin_e, zrf_s, zpush_s, zpush_n, zw_app, upd_app, updL_app, Nat.reduceEqDiff, Nat.add_left_cancel_iff, Nat.add_eq_left, Nat.left_eq_add, ↓reduceIte, true_and, and_true, Int32.reduceToNatClampNeg, zin_O, zi_ltO, zi_leO, zi_Olt, zi_Ole, zi_eqO, Nat.not_lt_zero, Nat.zero_le, List.append_nil, zrn_n, zrn_s, List.cons_append, List.nil_append, zlg_lt, zlg_gt, zlg_le, zlg_ge, zlg_eq, Int32.toInt_toInt64, Int64.reduceToInt, zw_zw, zw_sw1, zw_sw2, zw_sw3, zw_sw4, zw_sw5, zw_sw6, zw_sw7, ne_eq, zi_in, zi_cl, zi_le, zi_lt, zi_eq, zi_neg, zi_0le, zb_0, if_true, if_false, eq_self, zb_T, zb_F, Bool.false_eq_true, zO_eq, zO_ne1, zO_ne2, zO_nn, zi_ne1, zi_ne2, zi_lt1, zi_le1, zi_lt2, zi_le2, Int32.reduceLT, Int32.reduceLE, Nat.reduceLT, Nat.reduceLeDiff, Int32.reduceMul, Int32.reduceAdd, Int32.reduceSub, not_false_eq_true, not_true_eq_false, R_X4_reads, g1, g2, SHF, PF, zi_s, zE_31 he, upd_upd, zE_p he, c_ahead he hN h120, hN, h1]
        unfold zlines
        rw [if_neg h1]
        by_cases h : p = N
        · rw [if_pos h, zb_t ⟨rfl, h⟩]
        · rw [if_neg h, zb_f (fun z => h z.2)]
  simp (disch := first | assumption | rfl | omega | decide | exact zb_01 _) only [zabs_e, zmax_e, zmin_e, zrf_s, zpush_s, zpush_n, zw_app, upd_app, updL_app, Nat.reduceEqDiff, Nat.add_left_cancel_iff, Nat.add_eq_left, Nat.left_eq_add, ↓reduceIte, true_and, and_true, Int32.reduceToNatClampNeg, zin_O, zi_ltO, zi_leO, zi_Olt, zi_Ole, zi_eqO, Nat.not_lt_zero, Nat.zero_le, List.append_nil, zrn_n, zrn_s, List.cons_append, List.nil_append, zlg_lt, zlg_gt, zlg_le, zlg_ge, zlg_eq, Int32.toInt_toInt64, Int64.reduceToInt, zw_zw, zw_sw1, zw_sw2, zw_sw3, zw_sw4, zw_sw5, zw_sw6, zw_sw7, ne_eq, zi_in, zi_cl, zi_le, zi_lt, zi_eq, zi_neg, zi_0le, zb_0, if_true, if_false, eq_self, zb_T, zb_F, Bool.false_eq_true, zO_eq, zO_ne1, zO_ne2, zO_nn, zi_ne1, zi_ne2, zi_lt1, zi_le1, zi_lt2, zi_le2, Int32.reduceLT, Int32.reduceLE, Nat.reduceLT, Nat.reduceLeDiff, Int32.reduceMul, Int32.reduceAdd, Int32.reduceSub, not_false_eq_true, not_true_eq_false, E_X4_reads, R_X4_reads, SHF, PF, zP_t, n31, n31', zE_0 he, q1]
  unfold ztext
  by_cases h : (zline (zah (I 32) N) nm 0).1 = true
  · have e2 := loop 120 (zline (zah (I 32) N) nm 0).2.1 (zline (zah (I 32) N) nm 0).2.2.1 (zline (zah (I 32) N) nm 0).2.2.2.1 (if (zline (zah (I 32) N) nm 0).2.2.2.1 = true then (zline (zah (I 32) N) nm 0).2.2.2.2 else 0) (by omega) hB.2.1
    rw [zb_t h, if_pos h]
    exact e2
  · rw [zb_f h, if_neg h, H_X4_reads_25]
    simp (disch := first | assumption | rfl | omega | decide | exact zb_01 _) only [zabs_e, zmax_e, zmin_e, zrf_s, zpush_s, zpush_n, zw_app, upd_app, updL_app, Nat.reduceEqDiff, Nat.add_left_cancel_iff, Nat.add_eq_left, Nat.left_eq_add, ↓reduceIte, true_and, and_true, Int32.reduceToNatClampNeg, zin_O, zi_ltO, zi_leO, zi_Olt, zi_Ole, zi_eqO, Nat.not_lt_zero, Nat.zero_le, List.append_nil, zrn_n, zrn_s, List.cons_append, List.nil_append, zlg_lt, zlg_gt, zlg_le, zlg_ge, zlg_eq, Int32.toInt_toInt64, Int64.reduceToInt, zw_zw, zw_sw1, zw_sw2, zw_sw3, zw_sw4, zw_sw5, zw_sw6, zw_sw7, ne_eq, zi_in, zi_cl, zi_le, zi_lt, zi_eq, zi_neg, zi_0le, zb_0, if_true, if_false, eq_self, zb_T, zb_F, Bool.false_eq_true, zO_eq, zO_ne1, zO_ne2, zO_nn, zi_ne1, zi_ne2, zi_lt1, zi_le1, zi_lt2, zi_le2, Int32.reduceLT, Int32.reduceLE, Nat.reduceLT, Nat.reduceLeDiff, Int32.reduceMul, Int32.reduceAdd, Int32.reduceSub, not_false_eq_true, not_true_eq_false, R_X4_reads]
    rw [zb_f (fun z => z.1)]
end LINES
