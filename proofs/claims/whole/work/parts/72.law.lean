section LAWOP
variable {d f g n k a b z bb f' g' z' : Nat} {t : Option Nat} {I J : Nat → Nat → Int32} {L : Nat → Nat → Int64} {Q : Option Value → zMm → Prop} {law law' : zLawT}
/-- behind a new law, or one that did not come to stand -/
theorem zRel_L2 (hR : zRel9 I L f g law n k a b z bb) (hfg' : (f' = 60 ∧ g' = 64) ∨ (f' = 64 ∧ g' = 60)) (hJ : ∀ a, a < 31 ∨ a = 32 ∨ (33 < a ∧ a < 60) ∨ (66 < a ∧ a < 80) ∨ (80 < a ∧ a < 89) ∨ 90 < a → J a = I a) (h80 : ∀ j, j ≠ 14 → j ≠ 16 → (j < 17 ∨ 21 < j) → J 80 j = I 80 j) (hy' : zRy J z') (hl' : zRl J f' law') (hf' : zRf J n law') : zRel J L f' g' := by
  obtain ⟨hfg, ht, hw, hp, hs, hi, hc, hy, hl, hb, hr, hh, hf⟩ := hR
  have e : ∀ a, (a < 31 ∨ a = 32 ∨ (33 < a ∧ a < 60) ∨ (66 < a ∧ a < 80) ∨ (80 < a ∧ a < 89) ∨ 90 < a) → ∀ k, J a k = I a k := fun a ha k => by rw [hJ a ha]
  refine ⟨law', n, k, a, b, z', bb, hfg', zRt_f (I := I) ?_ ?_ ?_ ?_ ?_ ?_ ?_ ?_ ?_ ?_ ?_ (fun j _ => e _ (by omega) _) ?_ ht, zRw_f (I := I) ?_ ?_ ?_ ?_ ?_ ?_ ?_ ?_ hw, zRp_f (I := I) ?_ ?_ ?_ ?_ ?_ ?_ ?_ (fun j _ _ => e _ (by omega) _) hp, zRs_f (I := I) ?_ ?_ ?_ ?_ ?_ ?_ ?_ hs, zRi_f (I := I) ?_ ?_ ?_ ?_ hi, zRc_f (I := I) ?_ ?_ ?_ ?_ ?_ ?_ ?_ ?_ hc, hy', hl', zRb_f (I := I) ?_ ?_ ?_ ?_ hb, zRr_f (I := I) ?_ ?_ ?_ ?_ hr, zRh_f (I := I) ?_ ?_ ?_ ?_ ?_ ?_ ?_ ?_ hh, hf'⟩
  all_goals first
    | exact hJ _ (by omega)
    | exact e _ (by omega) _
    | exact h80 _ (by omega) (by omega) (by omega)
theorem m_law_l {N : Nat} (hN : N ≤ 120) (v : Int32) : ∀ c i, c + i = N → zWp d zi_157 none 37 [.ref 80, .int v, .int (nI N), .int (nI i)] [] (zSH, zw I 89 (zfl i (I 88) (I 89)), L, zP f g t) Q = Q (some (.int 1)) (zSH, zw (zw I 89 (zfl N (I 88) (I 89))) 80 (upd (I 80) 16 (nI N)), L, zP f g t) := by
  intro c
  induction c with
  | zero =>
    intro i hi
    have hi : i = N := by omega
    subst hi
    rw [H_X10_law_37]
    simp (disch := first | assumption | rfl | omega | decide | exact zb_01 _) only [zabs_e, zmax_e, zmin_e, zrf_s, zpush_s, zpush_n, zw_app, upd_app, updL_app, Nat.reduceEqDiff, Nat.add_left_cancel_iff, Nat.add_eq_left, Nat.left_eq_add, ↓reduceIte, true_and, and_true, Int32.reduceToNatClampNeg, zin_O, zi_ltO, zi_leO, zi_Olt, zi_Ole, zi_eqO, Nat.not_lt_zero, Nat.zero_le, List.append_nil, zrn_n, zrn_s, List.cons_append, List.nil_append, zlg_lt, zlg_gt, zlg_le, zlg_ge, zlg_eq, Int32.toInt_toInt64, Int64.reduceToInt, zw_zw, zw_sw1, zw_sw2, zw_sw3, zw_sw4, zw_sw5, zw_sw6, zw_sw7, ne_eq, zi_in, zi_cl, zi_le, zi_lt, zi_eq, zi_neg, zi_0le, zb_0, if_true, if_false, eq_self, zb_T, zb_F, Bool.false_eq_true, zO_eq, zO_ne1, zO_ne2, zO_nn, zi_ne1, zi_ne2, zi_lt1, zi_le1, zi_lt2, zi_le2, Int32.reduceLT, Int32.reduceLE, Nat.reduceLT, Nat.reduceLeDiff, Int32.reduceMul, Int32.reduceAdd, Int32.reduceSub, not_false_eq_true, not_true_eq_false, Int32.reduceToInt, Int.reduceLE, Int.reduceLT, Int.reduceNeg, ite_self, R_X10_law, SHF, PF, Nat.le_refl]
  | succ c ih =>
    intro i hi
    have h1 : ¬ N ≤ i := by omega
    have h2 : i < 120 := by omega
    rw [H_X10_law_37, ← ih (i + 1) (by omega)]
    simp (disch := first | assumption | rfl | omega | decide | exact zb_01 _) only [zabs_e, zmax_e, zmin_e, zrf_s, zpush_s, zpush_n, zw_app, upd_app, updL_app, Nat.reduceEqDiff, Nat.add_left_cancel_iff, Nat.add_eq_left, Nat.left_eq_add, ↓reduceIte, true_and, and_true, Int32.reduceToNatClampNeg, zin_O, zi_ltO, zi_leO, zi_Olt, zi_Ole, zi_eqO, Nat.not_lt_zero, Nat.zero_le, List.append_nil, zrn_n, zrn_s, List.cons_append, List.nil_append, zlg_lt, zlg_gt, zlg_le, zlg_ge, zlg_eq, Int32.toInt_toInt64, Int64.reduceToInt, zw_zw, zw_sw1, zw_sw2, zw_sw3, zw_sw4, zw_sw5, zw_sw6, zw_sw7, ne_eq, zi_in, zi_cl, zi_le, zi_lt, zi_eq, zi_neg, zi_0le, zb_0, if_true, if_false, eq_self, zb_T, zb_F, Bool.false_eq_true, zO_eq, zO_ne1, zO_ne2, zO_nn, zi_ne1, zi_ne2, zi_lt1, zi_le1, zi_lt2, zi_le2, Int32.reduceLT, Int32.reduceLE, Nat.reduceLT, Nat.reduceLeDiff, Int32.reduceMul, Int32.reduceAdd, Int32.reduceSub, not_false_eq_true, not_true_eq_false, Int32.reduceToInt, Int.reduceLE, Int.reduceLT, Int.reduceNeg, ite_self, R_X10_law, SHF, PF, h1, h2, zi_s, zfl_s]
theorem zE_o {e : Nat} (he : zpr e) {p : Nat} {c : List (Int32 × Int32)} {x : Nat} (h1 : x ≠ 31) (h2 : x ≠ e) (h3 : x ≠ e + 1) (h4 : x ≠ e + 2) : zE e I p c x = I x := by
  unfold zE
  rw [zw_n h2, zw_n h4, zw_n h3, zw_n h1]
theorem zlines_ne {ah nm : Nat → Int32} : ∀ k p c gv v, 0 < c.length → 0 < (zlines ah nm k p c gv v).2.2.1.length
  | 0, p, c, gv, v, h => h
  | k + 1, p, c, gv, v, h => by
    unfold zlines
    split
    · split
      · exact zlines_ne k _ _ _ _ (by rw [List.length_append]; omega)
      · dsimp only; rw [List.length_append]; omega
    · exact h
theorem ztext_ne {ah nm : Nat → Int32} (h : (ztext ah nm).1 = true) : 0 < (ztext ah nm).2.2.1.length := by
  unfold ztext at h ⊢
  by_cases e : (zline ah nm 0).1 = true
  · rw [if_pos e]
    refine zlines_ne _ _ _ _ _ ?_
    unfold zline at e ⊢
    repeat' split
    all_goals first
      | (simp only [List.length_append, List.length_cons, List.length_nil]; omega)
      | simp_all
  · rw [if_neg e] at h
    exact Bool.noConfusion h
theorem zE_ok {N : Nat} (h : (ztext (zah (I 32) N) (I 90)).1 = true) : zwo (I 90) (ztext (zah (I 32) N) (I 90)).2.2.1 [] true = (ztext (zah (I 32) N) (I 90)).2.2.2.2 := ztext_vl h
theorem op_law (hR : zRel I L f g) : zOp 83 157 [] I L f g t := by
  obtain ⟨law, n, k, a, b, z, bb, hR9⟩ := id hR
  obtain ⟨hfg, ht, hw, hp, hs, hi, hc, hy, hl, hb, hr, hh, hf⟩ := id hR9
  obtain ⟨y1, y2, y3, y4⟩ := id hy
  have hg : zpr g := by rcases hfg with ⟨_, rfl⟩ | ⟨_, rfl⟩ <;> simp [zpr]
  have qr := fun d Q => c_reads (d := d) (e := g) (f := f) (g := g) (t := t) (I := I) (L := L) (Q := Q) hg y1 y3 (I 90)
  have hah : zah (I 88) z = zah (I 32) z := by
    funext p
    unfold zah
    split
    · exact y4 p (by assumption)
    · rfl
  have hbd := ztext_bd (s := I 32) (nm := I 90) (N := z)
  generalize hX : ztext (zah (I 32) z) (I 90) = X at qr hbd
  obtain ⟨o, p, c, gv, v⟩ := X
  dsimp only at qr hbd
  have e33 : zE g I p c 33 = I 33 := zE_o hg (by decide) (by rcases hfg with ⟨_, rfl⟩ | ⟨_, rfl⟩ <;> decide) (by rcases hfg with ⟨_, rfl⟩ | ⟨_, rfl⟩ <;> decide) (by rcases hfg with ⟨_, rfl⟩ | ⟨_, rfl⟩ <;> decide)
  have e31 := zE_31 hg (I := I) (p := p) (c := c)
  have hz31 : p < 2147483648 := by omega
  have fl : ∀ J : Nat → Nat → Int32, J f = I f → J (f + 1) = I (f + 1) → J (f + 2) = I (f + 2) → J 80 16 = I 80 16 → J 89 = I 89 → zRl J f law := by
    intro J j1 j2 j3 j4 j5
    refine ⟨?_, zLm_o j4 j5 hl.2⟩
    have h1 := hl.1
    cases law with
    | none => unfold zLc at *; rw [j1]; exact h1
    | some c => unfold zLc at *; rw [j1, j2, j3]; exact h1
  have zo : ∀ x, x ≠ 31 → x ≠ g → x ≠ g + 1 → x ≠ g + 2 → zE g I p c x = I x := fun x x1 x2 x3 x4 => zE_o hg x1 x2 x3 x4
  have zk : ∀ x, x ≠ 31 → ¬ (60 ≤ x ∧ x ≤ 66) → zE g I p c x = I x := fun x x1 x2 => by rcases hfg with ⟨_, rfl⟩ | ⟨_, rfl⟩ <;> exact zo x x1 (by omega) (by omega) (by omega)
  by_cases hok : o = true ∧ p = z
  · simp only [zb_t hok] at qr
    obtain ⟨rfl, rfl⟩ := hok
    obtain ⟨I1, e1⟩ : ∃ x, x = zw (zw (zE g I p c) 31 (upd (upd (I 31) 2 (nI p)) 1 0)) 33 (upd (I 33) 6 0) := ⟨_, rfl⟩
    have ik : ∀ x, x ≠ 31 → x ≠ 33 → ¬ (60 ≤ x ∧ x ≤ 66) → I1 x = I x := fun x x1 x2 x3 => by rw [e1]; exact (zw_n x2).trans ((zw_n x1).trans (zk x x1 x3))
    have i80 : I1 80 = I 80 := ik _ (by decide) (by decide) (by decide)
    have i88 : I1 88 = I 88 := ik _ (by decide) (by decide) (by decide)
    have i89 : I1 89 = I 89 := ik _ (by decide) (by decide) (by decide)
    obtain ⟨o2, q2⟩ := m_workOut (f := g) (g := f) (t := some g) (L := L) (I := I1) (s := I1 88) (b := -1) y3 (Or.inl ⟨rfl, rfl⟩)
    rw [i88, ik 90 (by decide) (by decide) (by decide), hah, hX] at q2
    dsimp only at q2
    rw [show zwft p (true, p, c, gv, v) = -1 from if_pos ⟨rfl, rfl⟩, i80] at q2
    refine ⟨.int 1, I1, L, g, f, some g, zw (zw I1 89 (zfl p (I 88) (I 89))) 80 (upd (upd (zAc (zm80 (I 80) (-1) p) p (-1) o2) 14 0) 16 (nI p)), L, fun d Q => ?_, fun d Q => ?_, ?_, fun _ => ⟨_, rfl⟩, fun h => absurd h (by decide)⟩
    · rw [e1]
      simp (disch := first | assumption | rfl | omega | decide | exact zb_01 _) only [zabs_e, zmax_e, zmin_e, zrf_s, zpush_s, zpush_n, zw_app, upd_app, updL_app, Nat.reduceEqDiff, Nat.add_left_cancel_iff, Nat.add_eq_left, Nat.left_eq_add, ↓reduceIte, true_and, and_true, Int32.reduceToNatClampNeg, zin_O, zi_ltO, zi_leO, zi_Olt, zi_Ole, zi_eqO, Nat.not_lt_zero, Nat.zero_le, List.append_nil, zrn_n, zrn_s, List.cons_append, List.nil_append, zlg_lt, zlg_gt, zlg_le, zlg_ge, zlg_eq, Int32.toInt_toInt64, Int64.reduceToInt, zw_zw, zw_sw1, zw_sw2, zw_sw3, zw_sw4, zw_sw5, zw_sw6, zw_sw7, ne_eq, zi_in, zi_cl, zi_le, zi_lt, zi_eq, zi_neg, zi_0le, zb_0, if_true, if_false, eq_self, zb_T, zb_F, Bool.false_eq_true, zO_eq, zO_ne1, zO_ne2, zO_nn, zi_ne1, zi_ne2, zi_lt1, zi_le1, zi_lt2, zi_le2, Int32.reduceLT, Int32.reduceLE, Nat.reduceLT, Nat.reduceLeDiff, Int32.reduceMul, Int32.reduceAdd, Int32.reduceSub, not_false_eq_true, not_true_eq_false, Int32.reduceToInt, Int.reduceLE, Int.reduceLT, Int.reduceNeg, ite_self, E_X9_law, R_X9_law, SHF, PF, qr, zE_31 hg, e33, zP_f, zP_g]
    · have ql := fun d Q => m_law_l (d := d) (f := g) (g := f) (t := some g) (L := L) (Q := Q) (I := zw I1 80 (upd (zAc (zm80 (I 80) (-1) p) p (-1) o2) 14 0)) y3 (zwv p (true, p, c, gv, v)) p 0 (by omega)
      simp only [show nI 0 = 0 from rfl, zfl_0, zw_n (show 89 ≠ 80 by decide), zw_n (show 88 ≠ 80 by decide), zw_n (show 80 ≠ 89 by decide), zw_s, i88, i89] at ql
      simp only [zw_same (f := zw I1 80 (upd (zAc (zm80 (I 80) (-1) p) p (-1) o2) 14 0)) (a := 89) (g := I 89) ((zw_n (show 89 ≠ 80 by decide)).trans i89)] at ql
      have eM : zw (zw (zw I1 80 (upd (zAc (zm80 (I 80) (-1) p) p (-1) o2) 14 0)) 89 (zfl p (I 88) (I 89))) 80 (upd (upd (zAc (zm80 (I 80) (-1) p) p (-1) o2) 14 0) 16 (nI p)) = zw (zw I1 89 (zfl p (I 88) (I 89))) 80 (upd (upd (zAc (zm80 (I 80) (-1) p) p (-1) o2) 14 0) 16 (nI p)) := by rw [zw_cm (f := I1) (by decide), zw_zw]
      rw [eM] at ql
      simp (disch := first | assumption | rfl | omega | decide | exact zb_01 _) only [zabs_e, zmax_e, zmin_e, zrf_s, zpush_s, zpush_n, zw_app, upd_app, updL_app, Nat.reduceEqDiff, Nat.add_left_cancel_iff, Nat.add_eq_left, Nat.left_eq_add, ↓reduceIte, true_and, and_true, Int32.reduceToNatClampNeg, zin_O, zi_ltO, zi_leO, zi_Olt, zi_Ole, zi_eqO, Nat.not_lt_zero, Nat.zero_le, List.append_nil, zrn_n, zrn_s, List.cons_append, List.nil_append, zlg_lt, zlg_gt, zlg_le, zlg_ge, zlg_eq, Int32.toInt_toInt64, Int64.reduceToInt, zw_zw, zw_sw1, zw_sw2, zw_sw3, zw_sw4, zw_sw5, zw_sw6, zw_sw7, ne_eq, zi_in, zi_cl, zi_le, zi_lt, zi_eq, zi_neg, zi_0le, zb_0, if_true, if_false, eq_self, zb_T, zb_F, Bool.false_eq_true, zO_eq, zO_ne1, zO_ne2, zO_nn, zi_ne1, zi_ne2, zi_lt1, zi_le1, zi_lt2, zi_le2, Int32.reduceLT, Int32.reduceLE, Nat.reduceLT, Nat.reduceLeDiff, Int32.reduceMul, Int32.reduceAdd, Int32.reduceSub, not_false_eq_true, not_true_eq_false, Int32.reduceToInt, Int.reduceLE, Int.reduceLT, Int.reduceNeg, ite_self, E_X10_law, R_X10_law, SHF, PF, i80, y2, q2, zAc_app, show zm80 (I 80) (-1) p 14 = nI p from y2]
      exact ql _ _
    · have j0 : ∀ x, x ≠ 80 → x ≠ 89 → (zw (zw I1 89 (zfl p (I 88) (I 89))) 80 (upd (upd (zAc (zm80 (I 80) (-1) p) p (-1) o2) 14 0) 16 (nI p))) x = I1 x := fun x x1 x2 => (zw_n x1).trans (zw_n x2)
      have hm : ∀ x, x ≠ 31 → x ≠ 33 → I1 x = zE g I p c x := fun x x1 x2 => by rw [e1]; exact (zw_n x2).trans (zw_n x1)
      have lcc : ∀ J : Nat → Nat → Int32, J g = zE g I p c g → J (g + 1) = zE g I p c (g + 1) → J (g + 2) = zE g I p c (g + 2) → zLc J g (some c) := by
        intro J g1 g2 g3
        have h0 : 0 < c.length := by
          have := ztext_ne (ah := zah (I 32) p) (nm := I 90) (by rw [hX])
          rw [hX] at this
          exact this
        have h1 : c.length ≤ 121 := by omega
        refine ⟨?_, h0, h1, fun j x hx => ?_⟩
        · rw [g1]
          unfold zE zEn
          rw [zw_s]
          by_cases h : c.length < 121
          · rw [if_pos h]; rfl
          · rw [if_neg h, show c.length = 121 by omega]; rfl
        · have hj := (List.getElem?_eq_some_iff.mp hx).1
          have n1 : ¬ g + 1 = g := by omega
          have n2 : ¬ g + 2 = g := by omega
          have n3 : ¬ g + 1 = g + 2 := by omega
          rw [g2, g3]
          unfold zE
          rw [zw_n n1, zw_n n3, zw_s, zw_n n2, zw_s]
          unfold zEp zEv
          rw [if_pos (by omega), if_pos (by omega), hx]
          exact ⟨rfl, rfl⟩
      refine zRel_L2 (law' := some c) (z' := 0) hR9 (by omega) (fun a ha => (j0 a (by omega) (by omega)).trans (ik a (by omega) (by omega) (by omega))) (fun j j1 j2 j3 => ?_) ⟨?_, rfl, by omega, fun j hj => absurd hj (by omega)⟩ ⟨?_, p, y3, rfl, fun nm => ?_⟩ (zRf_0 ?_)
      · rw [zw_s, upd_app, if_neg j2, upd_app, if_neg j1]
        exact zAc_o _ _ _ _ j3 _ _
      · rw [j0 _ (by decide) (by decide), e1]; rfl
      · rcases hfg with ⟨rfl, rfl⟩ | ⟨rfl, rfl⟩ <;> exact lcc _ ((j0 _ (by decide) (by decide)).trans (hm _ (by decide) (by decide))) ((j0 _ (by decide) (by decide)).trans (hm _ (by decide) (by decide))) ((j0 _ (by decide) (by decide)).trans (hm _ (by decide) (by decide)))
      · have ea : zah (zfl p (I 88) (I 89)) p = zah (I 32) p := by
          rw [← hah]
          funext q
          unfold zah
          split
          · exact zfl_lt (by assumption)
          · rfl
        obtain ⟨s1, s2, s3⟩ := ztext_sm (ah := zah (I 32) p) (nm := nm) (nm' := I 90)
        rw [hX] at s1 s2 s3
        show zwv p (ztext (zah (zfl p (I 88) (I 89)) p) nm) = _
        rw [ea]
        have e5 : zwv p (ztext (zah (I 32) p) nm) = (ztext (zah (I 32) p) nm).2.2.2.2 := if_neg (fun q => by rw [s2] at q; exact absurd q.2 (Nat.lt_irrefl _))
        rw [e5, ← ztext_vl s1, s3]
      · rw [j0 _ (by decide) (by decide), e1]; rfl
  · simp only [zb_f hok] at qr
    obtain ⟨I1, e1⟩ : ∃ x, x = zw (zE g I p c) 31 (upd (upd (I 31) 2 (nI p)) 1 0) := ⟨_, rfl⟩
    have io : ∀ x, x ≠ 31 → x ≠ g → x ≠ g + 1 → x ≠ g + 2 → I1 x = I x := fun x x1 x2 x3 x4 => by rw [e1]; exact (zw_n x1).trans (zo x x1 x2 x3 x4)
    have ik : ∀ x, x ≠ 31 → ¬ (60 ≤ x ∧ x ≤ 66) → I1 x = I x := fun x x1 x2 => by rw [e1]; exact (zw_n x1).trans (zk x x1 x2)
    have i80 : I1 80 = I 80 := ik _ (by decide) (by decide)
    have i31 : I1 31 1 = 0 := by rw [e1]; rfl
    obtain ⟨o2, q2⟩ := m_workOut (f := f) (g := g) (t := some g) (L := L) (I := I1) (s := I1 88) (b := -1) y3 (Or.inl ⟨rfl, rfl⟩)
    rw [ik 88 (by decide) (by decide), ik 90 (by decide) (by decide), hah, hX] at q2
    dsimp only at q2
    rw [show zwft z (o, p, c, gv, v) = nI p from if_neg hok, i80] at q2
    refine ⟨.int (-100 - nI p), I1, L, f, g, some g, zw I1 80 (upd (zAc (zm80 (I 80) (-1) z) p (nI p) o2) 14 0), L, fun d Q => ?_, fun d Q => ?_, ?_, fun _ => ⟨_, rfl⟩, fun h => absurd h (by decide)⟩
    · rw [e1]
      simp (disch := first | assumption | rfl | omega | decide | exact zb_01 _) only [zabs_e, zmax_e, zmin_e, zrf_s, zpush_s, zpush_n, zw_app, upd_app, updL_app, Nat.reduceEqDiff, Nat.add_left_cancel_iff, Nat.add_eq_left, Nat.left_eq_add, ↓reduceIte, true_and, and_true, Int32.reduceToNatClampNeg, zin_O, zi_ltO, zi_leO, zi_Olt, zi_Ole, zi_eqO, Nat.not_lt_zero, Nat.zero_le, List.append_nil, zrn_n, zrn_s, List.cons_append, List.nil_append, zlg_lt, zlg_gt, zlg_le, zlg_ge, zlg_eq, Int32.toInt_toInt64, Int64.reduceToInt, zw_zw, zw_sw1, zw_sw2, zw_sw3, zw_sw4, zw_sw5, zw_sw6, zw_sw7, ne_eq, zi_in, zi_cl, zi_le, zi_lt, zi_eq, zi_neg, zi_0le, zb_0, if_true, if_false, eq_self, zb_T, zb_F, Bool.false_eq_true, zO_eq, zO_ne1, zO_ne2, zO_nn, zi_ne1, zi_ne2, zi_lt1, zi_le1, zi_lt2, zi_le2, Int32.reduceLT, Int32.reduceLE, Nat.reduceLT, Nat.reduceLeDiff, Int32.reduceMul, Int32.reduceAdd, Int32.reduceSub, not_false_eq_true, not_true_eq_false, Int32.reduceToInt, Int.reduceLE, Int.reduceLT, Int.reduceNeg, ite_self, E_X9_law, R_X9_law, SHF, PF, qr, zE_31 hg]
    · simp (disch := first | assumption | rfl | omega | decide | exact zb_01 _) only [zabs_e, zmax_e, zmin_e, zrf_s, zpush_s, zpush_n, zw_app, upd_app, updL_app, Nat.reduceEqDiff, Nat.add_left_cancel_iff, Nat.add_eq_left, Nat.left_eq_add, ↓reduceIte, true_and, and_true, Int32.reduceToNatClampNeg, zin_O, zi_ltO, zi_leO, zi_Olt, zi_Ole, zi_eqO, Nat.not_lt_zero, Nat.zero_le, List.append_nil, zrn_n, zrn_s, List.cons_append, List.nil_append, zlg_lt, zlg_gt, zlg_le, zlg_ge, zlg_eq, Int32.toInt_toInt64, Int64.reduceToInt, zw_zw, zw_sw1, zw_sw2, zw_sw3, zw_sw4, zw_sw5, zw_sw6, zw_sw7, ne_eq, zi_in, zi_cl, zi_le, zi_lt, zi_eq, zi_neg, zi_0le, zb_0, if_true, if_false, eq_self, zb_T, zb_F, Bool.false_eq_true, zO_eq, zO_ne1, zO_ne2, zO_nn, zi_ne1, zi_ne2, zi_lt1, zi_le1, zi_lt2, zi_le2, Int32.reduceLT, Int32.reduceLE, Nat.reduceLT, Nat.reduceLeDiff, Int32.reduceMul, Int32.reduceAdd, Int32.reduceSub, not_false_eq_true, not_true_eq_false, Int32.reduceToInt, Int.reduceLE, Int.reduceLT, Int.reduceNeg, ite_self, E_X10_law, R_X10_law, SHF, PF, i80, y2, q2, zAc_app]
    · have j0 : ∀ x, x ≠ 31 → x ≠ g → x ≠ g + 1 → x ≠ g + 2 → x ≠ 80 → (zw I1 80 (upd (zAc (zm80 (I 80) (-1) z) p (nI p) o2) 14 0)) x = I x := fun x x1 x2 x3 x4 x5 => (zw_n x5).trans (io x x1 x2 x3 x4)
      have j8 : ∀ j, j ≠ 14 → (j < 17 ∨ 21 < j) → (zw I1 80 (upd (zAc (zm80 (I 80) (-1) z) p (nI p) o2) 14 0)) 80 j = I 80 j := fun j j1 j3 => by
        rw [zw_s, upd_app, if_neg j1]
        exact zAc_o _ _ _ _ j3 _ _
      have jl : zRl (zw I1 80 (upd (zAc (zm80 (I 80) (-1) z) p (nI p) o2) 14 0)) f law := by
        rcases hfg with ⟨rfl, rfl⟩ | ⟨rfl, rfl⟩ <;> exact fl _ (j0 _ (by decide) (by decide) (by decide) (by decide) (by decide)) (j0 _ (by decide) (by decide) (by decide) (by decide) (by decide)) (j0 _ (by decide) (by decide) (by decide) (by decide) (by decide)) (j8 _ (by decide) (by decide)) (j0 _ (by decide) (by decide) (by decide) (by decide) (by decide))
      have jk : ∀ x, x ≠ 31 → x ≠ 80 → ¬ (60 ≤ x ∧ x ≤ 66) → (zw I1 80 (upd (zAc (zm80 (I 80) (-1) z) p (nI p) o2) 14 0)) x = I x := fun x x1 x2 x3 => (zw_n x2).trans (ik x x1 x3)
      refine zRel_L2 (z' := 0) hR9 hfg (fun a ha => jk a (by omega) (by omega) (by omega)) (fun j j1 j2 j3 => j8 j j1 j3) ⟨i31, rfl, by omega, fun j hj => absurd hj (by omega)⟩ jl (zRf_f (I := I) ?_ ?_ ?_ ?_ ?_ ?_ ?_ ?_ ?_ hf)
      all_goals first
        | exact jk _ (by decide) (by decide) (by decide)
        | (rw [jk _ (by decide) (by decide) (by decide)])
end LAWOP
