/-! NIGHTS -/
def zq (z : Int32) : Nat := z.toUInt32.toNat / 256
theorem zq_lt (z : Int32) : zq z < 16777216 := by
  have := z.toUInt32.toNat_lt
  unfold zq
  omega
theorem zq_e (z : Int32) : (z.toUInt32 >>> ((8 : Int32).toUInt32 &&& Int32.toUInt32 31)).toInt32 = nI (zq z) := by
  have e : ((8 : Int32).toUInt32 &&& Int32.toUInt32 31) = 8 := by decide
  rw [e]
  unfold nI
  refine Int32.toBitVec_inj.mp ?_
  show (z.toUInt32 >>> 8).toBitVec = BitVec.ofNat 32 (zq z)
  have e2 : (z.toUInt32 >>> 8).toNat = zq z := by
    rw [UInt32.toNat_shiftRight]
    show z.toUInt32.toNat >>> 8 = _
    rw [Nat.shiftRight_eq_div_pow]
    rfl
  rw [← e2]
  show _ = BitVec.ofNat 32 (z.toUInt32 >>> 8).toBitVec.toNat
  rw [BitVec.ofNat_toNat, BitVec.setWidth_eq]
theorem zr12 {m : Nat} (h : m < 16777216) : nI m - nI m / 12 * 12 = nI (m % 12) := zremN (m := m) (k := 12) (by omega) (by decide)
theorem zr6 {m : Nat} (h : m < 16777216) : nI m - nI m / 6 * 6 = nI (m % 6) := zremN (m := m) (k := 6) (by omega) (by decide)
def znx (z : Int32) : Int32 := z * 1103515245 + 12345
def zd12 (z : Int32) : Int32 := nI (zq z % 12)
def zd6 (z : Int32) : Int32 := nI (zq z % 6)
theorem zd12_bd (z : Int32) : 0 ≤ (zd12 z).toInt ∧ (zd12 z).toInt ≤ 11 := by
  unfold zd12
  rw [zi_nt (by omega)]
  omega
theorem zd6_bd (z : Int32) : 0 ≤ (zd6 z).toInt ∧ (zd6 z).toInt ≤ 5 := by
  unfold zd6
  rw [zi_nt (by omega)]
  omega
theorem zan1 (x : Int32) : x &&& 1 = 0 ∨ x &&& 1 = 1 := by
  have e : ((x &&& 1).toBitVec).toNat = x.toBitVec.toNat % 2 := by
    rw [Int32.toBitVec_and, BitVec.toNat_and]
    exact Nat.and_one_is_mod _
  rcases Nat.mod_two_eq_zero_or_one x.toBitVec.toNat with h | h
  · refine Or.inl (Int32.toBitVec_inj.mp (BitVec.eq_of_toNat_eq ?_))
    rw [e, h]
    rfl
  · refine Or.inr (Int32.toBitVec_inj.mp (BitVec.eq_of_toNat_eq ?_))
    rw [e, h]
    rfl
abbrev zN6 : Type := Int32 × Int32 × Int32 × Int32 × Int32 × Int32
abbrev zstl (w th c z : Int32) : Prop := zd12 (znx (znx (znx z))) < th ∧ (w >>> (c &&& 31)) &&& 1 = 0
/-- a night -/
def znt (w th : Int32) (q : zN6) : zN6 :=
  (if zstl w th q.2.2.1 q.2.2.2.2.2 then zmin 99 (q.1 + zd12 (znx q.2.2.2.2.2)) - zmin 99 (q.1 + zd12 (znx q.2.2.2.2.2)) / 2 else zmin 99 (q.1 + zd12 (znx q.2.2.2.2.2)),
   zmin 99 (q.2.1 + zd6 (znx (znx q.2.2.2.2.2))), q.2.2.1 + 1,
   if zstl w th q.2.2.1 q.2.2.2.2.2 then q.2.2.2.1 + zmin 99 (q.1 + zd12 (znx q.2.2.2.2.2)) / 2 else q.2.2.2.1,
   if zstl w th q.2.2.1 q.2.2.2.2.2 then q.2.2.1 else q.2.2.2.2.1, znx (znx (znx q.2.2.2.2.2)))
def zni (w th : Int32) : Nat → zN6 → zN6
  | 0, q => q
  | n + 1, q => zni w th n (znt w th q)
theorem zni_s (w th : Int32) : ∀ n q, zni w th (n + 1) q = znt w th (zni w th n q)
  | 0, _ => rfl
  | n + 1, q => by rw [zni, zni_s w th n, zni]
def zsF (F : Nat → Int32) (q : zN6) : Nat → Int32 := fun k => if k = 0 then q.1 else if k = 1 then q.2.1 else if k = 2 then q.2.2.1 else if k = 4 then q.2.2.2.1 else if k = 5 then q.2.2.2.2.1 else F k
def zmF (F : Nat → Int32) (q : zN6) : Nat → Int32 := fun k => if k = 8 then q.1 else if k = 9 then q.2.1 else if k = 33 then q.2.2.1 else if k = 35 then q.2.2.2.1 else if k = 36 then q.2.2.2.2.1 else if k = 37 then q.2.2.2.2.2 else F k
theorem zsF_u (F : Nat → Int32) (a b c e h z x a' b' c' e' h' z' : Int32) : upd (upd (upd (upd (upd (upd (zsF F (a, b, c, e, h, z)) 0 x) 1 b') 0 a') 4 e') 5 h') 2 c' = zsF F (a', b', c', e', h', z') := by
  funext k; simp only [upd, zsF]
  by_cases h2 : k = 2
  · subst h2; rfl
  by_cases h5 : k = 5
  · subst h5; rfl
  by_cases h4 : k = 4
  · subst h4; rfl
  by_cases h1 : k = 1
  · subst h1; rfl
  by_cases h0 : k = 0
  · subst h0; rfl
  simp only [h0, h1, h2, h4, h5, ↓reduceIte]
theorem zsF_u2 (F : Nat → Int32) (a b c e h z a' b' c' z' : Int32) : upd (upd (upd (zsF F (a, b, c, e, h, z)) 0 a') 1 b') 2 c' = zsF F (a', b', c', e, h, z') := by
  funext k; simp only [upd, zsF]
  by_cases h2 : k = 2
  · subst h2; rfl
  by_cases h1 : k = 1
  · subst h1; rfl
  by_cases h0 : k = 0
  · subst h0; rfl
  simp only [h0, h1, h2, ↓reduceIte]
theorem zst_step {w th : Int32} {q : zN6} (h : (0 ≤ q.1.toInt ∧ q.1.toInt ≤ 99) ∧ (0 ≤ q.2.1.toInt ∧ q.2.1.toInt ≤ 99)) : (0 ≤ (znt w th q).1.toInt ∧ (znt w th q).1.toInt ≤ 99) ∧ (0 ≤ (znt w th q).2.1.toInt ∧ (znt w th q).2.1.toInt ≤ 99) := by
  have t2 : (2 : Int32).toInt = 2 := by decide
  have b1 := zd12_bd (znx q.2.2.2.2.2)
  have b2 := zd6_bd (znx (znx q.2.2.2.2.2))
  have e1 : (q.1 + zd12 (znx q.2.2.2.2.2)).toInt = q.1.toInt + (zd12 (znx q.2.2.2.2.2)).toInt := zt_add (by omega) (by omega)
  have e2 : (q.2.1 + zd6 (znx (znx q.2.2.2.2.2))).toInt = q.2.1.toInt + (zd6 (znx (znx q.2.2.2.2.2))).toInt := zt_add (by omega) (by omega)
  have m1 := zmin_99 (x := q.1 + zd12 (znx q.2.2.2.2.2)) (by omega)
  have m2 := zmin_99 (x := q.2.1 + zd6 (znx (znx q.2.2.2.2.2))) (by omega)
  have d1 := zdv (a := zmin 99 (q.1 + zd12 (znx q.2.2.2.2.2))) (b := 2) (by omega) (by omega)
  unfold znt
  refine ⟨?_, m2⟩
  dsimp only
  split
  · rw [zt_sub (by omega) (by omega)]
    omega
  · exact m1
theorem zst_it {w th : Int32} : ∀ n (q : zN6), ((0 ≤ q.1.toInt ∧ q.1.toInt ≤ 99) ∧ (0 ≤ q.2.1.toInt ∧ q.2.1.toInt ≤ 99)) → ((0 ≤ (zni w th n q).1.toInt ∧ (zni w th n q).1.toInt ≤ 99) ∧ (0 ≤ (zni w th n q).2.1.toInt ∧ (zni w th n q).2.1.toInt ≤ 99))
  | 0, _, h => h
  | n + 1, q, h => zst_it n _ (zst_step h)
theorem zni_g {w th : Int32} : ∀ n (q : zN6) (γ : Nat), q.2.2.1 = nI γ → (zni w th n q).2.2.1 = nI (γ + n)
  | 0, _, _, h => h
  | n + 1, q, γ, h => by
    rw [zni, zni_g n _ (γ + 1) (by unfold znt; dsimp only; rw [h]; exact nI_1 γ)]
    congr 1
    omega
/-- what is there doesn't hang on what was stolen -/
theorem zni_eh {w th : Int32} : ∀ n (a b c e h e' h' z : Int32), (zni w th n (a, b, c, e, h, z)).1 = (zni w th n (a, b, c, e', h', z)).1
  | 0, _, _, _, _, _, _, _, _ => rfl
  | n + 1, a, b, c, e, h, e', h', z => zni_eh n _ _ _ _ _ _ _ _
section STORE
variable {d f g N r : Nat} {t : Option Nat} {I : Nat → Nat → Int32} {L : Nat → Nat → Int64} {Q : Option Value → zMm → Prop}
theorem c_next (z : Int32) (h : zMm) : zWM (d + 1) 53 [.int z] h Q = Q (some (.int (znx z))) h := by
  simp (disch := first | assumption | rfl | omega | decide | exact zb_01 _) only [zabs_e, zmax_e, zmin_e, zrf_s, zpush_s, zpush_n, zw_app, upd_app, updL_app, Nat.reduceEqDiff, Nat.add_left_cancel_iff, Nat.add_eq_left, Nat.left_eq_add, ↓reduceIte, true_and, and_true, Int32.reduceToNatClampNeg, zin_O, zi_ltO, zi_leO, zi_Olt, zi_Ole, zi_eqO, Nat.not_lt_zero, Nat.zero_le, List.append_nil, zrn_n, zrn_s, List.cons_append, List.nil_append, zlg_lt, zlg_gt, zlg_le, zlg_ge, zlg_eq, Int32.toInt_toInt64, Int64.reduceToInt, zw_zw, zw_sw1, zw_sw2, zw_sw3, zw_sw4, zw_sw5, zw_sw6, zw_sw7, ne_eq, zi_in, zi_cl, zi_le, zi_lt, zi_eq, zi_neg, zi_0le, zb_0, if_true, if_false, eq_self, zb_T, zb_F, Bool.false_eq_true, zO_eq, zO_ne1, zO_ne2, zO_nn, zi_ne1, zi_ne2, zi_lt1, zi_le1, zi_lt2, zi_le2, Int32.reduceLT, Int32.reduceLE, Nat.reduceLT, Nat.reduceLeDiff, Int32.reduceMul, Int32.reduceAdd, Int32.reduceSub, not_false_eq_true, not_true_eq_false, Int32.reduceToInt, Int.reduceLE, Int.reduceLT, Int.reduceNeg, ite_self, E_X7_next, R_X7_next, znx]
theorem c_drawn12 (z : Int32) (h : zMm) : zWM (d + 1) 54 [.int z, .int 12] h Q = Q (some (.int (zd12 z))) h := by
  have e := zr12 (zq_lt z)
  simp (disch := first | assumption | rfl | omega | decide | exact zb_01 _) only [zabs_e, zmax_e, zmin_e, zrf_s, zpush_s, zpush_n, zw_app, upd_app, updL_app, Nat.reduceEqDiff, Nat.add_left_cancel_iff, Nat.add_eq_left, Nat.left_eq_add, ↓reduceIte, true_and, and_true, Int32.reduceToNatClampNeg, zin_O, zi_ltO, zi_leO, zi_Olt, zi_Ole, zi_eqO, Nat.not_lt_zero, Nat.zero_le, List.append_nil, zrn_n, zrn_s, List.cons_append, List.nil_append, zlg_lt, zlg_gt, zlg_le, zlg_ge, zlg_eq, Int32.toInt_toInt64, Int64.reduceToInt, zw_zw, zw_sw1, zw_sw2, zw_sw3, zw_sw4, zw_sw5, zw_sw6, zw_sw7, ne_eq, zi_in, zi_cl, zi_le, zi_lt, zi_eq, zi_neg, zi_0le, zb_0, if_true, if_false, eq_self, zb_T, zb_F, Bool.false_eq_true, zO_eq, zO_ne1, zO_ne2, zO_nn, zi_ne1, zi_ne2, zi_lt1, zi_le1, zi_lt2, zi_le2, Int32.reduceLT, Int32.reduceLE, Nat.reduceLT, Nat.reduceLeDiff, Int32.reduceMul, Int32.reduceAdd, Int32.reduceSub, not_false_eq_true, not_true_eq_false, Int32.reduceToInt, Int.reduceLE, Int.reduceLT, Int.reduceNeg, ite_self, E_X7_drawn, R_X7_drawn, zq_e, e, zd12]
theorem c_drawn6 (z : Int32) (h : zMm) : zWM (d + 1) 54 [.int z, .int 6] h Q = Q (some (.int (zd6 z))) h := by
  have e := zr6 (zq_lt z)
  simp (disch := first | assumption | rfl | omega | decide | exact zb_01 _) only [zabs_e, zmax_e, zmin_e, zrf_s, zpush_s, zpush_n, zw_app, upd_app, updL_app, Nat.reduceEqDiff, Nat.add_left_cancel_iff, Nat.add_eq_left, Nat.left_eq_add, ↓reduceIte, true_and, and_true, Int32.reduceToNatClampNeg, zin_O, zi_ltO, zi_leO, zi_Olt, zi_Ole, zi_eqO, Nat.not_lt_zero, Nat.zero_le, List.append_nil, zrn_n, zrn_s, List.cons_append, List.nil_append, zlg_lt, zlg_gt, zlg_le, zlg_ge, zlg_eq, Int32.toInt_toInt64, Int64.reduceToInt, zw_zw, zw_sw1, zw_sw2, zw_sw3, zw_sw4, zw_sw5, zw_sw6, zw_sw7, ne_eq, zi_in, zi_cl, zi_le, zi_lt, zi_eq, zi_neg, zi_0le, zb_0, if_true, if_false, eq_self, zb_T, zb_F, Bool.false_eq_true, zO_eq, zO_ne1, zO_ne2, zO_nn, zi_ne1, zi_ne2, zi_lt1, zi_le1, zi_lt2, zi_le2, Int32.reduceLT, Int32.reduceLE, Nat.reduceLT, Nat.reduceLeDiff, Int32.reduceMul, Int32.reduceAdd, Int32.reduceSub, not_false_eq_true, not_true_eq_false, Int32.reduceToInt, Int.reduceLE, Int.reduceLT, Int.reduceNeg, ite_self, E_X7_drawn, R_X7_drawn, zq_e, e, zd6]
theorem m_draws12 : zWM (d + 1) 183 [.ref 80, .int 12] (zSH, I, L, zP f g t) Q = Q (some (.int (zd12 (znx (I 80 37))))) (zSH, zw I 80 (upd (I 80) 37 (znx (I 80 37))), L, zP f g t) := by
  have e := zr12 (zq_lt (znx (I 80 37)))
  have ez : I 80 37 * 1103515245 + 12345 = znx (I 80 37) := rfl
  simp (disch := first | assumption | rfl | omega | decide | exact zb_01 _) only [zabs_e, zmax_e, zmin_e, zrf_s, zpush_s, zpush_n, zw_app, upd_app, updL_app, Nat.reduceEqDiff, Nat.add_left_cancel_iff, Nat.add_eq_left, Nat.left_eq_add, ↓reduceIte, true_and, and_true, Int32.reduceToNatClampNeg, zin_O, zi_ltO, zi_leO, zi_Olt, zi_Ole, zi_eqO, Nat.not_lt_zero, Nat.zero_le, List.append_nil, zrn_n, zrn_s, List.cons_append, List.nil_append, zlg_lt, zlg_gt, zlg_le, zlg_ge, zlg_eq, Int32.toInt_toInt64, Int64.reduceToInt, zw_zw, zw_sw1, zw_sw2, zw_sw3, zw_sw4, zw_sw5, zw_sw6, zw_sw7, ne_eq, zi_in, zi_cl, zi_le, zi_lt, zi_eq, zi_neg, zi_0le, zb_0, if_true, if_false, eq_self, zb_T, zb_F, Bool.false_eq_true, zO_eq, zO_ne1, zO_ne2, zO_nn, zi_ne1, zi_ne2, zi_lt1, zi_le1, zi_lt2, zi_le2, Int32.reduceLT, Int32.reduceLE, Nat.reduceLT, Nat.reduceLeDiff, Int32.reduceMul, Int32.reduceAdd, Int32.reduceSub, not_false_eq_true, not_true_eq_false, Int32.reduceToInt, Int.reduceLE, Int.reduceLT, Int.reduceNeg, ite_self, E_X10_draws, R_X10_draws, SHF, PF, ez, zq_e, e, zd12]
theorem m_draws6 : zWM (d + 1) 183 [.ref 80, .int 6] (zSH, I, L, zP f g t) Q = Q (some (.int (zd6 (znx (I 80 37))))) (zSH, zw I 80 (upd (I 80) 37 (znx (I 80 37))), L, zP f g t) := by
  have e := zr6 (zq_lt (znx (I 80 37)))
  have ez : I 80 37 * 1103515245 + 12345 = znx (I 80 37) := rfl
  simp (disch := first | assumption | rfl | omega | decide | exact zb_01 _) only [zabs_e, zmax_e, zmin_e, zrf_s, zpush_s, zpush_n, zw_app, upd_app, updL_app, Nat.reduceEqDiff, Nat.add_left_cancel_iff, Nat.add_eq_left, Nat.left_eq_add, ↓reduceIte, true_and, and_true, Int32.reduceToNatClampNeg, zin_O, zi_ltO, zi_leO, zi_Olt, zi_Ole, zi_eqO, Nat.not_lt_zero, Nat.zero_le, List.append_nil, zrn_n, zrn_s, List.cons_append, List.nil_append, zlg_lt, zlg_gt, zlg_le, zlg_ge, zlg_eq, Int32.toInt_toInt64, Int64.reduceToInt, zw_zw, zw_sw1, zw_sw2, zw_sw3, zw_sw4, zw_sw5, zw_sw6, zw_sw7, ne_eq, zi_in, zi_cl, zi_le, zi_lt, zi_eq, zi_neg, zi_0le, zb_0, if_true, if_false, eq_self, zb_T, zb_F, Bool.false_eq_true, zO_eq, zO_ne1, zO_ne2, zO_nn, zi_ne1, zi_ne2, zi_lt1, zi_le1, zi_lt2, zi_le2, Int32.reduceLT, Int32.reduceLE, Nat.reduceLT, Nat.reduceLeDiff, Int32.reduceMul, Int32.reduceAdd, Int32.reduceSub, not_false_eq_true, not_true_eq_false, Int32.reduceToInt, Int.reduceLE, Int.reduceLT, Int.reduceNeg, ite_self, E_X10_draws, R_X10_draws, SHF, PF, ez, zq_e, e, zd6]
theorem c_pass_1 (hs : zSH[r]? = some (.inl 7)) {F : Nat → Int32} (th seed a b c e h z : Int32) {i : Nat} (hN : N ≤ 30) (hi : i < N) (l6 l7 : Value) : ∃ l6' l7' : Value, zWp (d + 1) zi_56 none 6 [.ref r, .int seed, .int (nI N), .int th, .int z, .int (nI i), l6, l7] [] (zSH, zw I r (zsF F (a, b, c, e, h, z)), L, zP f g t) Q = zWp (d + 1) zi_56 none 6 [.ref r, .int seed, .int (nI N), .int th, .int (znt (F 3) th (a, b, c, e, h, z)).2.2.2.2.2, .int (nI (i + 1)), l6', l7'] [] (zSH, zw I r (zsF F (znt (F 3) th (a, b, c, e, h, z))), L, zP f g t) Q := by
  have h1 : ¬ N ≤ i := by omega
  have r0 : zsF F (a, b, c, e, h, z) 0 = a := rfl
  have r1 : zsF F (a, b, c, e, h, z) 1 = b := rfl
  have r2 : zsF F (a, b, c, e, h, z) 2 = c := rfl
  have r3 : zsF F (a, b, c, e, h, z) 3 = F 3 := rfl
  have r4 : zsF F (a, b, c, e, h, z) 4 = e := rfl
  have hd : (99 : Int32) = 99 := rfl
  by_cases ht : zd12 (znx (znx (znx z))) < th
  · have ht' : ¬ th ≤ zd12 (znx (znx (znx z))) := Int32.not_le.mpr ht
    rcases zan1 (F 3 >>> (c &&& 31)) with hw | hw
    · have es : zstl (F 3) th c z := ⟨ht, hw⟩
      refine ⟨.int 0, .int (zmin 99 (a + zd12 (znx z)) / 2), ?_⟩
      rw [H_X7_pass_6]
      have eu := zsF_u F a b c e h z (zmin 99 (a + zd12 (znx z))) (zmin 99 (a + zd12 (znx z)) - zmin 99 (a + zd12 (znx z)) / 2) (zmin 99 (b + zd6 (znx (znx z)))) (c + 1) (e + zmin 99 (a + zd12 (znx z)) / 2) c (znx (znx (znx z)))
      have en : znt (F 3) th (a, b, c, e, h, z) = (zmin 99 (a + zd12 (znx z)) - zmin 99 (a + zd12 (znx z)) / 2, zmin 99 (b + zd6 (znx (znx z))), c + 1, e + zmin 99 (a + zd12 (znx z)) / 2, c, znx (znx (znx z))) := by
        unfold znt
        dsimp only
        rw [if_pos es, if_pos es, if_pos es]
      rw [en, ← eu]
      simp (disch := first | assumption | rfl | omega | decide | exact zb_01 _) only [zabs_e, zmax_e, zmin_e, zrf_s, zpush_s, zpush_n, zw_app, upd_app, updL_app, Nat.reduceEqDiff, Nat.add_left_cancel_iff, Nat.add_eq_left, Nat.left_eq_add, ↓reduceIte, true_and, and_true, Int32.reduceToNatClampNeg, zin_O, zi_ltO, zi_leO, zi_Olt, zi_Ole, zi_eqO, Nat.not_lt_zero, Nat.zero_le, List.append_nil, zrn_n, zrn_s, List.cons_append, List.nil_append, zlg_lt, zlg_gt, zlg_le, zlg_ge, zlg_eq, Int32.toInt_toInt64, Int64.reduceToInt, zw_zw, zw_sw1, zw_sw2, zw_sw3, zw_sw4, zw_sw5, zw_sw6, zw_sw7, ne_eq, zi_in, zi_cl, zi_le, zi_lt, zi_eq, zi_neg, zi_0le, zb_0, if_true, if_false, eq_self, zb_T, zb_F, Bool.false_eq_true, zO_eq, zO_ne1, zO_ne2, zO_nn, zi_ne1, zi_ne2, zi_lt1, zi_le1, zi_lt2, zi_le2, Int32.reduceLT, Int32.reduceLE, Nat.reduceLT, Nat.reduceLeDiff, Int32.reduceMul, Int32.reduceAdd, Int32.reduceSub, not_false_eq_true, not_true_eq_false, Int32.reduceToInt, Int.reduceLE, Int.reduceLT, Int.reduceNeg, ite_self, R_X7_pass, hs, h1, c_next, c_drawn12, c_drawn6, r0, r1, r2, r3, r4, hw, ht, ht', zi_s, upd_upd]
    · have es : ¬ zstl (F 3) th c z := fun x => absurd (x.2.symm.trans hw) (by decide)
      refine ⟨.int 1, l7, ?_⟩
      rw [H_X7_pass_6]
      have eu := zsF_u2 F a b c e h z (zmin 99 (a + zd12 (znx z))) (zmin 99 (b + zd6 (znx (znx z)))) (c + 1) (znx (znx (znx z)))
      have en : znt (F 3) th (a, b, c, e, h, z) = (zmin 99 (a + zd12 (znx z)), zmin 99 (b + zd6 (znx (znx z))), c + 1, e, h, znx (znx (znx z))) := by
        unfold znt
        dsimp only
        rw [if_neg es, if_neg es, if_neg es]
      rw [en, ← eu]
      simp (disch := first | assumption | rfl | omega | decide | exact zb_01 _) only [zabs_e, zmax_e, zmin_e, zrf_s, zpush_s, zpush_n, zw_app, upd_app, updL_app, Nat.reduceEqDiff, Nat.add_left_cancel_iff, Nat.add_eq_left, Nat.left_eq_add, ↓reduceIte, true_and, and_true, Int32.reduceToNatClampNeg, zin_O, zi_ltO, zi_leO, zi_Olt, zi_Ole, zi_eqO, Nat.not_lt_zero, Nat.zero_le, List.append_nil, zrn_n, zrn_s, List.cons_append, List.nil_append, zlg_lt, zlg_gt, zlg_le, zlg_ge, zlg_eq, Int32.toInt_toInt64, Int64.reduceToInt, zw_zw, zw_sw1, zw_sw2, zw_sw3, zw_sw4, zw_sw5, zw_sw6, zw_sw7, ne_eq, zi_in, zi_cl, zi_le, zi_lt, zi_eq, zi_neg, zi_0le, zb_0, if_true, if_false, eq_self, zb_T, zb_F, Bool.false_eq_true, zO_eq, zO_ne1, zO_ne2, zO_nn, zi_ne1, zi_ne2, zi_lt1, zi_le1, zi_lt2, zi_le2, Int32.reduceLT, Int32.reduceLE, Nat.reduceLT, Nat.reduceLeDiff, Int32.reduceMul, Int32.reduceAdd, Int32.reduceSub, not_false_eq_true, not_true_eq_false, Int32.reduceToInt, Int.reduceLE, Int.reduceLT, Int.reduceNeg, ite_self, R_X7_pass, hs, h1, c_next, c_drawn12, c_drawn6, r0, r1, r2, r3, r4, hw, ht, ht', zi_s, upd_upd]
  · have ht' : th ≤ zd12 (znx (znx (znx z))) := Int32.not_lt.mp ht
    have es : ¬ zstl (F 3) th c z := fun x => ht x.1
    have eu := zsF_u2 F a b c e h z (zmin 99 (a + zd12 (znx z))) (zmin 99 (b + zd6 (znx (znx z)))) (c + 1) (znx (znx (znx z)))
    have en : znt (F 3) th (a, b, c, e, h, z) = (zmin 99 (a + zd12 (znx z)), zmin 99 (b + zd6 (znx (znx z))), c + 1, e, h, znx (znx (znx z))) := by
      unfold znt
      dsimp only
      rw [if_neg es, if_neg es, if_neg es]
    rcases zan1 (F 3 >>> (c &&& 31)) with hw | hw
    · refine ⟨.int 0, l7, ?_⟩
      rw [H_X7_pass_6, en, ← eu]
      simp (disch := first | assumption | rfl | omega | decide | exact zb_01 _) only [zabs_e, zmax_e, zmin_e, zrf_s, zpush_s, zpush_n, zw_app, upd_app, updL_app, Nat.reduceEqDiff, Nat.add_left_cancel_iff, Nat.add_eq_left, Nat.left_eq_add, ↓reduceIte, true_and, and_true, Int32.reduceToNatClampNeg, zin_O, zi_ltO, zi_leO, zi_Olt, zi_Ole, zi_eqO, Nat.not_lt_zero, Nat.zero_le, List.append_nil, zrn_n, zrn_s, List.cons_append, List.nil_append, zlg_lt, zlg_gt, zlg_le, zlg_ge, zlg_eq, Int32.toInt_toInt64, Int64.reduceToInt, zw_zw, zw_sw1, zw_sw2, zw_sw3, zw_sw4, zw_sw5, zw_sw6, zw_sw7, ne_eq, zi_in, zi_cl, zi_le, zi_lt, zi_eq, zi_neg, zi_0le, zb_0, if_true, if_false, eq_self, zb_T, zb_F, Bool.false_eq_true, zO_eq, zO_ne1, zO_ne2, zO_nn, zi_ne1, zi_ne2, zi_lt1, zi_le1, zi_lt2, zi_le2, Int32.reduceLT, Int32.reduceLE, Nat.reduceLT, Nat.reduceLeDiff, Int32.reduceMul, Int32.reduceAdd, Int32.reduceSub, not_false_eq_true, not_true_eq_false, Int32.reduceToInt, Int.reduceLE, Int.reduceLT, Int.reduceNeg, ite_self, R_X7_pass, hs, h1, c_next, c_drawn12, c_drawn6, r0, r1, r2, r3, r4, hw, ht, ht', zi_s, upd_upd]
    · refine ⟨.int 1, l7, ?_⟩
      rw [H_X7_pass_6, en, ← eu]
      simp (disch := first | assumption | rfl | omega | decide | exact zb_01 _) only [zabs_e, zmax_e, zmin_e, zrf_s, zpush_s, zpush_n, zw_app, upd_app, updL_app, Nat.reduceEqDiff, Nat.add_left_cancel_iff, Nat.add_eq_left, Nat.left_eq_add, ↓reduceIte, true_and, and_true, Int32.reduceToNatClampNeg, zin_O, zi_ltO, zi_leO, zi_Olt, zi_Ole, zi_eqO, Nat.not_lt_zero, Nat.zero_le, List.append_nil, zrn_n, zrn_s, List.cons_append, List.nil_append, zlg_lt, zlg_gt, zlg_le, zlg_ge, zlg_eq, Int32.toInt_toInt64, Int64.reduceToInt, zw_zw, zw_sw1, zw_sw2, zw_sw3, zw_sw4, zw_sw5, zw_sw6, zw_sw7, ne_eq, zi_in, zi_cl, zi_le, zi_lt, zi_eq, zi_neg, zi_0le, zb_0, if_true, if_false, eq_self, zb_T, zb_F, Bool.false_eq_true, zO_eq, zO_ne1, zO_ne2, zO_nn, zi_ne1, zi_ne2, zi_lt1, zi_le1, zi_lt2, zi_le2, Int32.reduceLT, Int32.reduceLE, Nat.reduceLT, Nat.reduceLeDiff, Int32.reduceMul, Int32.reduceAdd, Int32.reduceSub, not_false_eq_true, not_true_eq_false, Int32.reduceToInt, Int.reduceLE, Int.reduceLT, Int.reduceNeg, ite_self, R_X7_pass, hs, h1, c_next, c_drawn12, c_drawn6, r0, r1, r2, r3, r4, hw, ht, ht', zi_s, upd_upd]
theorem c_pass_l (hs : zSH[r]? = some (.inl 7)) {F : Nat → Int32} (th seed : Int32) (hN : N ≤ 30) : ∀ m i (q : zN6) (l6 l7 : Value), m + i = N → zWp (d + 1) zi_56 none 6 [.ref r, .int seed, .int (nI N), .int th, .int q.2.2.2.2.2, .int (nI i), l6, l7] [] (zSH, zw I r (zsF F q), L, zP f g t) Q = Q none (zSH, zw I r (zsF F (zni (F 3) th m q)), L, zP f g t) := by
  intro m
  induction m with
  | zero =>
    intro i q l6 l7 hi
    have hi : i = N := by omega
    subst hi
    rw [H_X7_pass_6]
    simp (disch := first | assumption | rfl | omega | decide | exact zb_01 _) only [zabs_e, zmax_e, zmin_e, zrf_s, zpush_s, zpush_n, zw_app, upd_app, updL_app, Nat.reduceEqDiff, Nat.add_left_cancel_iff, Nat.add_eq_left, Nat.left_eq_add, ↓reduceIte, true_and, and_true, Int32.reduceToNatClampNeg, zin_O, zi_ltO, zi_leO, zi_Olt, zi_Ole, zi_eqO, Nat.not_lt_zero, Nat.zero_le, List.append_nil, zrn_n, zrn_s, List.cons_append, List.nil_append, zlg_lt, zlg_gt, zlg_le, zlg_ge, zlg_eq, Int32.toInt_toInt64, Int64.reduceToInt, zw_zw, zw_sw1, zw_sw2, zw_sw3, zw_sw4, zw_sw5, zw_sw6, zw_sw7, ne_eq, zi_in, zi_cl, zi_le, zi_lt, zi_eq, zi_neg, zi_0le, zb_0, if_true, if_false, eq_self, zb_T, zb_F, Bool.false_eq_true, zO_eq, zO_ne1, zO_ne2, zO_nn, zi_ne1, zi_ne2, zi_lt1, zi_le1, zi_lt2, zi_le2, Int32.reduceLT, Int32.reduceLE, Nat.reduceLT, Nat.reduceLeDiff, Int32.reduceMul, Int32.reduceAdd, Int32.reduceSub, not_false_eq_true, not_true_eq_false, Int32.reduceToInt, Int.reduceLE, Int.reduceLT, Int.reduceNeg, ite_self, R_X7_pass, Nat.le_refl, zni]
  | succ m ih =>
    intro i q l6 l7 hi
    obtain ⟨a, b, c, e, h, z⟩ := q
    obtain ⟨l6', l7', e1⟩ := c_pass_1 (d := d) (f := f) (g := g) (t := t) (I := I) (L := L) (Q := Q) hs (F := F) th seed a b c e h z hN (show i < N by omega) l6 l7
    rw [e1, zni]
    exact ih (i + 1) _ _ _ (by omega)
theorem zsF_id (F : Nat → Int32) (z : Int32) : zsF F (F 0, F 1, F 2, F 4, F 5, z) = F := by
  funext k; simp only [zsF]
  by_cases h2 : k = 2
  · subst h2; rfl
  by_cases h5 : k = 5
  · subst h5; rfl
  by_cases h4 : k = 4
  · subst h4; rfl
  by_cases h1 : k = 1
  · subst h1; rfl
  by_cases h0 : k = 0
  · subst h0; rfl
  simp only [h0, h1, h2, h4, h5, ↓reduceIte]
theorem c_pass (hs : zSH[r]? = some (.inl 7)) (th seed : Int32) (hN : N ≤ 30) : zWM (d + 2) 56 [.ref r, .int seed, .int (nI N), .int th] (zSH, I, L, zP f g t) Q = Q none (zSH, zw I r (zsF (I r) (zni (I r 3) th N (I r 0, I r 1, I r 2, I r 4, I r 5, seed))), L, zP f g t) := by
  have l := c_pass_l (d := d) (f := f) (g := g) (t := t) (I := I) (L := L) (Q := Q) hs (F := I r) th seed hN N 0 (I r 0, I r 1, I r 2, I r 4, I r 5, seed) (.retAddr 0) (.retAddr 0) (by omega)
  rw [zsF_id, zw_id] at l
  rw [← l]
  simp (disch := first | assumption | rfl | omega | decide | exact zb_01 _) only [zabs_e, zmax_e, zmin_e, zrf_s, zpush_s, zpush_n, zw_app, upd_app, updL_app, Nat.reduceEqDiff, Nat.add_left_cancel_iff, Nat.add_eq_left, Nat.left_eq_add, ↓reduceIte, true_and, and_true, Int32.reduceToNatClampNeg, zin_O, zi_ltO, zi_leO, zi_Olt, zi_Ole, zi_eqO, Nat.not_lt_zero, Nat.zero_le, List.append_nil, zrn_n, zrn_s, List.cons_append, List.nil_append, zlg_lt, zlg_gt, zlg_le, zlg_ge, zlg_eq, Int32.toInt_toInt64, Int64.reduceToInt, zw_zw, zw_sw1, zw_sw2, zw_sw3, zw_sw4, zw_sw5, zw_sw6, zw_sw7, ne_eq, zi_in, zi_cl, zi_le, zi_lt, zi_eq, zi_neg, zi_0le, zb_0, if_true, if_false, eq_self, zb_T, zb_F, Bool.false_eq_true, zO_eq, zO_ne1, zO_ne2, zO_nn, zi_ne1, zi_ne2, zi_lt1, zi_le1, zi_lt2, zi_le2, Int32.reduceLT, Int32.reduceLE, Nat.reduceLT, Nat.reduceLeDiff, Int32.reduceMul, Int32.reduceAdd, Int32.reduceSub, not_false_eq_true, not_true_eq_false, Int32.reduceToInt, Int.reduceLE, Int.reduceLT, Int.reduceNeg, ite_self, E_X7_pass, R_X7_pass]
  rfl
theorem zmF_app (F : Nat → Int32) (a b c e h z : Int32) (k : Nat) : zmF F (a, b, c, e, h, z) k = if k = 8 then a else if k = 9 then b else if k = 33 then c else if k = 35 then e else if k = 36 then h else if k = 37 then z else F k := rfl
theorem zmF_8 (F : Nat → Int32) (a b c e h z x : Int32) : upd (zmF F (a, b, c, e, h, z)) 8 x = zmF F (x, b, c, e, h, z) := by
  funext k; simp only [upd, zmF]; by_cases h0 : k = 8 <;> simp [h0]
theorem zmF_9 (F : Nat → Int32) (a b c e h z x : Int32) : upd (zmF F (a, b, c, e, h, z)) 9 x = zmF F (a, x, c, e, h, z) := by
  funext k; simp only [upd, zmF]; by_cases h0 : k = 9 <;> simp [h0]
theorem zmF_33 (F : Nat → Int32) (a b c e h z x : Int32) : upd (zmF F (a, b, c, e, h, z)) 33 x = zmF F (a, b, x, e, h, z) := by
  funext k; simp only [upd, zmF]; by_cases h0 : k = 33 <;> simp [h0]
theorem zmF_35 (F : Nat → Int32) (a b c e h z x : Int32) : upd (zmF F (a, b, c, e, h, z)) 35 x = zmF F (a, b, c, x, h, z) := by
  funext k; simp only [upd, zmF]; by_cases h0 : k = 35 <;> simp [h0]
theorem zmF_36 (F : Nat → Int32) (a b c e h z x : Int32) : upd (zmF F (a, b, c, e, h, z)) 36 x = zmF F (a, b, c, e, x, z) := by
  funext k; simp only [upd, zmF]; by_cases h0 : k = 36 <;> simp [h0]
theorem zmF_37 (F : Nat → Int32) (a b c e h z x : Int32) : upd (zmF F (a, b, c, e, h, z)) 37 x = zmF F (a, b, c, e, h, x) := by
  funext k; simp only [upd, zmF]; by_cases h0 : k = 37 <;> simp [h0]
theorem zmF_id (F : Nat → Int32) : zmF F (F 8, F 9, F 33, F 35, F 36, F 37) = F := by
  funext k; simp only [zmF]
  by_cases h8 : k = 8
  · subst h8; rfl
  by_cases h9 : k = 9
  · subst h9; rfl
  by_cases h33 : k = 33
  · subst h33; rfl
  by_cases h35 : k = 35
  · subst h35; rfl
  by_cases h36 : k = 36
  · subst h36; rfl
  by_cases h37 : k = 37
  · subst h37; rfl
  simp only [h8, h9, h33, h35, h36, h37, ↓reduceIte]
theorem m_draws12' (F : Nat → Int32) (a b c e h z : Int32) : zWM (d + 1) 183 [.ref 80, .int 12] (zSH, zw I 80 (zmF F (a, b, c, e, h, z)), L, zP f g t) Q = Q (some (.int (zd12 (znx z)))) (zSH, zw I 80 (zmF F (a, b, c, e, h, znx z)), L, zP f g t) := by
  have q := m_draws12 (d := d) (f := f) (g := g) (t := t) (I := zw I 80 (zmF F (a, b, c, e, h, z))) (L := L) (Q := Q)
  rw [q, zw_s, zmF_37, zw_zw]
  rfl
theorem m_draws6' (F : Nat → Int32) (a b c e h z : Int32) : zWM (d + 1) 183 [.ref 80, .int 6] (zSH, zw I 80 (zmF F (a, b, c, e, h, z)), L, zP f g t) Q = Q (some (.int (zd6 (znx z)))) (zSH, zw I 80 (zmF F (a, b, c, e, h, znx z)), L, zP f g t) := by
  have q := m_draws6 (d := d) (f := f) (g := g) (t := t) (I := zw I 80 (zmF F (a, b, c, e, h, z))) (L := L) (Q := Q)
  rw [q, zw_s, zmF_37, zw_zw]
  rfl
theorem m_nightGoes (F : Nat → Int32) (w : Int32) (q : zN6) : zWM (d + 2) 185 [.ref 80, .int w] (zSH, zw I 80 (zmF F q), L, zP f g t) Q = Q none (zSH, zw I 80 (zmF F (znt w (I 81 83) q)), L, zP f g t) := by
  obtain ⟨a, b, c, e, h, z⟩ := q
  by_cases ht : zd12 (znx (znx (znx z))) < I 81 83
  · have ht' : ¬ I 81 83 ≤ zd12 (znx (znx (znx z))) := Int32.not_le.mpr ht
    rcases zan1 (w >>> (c &&& 31)) with hw | hw
    · have es : zstl w (I 81 83) c z := ⟨ht, hw⟩
      have en : znt w (I 81 83) (a, b, c, e, h, z) = (zmin 99 (a + zd12 (znx z)) - zmin 99 (a + zd12 (znx z)) / 2, zmin 99 (b + zd6 (znx (znx z))), c + 1, e + zmin 99 (a + zd12 (znx z)) / 2, c, znx (znx (znx z))) := by
        unfold znt
        dsimp only
        rw [if_pos es, if_pos es, if_pos es]
      rw [en]
      simp (disch := first | assumption | rfl | omega | decide | exact zb_01 _) only [zabs_e, zmax_e, zmin_e, zrf_s, zpush_s, zpush_n, zw_app, upd_app, updL_app, Nat.reduceEqDiff, Nat.add_left_cancel_iff, Nat.add_eq_left, Nat.left_eq_add, ↓reduceIte, true_and, and_true, Int32.reduceToNatClampNeg, zin_O, zi_ltO, zi_leO, zi_Olt, zi_Ole, zi_eqO, Nat.not_lt_zero, Nat.zero_le, List.append_nil, zrn_n, zrn_s, List.cons_append, List.nil_append, zlg_lt, zlg_gt, zlg_le, zlg_ge, zlg_eq, Int32.toInt_toInt64, Int64.reduceToInt, zw_zw, zw_sw1, zw_sw2, zw_sw3, zw_sw4, zw_sw5, zw_sw6, zw_sw7, ne_eq, zi_in, zi_cl, zi_le, zi_lt, zi_eq, zi_neg, zi_0le, zb_0, if_true, if_false, eq_self, zb_T, zb_F, Bool.false_eq_true, zO_eq, zO_ne1, zO_ne2, zO_nn, zi_ne1, zi_ne2, zi_lt1, zi_le1, zi_lt2, zi_le2, Int32.reduceLT, Int32.reduceLE, Nat.reduceLT, Nat.reduceLeDiff, Int32.reduceMul, Int32.reduceAdd, Int32.reduceSub, not_false_eq_true, not_true_eq_false, Int32.reduceToInt, Int.reduceLE, Int.reduceLT, Int.reduceNeg, ite_self, E_X10_nightGoes, R_X10_nightGoes, SHF, PF, zmF_app, zmF_8, zmF_9, zmF_33, zmF_35, zmF_36, m_draws12', m_draws6', m_stored, hw, ht, ht']
    · have es : ¬ zstl w (I 81 83) c z := fun x => absurd (x.2.symm.trans hw) (by decide)
      have en : znt w (I 81 83) (a, b, c, e, h, z) = (zmin 99 (a + zd12 (znx z)), zmin 99 (b + zd6 (znx (znx z))), c + 1, e, h, znx (znx (znx z))) := by
        unfold znt
        dsimp only
        rw [if_neg es, if_neg es, if_neg es]
      rw [en]
      simp (disch := first | assumption | rfl | omega | decide | exact zb_01 _) only [zabs_e, zmax_e, zmin_e, zrf_s, zpush_s, zpush_n, zw_app, upd_app, updL_app, Nat.reduceEqDiff, Nat.add_left_cancel_iff, Nat.add_eq_left, Nat.left_eq_add, ↓reduceIte, true_and, and_true, Int32.reduceToNatClampNeg, zin_O, zi_ltO, zi_leO, zi_Olt, zi_Ole, zi_eqO, Nat.not_lt_zero, Nat.zero_le, List.append_nil, zrn_n, zrn_s, List.cons_append, List.nil_append, zlg_lt, zlg_gt, zlg_le, zlg_ge, zlg_eq, Int32.toInt_toInt64, Int64.reduceToInt, zw_zw, zw_sw1, zw_sw2, zw_sw3, zw_sw4, zw_sw5, zw_sw6, zw_sw7, ne_eq, zi_in, zi_cl, zi_le, zi_lt, zi_eq, zi_neg, zi_0le, zb_0, if_true, if_false, eq_self, zb_T, zb_F, Bool.false_eq_true, zO_eq, zO_ne1, zO_ne2, zO_nn, zi_ne1, zi_ne2, zi_lt1, zi_le1, zi_lt2, zi_le2, Int32.reduceLT, Int32.reduceLE, Nat.reduceLT, Nat.reduceLeDiff, Int32.reduceMul, Int32.reduceAdd, Int32.reduceSub, not_false_eq_true, not_true_eq_false, Int32.reduceToInt, Int.reduceLE, Int.reduceLT, Int.reduceNeg, ite_self, E_X10_nightGoes, R_X10_nightGoes, SHF, PF, zmF_app, zmF_8, zmF_9, zmF_33, zmF_35, zmF_36, m_draws12', m_draws6', m_stored, hw, ht, ht']
  · have ht' : I 81 83 ≤ zd12 (znx (znx (znx z))) := Int32.not_lt.mp ht
    have es : ¬ zstl w (I 81 83) c z := fun x => ht x.1
    have en : znt w (I 81 83) (a, b, c, e, h, z) = (zmin 99 (a + zd12 (znx z)), zmin 99 (b + zd6 (znx (znx z))), c + 1, e, h, znx (znx (znx z))) := by
      unfold znt
      dsimp only
      rw [if_neg es, if_neg es, if_neg es]
    rw [en]
    simp (disch := first | assumption | rfl | omega | decide | exact zb_01 _) only [zabs_e, zmax_e, zmin_e, zrf_s, zpush_s, zpush_n, zw_app, upd_app, updL_app, Nat.reduceEqDiff, Nat.add_left_cancel_iff, Nat.add_eq_left, Nat.left_eq_add, ↓reduceIte, true_and, and_true, Int32.reduceToNatClampNeg, zin_O, zi_ltO, zi_leO, zi_Olt, zi_Ole, zi_eqO, Nat.not_lt_zero, Nat.zero_le, List.append_nil, zrn_n, zrn_s, List.cons_append, List.nil_append, zlg_lt, zlg_gt, zlg_le, zlg_ge, zlg_eq, Int32.toInt_toInt64, Int64.reduceToInt, zw_zw, zw_sw1, zw_sw2, zw_sw3, zw_sw4, zw_sw5, zw_sw6, zw_sw7, ne_eq, zi_in, zi_cl, zi_le, zi_lt, zi_eq, zi_neg, zi_0le, zb_0, if_true, if_false, eq_self, zb_T, zb_F, Bool.false_eq_true, zO_eq, zO_ne1, zO_ne2, zO_nn, zi_ne1, zi_ne2, zi_lt1, zi_le1, zi_lt2, zi_le2, Int32.reduceLT, Int32.reduceLE, Nat.reduceLT, Nat.reduceLeDiff, Int32.reduceMul, Int32.reduceAdd, Int32.reduceSub, not_false_eq_true, not_true_eq_false, Int32.reduceToInt, Int.reduceLE, Int.reduceLT, Int.reduceNeg, ite_self, E_X10_nightGoes, R_X10_nightGoes, SHF, PF, zmF_app, zmF_8, zmF_9, zmF_33, zmF_35, zmF_36, m_draws12', m_draws6', m_stored, ht, ht']
end STORE
