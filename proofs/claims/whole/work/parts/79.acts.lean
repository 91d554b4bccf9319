/-! an ACT: the bodies that run, and what comes of it -/
def zsp (o : Nat) (y : Int32) : Nat → Nat → Nat → Int32 → List Int32 × Int32
  | F + 1, 0, 0, x => ([1], x + y)
  | F + 1, 0, 1, x => (20 :: (zsp o y F 0 0 (x)).1, (zsp o y F 0 0 (x)).2 + 3)
  | F + 1, 0, 2, x => ([1], x + y)
  | F + 1, 0, 3, x => ([1], x + y)
  | F + 1, 0, 4, x => (20 :: (zsp o y F 0 0 (x)).1, (zsp o y F 0 0 (x)).2 + 3)
  | F + 1, 0, 5, x => ([1], x + y)
  | F + 1, 0, 6, x => (70 :: (zsp o y F 0 0 (x)).1, (zsp o y F 0 0 (x)).2 * 2)
  | F + 1, 0, 7, x => (20 :: (zsp o y F 0 0 (x)).1, (zsp o y F 0 0 (x)).2 + 3)
  | F + 1, 1, 0, x => (10 :: (zsp o y F 0 o (x)).1, (zsp o y F 0 o (x)).2 * 2)
  | F + 1, 1, 1, x => (10 :: (zsp o y F 0 o (x)).1, (zsp o y F 0 o (x)).2 * 2)
  | F + 1, 1, 2, x => (30 :: (zsp o y F 1 0 (x)).1, -(zsp o y F 1 0 (x)).2)
  | F + 1, 1, 3, x => (41 :: (zsp o y F 1 2 (x + 1)).1, (zsp o y F 1 2 (x + 1)).2)
  | F + 1, 1, 4, x => (10 :: (zsp o y F 0 o (x)).1, (zsp o y F 0 o (x)).2 * 2)
  | F + 1, 1, 5, x => (41 :: (zsp o y F 1 2 (x + 1)).1, (zsp o y F 1 2 (x + 1)).2)
  | F + 1, 1, 6, x => (10 :: (zsp o y F 0 o (x)).1, (zsp o y F 0 o (x)).2 * 2)
  | F + 1, 1, 7, x => (80 :: ((zsp o y F 1 4 (x)).1 ++ (zsp o y F 2 o (2)).1), (zsp o y F 1 4 (x)).2 + (zsp o y F 2 o (2)).2)
  | F + 1, 2, 0, x => ([11], x ^^^ y)
  | F + 1, 2, 1, x => ([11], x ^^^ y)
  | F + 1, 2, 2, x => ([11], x ^^^ y)
  | F + 1, 2, 3, x => (40 :: (zsp o y F 2 2 (x)).1, (zsp o y F 2 2 (x)).2 * 3)
  | F + 1, 2, 4, x => (50 :: ((zsp o y F 2 1 (x)).1 ++ (zsp o y F 0 o (2)).1), (zsp o y F 2 1 (x)).2 - (zsp o y F 0 o (2)).2)
  | F + 1, 2, 5, x => (40 :: (zsp o y F 2 2 (x)).1, (zsp o y F 2 2 (x)).2 * 3)
  | F + 1, 2, 6, x => ([11], x ^^^ y)
  | F + 1, 2, 7, x => (50 :: ((zsp o y F 2 1 (x)).1 ++ (zsp o y F 0 o (2)).1), (zsp o y F 2 1 (x)).2 - (zsp o y F 0 o (2)).2)
  | F + 1, 3, 0, x => (2 :: ((zsp o y F 1 o (x)).1 ++ (zsp o y F 2 o (1)).1), (zsp o y F 1 o (x)).2 - (zsp o y F 2 o (1)).2)
  | F + 1, 3, 1, x => (2 :: ((zsp o y F 1 o (x)).1 ++ (zsp o y F 2 o (1)).1), (zsp o y F 1 o (x)).2 - (zsp o y F 2 o (1)).2)
  | F + 1, 3, 2, x => (2 :: ((zsp o y F 1 o (x)).1 ++ (zsp o y F 2 o (1)).1), (zsp o y F 1 o (x)).2 - (zsp o y F 2 o (1)).2)
  | F + 1, 3, 3, x => (2 :: ((zsp o y F 1 o (x)).1 ++ (zsp o y F 2 o (1)).1), (zsp o y F 1 o (x)).2 - (zsp o y F 2 o (1)).2)
  | F + 1, 3, 4, x => (2 :: ((zsp o y F 1 o (x)).1 ++ (zsp o y F 2 o (1)).1), (zsp o y F 1 o (x)).2 - (zsp o y F 2 o (1)).2)
  | F + 1, 3, 5, x => (60 :: (zsp o y F 3 3 (x)).1, (zsp o y F 3 3 (x)).2 ^^^ 5)
  | F + 1, 3, 6, x => (2 :: ((zsp o y F 1 o (x)).1 ++ (zsp o y F 2 o (1)).1), (zsp o y F 1 o (x)).2 - (zsp o y F 2 o (1)).2)
  | F + 1, 3, 7, x => (81 :: (zsp o y F 3 4 (x)).1, (zsp o y F 3 4 (x)).2 - 1)
  | _, _, _, _ => ([], 0)
def zgd (o : Nat) : Nat → Nat → Nat → Bool
  | F + 1, 0, 0 => true
  | F + 1, 0, 1 => (zgd o F 0 0)
  | F + 1, 0, 2 => true
  | F + 1, 0, 3 => true
  | F + 1, 0, 4 => (zgd o F 0 0)
  | F + 1, 0, 5 => true
  | F + 1, 0, 6 => (zgd o F 0 0)
  | F + 1, 0, 7 => (zgd o F 0 0)
  | F + 1, 1, 0 => (zgd o F 0 o)
  | F + 1, 1, 1 => (zgd o F 0 o)
  | F + 1, 1, 2 => (zgd o F 1 0)
  | F + 1, 1, 3 => (zgd o F 1 2)
  | F + 1, 1, 4 => (zgd o F 0 o)
  | F + 1, 1, 5 => (zgd o F 1 2)
  | F + 1, 1, 6 => (zgd o F 0 o)
  | F + 1, 1, 7 => (zgd o F 1 4 && zgd o F 2 o)
  | F + 1, 2, 0 => true
  | F + 1, 2, 1 => true
  | F + 1, 2, 2 => true
  | F + 1, 2, 3 => (zgd o F 2 2)
  | F + 1, 2, 4 => (zgd o F 2 1 && zgd o F 0 o)
  | F + 1, 2, 5 => (zgd o F 2 2)
  | F + 1, 2, 6 => true
  | F + 1, 2, 7 => (zgd o F 2 1 && zgd o F 0 o)
  | F + 1, 3, 0 => (zgd o F 1 o && zgd o F 2 o)
  | F + 1, 3, 1 => (zgd o F 1 o && zgd o F 2 o)
  | F + 1, 3, 2 => (zgd o F 1 o && zgd o F 2 o)
  | F + 1, 3, 3 => (zgd o F 1 o && zgd o F 2 o)
  | F + 1, 3, 4 => (zgd o F 1 o && zgd o F 2 o)
  | F + 1, 3, 5 => (zgd o F 3 3)
  | F + 1, 3, 6 => (zgd o F 1 o && zgd o F 2 o)
  | F + 1, 3, 7 => (zgd o F 3 4)
  | _, _, _ => false
def zapp : List Int32 → Nat → (Nat → Int32) → Nat → Int32
  | [], _, T => T
  | c :: cs, r, T => zapp cs (r + 1) (upd T r c)
theorem zapp_a : ∀ (cs ds : List Int32) (r : Nat) (T : Nat → Int32), zapp ds (r + cs.length) (zapp cs r T) = zapp (cs ++ ds) r T
  | [], ds, r, T => rfl
  | c :: cs, ds, r, T => by
    rw [List.length_cons, show r + (cs.length + 1) = r + 1 + cs.length by omega]
    exact zapp_a cs ds (r + 1) (upd T r c)
theorem zapp_lo : ∀ (cs : List Int32) (r : Nat) (T : Nat → Int32) (j : Nat), j < r → zapp cs r T j = T j
  | [], _, _, _, _ => rfl
  | c :: cs, r, T, j, h => by
    rw [zapp, zapp_lo cs (r + 1) (upd T r c) j (by omega)]
    exact if_neg (by omega)
theorem zapp_eq : ∀ (cs : List Int32) (r : Nat) (T U : Nat → Int32) (j : Nat), r ≤ j → j < r + cs.length → zapp cs r T j = zapp cs r U j
  | [], r, _, _, j, h1, h2 => by rw [List.length_nil] at h2; omega
  | c :: cs, r, T, U, j, h1, h2 => by
    rw [List.length_cons] at h2
    rw [zapp, zapp]
    by_cases e : j = r
    · subst e
      rw [zapp_lo _ _ _ _ (by omega), zapp_lo _ _ _ _ (by omega)]
      exact (if_pos rfl).trans (if_pos rfl).symm
    · exact zapp_eq cs (r + 1) _ _ j (by omega) (by omega)
def zTc (J : Nat → Nat → Int32) (r : Nat) (cs : List Int32) : Nat → Nat → Int32 := zw (zw J 58 (zapp cs r (J 58))) 56 (upd (J 56) 3 (nI (r + cs.length)))
def zTm (J : Nat → Nat → Int32) (r : Nat) (cs : List Int32) : Nat → Nat → Int32 := zw (zw J 99 (zapp cs r (J 99))) 80 (upd (J 80) 43 (nI (r + cs.length)))
theorem zTc_1 {J : Nat → Nat → Int32} {r : Nat} {c : Int32} : zw (zw J 58 (upd (J 58) r c)) 56 (upd (J 56) 3 (nI (r + 1))) = zTc J r [c] := rfl
theorem zTm_1 {J : Nat → Nat → Int32} {r : Nat} {c : Int32} : zw (zw J 99 (upd (J 99) r c)) 80 (upd (J 80) 43 (nI (r + 1))) = zTm J r [c] := rfl
theorem zTc_4 {J : Nat → Nat → Int32} {r : Nat} {cs : List Int32} : zTc J r cs 56 4 = J 56 4 := rfl
theorem zTc_5 {J : Nat → Nat → Int32} {r : Nat} {cs : List Int32} : zTc J r cs 56 5 = J 56 5 := rfl
theorem zTm_4 {J : Nat → Nat → Int32} {r : Nat} {cs : List Int32} : zTm J r cs 80 45 = J 80 45 := rfl
theorem zTm_5 {J : Nat → Nat → Int32} {r : Nat} {cs : List Int32} : zTm J r cs 80 44 = J 80 44 := rfl
theorem zTc_a {J : Nat → Nat → Int32} {r : Nat} {cs ds : List Int32} : zTc (zTc J r cs) (r + cs.length) ds = zTc J r (cs ++ ds) := by
  have e1 : zTc J r cs 58 = zapp cs r (J 58) := rfl
  have e2 : zTc J r cs 56 = upd (J 56) 3 (nI (r + cs.length)) := rfl
  have e3 : zTc (zTc J r cs) (r + cs.length) ds = zw (zw (zTc J r cs) 58 (zapp ds (r + cs.length) (zTc J r cs 58))) 56 (upd (zTc J r cs 56) 3 (nI (r + cs.length + ds.length))) := rfl
  rw [e3, e1, e2, zapp_a, upd_upd]
  unfold zTc
  rw [zw_cm (f := zw J 58 _) (a := 56) (b := 58) (by decide), zw_zw, zw_zw, List.length_append, Nat.add_assoc]
theorem zTm_a {J : Nat → Nat → Int32} {r : Nat} {cs ds : List Int32} : zTm (zTm J r cs) (r + cs.length) ds = zTm J r (cs ++ ds) := by
  have e1 : zTm J r cs 99 = zapp cs r (J 99) := rfl
  have e2 : zTm J r cs 80 = upd (J 80) 43 (nI (r + cs.length)) := rfl
  have e3 : zTm (zTm J r cs) (r + cs.length) ds = zw (zw (zTm J r cs) 99 (zapp ds (r + cs.length) (zTm J r cs 99))) 80 (upd (zTm J r cs 80) 43 (nI (r + cs.length + ds.length))) := rfl
  rw [e3, e1, e2, zapp_a, upd_upd]
  unfold zTm
  rw [zw_cm (f := zw J 99 _) (a := 80) (b := 99) (by decide), zw_zw, zw_zw, List.length_append, Nat.add_assoc]
section ACTS
variable {d f g o F : Nat} {t : Option Nat} {y : Int32} {J : Nat → Nat → Int32} {L : Nat → Nat → Int64} {Q : Option Value → zMm → Prop}
def zCa (f g : Nat) (t : Option Nat) (L : Nat → Nat → Int64) (o : Nat) (y : Int32) (F a k : Nat) : Prop := ∀ (x : Int32) (J : Nat → Nat → Int32) (r m D : Nat) (Q : Option Value → zMm → Prop), zgd o F a k = true → J 56 3 = nI r → J 56 4 = y → J 56 5 = nI o → r + (zsp o y F a k x).1.length ≤ 24 → m + F ≤ 41 → 2 * F ≤ D → zWM D 4 [.ref 56, .int (nI k), .int (nI a), .int x, .int (nI m)] (zSH, J, L, zP f g t) Q = Q (some (.int (zsp o y F a k x).2)) (zSH, zTc J r (zsp o y F a k x).1, L, zP f g t)
def zMa (f g : Nat) (t : Option Nat) (L : Nat → Nat → Int64) (o : Nat) (y : Int32) (F a k : Nat) : Prop := ∀ (x : Int32) (J : Nat → Nat → Int32) (r D : Nat) (Q : Option Value → zMm → Prop), zgd o F a k = true → J 80 43 = nI r → J 80 45 = y → J 80 44 = nI o → r + (zsp o y F a k x).1.length ≤ 24 → F + 1 ≤ D → zWM D (200 + a) [.ref 80, .int (nI k), .int x] (zSH, J, L, zP f g t) Q = Q (some (.int (zsp o y F a k x).2)) (zSH, zTm J r (zsp o y F a k x).1, L, zP f g t)
theorem X_run_27 (d : Nat) (l0 l1 l2 l3 l4 l5 l6 : Value) (x : Int32) (I : Nat → Nat → Int32) (L : Nat → Nat → Int64) (P : Nat → Nat → Option Nat) (Q : Option Value → zMm → Prop) : zWp d zi_4 none 27 [l0, l1, l2, l3, l4, l5, l6] [.int x, .ref 1000001] (zSH, I, L, P) Q = (vp_in x 32 ∧ zWp d zi_4 none 28 [l0, l1, l2, l3, l4, l5, l6] [.int (zOWN x.toNatClampNeg)] (zSH, I, L, P) Q) := zr_aldX rfl zSHn.1 rfl
theorem X_run_36 (d : Nat) (l0 l1 l2 l3 l4 l5 l6 : Value) (x : Int32) (I : Nat → Nat → Int32) (L : Nat → Nat → Int64) (P : Nat → Nat → Option Nat) (Q : Option Value → zMm → Prop) : zWp d zi_4 none 36 [l0, l1, l2, l3, l4, l5, l6] [.int x, .ref 1000002] (zSH, I, L, P) Q = (vp_in x 8 ∧ zWp d zi_4 none 37 [l0, l1, l2, l3, l4, l5, l6] [.int (zABOVE x.toNatClampNeg)] (zSH, I, L, P) Q) := zr_aldX rfl zSHn.2 rfl
theorem X_run_68 (d : Nat) (l0 l1 l2 l3 l4 l5 l6 : Value) (x : Int32) (I : Nat → Nat → Int32) (L : Nat → Nat → Int64) (P : Nat → Nat → Option Nat) (Q : Option Value → zMm → Prop) : zWp d zi_4 none 68 [l0, l1, l2, l3, l4, l5, l6] [.int x, .ref 1000001] (zSH, I, L, P) Q = (vp_in x 32 ∧ zWp d zi_4 none 69 [l0, l1, l2, l3, l4, l5, l6] [.int (zOWN x.toNatClampNeg)] (zSH, I, L, P) Q) := zr_aldX rfl zSHn.1 rfl
theorem X_run_109 (d : Nat) (l0 l1 l2 l3 l4 l5 l6 : Value) (x y : Int32) (a : Nat) (I : Nat → Nat → Int32) (L : Nat → Nat → Int64) (P : Nat → Nat → Option Nat) (Q : Option Value → zMm → Prop) : zWp d zi_4 none 109 [l0, l1, l2, l3, l4, l5, l6] [.int x, .ref 1000002, .int y, .ref a] (zSH, I, L, P) Q = (vp_in x 8 ∧ zWp d zi_4 none 110 [l0, l1, l2, l3, l4, l5, l6] [.int (zABOVE x.toNatClampNeg), .int y, .ref a] (zSH, I, L, P) Q) := zr_aldX rfl zSHn.2 rfl
theorem zOW : zOWN 0 = 1 ∧ zOWN 1 = 10 ∧ zOWN 2 = 11 ∧ zOWN 3 = 2 ∧ zOWN 4 = 20 ∧ zOWN 5 = 0 ∧ zOWN 6 = 0 ∧ zOWN 7 = 0 ∧ zOWN 8 = 0 ∧ zOWN 9 = 30 ∧ zOWN 10 = 0 ∧ zOWN 11 = 0 ∧ zOWN 12 = 0 ∧ zOWN 13 = 41 ∧ zOWN 14 = 40 ∧ zOWN 15 = 0 ∧ zOWN 16 = 0 ∧ zOWN 17 = 0 ∧ zOWN 18 = 50 ∧ zOWN 19 = 0 ∧ zOWN 20 = 0 ∧ zOWN 21 = 0 ∧ zOWN 22 = 0 ∧ zOWN 23 = 60 ∧ zOWN 24 = 70 ∧ zOWN 25 = 0 ∧ zOWN 26 = 0 ∧ zOWN 27 = 0 ∧ zOWN 28 = 0 ∧ zOWN 29 = 80 ∧ zOWN 30 = 0 ∧ zOWN 31 = 81 := ⟨rfl, rfl, rfl, rfl, rfl, rfl, rfl, rfl, rfl, rfl, rfl, rfl, rfl, rfl, rfl, rfl, rfl, rfl, rfl, rfl, rfl, rfl, rfl, rfl, rfl, rfl, rfl, rfl, rfl, rfl, rfl, rfl⟩
theorem ca_0_0 (ho : o < 8) (ih : ∀ a k, a < 4 → k < 8 → zCa f g t L o y F a k) : zCa f g t L o y (F + 1) 0 0 := by
  intro x J r m D Q hg h3 h4 h5 hl hm hD
  obtain ⟨D, rfl⟩ : ∃ D', D = D' + 2 := ⟨D - 2, by omega⟩
  have e : zsp o y (F + 1) 0 0 x = ([1], x + y) := rfl
  rw [e] at hl ⊢
  clear e
  simp only [List.length_cons, List.length_append, List.length_nil] at hl
  have hr : r < 24 := by omega
  have hr2 : ¬ 24 ≤ r := by omega
  have hm2 : m ≤ 40 := by omega
  have hm3 : ¬ 40 < m := by omega
  simp (disch := first | assumption | rfl | omega | decide | exact zb_01 _) only [zabs_e, zmax_e, zmin_e, zrf_s, zpush_s, zpush_n, zw_app, upd_app, updL_app, Nat.reduceEqDiff, Nat.add_left_cancel_iff, Nat.add_eq_left, Nat.left_eq_add, ↓reduceIte, true_and, and_true, Int32.reduceToNatClampNeg, zin_O, zi_ltO, zi_leO, zi_Olt, zi_Ole, zi_eqO, Nat.not_lt_zero, Nat.zero_le, List.append_nil, zrn_n, zrn_s, List.cons_append, List.nil_append, zlg_lt, zlg_gt, zlg_le, zlg_ge, zlg_eq, Int32.toInt_toInt64, Int64.reduceToInt, zw_zw, zw_sw1, zw_sw2, zw_sw3, zw_sw4, zw_sw5, zw_sw6, zw_sw7, ne_eq, zi_in, zi_cl, zi_le, zi_lt, zi_eq, zi_neg, zi_0le, zb_0, if_true, if_false, eq_self, zb_T, zb_F, Bool.false_eq_true, zO_eq, zO_ne1, zO_ne2, zO_nn, zi_ne1, zi_ne2, zi_lt1, zi_le1, zi_lt2, zi_le2, Int32.reduceLT, Int32.reduceLE, Nat.reduceLT, Nat.reduceLeDiff, Int32.reduceMul, Int32.reduceAdd, Int32.reduceSub, not_false_eq_true, not_true_eq_false, Int32.reduceToInt, Int.reduceLE, Int.reduceLT, Int.reduceNeg, ite_self, E_X0_run, R_X0_run, X_run_27, X_run_36, X_run_68, X_run_109, zAB, zOW, SHF, PF, h3, h4, h5, zTc_4, zTc_5, show nI 0 = 0 from rfl, show nI 1 = 1 from rfl, show nI 2 = 2 from rfl, show nI 3 = 3 from rfl, show nI 4 = 4 from rfl, show nI 5 = 5 from rfl, show nI 6 = 6 from rfl, show nI 7 = 7 from rfl, hr, hr2, hm2, hm3, zi_s, zTc_1]
  rw [H_X0_run_6]
  simp (disch := first | assumption | rfl | omega | decide | exact zb_01 _) only [zabs_e, zmax_e, zmin_e, zrf_s, zpush_s, zpush_n, zw_app, upd_app, updL_app, Nat.reduceEqDiff, Nat.add_left_cancel_iff, Nat.add_eq_left, Nat.left_eq_add, ↓reduceIte, true_and, and_true, Int32.reduceToNatClampNeg, zin_O, zi_ltO, zi_leO, zi_Olt, zi_Ole, zi_eqO, Nat.not_lt_zero, Nat.zero_le, List.append_nil, zrn_n, zrn_s, List.cons_append, List.nil_append, zlg_lt, zlg_gt, zlg_le, zlg_ge, zlg_eq, Int32.toInt_toInt64, Int64.reduceToInt, zw_zw, zw_sw1, zw_sw2, zw_sw3, zw_sw4, zw_sw5, zw_sw6, zw_sw7, ne_eq, zi_in, zi_cl, zi_le, zi_lt, zi_eq, zi_neg, zi_0le, zb_0, if_true, if_false, eq_self, zb_T, zb_F, Bool.false_eq_true, zO_eq, zO_ne1, zO_ne2, zO_nn, zi_ne1, zi_ne2, zi_lt1, zi_le1, zi_lt2, zi_le2, Int32.reduceLT, Int32.reduceLE, Nat.reduceLT, Nat.reduceLeDiff, Int32.reduceMul, Int32.reduceAdd, Int32.reduceSub, not_false_eq_true, not_true_eq_false, Int32.reduceToInt, Int.reduceLE, Int.reduceLT, Int.reduceNeg, ite_self, R_X0_run, X_run_27, X_run_36, X_run_68, X_run_109, zAB, zOW, SHF, PF, h3, h4, h5, zTc_4, zTc_5, show nI 0 = 0 from rfl, show nI 1 = 1 from rfl, show nI 2 = 2 from rfl, show nI 3 = 3 from rfl, show nI 4 = 4 from rfl, show nI 5 = 5 from rfl, show nI 6 = 6 from rfl, show nI 7 = 7 from rfl, hr, hr2, hm2, hm3, zi_s, zTc_1, E_X0_result, R_X0_result]
  try rfl
theorem ca_0_1 (ho : o < 8) (ih : ∀ a k, a < 4 → k < 8 → zCa f g t L o y F a k) : zCa f g t L o y (F + 1) 0 1 := by
  intro x J r m D Q hg h3 h4 h5 hl hm hD
  obtain ⟨D, rfl⟩ : ∃ D', D = D' + 2 := ⟨D - 2, by omega⟩
  have e : zsp o y (F + 1) 0 1 x = (20 :: (zsp o y F 0 0 (x)).1, (zsp o y F 0 0 (x)).2 + 3) := rfl
  rw [e] at hl ⊢
  clear e
  have hg : zgd o F 0 0 = true := hg
  simp only [List.length_cons, List.length_append, List.length_nil] at hl
  have hr : r < 24 := by omega
  have hr2 : ¬ 24 ≤ r := by omega
  have hm2 : m ≤ 40 := by omega
  have hm3 : ¬ 40 < m := by omega
  have q0 := fun Q => ih 0 0 (by decide) (by decide) (x) (zTc J r [20]) (r + 1) (m + 1) D Q hg rfl h4 h5 (by omega) (by omega) (by omega)
  have eM : (zTc (zTc J r [20]) (r + 1) (zsp o y F 0 0 (x)).1) = zTc J r (20 :: (zsp o y F 0 0 (x)).1) := zTc_a (cs := [20])
  simp (disch := first | assumption | rfl | omega | decide | exact zb_01 _) only [zabs_e, zmax_e, zmin_e, zrf_s, zpush_s, zpush_n, zw_app, upd_app, updL_app, Nat.reduceEqDiff, Nat.add_left_cancel_iff, Nat.add_eq_left, Nat.left_eq_add, ↓reduceIte, true_and, and_true, Int32.reduceToNatClampNeg, zin_O, zi_ltO, zi_leO, zi_Olt, zi_Ole, zi_eqO, Nat.not_lt_zero, Nat.zero_le, List.append_nil, zrn_n, zrn_s, List.cons_append, List.nil_append, zlg_lt, zlg_gt, zlg_le, zlg_ge, zlg_eq, Int32.toInt_toInt64, Int64.reduceToInt, zw_zw, zw_sw1, zw_sw2, zw_sw3, zw_sw4, zw_sw5, zw_sw6, zw_sw7, ne_eq, zi_in, zi_cl, zi_le, zi_lt, zi_eq, zi_neg, zi_0le, zb_0, if_true, if_false, eq_self, zb_T, zb_F, Bool.false_eq_true, zO_eq, zO_ne1, zO_ne2, zO_nn, zi_ne1, zi_ne2, zi_lt1, zi_le1, zi_lt2, zi_le2, Int32.reduceLT, Int32.reduceLE, Nat.reduceLT, Nat.reduceLeDiff, Int32.reduceMul, Int32.reduceAdd, Int32.reduceSub, not_false_eq_true, not_true_eq_false, Int32.reduceToInt, Int.reduceLE, Int.reduceLT, Int.reduceNeg, ite_self, E_X0_run, R_X0_run, X_run_27, X_run_36, X_run_68, X_run_109, zAB, zOW, SHF, PF, h3, h4, h5, zTc_4, zTc_5, show nI 0 = 0 from rfl, show nI 1 = 1 from rfl, show nI 2 = 2 from rfl, show nI 3 = 3 from rfl, show nI 4 = 4 from rfl, show nI 5 = 5 from rfl, show nI 6 = 6 from rfl, show nI 7 = 7 from rfl, hr, hr2, hm2, hm3, zi_s, zTc_1]
  rw [H_X0_run_6]
  simp only [show nI 0 = 0 from rfl, show nI 1 = 1 from rfl, show nI 2 = 2 from rfl, show nI 3 = 3 from rfl, show nI 4 = 4 from rfl, show nI 5 = 5 from rfl, show nI 6 = 6 from rfl, show nI 7 = 7 from rfl] at q0
  simp (disch := first | assumption | rfl | omega | decide | exact zb_01 _) only [zabs_e, zmax_e, zmin_e, zrf_s, zpush_s, zpush_n, zw_app, upd_app, updL_app, Nat.reduceEqDiff, Nat.add_left_cancel_iff, Nat.add_eq_left, Nat.left_eq_add, ↓reduceIte, true_and, and_true, Int32.reduceToNatClampNeg, zin_O, zi_ltO, zi_leO, zi_Olt, zi_Ole, zi_eqO, Nat.not_lt_zero, Nat.zero_le, List.append_nil, zrn_n, zrn_s, List.cons_append, List.nil_append, zlg_lt, zlg_gt, zlg_le, zlg_ge, zlg_eq, Int32.toInt_toInt64, Int64.reduceToInt, zw_zw, zw_sw1, zw_sw2, zw_sw3, zw_sw4, zw_sw5, zw_sw6, zw_sw7, ne_eq, zi_in, zi_cl, zi_le, zi_lt, zi_eq, zi_neg, zi_0le, zb_0, if_true, if_false, eq_self, zb_T, zb_F, Bool.false_eq_true, zO_eq, zO_ne1, zO_ne2, zO_nn, zi_ne1, zi_ne2, zi_lt1, zi_le1, zi_lt2, zi_le2, Int32.reduceLT, Int32.reduceLE, Nat.reduceLT, Nat.reduceLeDiff, Int32.reduceMul, Int32.reduceAdd, Int32.reduceSub, not_false_eq_true, not_true_eq_false, Int32.reduceToInt, Int.reduceLE, Int.reduceLT, Int.reduceNeg, ite_self, R_X0_run, X_run_27, X_run_36, X_run_68, X_run_109, zAB, zOW, SHF, PF, h3, h4, h5, zTc_4, zTc_5, show nI 0 = 0 from rfl, show nI 1 = 1 from rfl, show nI 2 = 2 from rfl, show nI 3 = 3 from rfl, show nI 4 = 4 from rfl, show nI 5 = 5 from rfl, show nI 6 = 6 from rfl, show nI 7 = 7 from rfl, hr, hr2, hm2, hm3, zi_s, zTc_1, E_X0_result, R_X0_result, q0]
  try rw [eM]
theorem ca_0_2 (ho : o < 8) (ih : ∀ a k, a < 4 → k < 8 → zCa f g t L o y F a k) : zCa f g t L o y (F + 1) 0 2 := by
  intro x J r m D Q hg h3 h4 h5 hl hm hD
  obtain ⟨D, rfl⟩ : ∃ D', D = D' + 2 := ⟨D - 2, by omega⟩
  have e : zsp o y (F + 1) 0 2 x = ([1], x + y) := rfl
  rw [e] at hl ⊢
  clear e
  simp only [List.length_cons, List.length_append, List.length_nil] at hl
  have hr : r < 24 := by omega
  have hr2 : ¬ 24 ≤ r := by omega
  have hm2 : m ≤ 40 := by omega
  have hm3 : ¬ 40 < m := by omega
  simp (disch := first | assumption | rfl | omega | decide | exact zb_01 _) only [zabs_e, zmax_e, zmin_e, zrf_s, zpush_s, zpush_n, zw_app, upd_app, updL_app, Nat.reduceEqDiff, Nat.add_left_cancel_iff, Nat.add_eq_left, Nat.left_eq_add, ↓reduceIte, true_and, and_true, Int32.reduceToNatClampNeg, zin_O, zi_ltO, zi_leO, zi_Olt, zi_Ole, zi_eqO, Nat.not_lt_zero, Nat.zero_le, List.append_nil, zrn_n, zrn_s, List.cons_append, List.nil_append, zlg_lt, zlg_gt, zlg_le, zlg_ge, zlg_eq, Int32.toInt_toInt64, Int64.reduceToInt, zw_zw, zw_sw1, zw_sw2, zw_sw3, zw_sw4, zw_sw5, zw_sw6, zw_sw7, ne_eq, zi_in, zi_cl, zi_le, zi_lt, zi_eq, zi_neg, zi_0le, zb_0, if_true, if_false, eq_self, zb_T, zb_F, Bool.false_eq_true, zO_eq, zO_ne1, zO_ne2, zO_nn, zi_ne1, zi_ne2, zi_lt1, zi_le1, zi_lt2, zi_le2, Int32.reduceLT, Int32.reduceLE, Nat.reduceLT, Nat.reduceLeDiff, Int32.reduceMul, Int32.reduceAdd, Int32.reduceSub, not_false_eq_true, not_true_eq_false, Int32.reduceToInt, Int.reduceLE, Int.reduceLT, Int.reduceNeg, ite_self, E_X0_run, R_X0_run, X_run_27, X_run_36, X_run_68, X_run_109, zAB, zOW, SHF, PF, h3, h4, h5, zTc_4, zTc_5, show nI 0 = 0 from rfl, show nI 1 = 1 from rfl, show nI 2 = 2 from rfl, show nI 3 = 3 from rfl, show nI 4 = 4 from rfl, show nI 5 = 5 from rfl, show nI 6 = 6 from rfl, show nI 7 = 7 from rfl, hr, hr2, hm2, hm3, zi_s, zTc_1]
  rw [H_X0_run_6]
  simp (disch := first | assumption | rfl | omega | decide | exact zb_01 _) only [zabs_e, zmax_e, zmin_e, zrf_s, zpush_s, zpush_n, zw_app, upd_app, updL_app, Nat.reduceEqDiff, Nat.add_left_cancel_iff, Nat.add_eq_left, Nat.left_eq_add, ↓reduceIte, true_and, and_true, Int32.reduceToNatClampNeg, zin_O, zi_ltO, zi_leO, zi_Olt, zi_Ole, zi_eqO, Nat.not_lt_zero, Nat.zero_le, List.append_nil, zrn_n, zrn_s, List.cons_append, List.nil_append, zlg_lt, zlg_gt, zlg_le, zlg_ge, zlg_eq, Int32.toInt_toInt64, Int64.reduceToInt, zw_zw, zw_sw1, zw_sw2, zw_sw3, zw_sw4, zw_sw5, zw_sw6, zw_sw7, ne_eq, zi_in, zi_cl, zi_le, zi_lt, zi_eq, zi_neg, zi_0le, zb_0, if_true, if_false, eq_self, zb_T, zb_F, Bool.false_eq_true, zO_eq, zO_ne1, zO_ne2, zO_nn, zi_ne1, zi_ne2, zi_lt1, zi_le1, zi_lt2, zi_le2, Int32.reduceLT, Int32.reduceLE, Nat.reduceLT, Nat.reduceLeDiff, Int32.reduceMul, Int32.reduceAdd, Int32.reduceSub, not_false_eq_true, not_true_eq_false, Int32.reduceToInt, Int.reduceLE, Int.reduceLT, Int.reduceNeg, ite_self, R_X0_run, X_run_27, X_run_36, X_run_68, X_run_109, zAB, zOW, SHF, PF, h3, h4, h5, zTc_4, zTc_5, show nI 0 = 0 from rfl, show nI 1 = 1 from rfl, show nI 2 = 2 from rfl, show nI 3 = 3 from rfl, show nI 4 = 4 from rfl, show nI 5 = 5 from rfl, show nI 6 = 6 from rfl, show nI 7 = 7 from rfl, hr, hr2, hm2, hm3, zi_s, zTc_1]
  rw [H_X0_run_6]
  simp (disch := first | assumption | rfl | omega | decide | exact zb_01 _) only [zabs_e, zmax_e, zmin_e, zrf_s, zpush_s, zpush_n, zw_app, upd_app, updL_app, Nat.reduceEqDiff, Nat.add_left_cancel_iff, Nat.add_eq_left, Nat.left_eq_add, ↓reduceIte, true_and, and_true, Int32.reduceToNatClampNeg, zin_O, zi_ltO, zi_leO, zi_Olt, zi_Ole, zi_eqO, Nat.not_lt_zero, Nat.zero_le, List.append_nil, zrn_n, zrn_s, List.cons_append, List.nil_append, zlg_lt, zlg_gt, zlg_le, zlg_ge, zlg_eq, Int32.toInt_toInt64, Int64.reduceToInt, zw_zw, zw_sw1, zw_sw2, zw_sw3, zw_sw4, zw_sw5, zw_sw6, zw_sw7, ne_eq, zi_in, zi_cl, zi_le, zi_lt, zi_eq, zi_neg, zi_0le, zb_0, if_true, if_false, eq_self, zb_T, zb_F, Bool.false_eq_true, zO_eq, zO_ne1, zO_ne2, zO_nn, zi_ne1, zi_ne2, zi_lt1, zi_le1, zi_lt2, zi_le2, Int32.reduceLT, Int32.reduceLE, Nat.reduceLT, Nat.reduceLeDiff, Int32.reduceMul, Int32.reduceAdd, Int32.reduceSub, not_false_eq_true, not_true_eq_false, Int32.reduceToInt, Int.reduceLE, Int.reduceLT, Int.reduceNeg, ite_self, R_X0_run, X_run_27, X_run_36, X_run_68, X_run_109, zAB, zOW, SHF, PF, h3, h4, h5, zTc_4, zTc_5, show nI 0 = 0 from rfl, show nI 1 = 1 from rfl, show nI 2 = 2 from rfl, show nI 3 = 3 from rfl, show nI 4 = 4 from rfl, show nI 5 = 5 from rfl, show nI 6 = 6 from rfl, show nI 7 = 7 from rfl, hr, hr2, hm2, hm3, zi_s, zTc_1, E_X0_result, R_X0_result]
  try rfl
theorem ca_0_3 (ho : o < 8) (ih : ∀ a k, a < 4 → k < 8 → zCa f g t L o y F a k) : zCa f g t L o y (F + 1) 0 3 := by
  intro x J r m D Q hg h3 h4 h5 hl hm hD
  obtain ⟨D, rfl⟩ : ∃ D', D = D' + 2 := ⟨D - 2, by omega⟩
  have e : zsp o y (F + 1) 0 3 x = ([1], x + y) := rfl
  rw [e] at hl ⊢
  clear e
  simp only [List.length_cons, List.length_append, List.length_nil] at hl
  have hr : r < 24 := by omega
  have hr2 : ¬ 24 ≤ r := by omega
  have hm2 : m ≤ 40 := by omega
  have hm3 : ¬ 40 < m := by omega
  simp (disch := first | assumption | rfl | omega | decide | exact zb_01 _) only [zabs_e, zmax_e, zmin_e, zrf_s, zpush_s, zpush_n, zw_app, upd_app, updL_app, Nat.reduceEqDiff, Nat.add_left_cancel_iff, Nat.add_eq_left, Nat.left_eq_add, ↓reduceIte, true_and, and_true, Int32.reduceToNatClampNeg, zin_O, zi_ltO, zi_leO, zi_Olt, zi_Ole, zi_eqO, Nat.not_lt_zero, Nat.zero_le, List.append_nil, zrn_n, zrn_s, List.cons_append, List.nil_append, zlg_lt, zlg_gt, zlg_le, zlg_ge, zlg_eq, Int32.toInt_toInt64, Int64.reduceToInt, zw_zw, zw_sw1, zw_sw2, zw_sw3, zw_sw4, zw_sw5, zw_sw6, zw_sw7, ne_eq, zi_in, zi_cl, zi_le, zi_lt, zi_eq, zi_neg, zi_0le, zb_0, if_true, if_false, eq_self, zb_T, zb_F, Bool.false_eq_true, zO_eq, zO_ne1, zO_ne2, zO_nn, zi_ne1, zi_ne2, zi_lt1, zi_le1, zi_lt2, zi_le2, Int32.reduceLT, Int32.reduceLE, Nat.reduceLT, Nat.reduceLeDiff, Int32.reduceMul, Int32.reduceAdd, Int32.reduceSub, not_false_eq_true, not_true_eq_false, Int32.reduceToInt, Int.reduceLE, Int.reduceLT, Int.reduceNeg, ite_self, E_X0_run, R_X0_run, X_run_27, X_run_36, X_run_68, X_run_109, zAB, zOW, SHF, PF, h3, h4, h5, zTc_4, zTc_5, show nI 0 = 0 from rfl, show nI 1 = 1 from rfl, show nI 2 = 2 from rfl, show nI 3 = 3 from rfl, show nI 4 = 4 from rfl, show nI 5 = 5 from rfl, show nI 6 = 6 from rfl, show nI 7 = 7 from rfl, hr, hr2, hm2, hm3, zi_s, zTc_1]
  rw [H_X0_run_6]
  simp (disch := first | assumption | rfl | omega | decide | exact zb_01 _) only [zabs_e, zmax_e, zmin_e, zrf_s, zpush_s, zpush_n, zw_app, upd_app, updL_app, Nat.reduceEqDiff, Nat.add_left_cancel_iff, Nat.add_eq_left, Nat.left_eq_add, ↓reduceIte, true_and, and_true, Int32.reduceToNatClampNeg, zin_O, zi_ltO, zi_leO, zi_Olt, zi_Ole, zi_eqO, Nat.not_lt_zero, Nat.zero_le, List.append_nil, zrn_n, zrn_s, List.cons_append, List.nil_append, zlg_lt, zlg_gt, zlg_le, zlg_ge, zlg_eq, Int32.toInt_toInt64, Int64.reduceToInt, zw_zw, zw_sw1, zw_sw2, zw_sw3, zw_sw4, zw_sw5, zw_sw6, zw_sw7, ne_eq, zi_in, zi_cl, zi_le, zi_lt, zi_eq, zi_neg, zi_0le, zb_0, if_true, if_false, eq_self, zb_T, zb_F, Bool.false_eq_true, zO_eq, zO_ne1, zO_ne2, zO_nn, zi_ne1, zi_ne2, zi_lt1, zi_le1, zi_lt2, zi_le2, Int32.reduceLT, Int32.reduceLE, Nat.reduceLT, Nat.reduceLeDiff, Int32.reduceMul, Int32.reduceAdd, Int32.reduceSub, not_false_eq_true, not_true_eq_false, Int32.reduceToInt, Int.reduceLE, Int.reduceLT, Int.reduceNeg, ite_self, R_X0_run, X_run_27, X_run_36, X_run_68, X_run_109, zAB, zOW, SHF, PF, h3, h4, h5, zTc_4, zTc_5, show nI 0 = 0 from rfl, show nI 1 = 1 from rfl, show nI 2 = 2 from rfl, show nI 3 = 3 from rfl, show nI 4 = 4 from rfl, show nI 5 = 5 from rfl, show nI 6 = 6 from rfl, show nI 7 = 7 from rfl, hr, hr2, hm2, hm3, zi_s, zTc_1]
  rw [H_X0_run_6]
  simp (disch := first | assumption | rfl | omega | decide | exact zb_01 _) only [zabs_e, zmax_e, zmin_e, zrf_s, zpush_s, zpush_n, zw_app, upd_app, updL_app, Nat.reduceEqDiff, Nat.add_left_cancel_iff, Nat.add_eq_left, Nat.left_eq_add, ↓reduceIte, true_and, and_true, Int32.reduceToNatClampNeg, zin_O, zi_ltO, zi_leO, zi_Olt, zi_Ole, zi_eqO, Nat.not_lt_zero, Nat.zero_le, List.append_nil, zrn_n, zrn_s, List.cons_append, List.nil_append, zlg_lt, zlg_gt, zlg_le, zlg_ge, zlg_eq, Int32.toInt_toInt64, Int64.reduceToInt, zw_zw, zw_sw1, zw_sw2, zw_sw3, zw_sw4, zw_sw5, zw_sw6, zw_sw7, ne_eq, zi_in, zi_cl, zi_le, zi_lt, zi_eq, zi_neg, zi_0le, zb_0, if_true, if_false, eq_self, zb_T, zb_F, Bool.false_eq_true, zO_eq, zO_ne1, zO_ne2, zO_nn, zi_ne1, zi_ne2, zi_lt1, zi_le1, zi_lt2, zi_le2, Int32.reduceLT, Int32.reduceLE, Nat.reduceLT, Nat.reduceLeDiff, Int32.reduceMul, Int32.reduceAdd, Int32.reduceSub, not_false_eq_true, not_true_eq_false, Int32.reduceToInt, Int.reduceLE, Int.reduceLT, Int.reduceNeg, ite_self, R_X0_run, X_run_27, X_run_36, X_run_68, X_run_109, zAB, zOW, SHF, PF, h3, h4, h5, zTc_4, zTc_5, show nI 0 = 0 from rfl, show nI 1 = 1 from rfl, show nI 2 = 2 from rfl, show nI 3 = 3 from rfl, show nI 4 = 4 from rfl, show nI 5 = 5 from rfl, show nI 6 = 6 from rfl, show nI 7 = 7 from rfl, hr, hr2, hm2, hm3, zi_s, zTc_1]
  rw [H_X0_run_6]
  simp (disch := first | assumption | rfl | omega | decide | exact zb_01 _) only [zabs_e, zmax_e, zmin_e, zrf_s, zpush_s, zpush_n, zw_app, upd_app, updL_app, Nat.reduceEqDiff, Nat.add_left_cancel_iff, Nat.add_eq_left, Nat.left_eq_add, ↓reduceIte, true_and, and_true, Int32.reduceToNatClampNeg, zin_O, zi_ltO, zi_leO, zi_Olt, zi_Ole, zi_eqO, Nat.not_lt_zero, Nat.zero_le, List.append_nil, zrn_n, zrn_s, List.cons_append, List.nil_append, zlg_lt, zlg_gt, zlg_le, zlg_ge, zlg_eq, Int32.toInt_toInt64, Int64.reduceToInt, zw_zw, zw_sw1, zw_sw2, zw_sw3, zw_sw4, zw_sw5, zw_sw6, zw_sw7, ne_eq, zi_in, zi_cl, zi_le, zi_lt, zi_eq, zi_neg, zi_0le, zb_0, if_true, if_false, eq_self, zb_T, zb_F, Bool.false_eq_true, zO_eq, zO_ne1, zO_ne2, zO_nn, zi_ne1, zi_ne2, zi_lt1, zi_le1, zi_lt2, zi_le2, Int32.reduceLT, Int32.reduceLE, Nat.reduceLT, Nat.reduceLeDiff, Int32.reduceMul, Int32.reduceAdd, Int32.reduceSub, not_false_eq_true, not_true_eq_false, Int32.reduceToInt, Int.reduceLE, Int.reduceLT, Int.reduceNeg, ite_self, R_X0_run, X_run_27, X_run_36, X_run_68, X_run_109, zAB, zOW, SHF, PF, h3, h4, h5, zTc_4, zTc_5, show nI 0 = 0 from rfl, show nI 1 = 1 from rfl, show nI 2 = 2 from rfl, show nI 3 = 3 from rfl, show nI 4 = 4 from rfl, show nI 5 = 5 from rfl, show nI 6 = 6 from rfl, show nI 7 = 7 from rfl, hr, hr2, hm2, hm3, zi_s, zTc_1, E_X0_result, R_X0_result]
  try rfl
theorem ca_0_4 (ho : o < 8) (ih : ∀ a k, a < 4 → k < 8 → zCa f g t L o y F a k) : zCa f g t L o y (F + 1) 0 4 := by
  intro x J r m D Q hg h3 h4 h5 hl hm hD
  obtain ⟨D, rfl⟩ : ∃ D', D = D' + 2 := ⟨D - 2, by omega⟩
  have e : zsp o y (F + 1) 0 4 x = (20 :: (zsp o y F 0 0 (x)).1, (zsp o y F 0 0 (x)).2 + 3) := rfl
  rw [e] at hl ⊢
  clear e
  have hg : zgd o F 0 0 = true := hg
  simp only [List.length_cons, List.length_append, List.length_nil] at hl
  have hr : r < 24 := by omega
  have hr2 : ¬ 24 ≤ r := by omega
  have hm2 : m ≤ 40 := by omega
  have hm3 : ¬ 40 < m := by omega
  have q0 := fun Q => ih 0 0 (by decide) (by decide) (x) (zTc J r [20]) (r + 1) (m + 1) D Q hg rfl h4 h5 (by omega) (by omega) (by omega)
  have eM : (zTc (zTc J r [20]) (r + 1) (zsp o y F 0 0 (x)).1) = zTc J r (20 :: (zsp o y F 0 0 (x)).1) := zTc_a (cs := [20])
  simp (disch := first | assumption | rfl | omega | decide | exact zb_01 _) only [zabs_e, zmax_e, zmin_e, zrf_s, zpush_s, zpush_n, zw_app, upd_app, updL_app, Nat.reduceEqDiff, Nat.add_left_cancel_iff, Nat.add_eq_left, Nat.left_eq_add, ↓reduceIte, true_and, and_true, Int32.reduceToNatClampNeg, zin_O, zi_ltO, zi_leO, zi_Olt, zi_Ole, zi_eqO, Nat.not_lt_zero, Nat.zero_le, List.append_nil, zrn_n, zrn_s, List.cons_append, List.nil_append, zlg_lt, zlg_gt, zlg_le, zlg_ge, zlg_eq, Int32.toInt_toInt64, Int64.reduceToInt, zw_zw, zw_sw1, zw_sw2, zw_sw3, zw_sw4, zw_sw5, zw_sw6, zw_sw7, ne_eq, zi_in, zi_cl, zi_le, zi_lt, zi_eq, zi_neg, zi_0le, zb_0, if_true, if_false, eq_self, zb_T, zb_F, Bool.false_eq_true, zO_eq, zO_ne1, zO_ne2, zO_nn, zi_ne1, zi_ne2, zi_lt1, zi_le1, zi_lt2, zi_le2, Int32.reduceLT, Int32.reduceLE, Nat.reduceLT, Nat.reduceLeDiff, Int32.reduceMul, Int32.reduceAdd, Int32.reduceSub, not_false_eq_true, not_true_eq_false, Int32.reduceToInt, Int.reduceLE, Int.reduceLT, Int.reduceNeg, ite_self, E_X0_run, R_X0_run, X_run_27, X_run_36, X_run_68, X_run_109, zAB, zOW, SHF, PF, h3, h4, h5, zTc_4, zTc_5, show nI 0 = 0 from rfl, show nI 1 = 1 from rfl, show nI 2 = 2 from rfl, show nI 3 = 3 from rfl, show nI 4 = 4 from rfl, show nI 5 = 5 from rfl, show nI 6 = 6 from rfl, show nI 7 = 7 from rfl, hr, hr2, hm2, hm3, zi_s, zTc_1]
  rw [H_X0_run_6]
  simp (disch := first | assumption | rfl | omega | decide | exact zb_01 _) only [zabs_e, zmax_e, zmin_e, zrf_s, zpush_s, zpush_n, zw_app, upd_app, updL_app, Nat.reduceEqDiff, Nat.add_left_cancel_iff, Nat.add_eq_left, Nat.left_eq_add, ↓reduceIte, true_and, and_true, Int32.reduceToNatClampNeg, zin_O, zi_ltO, zi_leO, zi_Olt, zi_Ole, zi_eqO, Nat.not_lt_zero, Nat.zero_le, List.append_nil, zrn_n, zrn_s, List.cons_append, List.nil_append, zlg_lt, zlg_gt, zlg_le, zlg_ge, zlg_eq, Int32.toInt_toInt64, Int64.reduceToInt, zw_zw, zw_sw1, zw_sw2, zw_sw3, zw_sw4, zw_sw5, zw_sw6, zw_sw7, ne_eq, zi_in, zi_cl, zi_le, zi_lt, zi_eq, zi_neg, zi_0le, zb_0, if_true, if_false, eq_self, zb_T, zb_F, Bool.false_eq_true, zO_eq, zO_ne1, zO_ne2, zO_nn, zi_ne1, zi_ne2, zi_lt1, zi_le1, zi_lt2, zi_le2, Int32.reduceLT, Int32.reduceLE, Nat.reduceLT, Nat.reduceLeDiff, Int32.reduceMul, Int32.reduceAdd, Int32.reduceSub, not_false_eq_true, not_true_eq_false, Int32.reduceToInt, Int.reduceLE, Int.reduceLT, Int.reduceNeg, ite_self, R_X0_run, X_run_27, X_run_36, X_run_68, X_run_109, zAB, zOW, SHF, PF, h3, h4, h5, zTc_4, zTc_5, show nI 0 = 0 from rfl, show nI 1 = 1 from rfl, show nI 2 = 2 from rfl, show nI 3 = 3 from rfl, show nI 4 = 4 from rfl, show nI 5 = 5 from rfl, show nI 6 = 6 from rfl, show nI 7 = 7 from rfl, hr, hr2, hm2, hm3, zi_s, zTc_1]
  rw [H_X0_run_6]
  simp only [show nI 0 = 0 from rfl, show nI 1 = 1 from rfl, show nI 2 = 2 from rfl, show nI 3 = 3 from rfl, show nI 4 = 4 from rfl, show nI 5 = 5 from rfl, show nI 6 = 6 from rfl, show nI 7 = 7 from rfl] at q0
  simp (disch := first | assumption | rfl | omega | decide | exact zb_01 _) only [zabs_e, zmax_e, zmin_e, zrf_s, zpush_s, zpush_n, zw_app, upd_app, updL_app, Nat.reduceEqDiff, Nat.add_left_cancel_iff, Nat.add_eq_left, Nat.left_eq_add, ↓reduceIte, true_and, and_true, Int32.reduceToNatClampNeg, zin_O, zi_ltO, zi_leO, zi_Olt, zi_Ole, zi_eqO, Nat.not_lt_zero, Nat.zero_le, List.append_nil, zrn_n, zrn_s, List.cons_append, List.nil_append, zlg_lt, zlg_gt, zlg_le, zlg_ge, zlg_eq, Int32.toInt_toInt64, Int64.reduceToInt, zw_zw, zw_sw1, zw_sw2, zw_sw3, zw_sw4, zw_sw5, zw_sw6, zw_sw7, ne_eq, zi_in, zi_cl, zi_le, zi_lt, zi_eq, zi_neg, zi_0le, zb_0, if_true, if_false, eq_self, zb_T, zb_F, Bool.false_eq_true, zO_eq, zO_ne1, zO_ne2, zO_nn, zi_ne1, zi_ne2, zi_lt1, zi_le1, zi_lt2, zi_le2, Int32.reduceLT, Int32.reduceLE, Nat.reduceLT, Nat.reduceLeDiff, Int32.reduceMul, Int32.reduceAdd, Int32.reduceSub, not_false_eq_true, not_true_eq_false, Int32.reduceToInt, Int.reduceLE, Int.reduceLT, Int.reduceNeg, ite_self, R_X0_run, X_run_27, X_run_36, X_run_68, X_run_109, zAB, zOW, SHF, PF, h3, h4, h5, zTc_4, zTc_5, show nI 0 = 0 from rfl, show nI 1 = 1 from rfl, show nI 2 = 2 from rfl, show nI 3 = 3 from rfl, show nI 4 = 4 from rfl, show nI 5 = 5 from rfl, show nI 6 = 6 from rfl, show nI 7 = 7 from rfl, hr, hr2, hm2, hm3, zi_s, zTc_1, E_X0_result, R_X0_result, q0]
  try rw [eM]
theorem ca_0_5 (ho : o < 8) (ih : ∀ a k, a < 4 → k < 8 → zCa f g t L o y F a k) : zCa f g t L o y (F + 1) 0 5 := by
  intro x J r m D Q hg h3 h4 h5 hl hm hD
  obtain ⟨D, rfl⟩ : ∃ D', D = D' + 2 := ⟨D - 2, by omega⟩
  have e : zsp o y (F + 1) 0 5 x = ([1], x + y) := rfl
  rw [e] at hl ⊢
  clear e
  simp only [List.length_cons, List.length_append, List.length_nil] at hl
  have hr : r < 24 := by omega
  have hr2 : ¬ 24 ≤ r := by omega
  have hm2 : m ≤ 40 := by omega
  have hm3 : ¬ 40 < m := by omega
  simp (disch := first | assumption | rfl | omega | decide | exact zb_01 _) only [zabs_e, zmax_e, zmin_e, zrf_s, zpush_s, zpush_n, zw_app, upd_app, updL_app, Nat.reduceEqDiff, Nat.add_left_cancel_iff, Nat.add_eq_left, Nat.left_eq_add, ↓reduceIte, true_and, and_true, Int32.reduceToNatClampNeg, zin_O, zi_ltO, zi_leO, zi_Olt, zi_Ole, zi_eqO, Nat.not_lt_zero, Nat.zero_le, List.append_nil, zrn_n, zrn_s, List.cons_append, List.nil_append, zlg_lt, zlg_gt, zlg_le, zlg_ge, zlg_eq, Int32.toInt_toInt64, Int64.reduceToInt, zw_zw, zw_sw1, zw_sw2, zw_sw3, zw_sw4, zw_sw5, zw_sw6, zw_sw7, ne_eq, zi_in, zi_cl, zi_le, zi_lt, zi_eq, zi_neg, zi_0le, zb_0, if_true, if_false, eq_self, zb_T, zb_F, Bool.false_eq_true, zO_eq, zO_ne1, zO_ne2, zO_nn, zi_ne1, zi_ne2, zi_lt1, zi_le1, zi_lt2, zi_le2, Int32.reduceLT, Int32.reduceLE, Nat.reduceLT, Nat.reduceLeDiff, Int32.reduceMul, Int32.reduceAdd, Int32.reduceSub, not_false_eq_true, not_true_eq_false, Int32.reduceToInt, Int.reduceLE, Int.reduceLT, Int.reduceNeg, ite_self, E_X0_run, R_X0_run, X_run_27, X_run_36, X_run_68, X_run_109, zAB, zOW, SHF, PF, h3, h4, h5, zTc_4, zTc_5, show nI 0 = 0 from rfl, show nI 1 = 1 from rfl, show nI 2 = 2 from rfl, show nI 3 = 3 from rfl, show nI 4 = 4 from rfl, show nI 5 = 5 from rfl, show nI 6 = 6 from rfl, show nI 7 = 7 from rfl, hr, hr2, hm2, hm3, zi_s, zTc_1]
  rw [H_X0_run_6]
  simp (disch := first | assumption | rfl | omega | decide | exact zb_01 _) only [zabs_e, zmax_e, zmin_e, zrf_s, zpush_s, zpush_n, zw_app, upd_app, updL_app, Nat.reduceEqDiff, Nat.add_left_cancel_iff, Nat.add_eq_left, Nat.left_eq_add, ↓reduceIte, true_and, and_true, Int32.reduceToNatClampNeg, zin_O, zi_ltO, zi_leO, zi_Olt, zi_Ole, zi_eqO, Nat.not_lt_zero, Nat.zero_le, List.append_nil, zrn_n, zrn_s, List.cons_append, List.nil_append, zlg_lt, zlg_gt, zlg_le, zlg_ge, zlg_eq, Int32.toInt_toInt64, Int64.reduceToInt, zw_zw, zw_sw1, zw_sw2, zw_sw3, zw_sw4, zw_sw5, zw_sw6, zw_sw7, ne_eq, zi_in, zi_cl, zi_le, zi_lt, zi_eq, zi_neg, zi_0le, zb_0, if_true, if_false, eq_self, zb_T, zb_F, Bool.false_eq_true, zO_eq, zO_ne1, zO_ne2, zO_nn, zi_ne1, zi_ne2, zi_lt1, zi_le1, zi_lt2, zi_le2, Int32.reduceLT, Int32.reduceLE, Nat.reduceLT, Nat.reduceLeDiff, Int32.reduceMul, Int32.reduceAdd, Int32.reduceSub, not_false_eq_true, not_true_eq_false, Int32.reduceToInt, Int.reduceLE, Int.reduceLT, Int.reduceNeg, ite_self, R_X0_run, X_run_27, X_run_36, X_run_68, X_run_109, zAB, zOW, SHF, PF, h3, h4, h5, zTc_4, zTc_5, show nI 0 = 0 from rfl, show nI 1 = 1 from rfl, show nI 2 = 2 from rfl, show nI 3 = 3 from rfl, show nI 4 = 4 from rfl, show nI 5 = 5 from rfl, show nI 6 = 6 from rfl, show nI 7 = 7 from rfl, hr, hr2, hm2, hm3, zi_s, zTc_1]
  rw [H_X0_run_6]
  simp (disch := first | assumption | rfl | omega | decide | exact zb_01 _) only [zabs_e, zmax_e, zmin_e, zrf_s, zpush_s, zpush_n, zw_app, upd_app, updL_app, Nat.reduceEqDiff, Nat.add_left_cancel_iff, Nat.add_eq_left, Nat.left_eq_add, ↓reduceIte, true_and, and_true, Int32.reduceToNatClampNeg, zin_O, zi_ltO, zi_leO, zi_Olt, zi_Ole, zi_eqO, Nat.not_lt_zero, Nat.zero_le, List.append_nil, zrn_n, zrn_s, List.cons_append, List.nil_append, zlg_lt, zlg_gt, zlg_le, zlg_ge, zlg_eq, Int32.toInt_toInt64, Int64.reduceToInt, zw_zw, zw_sw1, zw_sw2, zw_sw3, zw_sw4, zw_sw5, zw_sw6, zw_sw7, ne_eq, zi_in, zi_cl, zi_le, zi_lt, zi_eq, zi_neg, zi_0le, zb_0, if_true, if_false, eq_self, zb_T, zb_F, Bool.false_eq_true, zO_eq, zO_ne1, zO_ne2, zO_nn, zi_ne1, zi_ne2, zi_lt1, zi_le1, zi_lt2, zi_le2, Int32.reduceLT, Int32.reduceLE, Nat.reduceLT, Nat.reduceLeDiff, Int32.reduceMul, Int32.reduceAdd, Int32.reduceSub, not_false_eq_true, not_true_eq_false, Int32.reduceToInt, Int.reduceLE, Int.reduceLT, Int.reduceNeg, ite_self, R_X0_run, X_run_27, X_run_36, X_run_68, X_run_109, zAB, zOW, SHF, PF, h3, h4, h5, zTc_4, zTc_5, show nI 0 = 0 from rfl, show nI 1 = 1 from rfl, show nI 2 = 2 from rfl, show nI 3 = 3 from rfl, show nI 4 = 4 from rfl, show nI 5 = 5 from rfl, show nI 6 = 6 from rfl, show nI 7 = 7 from rfl, hr, hr2, hm2, hm3, zi_s, zTc_1]
  rw [H_X0_run_6]
  simp (disch := first | assumption | rfl | omega | decide | exact zb_01 _) only [zabs_e, zmax_e, zmin_e, zrf_s, zpush_s, zpush_n, zw_app, upd_app, updL_app, Nat.reduceEqDiff, Nat.add_left_cancel_iff, Nat.add_eq_left, Nat.left_eq_add, ↓reduceIte, true_and, and_true, Int32.reduceToNatClampNeg, zin_O, zi_ltO, zi_leO, zi_Olt, zi_Ole, zi_eqO, Nat.not_lt_zero, Nat.zero_le, List.append_nil, zrn_n, zrn_s, List.cons_append, List.nil_append, zlg_lt, zlg_gt, zlg_le, zlg_ge, zlg_eq, Int32.toInt_toInt64, Int64.reduceToInt, zw_zw, zw_sw1, zw_sw2, zw_sw3, zw_sw4, zw_sw5, zw_sw6, zw_sw7, ne_eq, zi_in, zi_cl, zi_le, zi_lt, zi_eq, zi_neg, zi_0le, zb_0, if_true, if_false, eq_self, zb_T, zb_F, Bool.false_eq_true, zO_eq, zO_ne1, zO_ne2, zO_nn, zi_ne1, zi_ne2, zi_lt1, zi_le1, zi_lt2, zi_le2, Int32.reduceLT, Int32.reduceLE, Nat.reduceLT, Nat.reduceLeDiff, Int32.reduceMul, Int32.reduceAdd, Int32.reduceSub, not_false_eq_true, not_true_eq_false, Int32.reduceToInt, Int.reduceLE, Int.reduceLT, Int.reduceNeg, ite_self, R_X0_run, X_run_27, X_run_36, X_run_68, X_run_109, zAB, zOW, SHF, PF, h3, h4, h5, zTc_4, zTc_5, show nI 0 = 0 from rfl, show nI 1 = 1 from rfl, show nI 2 = 2 from rfl, show nI 3 = 3 from rfl, show nI 4 = 4 from rfl, show nI 5 = 5 from rfl, show nI 6 = 6 from rfl, show nI 7 = 7 from rfl, hr, hr2, hm2, hm3, zi_s, zTc_1]
  rw [H_X0_run_6]
  simp (disch := first | assumption | rfl | omega | decide | exact zb_01 _) only [zabs_e, zmax_e, zmin_e, zrf_s, zpush_s, zpush_n, zw_app, upd_app, updL_app, Nat.reduceEqDiff, Nat.add_left_cancel_iff, Nat.add_eq_left, Nat.left_eq_add, ↓reduceIte, true_and, and_true, Int32.reduceToNatClampNeg, zin_O, zi_ltO, zi_leO, zi_Olt, zi_Ole, zi_eqO, Nat.not_lt_zero, Nat.zero_le, List.append_nil, zrn_n, zrn_s, List.cons_append, List.nil_append, zlg_lt, zlg_gt, zlg_le, zlg_ge, zlg_eq, Int32.toInt_toInt64, Int64.reduceToInt, zw_zw, zw_sw1, zw_sw2, zw_sw3, zw_sw4, zw_sw5, zw_sw6, zw_sw7, ne_eq, zi_in, zi_cl, zi_le, zi_lt, zi_eq, zi_neg, zi_0le, zb_0, if_true, if_false, eq_self, zb_T, zb_F, Bool.false_eq_true, zO_eq, zO_ne1, zO_ne2, zO_nn, zi_ne1, zi_ne2, zi_lt1, zi_le1, zi_lt2, zi_le2, Int32.reduceLT, Int32.reduceLE, Nat.reduceLT, Nat.reduceLeDiff, Int32.reduceMul, Int32.reduceAdd, Int32.reduceSub, not_false_eq_true, not_true_eq_false, Int32.reduceToInt, Int.reduceLE, Int.reduceLT, Int.reduceNeg, ite_self, R_X0_run, X_run_27, X_run_36, X_run_68, X_run_109, zAB, zOW, SHF, PF, h3, h4, h5, zTc_4, zTc_5, show nI 0 = 0 from rfl, show nI 1 = 1 from rfl, show nI 2 = 2 from rfl, show nI 3 = 3 from rfl, show nI 4 = 4 from rfl, show nI 5 = 5 from rfl, show nI 6 = 6 from rfl, show nI 7 = 7 from rfl, hr, hr2, hm2, hm3, zi_s, zTc_1, E_X0_result, R_X0_result]
  try rfl
theorem ca_0_6 (ho : o < 8) (ih : ∀ a k, a < 4 → k < 8 → zCa f g t L o y F a k) : zCa f g t L o y (F + 1) 0 6 := by
  intro x J r m D Q hg h3 h4 h5 hl hm hD
  obtain ⟨D, rfl⟩ : ∃ D', D = D' + 2 := ⟨D - 2, by omega⟩
  have e : zsp o y (F + 1) 0 6 x = (70 :: (zsp o y F 0 0 (x)).1, (zsp o y F 0 0 (x)).2 * 2) := rfl
  rw [e] at hl ⊢
  clear e
  have hg : zgd o F 0 0 = true := hg
  simp only [List.length_cons, List.length_append, List.length_nil] at hl
  have hr : r < 24 := by omega
  have hr2 : ¬ 24 ≤ r := by omega
  have hm2 : m ≤ 40 := by omega
  have hm3 : ¬ 40 < m := by omega
  have q0 := fun Q => ih 0 0 (by decide) (by decide) (x) (zTc J r [70]) (r + 1) (m + 1) D Q hg rfl h4 h5 (by omega) (by omega) (by omega)
  have eM : (zTc (zTc J r [70]) (r + 1) (zsp o y F 0 0 (x)).1) = zTc J r (70 :: (zsp o y F 0 0 (x)).1) := zTc_a (cs := [70])
  simp (disch := first | assumption | rfl | omega | decide | exact zb_01 _) only [zabs_e, zmax_e, zmin_e, zrf_s, zpush_s, zpush_n, zw_app, upd_app, updL_app, Nat.reduceEqDiff, Nat.add_left_cancel_iff, Nat.add_eq_left, Nat.left_eq_add, ↓reduceIte, true_and, and_true, Int32.reduceToNatClampNeg, zin_O, zi_ltO, zi_leO, zi_Olt, zi_Ole, zi_eqO, Nat.not_lt_zero, Nat.zero_le, List.append_nil, zrn_n, zrn_s, List.cons_append, List.nil_append, zlg_lt, zlg_gt, zlg_le, zlg_ge, zlg_eq, Int32.toInt_toInt64, Int64.reduceToInt, zw_zw, zw_sw1, zw_sw2, zw_sw3, zw_sw4, zw_sw5, zw_sw6, zw_sw7, ne_eq, zi_in, zi_cl, zi_le, zi_lt, zi_eq, zi_neg, zi_0le, zb_0, if_true, if_false, eq_self, zb_T, zb_F, Bool.false_eq_true, zO_eq, zO_ne1, zO_ne2, zO_nn, zi_ne1, zi_ne2, zi_lt1, zi_le1, zi_lt2, zi_le2, Int32.reduceLT, Int32.reduceLE, Nat.reduceLT, Nat.reduceLeDiff, Int32.reduceMul, Int32.reduceAdd, Int32.reduceSub, not_false_eq_true, not_true_eq_false, Int32.reduceToInt, Int.reduceLE, Int.reduceLT, Int.reduceNeg, ite_self, E_X0_run, R_X0_run, X_run_27, X_run_36, X_run_68, X_run_109, zAB, zOW, SHF, PF, h3, h4, h5, zTc_4, zTc_5, show nI 0 = 0 from rfl, show nI 1 = 1 from rfl, show nI 2 = 2 from rfl, show nI 3 = 3 from rfl, show nI 4 = 4 from rfl, show nI 5 = 5 from rfl, show nI 6 = 6 from rfl, show nI 7 = 7 from rfl, hr, hr2, hm2, hm3, zi_s, zTc_1]
  rw [H_X0_run_6]
  simp only [show nI 0 = 0 from rfl, show nI 1 = 1 from rfl, show nI 2 = 2 from rfl, show nI 3 = 3 from rfl, show nI 4 = 4 from rfl, show nI 5 = 5 from rfl, show nI 6 = 6 from rfl, show nI 7 = 7 from rfl] at q0
  simp (disch := first | assumption | rfl | omega | decide | exact zb_01 _) only [zabs_e, zmax_e, zmin_e, zrf_s, zpush_s, zpush_n, zw_app, upd_app, updL_app, Nat.reduceEqDiff, Nat.add_left_cancel_iff, Nat.add_eq_left, Nat.left_eq_add, ↓reduceIte, true_and, and_true, Int32.reduceToNatClampNeg, zin_O, zi_ltO, zi_leO, zi_Olt, zi_Ole, zi_eqO, Nat.not_lt_zero, Nat.zero_le, List.append_nil, zrn_n, zrn_s, List.cons_append, List.nil_append, zlg_lt, zlg_gt, zlg_le, zlg_ge, zlg_eq, Int32.toInt_toInt64, Int64.reduceToInt, zw_zw, zw_sw1, zw_sw2, zw_sw3, zw_sw4, zw_sw5, zw_sw6, zw_sw7, ne_eq, zi_in, zi_cl, zi_le, zi_lt, zi_eq, zi_neg, zi_0le, zb_0, if_true, if_false, eq_self, zb_T, zb_F, Bool.false_eq_true, zO_eq, zO_ne1, zO_ne2, zO_nn, zi_ne1, zi_ne2, zi_lt1, zi_le1, zi_lt2, zi_le2, Int32.reduceLT, Int32.reduceLE, Nat.reduceLT, Nat.reduceLeDiff, Int32.reduceMul, Int32.reduceAdd, Int32.reduceSub, not_false_eq_true, not_true_eq_false, Int32.reduceToInt, Int.reduceLE, Int.reduceLT, Int.reduceNeg, ite_self, R_X0_run, X_run_27, X_run_36, X_run_68, X_run_109, zAB, zOW, SHF, PF, h3, h4, h5, zTc_4, zTc_5, show nI 0 = 0 from rfl, show nI 1 = 1 from rfl, show nI 2 = 2 from rfl, show nI 3 = 3 from rfl, show nI 4 = 4 from rfl, show nI 5 = 5 from rfl, show nI 6 = 6 from rfl, show nI 7 = 7 from rfl, hr, hr2, hm2, hm3, zi_s, zTc_1, E_X0_result, R_X0_result, q0]
  try rw [eM]
theorem ca_0_7 (ho : o < 8) (ih : ∀ a k, a < 4 → k < 8 → zCa f g t L o y F a k) : zCa f g t L o y (F + 1) 0 7 := by
  intro x J r m D Q hg h3 h4 h5 hl hm hD
  obtain ⟨D, rfl⟩ : ∃ D', D = D' + 2 := ⟨D - 2, by omega⟩
  have e : zsp o y (F + 1) 0 7 x = (20 :: (zsp o y F 0 0 (x)).1, (zsp o y F 0 0 (x)).2 + 3) := rfl
  rw [e] at hl ⊢
  clear e
  have hg : zgd o F 0 0 = true := hg
  simp only [List.length_cons, List.length_append, List.length_nil] at hl
  have hr : r < 24 := by omega
  have hr2 : ¬ 24 ≤ r := by omega
  have hm2 : m ≤ 40 := by omega
  have hm3 : ¬ 40 < m := by omega
  have q0 := fun Q => ih 0 0 (by decide) (by decide) (x) (zTc J r [20]) (r + 1) (m + 1) D Q hg rfl h4 h5 (by omega) (by omega) (by omega)
  have eM : (zTc (zTc J r [20]) (r + 1) (zsp o y F 0 0 (x)).1) = zTc J r (20 :: (zsp o y F 0 0 (x)).1) := zTc_a (cs := [20])
  simp (disch := first | assumption | rfl | omega | decide | exact zb_01 _) only [zabs_e, zmax_e, zmin_e, zrf_s, zpush_s, zpush_n, zw_app, upd_app, updL_app, Nat.reduceEqDiff, Nat.add_left_cancel_iff, Nat.add_eq_left, Nat.left_eq_add, ↓reduceIte, true_and, and_true, Int32.reduceToNatClampNeg, zin_O, zi_ltO, zi_leO, zi_Olt, zi_Ole, zi_eqO, Nat.not_lt_zero, Nat.zero_le, List.append_nil, zrn_n, zrn_s, List.cons_append, List.nil_append, zlg_lt, zlg_gt, zlg_le, zlg_ge, zlg_eq, Int32.toInt_toInt64, Int64.reduceToInt, zw_zw, zw_sw1, zw_sw2, zw_sw3, zw_sw4, zw_sw5, zw_sw6, zw_sw7, ne_eq, zi_in, zi_cl, zi_le, zi_lt, zi_eq, zi_neg, zi_0le, zb_0, if_true, if_false, eq_self, zb_T, zb_F, Bool.false_eq_true, zO_eq, zO_ne1, zO_ne2, zO_nn, zi_ne1, zi_ne2, zi_lt1, zi_le1, zi_lt2, zi_le2, Int32.reduceLT, Int32.reduceLE, Nat.reduceLT, Nat.reduceLeDiff, Int32.reduceMul, Int32.reduceAdd, Int32.reduceSub, not_false_eq_true, not_true_eq_false, Int32.reduceToInt, Int.reduceLE, Int.reduceLT, Int.reduceNeg, ite_self, E_X0_run, R_X0_run, X_run_27, X_run_36, X_run_68, X_run_109, zAB, zOW, SHF, PF, h3, h4, h5, zTc_4, zTc_5, show nI 0 = 0 from rfl, show nI 1 = 1 from rfl, show nI 2 = 2 from rfl, show nI 3 = 3 from rfl, show nI 4 = 4 from rfl, show nI 5 = 5 from rfl, show nI 6 = 6 from rfl, show nI 7 = 7 from rfl, hr, hr2, hm2, hm3, zi_s, zTc_1]
  rw [H_X0_run_6]
  simp (disch := first | assumption | rfl | omega | decide | exact zb_01 _) only [zabs_e, zmax_e, zmin_e, zrf_s, zpush_s, zpush_n, zw_app, upd_app, updL_app, Nat.reduceEqDiff, Nat.add_left_cancel_iff, Nat.add_eq_left, Nat.left_eq_add, ↓reduceIte, true_and, and_true, Int32.reduceToNatClampNeg, zin_O, zi_ltO, zi_leO, zi_Olt, zi_Ole, zi_eqO, Nat.not_lt_zero, Nat.zero_le, List.append_nil, zrn_n, zrn_s, List.cons_append, List.nil_append, zlg_lt, zlg_gt, zlg_le, zlg_ge, zlg_eq, Int32.toInt_toInt64, Int64.reduceToInt, zw_zw, zw_sw1, zw_sw2, zw_sw3, zw_sw4, zw_sw5, zw_sw6, zw_sw7, ne_eq, zi_in, zi_cl, zi_le, zi_lt, zi_eq, zi_neg, zi_0le, zb_0, if_true, if_false, eq_self, zb_T, zb_F, Bool.false_eq_true, zO_eq, zO_ne1, zO_ne2, zO_nn, zi_ne1, zi_ne2, zi_lt1, zi_le1, zi_lt2, zi_le2, Int32.reduceLT, Int32.reduceLE, Nat.reduceLT, Nat.reduceLeDiff, Int32.reduceMul, Int32.reduceAdd, Int32.reduceSub, not_false_eq_true, not_true_eq_false, Int32.reduceToInt, Int.reduceLE, Int.reduceLT, Int.reduceNeg, ite_self, R_X0_run, X_run_27, X_run_36, X_run_68, X_run_109, zAB, zOW, SHF, PF, h3, h4, h5, zTc_4, zTc_5, show nI 0 = 0 from rfl, show nI 1 = 1 from rfl, show nI 2 = 2 from rfl, show nI 3 = 3 from rfl, show nI 4 = 4 from rfl, show nI 5 = 5 from rfl, show nI 6 = 6 from rfl, show nI 7 = 7 from rfl, hr, hr2, hm2, hm3, zi_s, zTc_1]
  rw [H_X0_run_6]
  simp (disch := first | assumption | rfl | omega | decide | exact zb_01 _) only [zabs_e, zmax_e, zmin_e, zrf_s, zpush_s, zpush_n, zw_app, upd_app, updL_app, Nat.reduceEqDiff, Nat.add_left_cancel_iff, Nat.add_eq_left, Nat.left_eq_add, ↓reduceIte, true_and, and_true, Int32.reduceToNatClampNeg, zin_O, zi_ltO, zi_leO, zi_Olt, zi_Ole, zi_eqO, Nat.not_lt_zero, Nat.zero_le, List.append_nil, zrn_n, zrn_s, List.cons_append, List.nil_append, zlg_lt, zlg_gt, zlg_le, zlg_ge, zlg_eq, Int32.toInt_toInt64, Int64.reduceToInt, zw_zw, zw_sw1, zw_sw2, zw_sw3, zw_sw4, zw_sw5, zw_sw6, zw_sw7, ne_eq, zi_in, zi_cl, zi_le, zi_lt, zi_eq, zi_neg, zi_0le, zb_0, if_true, if_false, eq_self, zb_T, zb_F, Bool.false_eq_true, zO_eq, zO_ne1, zO_ne2, zO_nn, zi_ne1, zi_ne2, zi_lt1, zi_le1, zi_lt2, zi_le2, Int32.reduceLT, Int32.reduceLE, Nat.reduceLT, Nat.reduceLeDiff, Int32.reduceMul, Int32.reduceAdd, Int32.reduceSub, not_false_eq_true, not_true_eq_false, Int32.reduceToInt, Int.reduceLE, Int.reduceLT, Int.reduceNeg, ite_self, R_X0_run, X_run_27, X_run_36, X_run_68, X_run_109, zAB, zOW, SHF, PF, h3, h4, h5, zTc_4, zTc_5, show nI 0 = 0 from rfl, show nI 1 = 1 from rfl, show nI 2 = 2 from rfl, show nI 3 = 3 from rfl, show nI 4 = 4 from rfl, show nI 5 = 5 from rfl, show nI 6 = 6 from rfl, show nI 7 = 7 from rfl, hr, hr2, hm2, hm3, zi_s, zTc_1]
  rw [H_X0_run_6]
  simp only [show nI 0 = 0 from rfl, show nI 1 = 1 from rfl, show nI 2 = 2 from rfl, show nI 3 = 3 from rfl, show nI 4 = 4 from rfl, show nI 5 = 5 from rfl, show nI 6 = 6 from rfl, show nI 7 = 7 from rfl] at q0
  simp (disch := first | assumption | rfl | omega | decide | exact zb_01 _) only [zabs_e, zmax_e, zmin_e, zrf_s, zpush_s, zpush_n, zw_app, upd_app, updL_app, Nat.reduceEqDiff, Nat.add_left_cancel_iff, Nat.add_eq_left, Nat.left_eq_add, ↓reduceIte, true_and, and_true, Int32.reduceToNatClampNeg, zin_O, zi_ltO, zi_leO, zi_Olt, zi_Ole, zi_eqO, Nat.not_lt_zero, Nat.zero_le, List.append_nil, zrn_n, zrn_s, List.cons_append, List.nil_append, zlg_lt, zlg_gt, zlg_le, zlg_ge, zlg_eq, Int32.toInt_toInt64, Int64.reduceToInt, zw_zw, zw_sw1, zw_sw2, zw_sw3, zw_sw4, zw_sw5, zw_sw6, zw_sw7, ne_eq, zi_in, zi_cl, zi_le, zi_lt, zi_eq, zi_neg, zi_0le, zb_0, if_true, if_false, eq_self, zb_T, zb_F, Bool.false_eq_true, zO_eq, zO_ne1, zO_ne2, zO_nn, zi_ne1, zi_ne2, zi_lt1, zi_le1, zi_lt2, zi_le2, Int32.reduceLT, Int32.reduceLE, Nat.reduceLT, Nat.reduceLeDiff, Int32.reduceMul, Int32.reduceAdd, Int32.reduceSub, not_false_eq_true, not_true_eq_false, Int32.reduceToInt, Int.reduceLE, Int.reduceLT, Int.reduceNeg, ite_self, R_X0_run, X_run_27, X_run_36, X_run_68, X_run_109, zAB, zOW, SHF, PF, h3, h4, h5, zTc_4, zTc_5, show nI 0 = 0 from rfl, show nI 1 = 1 from rfl, show nI 2 = 2 from rfl, show nI 3 = 3 from rfl, show nI 4 = 4 from rfl, show nI 5 = 5 from rfl, show nI 6 = 6 from rfl, show nI 7 = 7 from rfl, hr, hr2, hm2, hm3, zi_s, zTc_1, E_X0_result, R_X0_result, q0]
  try rw [eM]
theorem ca_1_0 (ho : o < 8) (ih : ∀ a k, a < 4 → k < 8 → zCa f g t L o y F a k) : zCa f g t L o y (F + 1) 1 0 := by
  intro x J r m D Q hg h3 h4 h5 hl hm hD
  obtain ⟨D, rfl⟩ : ∃ D', D = D' + 2 := ⟨D - 2, by omega⟩
  have e : zsp o y (F + 1) 1 0 x = (10 :: (zsp o y F 0 o (x)).1, (zsp o y F 0 o (x)).2 * 2) := rfl
  rw [e] at hl ⊢
  clear e
  have hg : zgd o F 0 o = true := hg
  simp only [List.length_cons, List.length_append, List.length_nil] at hl
  have hr : r < 24 := by omega
  have hr2 : ¬ 24 ≤ r := by omega
  have hm2 : m ≤ 40 := by omega
  have hm3 : ¬ 40 < m := by omega
  have q0 := fun Q => ih 0 o (by decide) ho (x) (zTc J r [10]) (r + 1) (m + 1) D Q hg rfl h4 h5 (by omega) (by omega) (by omega)
  have eM : (zTc (zTc J r [10]) (r + 1) (zsp o y F 0 o (x)).1) = zTc J r (10 :: (zsp o y F 0 o (x)).1) := zTc_a (cs := [10])
  simp (disch := first | assumption | rfl | omega | decide | exact zb_01 _) only [zabs_e, zmax_e, zmin_e, zrf_s, zpush_s, zpush_n, zw_app, upd_app, updL_app, Nat.reduceEqDiff, Nat.add_left_cancel_iff, Nat.add_eq_left, Nat.left_eq_add, ↓reduceIte, true_and, and_true, Int32.reduceToNatClampNeg, zin_O, zi_ltO, zi_leO, zi_Olt, zi_Ole, zi_eqO, Nat.not_lt_zero, Nat.zero_le, List.append_nil, zrn_n, zrn_s, List.cons_append, List.nil_append, zlg_lt, zlg_gt, zlg_le, zlg_ge, zlg_eq, Int32.toInt_toInt64, Int64.reduceToInt, zw_zw, zw_sw1, zw_sw2, zw_sw3, zw_sw4, zw_sw5, zw_sw6, zw_sw7, ne_eq, zi_in, zi_cl, zi_le, zi_lt, zi_eq, zi_neg, zi_0le, zb_0, if_true, if_false, eq_self, zb_T, zb_F, Bool.false_eq_true, zO_eq, zO_ne1, zO_ne2, zO_nn, zi_ne1, zi_ne2, zi_lt1, zi_le1, zi_lt2, zi_le2, Int32.reduceLT, Int32.reduceLE, Nat.reduceLT, Nat.reduceLeDiff, Int32.reduceMul, Int32.reduceAdd, Int32.reduceSub, not_false_eq_true, not_true_eq_false, Int32.reduceToInt, Int.reduceLE, Int.reduceLT, Int.reduceNeg, ite_self, E_X0_run, R_X0_run, X_run_27, X_run_36, X_run_68, X_run_109, zAB, zOW, SHF, PF, h3, h4, h5, zTc_4, zTc_5, show nI 0 = 0 from rfl, show nI 1 = 1 from rfl, show nI 2 = 2 from rfl, show nI 3 = 3 from rfl, show nI 4 = 4 from rfl, show nI 5 = 5 from rfl, show nI 6 = 6 from rfl, show nI 7 = 7 from rfl, hr, hr2, hm2, hm3, zi_s, zTc_1]
  rw [H_X0_run_6]
  simp only [show nI 0 = 0 from rfl, show nI 1 = 1 from rfl, show nI 2 = 2 from rfl, show nI 3 = 3 from rfl, show nI 4 = 4 from rfl, show nI 5 = 5 from rfl, show nI 6 = 6 from rfl, show nI 7 = 7 from rfl] at q0
  simp (disch := first | assumption | rfl | omega | decide | exact zb_01 _) only [zabs_e, zmax_e, zmin_e, zrf_s, zpush_s, zpush_n, zw_app, upd_app, updL_app, Nat.reduceEqDiff, Nat.add_left_cancel_iff, Nat.add_eq_left, Nat.left_eq_add, ↓reduceIte, true_and, and_true, Int32.reduceToNatClampNeg, zin_O, zi_ltO, zi_leO, zi_Olt, zi_Ole, zi_eqO, Nat.not_lt_zero, Nat.zero_le, List.append_nil, zrn_n, zrn_s, List.cons_append, List.nil_append, zlg_lt, zlg_gt, zlg_le, zlg_ge, zlg_eq, Int32.toInt_toInt64, Int64.reduceToInt, zw_zw, zw_sw1, zw_sw2, zw_sw3, zw_sw4, zw_sw5, zw_sw6, zw_sw7, ne_eq, zi_in, zi_cl, zi_le, zi_lt, zi_eq, zi_neg, zi_0le, zb_0, if_true, if_false, eq_self, zb_T, zb_F, Bool.false_eq_true, zO_eq, zO_ne1, zO_ne2, zO_nn, zi_ne1, zi_ne2, zi_lt1, zi_le1, zi_lt2, zi_le2, Int32.reduceLT, Int32.reduceLE, Nat.reduceLT, Nat.reduceLeDiff, Int32.reduceMul, Int32.reduceAdd, Int32.reduceSub, not_false_eq_true, not_true_eq_false, Int32.reduceToInt, Int.reduceLE, Int.reduceLT, Int.reduceNeg, ite_self, R_X0_run, X_run_27, X_run_36, X_run_68, X_run_109, zAB, zOW, SHF, PF, h3, h4, h5, zTc_4, zTc_5, show nI 0 = 0 from rfl, show nI 1 = 1 from rfl, show nI 2 = 2 from rfl, show nI 3 = 3 from rfl, show nI 4 = 4 from rfl, show nI 5 = 5 from rfl, show nI 6 = 6 from rfl, show nI 7 = 7 from rfl, hr, hr2, hm2, hm3, zi_s, zTc_1, E_X0_result, R_X0_result, q0]
  try rw [eM]
theorem ca_1_1 (ho : o < 8) (ih : ∀ a k, a < 4 → k < 8 → zCa f g t L o y F a k) : zCa f g t L o y (F + 1) 1 1 := by
  intro x J r m D Q hg h3 h4 h5 hl hm hD
  obtain ⟨D, rfl⟩ : ∃ D', D = D' + 2 := ⟨D - 2, by omega⟩
  have e : zsp o y (F + 1) 1 1 x = (10 :: (zsp o y F 0 o (x)).1, (zsp o y F 0 o (x)).2 * 2) := rfl
  rw [e] at hl ⊢
  clear e
  have hg : zgd o F 0 o = true := hg
  simp only [List.length_cons, List.length_append, List.length_nil] at hl
  have hr : r < 24 := by omega
  have hr2 : ¬ 24 ≤ r := by omega
  have hm2 : m ≤ 40 := by omega
  have hm3 : ¬ 40 < m := by omega
  have q0 := fun Q => ih 0 o (by decide) ho (x) (zTc J r [10]) (r + 1) (m + 1) D Q hg rfl h4 h5 (by omega) (by omega) (by omega)
  have eM : (zTc (zTc J r [10]) (r + 1) (zsp o y F 0 o (x)).1) = zTc J r (10 :: (zsp o y F 0 o (x)).1) := zTc_a (cs := [10])
  simp (disch := first | assumption | rfl | omega | decide | exact zb_01 _) only [zabs_e, zmax_e, zmin_e, zrf_s, zpush_s, zpush_n, zw_app, upd_app, updL_app, Nat.reduceEqDiff, Nat.add_left_cancel_iff, Nat.add_eq_left, Nat.left_eq_add, ↓reduceIte, true_and, and_true, Int32.reduceToNatClampNeg, zin_O, zi_ltO, zi_leO, zi_Olt, zi_Ole, zi_eqO, Nat.not_lt_zero, Nat.zero_le, List.append_nil, zrn_n, zrn_s, List.cons_append, List.nil_append, zlg_lt, zlg_gt, zlg_le, zlg_ge, zlg_eq, Int32.toInt_toInt64, Int64.reduceToInt, zw_zw, zw_sw1, zw_sw2, zw_sw3, zw_sw4, zw_sw5, zw_sw6, zw_sw7, ne_eq, zi_in, zi_cl, zi_le, zi_lt, zi_eq, zi_neg, zi_0le, zb_0, if_true, if_false, eq_self, zb_T, zb_F, Bool.false_eq_true, zO_eq, zO_ne1, zO_ne2, zO_nn, zi_ne1, zi_ne2, zi_lt1, zi_le1, zi_lt2, zi_le2, Int32.reduceLT, Int32.reduceLE, Nat.reduceLT, Nat.reduceLeDiff, Int32.reduceMul, Int32.reduceAdd, Int32.reduceSub, not_false_eq_true, not_true_eq_false, Int32.reduceToInt, Int.reduceLE, Int.reduceLT, Int.reduceNeg, ite_self, E_X0_run, R_X0_run, X_run_27, X_run_36, X_run_68, X_run_109, zAB, zOW, SHF, PF, h3, h4, h5, zTc_4, zTc_5, show nI 0 = 0 from rfl, show nI 1 = 1 from rfl, show nI 2 = 2 from rfl, show nI 3 = 3 from rfl, show nI 4 = 4 from rfl, show nI 5 = 5 from rfl, show nI 6 = 6 from rfl, show nI 7 = 7 from rfl, hr, hr2, hm2, hm3, zi_s, zTc_1]
  rw [H_X0_run_6]
  simp (disch := first | assumption | rfl | omega | decide | exact zb_01 _) only [zabs_e, zmax_e, zmin_e, zrf_s, zpush_s, zpush_n, zw_app, upd_app, updL_app, Nat.reduceEqDiff, Nat.add_left_cancel_iff, Nat.add_eq_left, Nat.left_eq_add, ↓reduceIte, true_and, and_true, Int32.reduceToNatClampNeg, zin_O, zi_ltO, zi_leO, zi_Olt, zi_Ole, zi_eqO, Nat.not_lt_zero, Nat.zero_le, List.append_nil, zrn_n, zrn_s, List.cons_append, List.nil_append, zlg_lt, zlg_gt, zlg_le, zlg_ge, zlg_eq, Int32.toInt_toInt64, Int64.reduceToInt, zw_zw, zw_sw1, zw_sw2, zw_sw3, zw_sw4, zw_sw5, zw_sw6, zw_sw7, ne_eq, zi_in, zi_cl, zi_le, zi_lt, zi_eq, zi_neg, zi_0le, zb_0, if_true, if_false, eq_self, zb_T, zb_F, Bool.false_eq_true, zO_eq, zO_ne1, zO_ne2, zO_nn, zi_ne1, zi_ne2, zi_lt1, zi_le1, zi_lt2, zi_le2, Int32.reduceLT, Int32.reduceLE, Nat.reduceLT, Nat.reduceLeDiff, Int32.reduceMul, Int32.reduceAdd, Int32.reduceSub, not_false_eq_true, not_true_eq_false, Int32.reduceToInt, Int.reduceLE, Int.reduceLT, Int.reduceNeg, ite_self, R_X0_run, X_run_27, X_run_36, X_run_68, X_run_109, zAB, zOW, SHF, PF, h3, h4, h5, zTc_4, zTc_5, show nI 0 = 0 from rfl, show nI 1 = 1 from rfl, show nI 2 = 2 from rfl, show nI 3 = 3 from rfl, show nI 4 = 4 from rfl, show nI 5 = 5 from rfl, show nI 6 = 6 from rfl, show nI 7 = 7 from rfl, hr, hr2, hm2, hm3, zi_s, zTc_1]
  rw [H_X0_run_6]
  simp only [show nI 0 = 0 from rfl, show nI 1 = 1 from rfl, show nI 2 = 2 from rfl, show nI 3 = 3 from rfl, show nI 4 = 4 from rfl, show nI 5 = 5 from rfl, show nI 6 = 6 from rfl, show nI 7 = 7 from rfl] at q0
  simp (disch := first | assumption | rfl | omega | decide | exact zb_01 _) only [zabs_e, zmax_e, zmin_e, zrf_s, zpush_s, zpush_n, zw_app, upd_app, updL_app, Nat.reduceEqDiff, Nat.add_left_cancel_iff, Nat.add_eq_left, Nat.left_eq_add, ↓reduceIte, true_and, and_true, Int32.reduceToNatClampNeg, zin_O, zi_ltO, zi_leO, zi_Olt, zi_Ole, zi_eqO, Nat.not_lt_zero, Nat.zero_le, List.append_nil, zrn_n, zrn_s, List.cons_append, List.nil_append, zlg_lt, zlg_gt, zlg_le, zlg_ge, zlg_eq, Int32.toInt_toInt64, Int64.reduceToInt, zw_zw, zw_sw1, zw_sw2, zw_sw3, zw_sw4, zw_sw5, zw_sw6, zw_sw7, ne_eq, zi_in, zi_cl, zi_le, zi_lt, zi_eq, zi_neg, zi_0le, zb_0, if_true, if_false, eq_self, zb_T, zb_F, Bool.false_eq_true, zO_eq, zO_ne1, zO_ne2, zO_nn, zi_ne1, zi_ne2, zi_lt1, zi_le1, zi_lt2, zi_le2, Int32.reduceLT, Int32.reduceLE, Nat.reduceLT, Nat.reduceLeDiff, Int32.reduceMul, Int32.reduceAdd, Int32.reduceSub, not_false_eq_true, not_true_eq_false, Int32.reduceToInt, Int.reduceLE, Int.reduceLT, Int.reduceNeg, ite_self, R_X0_run, X_run_27, X_run_36, X_run_68, X_run_109, zAB, zOW, SHF, PF, h3, h4, h5, zTc_4, zTc_5, show nI 0 = 0 from rfl, show nI 1 = 1 from rfl, show nI 2 = 2 from rfl, show nI 3 = 3 from rfl, show nI 4 = 4 from rfl, show nI 5 = 5 from rfl, show nI 6 = 6 from rfl, show nI 7 = 7 from rfl, hr, hr2, hm2, hm3, zi_s, zTc_1, E_X0_result, R_X0_result, q0]
  try rw [eM]
theorem ca_1_2 (ho : o < 8) (ih : ∀ a k, a < 4 → k < 8 → zCa f g t L o y F a k) : zCa f g t L o y (F + 1) 1 2 := by
  intro x J r m D Q hg h3 h4 h5 hl hm hD
  obtain ⟨D, rfl⟩ : ∃ D', D = D' + 2 := ⟨D - 2, by omega⟩
  have e : zsp o y (F + 1) 1 2 x = (30 :: (zsp o y F 1 0 (x)).1, -(zsp o y F 1 0 (x)).2) := rfl
  rw [e] at hl ⊢
  clear e
  have hg : zgd o F 1 0 = true := hg
  simp only [List.length_cons, List.length_append, List.length_nil] at hl
  have hr : r < 24 := by omega
  have hr2 : ¬ 24 ≤ r := by omega
  have hm2 : m ≤ 40 := by omega
  have hm3 : ¬ 40 < m := by omega
  have q0 := fun Q => ih 1 0 (by decide) (by decide) (x) (zTc J r [30]) (r + 1) (m + 1) D Q hg rfl h4 h5 (by omega) (by omega) (by omega)
  have eM : (zTc (zTc J r [30]) (r + 1) (zsp o y F 1 0 (x)).1) = zTc J r (30 :: (zsp o y F 1 0 (x)).1) := zTc_a (cs := [30])
  simp (disch := first | assumption | rfl | omega | decide | exact zb_01 _) only [zabs_e, zmax_e, zmin_e, zrf_s, zpush_s, zpush_n, zw_app, upd_app, updL_app, Nat.reduceEqDiff, Nat.add_left_cancel_iff, Nat.add_eq_left, Nat.left_eq_add, ↓reduceIte, true_and, and_true, Int32.reduceToNatClampNeg, zin_O, zi_ltO, zi_leO, zi_Olt, zi_Ole, zi_eqO, Nat.not_lt_zero, Nat.zero_le, List.append_nil, zrn_n, zrn_s, List.cons_append, List.nil_append, zlg_lt, zlg_gt, zlg_le, zlg_ge, zlg_eq, Int32.toInt_toInt64, Int64.reduceToInt, zw_zw, zw_sw1, zw_sw2, zw_sw3, zw_sw4, zw_sw5, zw_sw6, zw_sw7, ne_eq, zi_in, zi_cl, zi_le, zi_lt, zi_eq, zi_neg, zi_0le, zb_0, if_true, if_false, eq_self, zb_T, zb_F, Bool.false_eq_true, zO_eq, zO_ne1, zO_ne2, zO_nn, zi_ne1, zi_ne2, zi_lt1, zi_le1, zi_lt2, zi_le2, Int32.reduceLT, Int32.reduceLE, Nat.reduceLT, Nat.reduceLeDiff, Int32.reduceMul, Int32.reduceAdd, Int32.reduceSub, not_false_eq_true, not_true_eq_false, Int32.reduceToInt, Int.reduceLE, Int.reduceLT, Int.reduceNeg, ite_self, E_X0_run, R_X0_run, X_run_27, X_run_36, X_run_68, X_run_109, zAB, zOW, SHF, PF, h3, h4, h5, zTc_4, zTc_5, show nI 0 = 0 from rfl, show nI 1 = 1 from rfl, show nI 2 = 2 from rfl, show nI 3 = 3 from rfl, show nI 4 = 4 from rfl, show nI 5 = 5 from rfl, show nI 6 = 6 from rfl, show nI 7 = 7 from rfl, hr, hr2, hm2, hm3, zi_s, zTc_1]
  rw [H_X0_run_6]
  simp only [show nI 0 = 0 from rfl, show nI 1 = 1 from rfl, show nI 2 = 2 from rfl, show nI 3 = 3 from rfl, show nI 4 = 4 from rfl, show nI 5 = 5 from rfl, show nI 6 = 6 from rfl, show nI 7 = 7 from rfl] at q0
  simp (disch := first | assumption | rfl | omega | decide | exact zb_01 _) only [zabs_e, zmax_e, zmin_e, zrf_s, zpush_s, zpush_n, zw_app, upd_app, updL_app, Nat.reduceEqDiff, Nat.add_left_cancel_iff, Nat.add_eq_left, Nat.left_eq_add, ↓reduceIte, true_and, and_true, Int32.reduceToNatClampNeg, zin_O, zi_ltO, zi_leO, zi_Olt, zi_Ole, zi_eqO, Nat.not_lt_zero, Nat.zero_le, List.append_nil, zrn_n, zrn_s, List.cons_append, List.nil_append, zlg_lt, zlg_gt, zlg_le, zlg_ge, zlg_eq, Int32.toInt_toInt64, Int64.reduceToInt, zw_zw, zw_sw1, zw_sw2, zw_sw3, zw_sw4, zw_sw5, zw_sw6, zw_sw7, ne_eq, zi_in, zi_cl, zi_le, zi_lt, zi_eq, zi_neg, zi_0le, zb_0, if_true, if_false, eq_self, zb_T, zb_F, Bool.false_eq_true, zO_eq, zO_ne1, zO_ne2, zO_nn, zi_ne1, zi_ne2, zi_lt1, zi_le1, zi_lt2, zi_le2, Int32.reduceLT, Int32.reduceLE, Nat.reduceLT, Nat.reduceLeDiff, Int32.reduceMul, Int32.reduceAdd, Int32.reduceSub, not_false_eq_true, not_true_eq_false, Int32.reduceToInt, Int.reduceLE, Int.reduceLT, Int.reduceNeg, ite_self, R_X0_run, X_run_27, X_run_36, X_run_68, X_run_109, zAB, zOW, SHF, PF, h3, h4, h5, zTc_4, zTc_5, show nI 0 = 0 from rfl, show nI 1 = 1 from rfl, show nI 2 = 2 from rfl, show nI 3 = 3 from rfl, show nI 4 = 4 from rfl, show nI 5 = 5 from rfl, show nI 6 = 6 from rfl, show nI 7 = 7 from rfl, hr, hr2, hm2, hm3, zi_s, zTc_1, E_X0_result, R_X0_result, q0]
  try rw [eM]
theorem ca_1_3 (ho : o < 8) (ih : ∀ a k, a < 4 → k < 8 → zCa f g t L o y F a k) : zCa f g t L o y (F + 1) 1 3 := by
  intro x J r m D Q hg h3 h4 h5 hl hm hD
  obtain ⟨D, rfl⟩ : ∃ D', D = D' + 2 := ⟨D - 2, by omega⟩
  have e : zsp o y (F + 1) 1 3 x = (41 :: (zsp o y F 1 2 (x + 1)).1, (zsp o y F 1 2 (x + 1)).2) := rfl
  rw [e] at hl ⊢
  clear e
  have hg : zgd o F 1 2 = true := hg
  simp only [List.length_cons, List.length_append, List.length_nil] at hl
  have hr : r < 24 := by omega
  have hr2 : ¬ 24 ≤ r := by omega
  have hm2 : m ≤ 40 := by omega
  have hm3 : ¬ 40 < m := by omega
  have q0 := fun Q => ih 1 2 (by decide) (by decide) (x + 1) (zTc J r [41]) (r + 1) (m + 1) D Q hg rfl h4 h5 (by omega) (by omega) (by omega)
  have eM : (zTc (zTc J r [41]) (r + 1) (zsp o y F 1 2 (x + 1)).1) = zTc J r (41 :: (zsp o y F 1 2 (x + 1)).1) := zTc_a (cs := [41])
  simp (disch := first | assumption | rfl | omega | decide | exact zb_01 _) only [zabs_e, zmax_e, zmin_e, zrf_s, zpush_s, zpush_n, zw_app, upd_app, updL_app, Nat.reduceEqDiff, Nat.add_left_cancel_iff, Nat.add_eq_left, Nat.left_eq_add, ↓reduceIte, true_and, and_true, Int32.reduceToNatClampNeg, zin_O, zi_ltO, zi_leO, zi_Olt, zi_Ole, zi_eqO, Nat.not_lt_zero, Nat.zero_le, List.append_nil, zrn_n, zrn_s, List.cons_append, List.nil_append, zlg_lt, zlg_gt, zlg_le, zlg_ge, zlg_eq, Int32.toInt_toInt64, Int64.reduceToInt, zw_zw, zw_sw1, zw_sw2, zw_sw3, zw_sw4, zw_sw5, zw_sw6, zw_sw7, ne_eq, zi_in, zi_cl, zi_le, zi_lt, zi_eq, zi_neg, zi_0le, zb_0, if_true, if_false, eq_self, zb_T, zb_F, Bool.false_eq_true, zO_eq, zO_ne1, zO_ne2, zO_nn, zi_ne1, zi_ne2, zi_lt1, zi_le1, zi_lt2, zi_le2, Int32.reduceLT, Int32.reduceLE, Nat.reduceLT, Nat.reduceLeDiff, Int32.reduceMul, Int32.reduceAdd, Int32.reduceSub, not_false_eq_true, not_true_eq_false, Int32.reduceToInt, Int.reduceLE, Int.reduceLT, Int.reduceNeg, ite_self, E_X0_run, R_X0_run, X_run_27, X_run_36, X_run_68, X_run_109, zAB, zOW, SHF, PF, h3, h4, h5, zTc_4, zTc_5, show nI 0 = 0 from rfl, show nI 1 = 1 from rfl, show nI 2 = 2 from rfl, show nI 3 = 3 from rfl, show nI 4 = 4 from rfl, show nI 5 = 5 from rfl, show nI 6 = 6 from rfl, show nI 7 = 7 from rfl, hr, hr2, hm2, hm3, zi_s, zTc_1]
  rw [H_X0_run_6]
  simp only [show nI 0 = 0 from rfl, show nI 1 = 1 from rfl, show nI 2 = 2 from rfl, show nI 3 = 3 from rfl, show nI 4 = 4 from rfl, show nI 5 = 5 from rfl, show nI 6 = 6 from rfl, show nI 7 = 7 from rfl] at q0
  simp (disch := first | assumption | rfl | omega | decide | exact zb_01 _) only [zabs_e, zmax_e, zmin_e, zrf_s, zpush_s, zpush_n, zw_app, upd_app, updL_app, Nat.reduceEqDiff, Nat.add_left_cancel_iff, Nat.add_eq_left, Nat.left_eq_add, ↓reduceIte, true_and, and_true, Int32.reduceToNatClampNeg, zin_O, zi_ltO, zi_leO, zi_Olt, zi_Ole, zi_eqO, Nat.not_lt_zero, Nat.zero_le, List.append_nil, zrn_n, zrn_s, List.cons_append, List.nil_append, zlg_lt, zlg_gt, zlg_le, zlg_ge, zlg_eq, Int32.toInt_toInt64, Int64.reduceToInt, zw_zw, zw_sw1, zw_sw2, zw_sw3, zw_sw4, zw_sw5, zw_sw6, zw_sw7, ne_eq, zi_in, zi_cl, zi_le, zi_lt, zi_eq, zi_neg, zi_0le, zb_0, if_true, if_false, eq_self, zb_T, zb_F, Bool.false_eq_true, zO_eq, zO_ne1, zO_ne2, zO_nn, zi_ne1, zi_ne2, zi_lt1, zi_le1, zi_lt2, zi_le2, Int32.reduceLT, Int32.reduceLE, Nat.reduceLT, Nat.reduceLeDiff, Int32.reduceMul, Int32.reduceAdd, Int32.reduceSub, not_false_eq_true, not_true_eq_false, Int32.reduceToInt, Int.reduceLE, Int.reduceLT, Int.reduceNeg, ite_self, R_X0_run, X_run_27, X_run_36, X_run_68, X_run_109, zAB, zOW, SHF, PF, h3, h4, h5, zTc_4, zTc_5, show nI 0 = 0 from rfl, show nI 1 = 1 from rfl, show nI 2 = 2 from rfl, show nI 3 = 3 from rfl, show nI 4 = 4 from rfl, show nI 5 = 5 from rfl, show nI 6 = 6 from rfl, show nI 7 = 7 from rfl, hr, hr2, hm2, hm3, zi_s, zTc_1, E_X0_result, R_X0_result, q0]
  try rw [eM]
theorem ca_1_4 (ho : o < 8) (ih : ∀ a k, a < 4 → k < 8 → zCa f g t L o y F a k) : zCa f g t L o y (F + 1) 1 4 := by
  intro x J r m D Q hg h3 h4 h5 hl hm hD
  obtain ⟨D, rfl⟩ : ∃ D', D = D' + 2 := ⟨D - 2, by omega⟩
  have e : zsp o y (F + 1) 1 4 x = (10 :: (zsp o y F 0 o (x)).1, (zsp o y F 0 o (x)).2 * 2) := rfl
  rw [e] at hl ⊢
  clear e
  have hg : zgd o F 0 o = true := hg
  simp only [List.length_cons, List.length_append, List.length_nil] at hl
  have hr : r < 24 := by omega
  have hr2 : ¬ 24 ≤ r := by omega
  have hm2 : m ≤ 40 := by omega
  have hm3 : ¬ 40 < m := by omega
  have q0 := fun Q => ih 0 o (by decide) ho (x) (zTc J r [10]) (r + 1) (m + 1) D Q hg rfl h4 h5 (by omega) (by omega) (by omega)
  have eM : (zTc (zTc J r [10]) (r + 1) (zsp o y F 0 o (x)).1) = zTc J r (10 :: (zsp o y F 0 o (x)).1) := zTc_a (cs := [10])
  simp (disch := first | assumption | rfl | omega | decide | exact zb_01 _) only [zabs_e, zmax_e, zmin_e, zrf_s, zpush_s, zpush_n, zw_app, upd_app, updL_app, Nat.reduceEqDiff, Nat.add_left_cancel_iff, Nat.add_eq_left, Nat.left_eq_add, ↓reduceIte, true_and, and_true, Int32.reduceToNatClampNeg, zin_O, zi_ltO, zi_leO, zi_Olt, zi_Ole, zi_eqO, Nat.not_lt_zero, Nat.zero_le, List.append_nil, zrn_n, zrn_s, List.cons_append, List.nil_append, zlg_lt, zlg_gt, zlg_le, zlg_ge, zlg_eq, Int32.toInt_toInt64, Int64.reduceToInt, zw_zw, zw_sw1, zw_sw2, zw_sw3, zw_sw4, zw_sw5, zw_sw6, zw_sw7, ne_eq, zi_in, zi_cl, zi_le, zi_lt, zi_eq, zi_neg, zi_0le, zb_0, if_true, if_false, eq_self, zb_T, zb_F, Bool.false_eq_true, zO_eq, zO_ne1, zO_ne2, zO_nn, zi_ne1, zi_ne2, zi_lt1, zi_le1, zi_lt2, zi_le2, Int32.reduceLT, Int32.reduceLE, Nat.reduceLT, Nat.reduceLeDiff, Int32.reduceMul, Int32.reduceAdd, Int32.reduceSub, not_false_eq_true, not_true_eq_false, Int32.reduceToInt, Int.reduceLE, Int.reduceLT, Int.reduceNeg, ite_self, E_X0_run, R_X0_run, X_run_27, X_run_36, X_run_68, X_run_109, zAB, zOW, SHF, PF, h3, h4, h5, zTc_4, zTc_5, show nI 0 = 0 from rfl, show nI 1 = 1 from rfl, show nI 2 = 2 from rfl, show nI 3 = 3 from rfl, show nI 4 = 4 from rfl, show nI 5 = 5 from rfl, show nI 6 = 6 from rfl, show nI 7 = 7 from rfl, hr, hr2, hm2, hm3, zi_s, zTc_1]
  rw [H_X0_run_6]
  simp (disch := first | assumption | rfl | omega | decide | exact zb_01 _) only [zabs_e, zmax_e, zmin_e, zrf_s, zpush_s, zpush_n, zw_app, upd_app, updL_app, Nat.reduceEqDiff, Nat.add_left_cancel_iff, Nat.add_eq_left, Nat.left_eq_add, ↓reduceIte, true_and, and_true, Int32.reduceToNatClampNeg, zin_O, zi_ltO, zi_leO, zi_Olt, zi_Ole, zi_eqO, Nat.not_lt_zero, Nat.zero_le, List.append_nil, zrn_n, zrn_s, List.cons_append, List.nil_append, zlg_lt, zlg_gt, zlg_le, zlg_ge, zlg_eq, Int32.toInt_toInt64, Int64.reduceToInt, zw_zw, zw_sw1, zw_sw2, zw_sw3, zw_sw4, zw_sw5, zw_sw6, zw_sw7, ne_eq, zi_in, zi_cl, zi_le, zi_lt, zi_eq, zi_neg, zi_0le, zb_0, if_true, if_false, eq_self, zb_T, zb_F, Bool.false_eq_true, zO_eq, zO_ne1, zO_ne2, zO_nn, zi_ne1, zi_ne2, zi_lt1, zi_le1, zi_lt2, zi_le2, Int32.reduceLT, Int32.reduceLE, Nat.reduceLT, Nat.reduceLeDiff, Int32.reduceMul, Int32.reduceAdd, Int32.reduceSub, not_false_eq_true, not_true_eq_false, Int32.reduceToInt, Int.reduceLE, Int.reduceLT, Int.reduceNeg, ite_self, R_X0_run, X_run_27, X_run_36, X_run_68, X_run_109, zAB, zOW, SHF, PF, h3, h4, h5, zTc_4, zTc_5, show nI 0 = 0 from rfl, show nI 1 = 1 from rfl, show nI 2 = 2 from rfl, show nI 3 = 3 from rfl, show nI 4 = 4 from rfl, show nI 5 = 5 from rfl, show nI 6 = 6 from rfl, show nI 7 = 7 from rfl, hr, hr2, hm2, hm3, zi_s, zTc_1]
  rw [H_X0_run_6]
  simp (disch := first | assumption | rfl | omega | decide | exact zb_01 _) only [zabs_e, zmax_e, zmin_e, zrf_s, zpush_s, zpush_n, zw_app, upd_app, updL_app, Nat.reduceEqDiff, Nat.add_left_cancel_iff, Nat.add_eq_left, Nat.left_eq_add, ↓reduceIte, true_and, and_true, Int32.reduceToNatClampNeg, zin_O, zi_ltO, zi_leO, zi_Olt, zi_Ole, zi_eqO, Nat.not_lt_zero, Nat.zero_le, List.append_nil, zrn_n, zrn_s, List.cons_append, List.nil_append, zlg_lt, zlg_gt, zlg_le, zlg_ge, zlg_eq, Int32.toInt_toInt64, Int64.reduceToInt, zw_zw, zw_sw1, zw_sw2, zw_sw3, zw_sw4, zw_sw5, zw_sw6, zw_sw7, ne_eq, zi_in, zi_cl, zi_le, zi_lt, zi_eq, zi_neg, zi_0le, zb_0, if_true, if_false, eq_self, zb_T, zb_F, Bool.false_eq_true, zO_eq, zO_ne1, zO_ne2, zO_nn, zi_ne1, zi_ne2, zi_lt1, zi_le1, zi_lt2, zi_le2, Int32.reduceLT, Int32.reduceLE, Nat.reduceLT, Nat.reduceLeDiff, Int32.reduceMul, Int32.reduceAdd, Int32.reduceSub, not_false_eq_true, not_true_eq_false, Int32.reduceToInt, Int.reduceLE, Int.reduceLT, Int.reduceNeg, ite_self, R_X0_run, X_run_27, X_run_36, X_run_68, X_run_109, zAB, zOW, SHF, PF, h3, h4, h5, zTc_4, zTc_5, show nI 0 = 0 from rfl, show nI 1 = 1 from rfl, show nI 2 = 2 from rfl, show nI 3 = 3 from rfl, show nI 4 = 4 from rfl, show nI 5 = 5 from rfl, show nI 6 = 6 from rfl, show nI 7 = 7 from rfl, hr, hr2, hm2, hm3, zi_s, zTc_1]
  rw [H_X0_run_6]
  simp only [show nI 0 = 0 from rfl, show nI 1 = 1 from rfl, show nI 2 = 2 from rfl, show nI 3 = 3 from rfl, show nI 4 = 4 from rfl, show nI 5 = 5 from rfl, show nI 6 = 6 from rfl, show nI 7 = 7 from rfl] at q0
  simp (disch := first | assumption | rfl | omega | decide | exact zb_01 _) only [zabs_e, zmax_e, zmin_e, zrf_s, zpush_s, zpush_n, zw_app, upd_app, updL_app, Nat.reduceEqDiff, Nat.add_left_cancel_iff, Nat.add_eq_left, Nat.left_eq_add, ↓reduceIte, true_and, and_true, Int32.reduceToNatClampNeg, zin_O, zi_ltO, zi_leO, zi_Olt, zi_Ole, zi_eqO, Nat.not_lt_zero, Nat.zero_le, List.append_nil, zrn_n, zrn_s, List.cons_append, List.nil_append, zlg_lt, zlg_gt, zlg_le, zlg_ge, zlg_eq, Int32.toInt_toInt64, Int64.reduceToInt, zw_zw, zw_sw1, zw_sw2, zw_sw3, zw_sw4, zw_sw5, zw_sw6, zw_sw7, ne_eq, zi_in, zi_cl, zi_le, zi_lt, zi_eq, zi_neg, zi_0le, zb_0, if_true, if_false, eq_self, zb_T, zb_F, Bool.false_eq_true, zO_eq, zO_ne1, zO_ne2, zO_nn, zi_ne1, zi_ne2, zi_lt1, zi_le1, zi_lt2, zi_le2, Int32.reduceLT, Int32.reduceLE, Nat.reduceLT, Nat.reduceLeDiff, Int32.reduceMul, Int32.reduceAdd, Int32.reduceSub, not_false_eq_true, not_true_eq_false, Int32.reduceToInt, Int.reduceLE, Int.reduceLT, Int.reduceNeg, ite_self, R_X0_run, X_run_27, X_run_36, X_run_68, X_run_109, zAB, zOW, SHF, PF, h3, h4, h5, zTc_4, zTc_5, show nI 0 = 0 from rfl, show nI 1 = 1 from rfl, show nI 2 = 2 from rfl, show nI 3 = 3 from rfl, show nI 4 = 4 from rfl, show nI 5 = 5 from rfl, show nI 6 = 6 from rfl, show nI 7 = 7 from rfl, hr, hr2, hm2, hm3, zi_s, zTc_1, E_X0_result, R_X0_result, q0]
  try rw [eM]
theorem ca_1_5 (ho : o < 8) (ih : ∀ a k, a < 4 → k < 8 → zCa f g t L o y F a k) : zCa f g t L o y (F + 1) 1 5 := by
  intro x J r m D Q hg h3 h4 h5 hl hm hD
  obtain ⟨D, rfl⟩ : ∃ D', D = D' + 2 := ⟨D - 2, by omega⟩
  have e : zsp o y (F + 1) 1 5 x = (41 :: (zsp o y F 1 2 (x + 1)).1, (zsp o y F 1 2 (x + 1)).2) := rfl
  rw [e] at hl ⊢
  clear e
  have hg : zgd o F 1 2 = true := hg
  simp only [List.length_cons, List.length_append, List.length_nil] at hl
  have hr : r < 24 := by omega
  have hr2 : ¬ 24 ≤ r := by omega
  have hm2 : m ≤ 40 := by omega
  have hm3 : ¬ 40 < m := by omega
  have q0 := fun Q => ih 1 2 (by decide) (by decide) (x + 1) (zTc J r [41]) (r + 1) (m + 1) D Q hg rfl h4 h5 (by omega) (by omega) (by omega)
  have eM : (zTc (zTc J r [41]) (r + 1) (zsp o y F 1 2 (x + 1)).1) = zTc J r (41 :: (zsp o y F 1 2 (x + 1)).1) := zTc_a (cs := [41])
  simp (disch := first | assumption | rfl | omega | decide | exact zb_01 _) only [zabs_e, zmax_e, zmin_e, zrf_s, zpush_s, zpush_n, zw_app, upd_app, updL_app, Nat.reduceEqDiff, Nat.add_left_cancel_iff, Nat.add_eq_left, Nat.left_eq_add, ↓reduceIte, true_and, and_true, Int32.reduceToNatClampNeg, zin_O, zi_ltO, zi_leO, zi_Olt, zi_Ole, zi_eqO, Nat.not_lt_zero, Nat.zero_le, List.append_nil, zrn_n, zrn_s, List.cons_append, List.nil_append, zlg_lt, zlg_gt, zlg_le, zlg_ge, zlg_eq, Int32.toInt_toInt64, Int64.reduceToInt, zw_zw, zw_sw1, zw_sw2, zw_sw3, zw_sw4, zw_sw5, zw_sw6, zw_sw7, ne_eq, zi_in, zi_cl, zi_le, zi_lt, zi_eq, zi_neg, zi_0le, zb_0, if_true, if_false, eq_self, zb_T, zb_F, Bool.false_eq_true, zO_eq, zO_ne1, zO_ne2, zO_nn, zi_ne1, zi_ne2, zi_lt1, zi_le1, zi_lt2, zi_le2, Int32.reduceLT, Int32.reduceLE, Nat.reduceLT, Nat.reduceLeDiff, Int32.reduceMul, Int32.reduceAdd, Int32.reduceSub, not_false_eq_true, not_true_eq_false, Int32.reduceToInt, Int.reduceLE, Int.reduceLT, Int.reduceNeg, ite_self, E_X0_run, R_X0_run, X_run_27, X_run_36, X_run_68, X_run_109, zAB, zOW, SHF, PF, h3, h4, h5, zTc_4, zTc_5, show nI 0 = 0 from rfl, show nI 1 = 1 from rfl, show nI 2 = 2 from rfl, show nI 3 = 3 from rfl, show nI 4 = 4 from rfl, show nI 5 = 5 from rfl, show nI 6 = 6 from rfl, show nI 7 = 7 from rfl, hr, hr2, hm2, hm3, zi_s, zTc_1]
  rw [H_X0_run_6]
  simp (disch := first | assumption | rfl | omega | decide | exact zb_01 _) only [zabs_e, zmax_e, zmin_e, zrf_s, zpush_s, zpush_n, zw_app, upd_app, updL_app, Nat.reduceEqDiff, Nat.add_left_cancel_iff, Nat.add_eq_left, Nat.left_eq_add, ↓reduceIte, true_and, and_true, Int32.reduceToNatClampNeg, zin_O, zi_ltO, zi_leO, zi_Olt, zi_Ole, zi_eqO, Nat.not_lt_zero, Nat.zero_le, List.append_nil, zrn_n, zrn_s, List.cons_append, List.nil_append, zlg_lt, zlg_gt, zlg_le, zlg_ge, zlg_eq, Int32.toInt_toInt64, Int64.reduceToInt, zw_zw, zw_sw1, zw_sw2, zw_sw3, zw_sw4, zw_sw5, zw_sw6, zw_sw7, ne_eq, zi_in, zi_cl, zi_le, zi_lt, zi_eq, zi_neg, zi_0le, zb_0, if_true, if_false, eq_self, zb_T, zb_F, Bool.false_eq_true, zO_eq, zO_ne1, zO_ne2, zO_nn, zi_ne1, zi_ne2, zi_lt1, zi_le1, zi_lt2, zi_le2, Int32.reduceLT, Int32.reduceLE, Nat.reduceLT, Nat.reduceLeDiff, Int32.reduceMul, Int32.reduceAdd, Int32.reduceSub, not_false_eq_true, not_true_eq_false, Int32.reduceToInt, Int.reduceLE, Int.reduceLT, Int.reduceNeg, ite_self, R_X0_run, X_run_27, X_run_36, X_run_68, X_run_109, zAB, zOW, SHF, PF, h3, h4, h5, zTc_4, zTc_5, show nI 0 = 0 from rfl, show nI 1 = 1 from rfl, show nI 2 = 2 from rfl, show nI 3 = 3 from rfl, show nI 4 = 4 from rfl, show nI 5 = 5 from rfl, show nI 6 = 6 from rfl, show nI 7 = 7 from rfl, hr, hr2, hm2, hm3, zi_s, zTc_1]
  rw [H_X0_run_6]
  simp only [show nI 0 = 0 from rfl, show nI 1 = 1 from rfl, show nI 2 = 2 from rfl, show nI 3 = 3 from rfl, show nI 4 = 4 from rfl, show nI 5 = 5 from rfl, show nI 6 = 6 from rfl, show nI 7 = 7 from rfl] at q0
  simp (disch := first | assumption | rfl | omega | decide | exact zb_01 _) only [zabs_e, zmax_e, zmin_e, zrf_s, zpush_s, zpush_n, zw_app, upd_app, updL_app, Nat.reduceEqDiff, Nat.add_left_cancel_iff, Nat.add_eq_left, Nat.left_eq_add, ↓reduceIte, true_and, and_true, Int32.reduceToNatClampNeg, zin_O, zi_ltO, zi_leO, zi_Olt, zi_Ole, zi_eqO, Nat.not_lt_zero, Nat.zero_le, List.append_nil, zrn_n, zrn_s, List.cons_append, List.nil_append, zlg_lt, zlg_gt, zlg_le, zlg_ge, zlg_eq, Int32.toInt_toInt64, Int64.reduceToInt, zw_zw, zw_sw1, zw_sw2, zw_sw3, zw_sw4, zw_sw5, zw_sw6, zw_sw7, ne_eq, zi_in, zi_cl, zi_le, zi_lt, zi_eq, zi_neg, zi_0le, zb_0, if_true, if_false, eq_self, zb_T, zb_F, Bool.false_eq_true, zO_eq, zO_ne1, zO_ne2, zO_nn, zi_ne1, zi_ne2, zi_lt1, zi_le1, zi_lt2, zi_le2, Int32.reduceLT, Int32.reduceLE, Nat.reduceLT, Nat.reduceLeDiff, Int32.reduceMul, Int32.reduceAdd, Int32.reduceSub, not_false_eq_true, not_true_eq_false, Int32.reduceToInt, Int.reduceLE, Int.reduceLT, Int.reduceNeg, ite_self, R_X0_run, X_run_27, X_run_36, X_run_68, X_run_109, zAB, zOW, SHF, PF, h3, h4, h5, zTc_4, zTc_5, show nI 0 = 0 from rfl, show nI 1 = 1 from rfl, show nI 2 = 2 from rfl, show nI 3 = 3 from rfl, show nI 4 = 4 from rfl, show nI 5 = 5 from rfl, show nI 6 = 6 from rfl, show nI 7 = 7 from rfl, hr, hr2, hm2, hm3, zi_s, zTc_1, E_X0_result, R_X0_result, q0]
  try rw [eM]
theorem ca_1_6 (ho : o < 8) (ih : ∀ a k, a < 4 → k < 8 → zCa f g t L o y F a k) : zCa f g t L o y (F + 1) 1 6 := by
  intro x J r m D Q hg h3 h4 h5 hl hm hD
  obtain ⟨D, rfl⟩ : ∃ D', D = D' + 2 := ⟨D - 2, by omega⟩
  have e : zsp o y (F + 1) 1 6 x = (10 :: (zsp o y F 0 o (x)).1, (zsp o y F 0 o (x)).2 * 2) := rfl
  rw [e] at hl ⊢
  clear e
  have hg : zgd o F 0 o = true := hg
  simp only [List.length_cons, List.length_append, List.length_nil] at hl
  have hr : r < 24 := by omega
  have hr2 : ¬ 24 ≤ r := by omega
  have hm2 : m ≤ 40 := by omega
  have hm3 : ¬ 40 < m := by omega
  have q0 := fun Q => ih 0 o (by decide) ho (x) (zTc J r [10]) (r + 1) (m + 1) D Q hg rfl h4 h5 (by omega) (by omega) (by omega)
  have eM : (zTc (zTc J r [10]) (r + 1) (zsp o y F 0 o (x)).1) = zTc J r (10 :: (zsp o y F 0 o (x)).1) := zTc_a (cs := [10])
  simp (disch := first | assumption | rfl | omega | decide | exact zb_01 _) only [zabs_e, zmax_e, zmin_e, zrf_s, zpush_s, zpush_n, zw_app, upd_app, updL_app, Nat.reduceEqDiff, Nat.add_left_cancel_iff, Nat.add_eq_left, Nat.left_eq_add, ↓reduceIte, true_and, and_true, Int32.reduceToNatClampNeg, zin_O, zi_ltO, zi_leO, zi_Olt, zi_Ole, zi_eqO, Nat.not_lt_zero, Nat.zero_le, List.append_nil, zrn_n, zrn_s, List.cons_append, List.nil_append, zlg_lt, zlg_gt, zlg_le, zlg_ge, zlg_eq, Int32.toInt_toInt64, Int64.reduceToInt, zw_zw, zw_sw1, zw_sw2, zw_sw3, zw_sw4, zw_sw5, zw_sw6, zw_sw7, ne_eq, zi_in, zi_cl, zi_le, zi_lt, zi_eq, zi_neg, zi_0le, zb_0, if_true, if_false, eq_self, zb_T, zb_F, Bool.false_eq_true, zO_eq, zO_ne1, zO_ne2, zO_nn, zi_ne1, zi_ne2, zi_lt1, zi_le1, zi_lt2, zi_le2, Int32.reduceLT, Int32.reduceLE, Nat.reduceLT, Nat.reduceLeDiff, Int32.reduceMul, Int32.reduceAdd, Int32.reduceSub, not_false_eq_true, not_true_eq_false, Int32.reduceToInt, Int.reduceLE, Int.reduceLT, Int.reduceNeg, ite_self, E_X0_run, R_X0_run, X_run_27, X_run_36, X_run_68, X_run_109, zAB, zOW, SHF, PF, h3, h4, h5, zTc_4, zTc_5, show nI 0 = 0 from rfl, show nI 1 = 1 from rfl, show nI 2 = 2 from rfl, show nI 3 = 3 from rfl, show nI 4 = 4 from rfl, show nI 5 = 5 from rfl, show nI 6 = 6 from rfl, show nI 7 = 7 from rfl, hr, hr2, hm2, hm3, zi_s, zTc_1]
  rw [H_X0_run_6]
  simp (disch := first | assumption | rfl | omega | decide | exact zb_01 _) only [zabs_e, zmax_e, zmin_e, zrf_s, zpush_s, zpush_n, zw_app, upd_app, updL_app, Nat.reduceEqDiff, Nat.add_left_cancel_iff, Nat.add_eq_left, Nat.left_eq_add, ↓reduceIte, true_and, and_true, Int32.reduceToNatClampNeg, zin_O, zi_ltO, zi_leO, zi_Olt, zi_Ole, zi_eqO, Nat.not_lt_zero, Nat.zero_le, List.append_nil, zrn_n, zrn_s, List.cons_append, List.nil_append, zlg_lt, zlg_gt, zlg_le, zlg_ge, zlg_eq, Int32.toInt_toInt64, Int64.reduceToInt, zw_zw, zw_sw1, zw_sw2, zw_sw3, zw_sw4, zw_sw5, zw_sw6, zw_sw7, ne_eq, zi_in, zi_cl, zi_le, zi_lt, zi_eq, zi_neg, zi_0le, zb_0, if_true, if_false, eq_self, zb_T, zb_F, Bool.false_eq_true, zO_eq, zO_ne1, zO_ne2, zO_nn, zi_ne1, zi_ne2, zi_lt1, zi_le1, zi_lt2, zi_le2, Int32.reduceLT, Int32.reduceLE, Nat.reduceLT, Nat.reduceLeDiff, Int32.reduceMul, Int32.reduceAdd, Int32.reduceSub, not_false_eq_true, not_true_eq_false, Int32.reduceToInt, Int.reduceLE, Int.reduceLT, Int.reduceNeg, ite_self, R_X0_run, X_run_27, X_run_36, X_run_68, X_run_109, zAB, zOW, SHF, PF, h3, h4, h5, zTc_4, zTc_5, show nI 0 = 0 from rfl, show nI 1 = 1 from rfl, show nI 2 = 2 from rfl, show nI 3 = 3 from rfl, show nI 4 = 4 from rfl, show nI 5 = 5 from rfl, show nI 6 = 6 from rfl, show nI 7 = 7 from rfl, hr, hr2, hm2, hm3, zi_s, zTc_1]
  rw [H_X0_run_6]
  simp only [show nI 0 = 0 from rfl, show nI 1 = 1 from rfl, show nI 2 = 2 from rfl, show nI 3 = 3 from rfl, show nI 4 = 4 from rfl, show nI 5 = 5 from rfl, show nI 6 = 6 from rfl, show nI 7 = 7 from rfl] at q0
  simp (disch := first | assumption | rfl | omega | decide | exact zb_01 _) only [zabs_e, zmax_e, zmin_e, zrf_s, zpush_s, zpush_n, zw_app, upd_app, updL_app, Nat.reduceEqDiff, Nat.add_left_cancel_iff, Nat.add_eq_left, Nat.left_eq_add, ↓reduceIte, true_and, and_true, Int32.reduceToNatClampNeg, zin_O, zi_ltO, zi_leO, zi_Olt, zi_Ole, zi_eqO, Nat.not_lt_zero, Nat.zero_le, List.append_nil, zrn_n, zrn_s, List.cons_append, List.nil_append, zlg_lt, zlg_gt, zlg_le, zlg_ge, zlg_eq, Int32.toInt_toInt64, Int64.reduceToInt, zw_zw, zw_sw1, zw_sw2, zw_sw3, zw_sw4, zw_sw5, zw_sw6, zw_sw7, ne_eq, zi_in, zi_cl, zi_le, zi_lt, zi_eq, zi_neg, zi_0le, zb_0, if_true, if_false, eq_self, zb_T, zb_F, Bool.false_eq_true, zO_eq, zO_ne1, zO_ne2, zO_nn, zi_ne1, zi_ne2, zi_lt1, zi_le1, zi_lt2, zi_le2, Int32.reduceLT, Int32.reduceLE, Nat.reduceLT, Nat.reduceLeDiff, Int32.reduceMul, Int32.reduceAdd, Int32.reduceSub, not_false_eq_true, not_true_eq_false, Int32.reduceToInt, Int.reduceLE, Int.reduceLT, Int.reduceNeg, ite_self, R_X0_run, X_run_27, X_run_36, X_run_68, X_run_109, zAB, zOW, SHF, PF, h3, h4, h5, zTc_4, zTc_5, show nI 0 = 0 from rfl, show nI 1 = 1 from rfl, show nI 2 = 2 from rfl, show nI 3 = 3 from rfl, show nI 4 = 4 from rfl, show nI 5 = 5 from rfl, show nI 6 = 6 from rfl, show nI 7 = 7 from rfl, hr, hr2, hm2, hm3, zi_s, zTc_1, E_X0_result, R_X0_result, q0]
  try rw [eM]
theorem ca_1_7 (ho : o < 8) (ih : ∀ a k, a < 4 → k < 8 → zCa f g t L o y F a k) : zCa f g t L o y (F + 1) 1 7 := by
  intro x J r m D Q hg h3 h4 h5 hl hm hD
  obtain ⟨D, rfl⟩ : ∃ D', D = D' + 2 := ⟨D - 2, by omega⟩
  have e : zsp o y (F + 1) 1 7 x = (80 :: ((zsp o y F 1 4 (x)).1 ++ (zsp o y F 2 o (2)).1), (zsp o y F 1 4 (x)).2 + (zsp o y F 2 o (2)).2) := rfl
  rw [e] at hl ⊢
  clear e
  have hg : (zgd o F 1 4 && zgd o F 2 o) = true := hg
  rw [Bool.and_eq_true] at hg
  simp only [List.length_cons, List.length_append, List.length_nil] at hl
  have hr : r < 24 := by omega
  have hr2 : ¬ 24 ≤ r := by omega
  have hm2 : m ≤ 40 := by omega
  have hm3 : ¬ 40 < m := by omega
  have q0 := fun Q => ih 1 4 (by decide) (by decide) (x) (zTc J r [80]) (r + 1) (m + 1) D Q hg.1 rfl h4 h5 (by omega) (by omega) (by omega)
  have q1 := fun Q => ih 2 o (by decide) ho (2) (zTc (zTc J r [80]) (r + 1) (zsp o y F 1 4 (x)).1) (r + 1 + (zsp o y F 1 4 (x)).1.length) (m + 1) D Q hg.2 rfl h4 h5 (by omega) (by omega) (by omega)
  have eM : (zTc (zTc (zTc J r [80]) (r + 1) (zsp o y F 1 4 (x)).1) (r + 1 + (zsp o y F 1 4 (x)).1.length) (zsp o y F 2 o (2)).1) = zTc J r (80 :: ((zsp o y F 1 4 (x)).1 ++ (zsp o y F 2 o (2)).1)) := by
    rw [show zTc (zTc J r [80]) (r + 1) (zsp o y F 1 4 (x)).1 = zTc J r ([80] ++ (zsp o y F 1 4 (x)).1) from zTc_a (cs := [80]), show r + 1 + (zsp o y F 1 4 (x)).1.length = r + ([80] ++ (zsp o y F 1 4 (x)).1).length by rw [List.length_append]; exact (Nat.add_assoc _ _ _)]
    exact zTc_a
  simp (disch := first | assumption | rfl | omega | decide | exact zb_01 _) only [zabs_e, zmax_e, zmin_e, zrf_s, zpush_s, zpush_n, zw_app, upd_app, updL_app, Nat.reduceEqDiff, Nat.add_left_cancel_iff, Nat.add_eq_left, Nat.left_eq_add, ↓reduceIte, true_and, and_true, Int32.reduceToNatClampNeg, zin_O, zi_ltO, zi_leO, zi_Olt, zi_Ole, zi_eqO, Nat.not_lt_zero, Nat.zero_le, List.append_nil, zrn_n, zrn_s, List.cons_append, List.nil_append, zlg_lt, zlg_gt, zlg_le, zlg_ge, zlg_eq, Int32.toInt_toInt64, Int64.reduceToInt, zw_zw, zw_sw1, zw_sw2, zw_sw3, zw_sw4, zw_sw5, zw_sw6, zw_sw7, ne_eq, zi_in, zi_cl, zi_le, zi_lt, zi_eq, zi_neg, zi_0le, zb_0, if_true, if_false, eq_self, zb_T, zb_F, Bool.false_eq_true, zO_eq, zO_ne1, zO_ne2, zO_nn, zi_ne1, zi_ne2, zi_lt1, zi_le1, zi_lt2, zi_le2, Int32.reduceLT, Int32.reduceLE, Nat.reduceLT, Nat.reduceLeDiff, Int32.reduceMul, Int32.reduceAdd, Int32.reduceSub, not_false_eq_true, not_true_eq_false, Int32.reduceToInt, Int.reduceLE, Int.reduceLT, Int.reduceNeg, ite_self, E_X0_run, R_X0_run, X_run_27, X_run_36, X_run_68, X_run_109, zAB, zOW, SHF, PF, h3, h4, h5, zTc_4, zTc_5, show nI 0 = 0 from rfl, show nI 1 = 1 from rfl, show nI 2 = 2 from rfl, show nI 3 = 3 from rfl, show nI 4 = 4 from rfl, show nI 5 = 5 from rfl, show nI 6 = 6 from rfl, show nI 7 = 7 from rfl, hr, hr2, hm2, hm3, zi_s, zTc_1]
  rw [H_X0_run_6]
  simp only [show nI 0 = 0 from rfl, show nI 1 = 1 from rfl, show nI 2 = 2 from rfl, show nI 3 = 3 from rfl, show nI 4 = 4 from rfl, show nI 5 = 5 from rfl, show nI 6 = 6 from rfl, show nI 7 = 7 from rfl] at q0 q1
  simp (disch := first | assumption | rfl | omega | decide | exact zb_01 _) only [zabs_e, zmax_e, zmin_e, zrf_s, zpush_s, zpush_n, zw_app, upd_app, updL_app, Nat.reduceEqDiff, Nat.add_left_cancel_iff, Nat.add_eq_left, Nat.left_eq_add, ↓reduceIte, true_and, and_true, Int32.reduceToNatClampNeg, zin_O, zi_ltO, zi_leO, zi_Olt, zi_Ole, zi_eqO, Nat.not_lt_zero, Nat.zero_le, List.append_nil, zrn_n, zrn_s, List.cons_append, List.nil_append, zlg_lt, zlg_gt, zlg_le, zlg_ge, zlg_eq, Int32.toInt_toInt64, Int64.reduceToInt, zw_zw, zw_sw1, zw_sw2, zw_sw3, zw_sw4, zw_sw5, zw_sw6, zw_sw7, ne_eq, zi_in, zi_cl, zi_le, zi_lt, zi_eq, zi_neg, zi_0le, zb_0, if_true, if_false, eq_self, zb_T, zb_F, Bool.false_eq_true, zO_eq, zO_ne1, zO_ne2, zO_nn, zi_ne1, zi_ne2, zi_lt1, zi_le1, zi_lt2, zi_le2, Int32.reduceLT, Int32.reduceLE, Nat.reduceLT, Nat.reduceLeDiff, Int32.reduceMul, Int32.reduceAdd, Int32.reduceSub, not_false_eq_true, not_true_eq_false, Int32.reduceToInt, Int.reduceLE, Int.reduceLT, Int.reduceNeg, ite_self, R_X0_run, X_run_27, X_run_36, X_run_68, X_run_109, zAB, zOW, SHF, PF, h3, h4, h5, zTc_4, zTc_5, show nI 0 = 0 from rfl, show nI 1 = 1 from rfl, show nI 2 = 2 from rfl, show nI 3 = 3 from rfl, show nI 4 = 4 from rfl, show nI 5 = 5 from rfl, show nI 6 = 6 from rfl, show nI 7 = 7 from rfl, hr, hr2, hm2, hm3, zi_s, zTc_1, E_X0_result, R_X0_result, q0, q1]
  try rw [eM]
theorem ca_2_0 (ho : o < 8) (ih : ∀ a k, a < 4 → k < 8 → zCa f g t L o y F a k) : zCa f g t L o y (F + 1) 2 0 := by
  intro x J r m D Q hg h3 h4 h5 hl hm hD
  obtain ⟨D, rfl⟩ : ∃ D', D = D' + 2 := ⟨D - 2, by omega⟩
  have e : zsp o y (F + 1) 2 0 x = ([11], x ^^^ y) := rfl
  rw [e] at hl ⊢
  clear e
  simp only [List.length_cons, List.length_append, List.length_nil] at hl
  have hr : r < 24 := by omega
  have hr2 : ¬ 24 ≤ r := by omega
  have hm2 : m ≤ 40 := by omega
  have hm3 : ¬ 40 < m := by omega
  simp (disch := first | assumption | rfl | omega | decide | exact zb_01 _) only [zabs_e, zmax_e, zmin_e, zrf_s, zpush_s, zpush_n, zw_app, upd_app, updL_app, Nat.reduceEqDiff, Nat.add_left_cancel_iff, Nat.add_eq_left, Nat.left_eq_add, ↓reduceIte, true_and, and_true, Int32.reduceToNatClampNeg, zin_O, zi_ltO, zi_leO, zi_Olt, zi_Ole, zi_eqO, Nat.not_lt_zero, Nat.zero_le, List.append_nil, zrn_n, zrn_s, List.cons_append, List.nil_append, zlg_lt, zlg_gt, zlg_le, zlg_ge, zlg_eq, Int32.toInt_toInt64, Int64.reduceToInt, zw_zw, zw_sw1, zw_sw2, zw_sw3, zw_sw4, zw_sw5, zw_sw6, zw_sw7, ne_eq, zi_in, zi_cl, zi_le, zi_lt, zi_eq, zi_neg, zi_0le, zb_0, if_true, if_false, eq_self, zb_T, zb_F, Bool.false_eq_true, zO_eq, zO_ne1, zO_ne2, zO_nn, zi_ne1, zi_ne2, zi_lt1, zi_le1, zi_lt2, zi_le2, Int32.reduceLT, Int32.reduceLE, Nat.reduceLT, Nat.reduceLeDiff, Int32.reduceMul, Int32.reduceAdd, Int32.reduceSub, not_false_eq_true, not_true_eq_false, Int32.reduceToInt, Int.reduceLE, Int.reduceLT, Int.reduceNeg, ite_self, E_X0_run, R_X0_run, X_run_27, X_run_36, X_run_68, X_run_109, zAB, zOW, SHF, PF, h3, h4, h5, zTc_4, zTc_5, show nI 0 = 0 from rfl, show nI 1 = 1 from rfl, show nI 2 = 2 from rfl, show nI 3 = 3 from rfl, show nI 4 = 4 from rfl, show nI 5 = 5 from rfl, show nI 6 = 6 from rfl, show nI 7 = 7 from rfl, hr, hr2, hm2, hm3, zi_s, zTc_1]
  rw [H_X0_run_6]
  simp (disch := first | assumption | rfl | omega | decide | exact zb_01 _) only [zabs_e, zmax_e, zmin_e, zrf_s, zpush_s, zpush_n, zw_app, upd_app, updL_app, Nat.reduceEqDiff, Nat.add_left_cancel_iff, Nat.add_eq_left, Nat.left_eq_add, ↓reduceIte, true_and, and_true, Int32.reduceToNatClampNeg, zin_O, zi_ltO, zi_leO, zi_Olt, zi_Ole, zi_eqO, Nat.not_lt_zero, Nat.zero_le, List.append_nil, zrn_n, zrn_s, List.cons_append, List.nil_append, zlg_lt, zlg_gt, zlg_le, zlg_ge, zlg_eq, Int32.toInt_toInt64, Int64.reduceToInt, zw_zw, zw_sw1, zw_sw2, zw_sw3, zw_sw4, zw_sw5, zw_sw6, zw_sw7, ne_eq, zi_in, zi_cl, zi_le, zi_lt, zi_eq, zi_neg, zi_0le, zb_0, if_true, if_false, eq_self, zb_T, zb_F, Bool.false_eq_true, zO_eq, zO_ne1, zO_ne2, zO_nn, zi_ne1, zi_ne2, zi_lt1, zi_le1, zi_lt2, zi_le2, Int32.reduceLT, Int32.reduceLE, Nat.reduceLT, Nat.reduceLeDiff, Int32.reduceMul, Int32.reduceAdd, Int32.reduceSub, not_false_eq_true, not_true_eq_false, Int32.reduceToInt, Int.reduceLE, Int.reduceLT, Int.reduceNeg, ite_self, R_X0_run, X_run_27, X_run_36, X_run_68, X_run_109, zAB, zOW, SHF, PF, h3, h4, h5, zTc_4, zTc_5, show nI 0 = 0 from rfl, show nI 1 = 1 from rfl, show nI 2 = 2 from rfl, show nI 3 = 3 from rfl, show nI 4 = 4 from rfl, show nI 5 = 5 from rfl, show nI 6 = 6 from rfl, show nI 7 = 7 from rfl, hr, hr2, hm2, hm3, zi_s, zTc_1, E_X0_result, R_X0_result]
  try rfl
theorem ca_2_1 (ho : o < 8) (ih : ∀ a k, a < 4 → k < 8 → zCa f g t L o y F a k) : zCa f g t L o y (F + 1) 2 1 := by
  intro x J r m D Q hg h3 h4 h5 hl hm hD
  obtain ⟨D, rfl⟩ : ∃ D', D = D' + 2 := ⟨D - 2, by omega⟩
  have e : zsp o y (F + 1) 2 1 x = ([11], x ^^^ y) := rfl
  rw [e] at hl ⊢
  clear e
  simp only [List.length_cons, List.length_append, List.length_nil] at hl
  have hr : r < 24 := by omega
  have hr2 : ¬ 24 ≤ r := by omega
  have hm2 : m ≤ 40 := by omega
  have hm3 : ¬ 40 < m := by omega
  simp (disch := first | assumption | rfl | omega | decide | exact zb_01 _) only [zabs_e, zmax_e, zmin_e, zrf_s, zpush_s, zpush_n, zw_app, upd_app, updL_app, Nat.reduceEqDiff, Nat.add_left_cancel_iff, Nat.add_eq_left, Nat.left_eq_add, ↓reduceIte, true_and, and_true, Int32.reduceToNatClampNeg, zin_O, zi_ltO, zi_leO, zi_Olt, zi_Ole, zi_eqO, Nat.not_lt_zero, Nat.zero_le, List.append_nil, zrn_n, zrn_s, List.cons_append, List.nil_append, zlg_lt, zlg_gt, zlg_le, zlg_ge, zlg_eq, Int32.toInt_toInt64, Int64.reduceToInt, zw_zw, zw_sw1, zw_sw2, zw_sw3, zw_sw4, zw_sw5, zw_sw6, zw_sw7, ne_eq, zi_in, zi_cl, zi_le, zi_lt, zi_eq, zi_neg, zi_0le, zb_0, if_true, if_false, eq_self, zb_T, zb_F, Bool.false_eq_true, zO_eq, zO_ne1, zO_ne2, zO_nn, zi_ne1, zi_ne2, zi_lt1, zi_le1, zi_lt2, zi_le2, Int32.reduceLT, Int32.reduceLE, Nat.reduceLT, Nat.reduceLeDiff, Int32.reduceMul, Int32.reduceAdd, Int32.reduceSub, not_false_eq_true, not_true_eq_false, Int32.reduceToInt, Int.reduceLE, Int.reduceLT, Int.reduceNeg, ite_self, E_X0_run, R_X0_run, X_run_27, X_run_36, X_run_68, X_run_109, zAB, zOW, SHF, PF, h3, h4, h5, zTc_4, zTc_5, show nI 0 = 0 from rfl, show nI 1 = 1 from rfl, show nI 2 = 2 from rfl, show nI 3 = 3 from rfl, show nI 4 = 4 from rfl, show nI 5 = 5 from rfl, show nI 6 = 6 from rfl, show nI 7 = 7 from rfl, hr, hr2, hm2, hm3, zi_s, zTc_1]
  rw [H_X0_run_6]
  simp (disch := first | assumption | rfl | omega | decide | exact zb_01 _) only [zabs_e, zmax_e, zmin_e, zrf_s, zpush_s, zpush_n, zw_app, upd_app, updL_app, Nat.reduceEqDiff, Nat.add_left_cancel_iff, Nat.add_eq_left, Nat.left_eq_add, ↓reduceIte, true_and, and_true, Int32.reduceToNatClampNeg, zin_O, zi_ltO, zi_leO, zi_Olt, zi_Ole, zi_eqO, Nat.not_lt_zero, Nat.zero_le, List.append_nil, zrn_n, zrn_s, List.cons_append, List.nil_append, zlg_lt, zlg_gt, zlg_le, zlg_ge, zlg_eq, Int32.toInt_toInt64, Int64.reduceToInt, zw_zw, zw_sw1, zw_sw2, zw_sw3, zw_sw4, zw_sw5, zw_sw6, zw_sw7, ne_eq, zi_in, zi_cl, zi_le, zi_lt, zi_eq, zi_neg, zi_0le, zb_0, if_true, if_false, eq_self, zb_T, zb_F, Bool.false_eq_true, zO_eq, zO_ne1, zO_ne2, zO_nn, zi_ne1, zi_ne2, zi_lt1, zi_le1, zi_lt2, zi_le2, Int32.reduceLT, Int32.reduceLE, Nat.reduceLT, Nat.reduceLeDiff, Int32.reduceMul, Int32.reduceAdd, Int32.reduceSub, not_false_eq_true, not_true_eq_false, Int32.reduceToInt, Int.reduceLE, Int.reduceLT, Int.reduceNeg, ite_self, R_X0_run, X_run_27, X_run_36, X_run_68, X_run_109, zAB, zOW, SHF, PF, h3, h4, h5, zTc_4, zTc_5, show nI 0 = 0 from rfl, show nI 1 = 1 from rfl, show nI 2 = 2 from rfl, show nI 3 = 3 from rfl, show nI 4 = 4 from rfl, show nI 5 = 5 from rfl, show nI 6 = 6 from rfl, show nI 7 = 7 from rfl, hr, hr2, hm2, hm3, zi_s, zTc_1]
  rw [H_X0_run_6]
  simp (disch := first | assumption | rfl | omega | decide | exact zb_01 _) only [zabs_e, zmax_e, zmin_e, zrf_s, zpush_s, zpush_n, zw_app, upd_app, updL_app, Nat.reduceEqDiff, Nat.add_left_cancel_iff, Nat.add_eq_left, Nat.left_eq_add, ↓reduceIte, true_and, and_true, Int32.reduceToNatClampNeg, zin_O, zi_ltO, zi_leO, zi_Olt, zi_Ole, zi_eqO, Nat.not_lt_zero, Nat.zero_le, List.append_nil, zrn_n, zrn_s, List.cons_append, List.nil_append, zlg_lt, zlg_gt, zlg_le, zlg_ge, zlg_eq, Int32.toInt_toInt64, Int64.reduceToInt, zw_zw, zw_sw1, zw_sw2, zw_sw3, zw_sw4, zw_sw5, zw_sw6, zw_sw7, ne_eq, zi_in, zi_cl, zi_le, zi_lt, zi_eq, zi_neg, zi_0le, zb_0, if_true, if_false, eq_self, zb_T, zb_F, Bool.false_eq_true, zO_eq, zO_ne1, zO_ne2, zO_nn, zi_ne1, zi_ne2, zi_lt1, zi_le1, zi_lt2, zi_le2, Int32.reduceLT, Int32.reduceLE, Nat.reduceLT, Nat.reduceLeDiff, Int32.reduceMul, Int32.reduceAdd, Int32.reduceSub, not_false_eq_true, not_true_eq_false, Int32.reduceToInt, Int.reduceLE, Int.reduceLT, Int.reduceNeg, ite_self, R_X0_run, X_run_27, X_run_36, X_run_68, X_run_109, zAB, zOW, SHF, PF, h3, h4, h5, zTc_4, zTc_5, show nI 0 = 0 from rfl, show nI 1 = 1 from rfl, show nI 2 = 2 from rfl, show nI 3 = 3 from rfl, show nI 4 = 4 from rfl, show nI 5 = 5 from rfl, show nI 6 = 6 from rfl, show nI 7 = 7 from rfl, hr, hr2, hm2, hm3, zi_s, zTc_1, E_X0_result, R_X0_result]
  try rfl
theorem ca_2_2 (ho : o < 8) (ih : ∀ a k, a < 4 → k < 8 → zCa f g t L o y F a k) : zCa f g t L o y (F + 1) 2 2 := by
  intro x J r m D Q hg h3 h4 h5 hl hm hD
  obtain ⟨D, rfl⟩ : ∃ D', D = D' + 2 := ⟨D - 2, by omega⟩
  have e : zsp o y (F + 1) 2 2 x = ([11], x ^^^ y) := rfl
  rw [e] at hl ⊢
  clear e
  simp only [List.length_cons, List.length_append, List.length_nil] at hl
  have hr : r < 24 := by omega
  have hr2 : ¬ 24 ≤ r := by omega
  have hm2 : m ≤ 40 := by omega
  have hm3 : ¬ 40 < m := by omega
  simp (disch := first | assumption | rfl | omega | decide | exact zb_01 _) only [zabs_e, zmax_e, zmin_e, zrf_s, zpush_s, zpush_n, zw_app, upd_app, updL_app, Nat.reduceEqDiff, Nat.add_left_cancel_iff, Nat.add_eq_left, Nat.left_eq_add, ↓reduceIte, true_and, and_true, Int32.reduceToNatClampNeg, zin_O, zi_ltO, zi_leO, zi_Olt, zi_Ole, zi_eqO, Nat.not_lt_zero, Nat.zero_le, List.append_nil, zrn_n, zrn_s, List.cons_append, List.nil_append, zlg_lt, zlg_gt, zlg_le, zlg_ge, zlg_eq, Int32.toInt_toInt64, Int64.reduceToInt, zw_zw, zw_sw1, zw_sw2, zw_sw3, zw_sw4, zw_sw5, zw_sw6, zw_sw7, ne_eq, zi_in, zi_cl, zi_le, zi_lt, zi_eq, zi_neg, zi_0le, zb_0, if_true, if_false, eq_self, zb_T, zb_F, Bool.false_eq_true, zO_eq, zO_ne1, zO_ne2, zO_nn, zi_ne1, zi_ne2, zi_lt1, zi_le1, zi_lt2, zi_le2, Int32.reduceLT, Int32.reduceLE, Nat.reduceLT, Nat.reduceLeDiff, Int32.reduceMul, Int32.reduceAdd, Int32.reduceSub, not_false_eq_true, not_true_eq_false, Int32.reduceToInt, Int.reduceLE, Int.reduceLT, Int.reduceNeg, ite_self, E_X0_run, R_X0_run, X_run_27, X_run_36, X_run_68, X_run_109, zAB, zOW, SHF, PF, h3, h4, h5, zTc_4, zTc_5, show nI 0 = 0 from rfl, show nI 1 = 1 from rfl, show nI 2 = 2 from rfl, show nI 3 = 3 from rfl, show nI 4 = 4 from rfl, show nI 5 = 5 from rfl, show nI 6 = 6 from rfl, show nI 7 = 7 from rfl, hr, hr2, hm2, hm3, zi_s, zTc_1]
  rw [H_X0_run_6]
  simp (disch := first | assumption | rfl | omega | decide | exact zb_01 _) only [zabs_e, zmax_e, zmin_e, zrf_s, zpush_s, zpush_n, zw_app, upd_app, updL_app, Nat.reduceEqDiff, Nat.add_left_cancel_iff, Nat.add_eq_left, Nat.left_eq_add, ↓reduceIte, true_and, and_true, Int32.reduceToNatClampNeg, zin_O, zi_ltO, zi_leO, zi_Olt, zi_Ole, zi_eqO, Nat.not_lt_zero, Nat.zero_le, List.append_nil, zrn_n, zrn_s, List.cons_append, List.nil_append, zlg_lt, zlg_gt, zlg_le, zlg_ge, zlg_eq, Int32.toInt_toInt64, Int64.reduceToInt, zw_zw, zw_sw1, zw_sw2, zw_sw3, zw_sw4, zw_sw5, zw_sw6, zw_sw7, ne_eq, zi_in, zi_cl, zi_le, zi_lt, zi_eq, zi_neg, zi_0le, zb_0, if_true, if_false, eq_self, zb_T, zb_F, Bool.false_eq_true, zO_eq, zO_ne1, zO_ne2, zO_nn, zi_ne1, zi_ne2, zi_lt1, zi_le1, zi_lt2, zi_le2, Int32.reduceLT, Int32.reduceLE, Nat.reduceLT, Nat.reduceLeDiff, Int32.reduceMul, Int32.reduceAdd, Int32.reduceSub, not_false_eq_true, not_true_eq_false, Int32.reduceToInt, Int.reduceLE, Int.reduceLT, Int.reduceNeg, ite_self, R_X0_run, X_run_27, X_run_36, X_run_68, X_run_109, zAB, zOW, SHF, PF, h3, h4, h5, zTc_4, zTc_5, show nI 0 = 0 from rfl, show nI 1 = 1 from rfl, show nI 2 = 2 from rfl, show nI 3 = 3 from rfl, show nI 4 = 4 from rfl, show nI 5 = 5 from rfl, show nI 6 = 6 from rfl, show nI 7 = 7 from rfl, hr, hr2, hm2, hm3, zi_s, zTc_1]
  rw [H_X0_run_6]
  simp (disch := first | assumption | rfl | omega | decide | exact zb_01 _) only [zabs_e, zmax_e, zmin_e, zrf_s, zpush_s, zpush_n, zw_app, upd_app, updL_app, Nat.reduceEqDiff, Nat.add_left_cancel_iff, Nat.add_eq_left, Nat.left_eq_add, ↓reduceIte, true_and, and_true, Int32.reduceToNatClampNeg, zin_O, zi_ltO, zi_leO, zi_Olt, zi_Ole, zi_eqO, Nat.not_lt_zero, Nat.zero_le, List.append_nil, zrn_n, zrn_s, List.cons_append, List.nil_append, zlg_lt, zlg_gt, zlg_le, zlg_ge, zlg_eq, Int32.toInt_toInt64, Int64.reduceToInt, zw_zw, zw_sw1, zw_sw2, zw_sw3, zw_sw4, zw_sw5, zw_sw6, zw_sw7, ne_eq, zi_in, zi_cl, zi_le, zi_lt, zi_eq, zi_neg, zi_0le, zb_0, if_true, if_false, eq_self, zb_T, zb_F, Bool.false_eq_true, zO_eq, zO_ne1, zO_ne2, zO_nn, zi_ne1, zi_ne2, zi_lt1, zi_le1, zi_lt2, zi_le2, Int32.reduceLT, Int32.reduceLE, Nat.reduceLT, Nat.reduceLeDiff, Int32.reduceMul, Int32.reduceAdd, Int32.reduceSub, not_false_eq_true, not_true_eq_false, Int32.reduceToInt, Int.reduceLE, Int.reduceLT, Int.reduceNeg, ite_self, R_X0_run, X_run_27, X_run_36, X_run_68, X_run_109, zAB, zOW, SHF, PF, h3, h4, h5, zTc_4, zTc_5, show nI 0 = 0 from rfl, show nI 1 = 1 from rfl, show nI 2 = 2 from rfl, show nI 3 = 3 from rfl, show nI 4 = 4 from rfl, show nI 5 = 5 from rfl, show nI 6 = 6 from rfl, show nI 7 = 7 from rfl, hr, hr2, hm2, hm3, zi_s, zTc_1, E_X0_result, R_X0_result]
  try rfl
theorem ca_2_3 (ho : o < 8) (ih : ∀ a k, a < 4 → k < 8 → zCa f g t L o y F a k) : zCa f g t L o y (F + 1) 2 3 := by
  intro x J r m D Q hg h3 h4 h5 hl hm hD
  obtain ⟨D, rfl⟩ : ∃ D', D = D' + 2 := ⟨D - 2, by omega⟩
  have e : zsp o y (F + 1) 2 3 x = (40 :: (zsp o y F 2 2 (x)).1, (zsp o y F 2 2 (x)).2 * 3) := rfl
  rw [e] at hl ⊢
  clear e
  have hg : zgd o F 2 2 = true := hg
  simp only [List.length_cons, List.length_append, List.length_nil] at hl
  have hr : r < 24 := by omega
  have hr2 : ¬ 24 ≤ r := by omega
  have hm2 : m ≤ 40 := by omega
  have hm3 : ¬ 40 < m := by omega
  have q0 := fun Q => ih 2 2 (by decide) (by decide) (x) (zTc J r [40]) (r + 1) (m + 1) D Q hg rfl h4 h5 (by omega) (by omega) (by omega)
  have eM : (zTc (zTc J r [40]) (r + 1) (zsp o y F 2 2 (x)).1) = zTc J r (40 :: (zsp o y F 2 2 (x)).1) := zTc_a (cs := [40])
  simp (disch := first | assumption | rfl | omega | decide | exact zb_01 _) only [zabs_e, zmax_e, zmin_e, zrf_s, zpush_s, zpush_n, zw_app, upd_app, updL_app, Nat.reduceEqDiff, Nat.add_left_cancel_iff, Nat.add_eq_left, Nat.left_eq_add, ↓reduceIte, true_and, and_true, Int32.reduceToNatClampNeg, zin_O, zi_ltO, zi_leO, zi_Olt, zi_Ole, zi_eqO, Nat.not_lt_zero, Nat.zero_le, List.append_nil, zrn_n, zrn_s, List.cons_append, List.nil_append, zlg_lt, zlg_gt, zlg_le, zlg_ge, zlg_eq, Int32.toInt_toInt64, Int64.reduceToInt, zw_zw, zw_sw1, zw_sw2, zw_sw3, zw_sw4, zw_sw5, zw_sw6, zw_sw7, ne_eq, zi_in, zi_cl, zi_le, zi_lt, zi_eq, zi_neg, zi_0le, zb_0, if_true, if_false, eq_self, zb_T, zb_F, Bool.false_eq_true, zO_eq, zO_ne1, zO_ne2, zO_nn, zi_ne1, zi_ne2, zi_lt1, zi_le1, zi_lt2, zi_le2, Int32.reduceLT, Int32.reduceLE, Nat.reduceLT, Nat.reduceLeDiff, Int32.reduceMul, Int32.reduceAdd, Int32.reduceSub, not_false_eq_true, not_true_eq_false, Int32.reduceToInt, Int.reduceLE, Int.reduceLT, Int.reduceNeg, ite_self, E_X0_run, R_X0_run, X_run_27, X_run_36, X_run_68, X_run_109, zAB, zOW, SHF, PF, h3, h4, h5, zTc_4, zTc_5, show nI 0 = 0 from rfl, show nI 1 = 1 from rfl, show nI 2 = 2 from rfl, show nI 3 = 3 from rfl, show nI 4 = 4 from rfl, show nI 5 = 5 from rfl, show nI 6 = 6 from rfl, show nI 7 = 7 from rfl, hr, hr2, hm2, hm3, zi_s, zTc_1]
  rw [H_X0_run_6]
  simp only [show nI 0 = 0 from rfl, show nI 1 = 1 from rfl, show nI 2 = 2 from rfl, show nI 3 = 3 from rfl, show nI 4 = 4 from rfl, show nI 5 = 5 from rfl, show nI 6 = 6 from rfl, show nI 7 = 7 from rfl] at q0
  simp (disch := first | assumption | rfl | omega | decide | exact zb_01 _) only [zabs_e, zmax_e, zmin_e, zrf_s, zpush_s, zpush_n, zw_app, upd_app, updL_app, Nat.reduceEqDiff, Nat.add_left_cancel_iff, Nat.add_eq_left, Nat.left_eq_add, ↓reduceIte, true_and, and_true, Int32.reduceToNatClampNeg, zin_O, zi_ltO, zi_leO, zi_Olt, zi_Ole, zi_eqO, Nat.not_lt_zero, Nat.zero_le, List.append_nil, zrn_n, zrn_s, List.cons_append, List.nil_append, zlg_lt, zlg_gt, zlg_le, zlg_ge, zlg_eq, Int32.toInt_toInt64, Int64.reduceToInt, zw_zw, zw_sw1, zw_sw2, zw_sw3, zw_sw4, zw_sw5, zw_sw6, zw_sw7, ne_eq, zi_in, zi_cl, zi_le, zi_lt, zi_eq, zi_neg, zi_0le, zb_0, if_true, if_false, eq_self, zb_T, zb_F, Bool.false_eq_true, zO_eq, zO_ne1, zO_ne2, zO_nn, zi_ne1, zi_ne2, zi_lt1, zi_le1, zi_lt2, zi_le2, Int32.reduceLT, Int32.reduceLE, Nat.reduceLT, Nat.reduceLeDiff, Int32.reduceMul, Int32.reduceAdd, Int32.reduceSub, not_false_eq_true, not_true_eq_false, Int32.reduceToInt, Int.reduceLE, Int.reduceLT, Int.reduceNeg, ite_self, R_X0_run, X_run_27, X_run_36, X_run_68, X_run_109, zAB, zOW, SHF, PF, h3, h4, h5, zTc_4, zTc_5, show nI 0 = 0 from rfl, show nI 1 = 1 from rfl, show nI 2 = 2 from rfl, show nI 3 = 3 from rfl, show nI 4 = 4 from rfl, show nI 5 = 5 from rfl, show nI 6 = 6 from rfl, show nI 7 = 7 from rfl, hr, hr2, hm2, hm3, zi_s, zTc_1, E_X0_result, R_X0_result, q0]
  try rw [eM]
theorem ca_2_4 (ho : o < 8) (ih : ∀ a k, a < 4 → k < 8 → zCa f g t L o y F a k) : zCa f g t L o y (F + 1) 2 4 := by
  intro x J r m D Q hg h3 h4 h5 hl hm hD
  obtain ⟨D, rfl⟩ : ∃ D', D = D' + 2 := ⟨D - 2, by omega⟩
  have e : zsp o y (F + 1) 2 4 x = (50 :: ((zsp o y F 2 1 (x)).1 ++ (zsp o y F 0 o (2)).1), (zsp o y F 2 1 (x)).2 - (zsp o y F 0 o (2)).2) := rfl
  rw [e] at hl ⊢
  clear e
  have hg : (zgd o F 2 1 && zgd o F 0 o) = true := hg
  rw [Bool.and_eq_true] at hg
  simp only [List.length_cons, List.length_append, List.length_nil] at hl
  have hr : r < 24 := by omega
  have hr2 : ¬ 24 ≤ r := by omega
  have hm2 : m ≤ 40 := by omega
  have hm3 : ¬ 40 < m := by omega
  have q0 := fun Q => ih 2 1 (by decide) (by decide) (x) (zTc J r [50]) (r + 1) (m + 1) D Q hg.1 rfl h4 h5 (by omega) (by omega) (by omega)
  have q1 := fun Q => ih 0 o (by decide) ho (2) (zTc (zTc J r [50]) (r + 1) (zsp o y F 2 1 (x)).1) (r + 1 + (zsp o y F 2 1 (x)).1.length) (m + 1) D Q hg.2 rfl h4 h5 (by omega) (by omega) (by omega)
  have eM : (zTc (zTc (zTc J r [50]) (r + 1) (zsp o y F 2 1 (x)).1) (r + 1 + (zsp o y F 2 1 (x)).1.length) (zsp o y F 0 o (2)).1) = zTc J r (50 :: ((zsp o y F 2 1 (x)).1 ++ (zsp o y F 0 o (2)).1)) := by
    rw [show zTc (zTc J r [50]) (r + 1) (zsp o y F 2 1 (x)).1 = zTc J r ([50] ++ (zsp o y F 2 1 (x)).1) from zTc_a (cs := [50]), show r + 1 + (zsp o y F 2 1 (x)).1.length = r + ([50] ++ (zsp o y F 2 1 (x)).1).length by rw [List.length_append]; exact (Nat.add_assoc _ _ _)]
    exact zTc_a
  simp (disch := first | assumption | rfl | omega | decide | exact zb_01 _) only [zabs_e, zmax_e, zmin_e, zrf_s, zpush_s, zpush_n, zw_app, upd_app, updL_app, Nat.reduceEqDiff, Nat.add_left_cancel_iff, Nat.add_eq_left, Nat.left_eq_add, ↓reduceIte, true_and, and_true, Int32.reduceToNatClampNeg, zin_O, zi_ltO, zi_leO, zi_Olt, zi_Ole, zi_eqO, Nat.not_lt_zero, Nat.zero_le, List.append_nil, zrn_n, zrn_s, List.cons_append, List.nil_append, zlg_lt, zlg_gt, zlg_le, zlg_ge, zlg_eq, Int32.toInt_toInt64, Int64.reduceToInt, zw_zw, zw_sw1, zw_sw2, zw_sw3, zw_sw4, zw_sw5, zw_sw6, zw_sw7, ne_eq, zi_in, zi_cl, zi_le, zi_lt, zi_eq, zi_neg, zi_0le, zb_0, if_true, if_false, eq_self, zb_T, zb_F, Bool.false_eq_true, zO_eq, zO_ne1, zO_ne2, zO_nn, zi_ne1, zi_ne2, zi_lt1, zi_le1, zi_lt2, zi_le2, Int32.reduceLT, Int32.reduceLE, Nat.reduceLT, Nat.reduceLeDiff, Int32.reduceMul, Int32.reduceAdd, Int32.reduceSub, not_false_eq_true, not_true_eq_false, Int32.reduceToInt, Int.reduceLE, Int.reduceLT, Int.reduceNeg, ite_self, E_X0_run, R_X0_run, X_run_27, X_run_36, X_run_68, X_run_109, zAB, zOW, SHF, PF, h3, h4, h5, zTc_4, zTc_5, show nI 0 = 0 from rfl, show nI 1 = 1 from rfl, show nI 2 = 2 from rfl, show nI 3 = 3 from rfl, show nI 4 = 4 from rfl, show nI 5 = 5 from rfl, show nI 6 = 6 from rfl, show nI 7 = 7 from rfl, hr, hr2, hm2, hm3, zi_s, zTc_1]
  rw [H_X0_run_6]
  simp only [show nI 0 = 0 from rfl, show nI 1 = 1 from rfl, show nI 2 = 2 from rfl, show nI 3 = 3 from rfl, show nI 4 = 4 from rfl, show nI 5 = 5 from rfl, show nI 6 = 6 from rfl, show nI 7 = 7 from rfl] at q0 q1
  simp (disch := first | assumption | rfl | omega | decide | exact zb_01 _) only [zabs_e, zmax_e, zmin_e, zrf_s, zpush_s, zpush_n, zw_app, upd_app, updL_app, Nat.reduceEqDiff, Nat.add_left_cancel_iff, Nat.add_eq_left, Nat.left_eq_add, ↓reduceIte, true_and, and_true, Int32.reduceToNatClampNeg, zin_O, zi_ltO, zi_leO, zi_Olt, zi_Ole, zi_eqO, Nat.not_lt_zero, Nat.zero_le, List.append_nil, zrn_n, zrn_s, List.cons_append, List.nil_append, zlg_lt, zlg_gt, zlg_le, zlg_ge, zlg_eq, Int32.toInt_toInt64, Int64.reduceToInt, zw_zw, zw_sw1, zw_sw2, zw_sw3, zw_sw4, zw_sw5, zw_sw6, zw_sw7, ne_eq, zi_in, zi_cl, zi_le, zi_lt, zi_eq, zi_neg, zi_0le, zb_0, if_true, if_false, eq_self, zb_T, zb_F, Bool.false_eq_true, zO_eq, zO_ne1, zO_ne2, zO_nn, zi_ne1, zi_ne2, zi_lt1, zi_le1, zi_lt2, zi_le2, Int32.reduceLT, Int32.reduceLE, Nat.reduceLT, Nat.reduceLeDiff, Int32.reduceMul, Int32.reduceAdd, Int32.reduceSub, not_false_eq_true, not_true_eq_false, Int32.reduceToInt, Int.reduceLE, Int.reduceLT, Int.reduceNeg, ite_self, R_X0_run, X_run_27, X_run_36, X_run_68, X_run_109, zAB, zOW, SHF, PF, h3, h4, h5, zTc_4, zTc_5, show nI 0 = 0 from rfl, show nI 1 = 1 from rfl, show nI 2 = 2 from rfl, show nI 3 = 3 from rfl, show nI 4 = 4 from rfl, show nI 5 = 5 from rfl, show nI 6 = 6 from rfl, show nI 7 = 7 from rfl, hr, hr2, hm2, hm3, zi_s, zTc_1, E_X0_result, R_X0_result, q0, q1]
  try rw [eM]
theorem ca_2_5 (ho : o < 8) (ih : ∀ a k, a < 4 → k < 8 → zCa f g t L o y F a k) : zCa f g t L o y (F + 1) 2 5 := by
  intro x J r m D Q hg h3 h4 h5 hl hm hD
  obtain ⟨D, rfl⟩ : ∃ D', D = D' + 2 := ⟨D - 2, by omega⟩
  have e : zsp o y (F + 1) 2 5 x = (40 :: (zsp o y F 2 2 (x)).1, (zsp o y F 2 2 (x)).2 * 3) := rfl
  rw [e] at hl ⊢
  clear e
  have hg : zgd o F 2 2 = true := hg
  simp only [List.length_cons, List.length_append, List.length_nil] at hl
  have hr : r < 24 := by omega
  have hr2 : ¬ 24 ≤ r := by omega
  have hm2 : m ≤ 40 := by omega
  have hm3 : ¬ 40 < m := by omega
  have q0 := fun Q => ih 2 2 (by decide) (by decide) (x) (zTc J r [40]) (r + 1) (m + 1) D Q hg rfl h4 h5 (by omega) (by omega) (by omega)
  have eM : (zTc (zTc J r [40]) (r + 1) (zsp o y F 2 2 (x)).1) = zTc J r (40 :: (zsp o y F 2 2 (x)).1) := zTc_a (cs := [40])
  simp (disch := first | assumption | rfl | omega | decide | exact zb_01 _) only [zabs_e, zmax_e, zmin_e, zrf_s, zpush_s, zpush_n, zw_app, upd_app, updL_app, Nat.reduceEqDiff, Nat.add_left_cancel_iff, Nat.add_eq_left, Nat.left_eq_add, ↓reduceIte, true_and, and_true, Int32.reduceToNatClampNeg, zin_O, zi_ltO, zi_leO, zi_Olt, zi_Ole, zi_eqO, Nat.not_lt_zero, Nat.zero_le, List.append_nil, zrn_n, zrn_s, List.cons_append, List.nil_append, zlg_lt, zlg_gt, zlg_le, zlg_ge, zlg_eq, Int32.toInt_toInt64, Int64.reduceToInt, zw_zw, zw_sw1, zw_sw2, zw_sw3, zw_sw4, zw_sw5, zw_sw6, zw_sw7, ne_eq, zi_in, zi_cl, zi_le, zi_lt, zi_eq, zi_neg, zi_0le, zb_0, if_true, if_false, eq_self, zb_T, zb_F, Bool.false_eq_true, zO_eq, zO_ne1, zO_ne2, zO_nn, zi_ne1, zi_ne2, zi_lt1, zi_le1, zi_lt2, zi_le2, Int32.reduceLT, Int32.reduceLE, Nat.reduceLT, Nat.reduceLeDiff, Int32.reduceMul, Int32.reduceAdd, Int32.reduceSub, not_false_eq_true, not_true_eq_false, Int32.reduceToInt, Int.reduceLE, Int.reduceLT, Int.reduceNeg, ite_self, E_X0_run, R_X0_run, X_run_27, X_run_36, X_run_68, X_run_109, zAB, zOW, SHF, PF, h3, h4, h5, zTc_4, zTc_5, show nI 0 = 0 from rfl, show nI 1 = 1 from rfl, show nI 2 = 2 from rfl, show nI 3 = 3 from rfl, show nI 4 = 4 from rfl, show nI 5 = 5 from rfl, show nI 6 = 6 from rfl, show nI 7 = 7 from rfl, hr, hr2, hm2, hm3, zi_s, zTc_1]
  rw [H_X0_run_6]
  simp (disch := first | assumption | rfl | omega | decide | exact zb_01 _) only [zabs_e, zmax_e, zmin_e, zrf_s, zpush_s, zpush_n, zw_app, upd_app, updL_app, Nat.reduceEqDiff, Nat.add_left_cancel_iff, Nat.add_eq_left, Nat.left_eq_add, ↓reduceIte, true_and, and_true, Int32.reduceToNatClampNeg, zin_O, zi_ltO, zi_leO, zi_Olt, zi_Ole, zi_eqO, Nat.not_lt_zero, Nat.zero_le, List.append_nil, zrn_n, zrn_s, List.cons_append, List.nil_append, zlg_lt, zlg_gt, zlg_le, zlg_ge, zlg_eq, Int32.toInt_toInt64, Int64.reduceToInt, zw_zw, zw_sw1, zw_sw2, zw_sw3, zw_sw4, zw_sw5, zw_sw6, zw_sw7, ne_eq, zi_in, zi_cl, zi_le, zi_lt, zi_eq, zi_neg, zi_0le, zb_0, if_true, if_false, eq_self, zb_T, zb_F, Bool.false_eq_true, zO_eq, zO_ne1, zO_ne2, zO_nn, zi_ne1, zi_ne2, zi_lt1, zi_le1, zi_lt2, zi_le2, Int32.reduceLT, Int32.reduceLE, Nat.reduceLT, Nat.reduceLeDiff, Int32.reduceMul, Int32.reduceAdd, Int32.reduceSub, not_false_eq_true, not_true_eq_false, Int32.reduceToInt, Int.reduceLE, Int.reduceLT, Int.reduceNeg, ite_self, R_X0_run, X_run_27, X_run_36, X_run_68, X_run_109, zAB, zOW, SHF, PF, h3, h4, h5, zTc_4, zTc_5, show nI 0 = 0 from rfl, show nI 1 = 1 from rfl, show nI 2 = 2 from rfl, show nI 3 = 3 from rfl, show nI 4 = 4 from rfl, show nI 5 = 5 from rfl, show nI 6 = 6 from rfl, show nI 7 = 7 from rfl, hr, hr2, hm2, hm3, zi_s, zTc_1]
  rw [H_X0_run_6]
  simp only [show nI 0 = 0 from rfl, show nI 1 = 1 from rfl, show nI 2 = 2 from rfl, show nI 3 = 3 from rfl, show nI 4 = 4 from rfl, show nI 5 = 5 from rfl, show nI 6 = 6 from rfl, show nI 7 = 7 from rfl] at q0
  simp (disch := first | assumption | rfl | omega | decide | exact zb_01 _) only [zabs_e, zmax_e, zmin_e, zrf_s, zpush_s, zpush_n, zw_app, upd_app, updL_app, Nat.reduceEqDiff, Nat.add_left_cancel_iff, Nat.add_eq_left, Nat.left_eq_add, ↓reduceIte, true_and, and_true, Int32.reduceToNatClampNeg, zin_O, zi_ltO, zi_leO, zi_Olt, zi_Ole, zi_eqO, Nat.not_lt_zero, Nat.zero_le, List.append_nil, zrn_n, zrn_s, List.cons_append, List.nil_append, zlg_lt, zlg_gt, zlg_le, zlg_ge, zlg_eq, Int32.toInt_toInt64, Int64.reduceToInt, zw_zw, zw_sw1, zw_sw2, zw_sw3, zw_sw4, zw_sw5, zw_sw6, zw_sw7, ne_eq, zi_in, zi_cl, zi_le, zi_lt, zi_eq, zi_neg, zi_0le, zb_0, if_true, if_false, eq_self, zb_T, zb_F, Bool.false_eq_true, zO_eq, zO_ne1, zO_ne2, zO_nn, zi_ne1, zi_ne2, zi_lt1, zi_le1, zi_lt2, zi_le2, Int32.reduceLT, Int32.reduceLE, Nat.reduceLT, Nat.reduceLeDiff, Int32.reduceMul, Int32.reduceAdd, Int32.reduceSub, not_false_eq_true, not_true_eq_false, Int32.reduceToInt, Int.reduceLE, Int.reduceLT, Int.reduceNeg, ite_self, R_X0_run, X_run_27, X_run_36, X_run_68, X_run_109, zAB, zOW, SHF, PF, h3, h4, h5, zTc_4, zTc_5, show nI 0 = 0 from rfl, show nI 1 = 1 from rfl, show nI 2 = 2 from rfl, show nI 3 = 3 from rfl, show nI 4 = 4 from rfl, show nI 5 = 5 from rfl, show nI 6 = 6 from rfl, show nI 7 = 7 from rfl, hr, hr2, hm2, hm3, zi_s, zTc_1, E_X0_result, R_X0_result, q0]
  try rw [eM]
theorem ca_2_6 (ho : o < 8) (ih : ∀ a k, a < 4 → k < 8 → zCa f g t L o y F a k) : zCa f g t L o y (F + 1) 2 6 := by
  intro x J r m D Q hg h3 h4 h5 hl hm hD
  obtain ⟨D, rfl⟩ : ∃ D', D = D' + 2 := ⟨D - 2, by omega⟩
  have e : zsp o y (F + 1) 2 6 x = ([11], x ^^^ y) := rfl
  rw [e] at hl ⊢
  clear e
  simp only [List.length_cons, List.length_append, List.length_nil] at hl
  have hr : r < 24 := by omega
  have hr2 : ¬ 24 ≤ r := by omega
  have hm2 : m ≤ 40 := by omega
  have hm3 : ¬ 40 < m := by omega
  simp (disch := first | assumption | rfl | omega | decide | exact zb_01 _) only [zabs_e, zmax_e, zmin_e, zrf_s, zpush_s, zpush_n, zw_app, upd_app, updL_app, Nat.reduceEqDiff, Nat.add_left_cancel_iff, Nat.add_eq_left, Nat.left_eq_add, ↓reduceIte, true_and, and_true, Int32.reduceToNatClampNeg, zin_O, zi_ltO, zi_leO, zi_Olt, zi_Ole, zi_eqO, Nat.not_lt_zero, Nat.zero_le, List.append_nil, zrn_n, zrn_s, List.cons_append, List.nil_append, zlg_lt, zlg_gt, zlg_le, zlg_ge, zlg_eq, Int32.toInt_toInt64, Int64.reduceToInt, zw_zw, zw_sw1, zw_sw2, zw_sw3, zw_sw4, zw_sw5, zw_sw6, zw_sw7, ne_eq, zi_in, zi_cl, zi_le, zi_lt, zi_eq, zi_neg, zi_0le, zb_0, if_true, if_false, eq_self, zb_T, zb_F, Bool.false_eq_true, zO_eq, zO_ne1, zO_ne2, zO_nn, zi_ne1, zi_ne2, zi_lt1, zi_le1, zi_lt2, zi_le2, Int32.reduceLT, Int32.reduceLE, Nat.reduceLT, Nat.reduceLeDiff, Int32.reduceMul, Int32.reduceAdd, Int32.reduceSub, not_false_eq_true, not_true_eq_false, Int32.reduceToInt, Int.reduceLE, Int.reduceLT, Int.reduceNeg, ite_self, E_X0_run, R_X0_run, X_run_27, X_run_36, X_run_68, X_run_109, zAB, zOW, SHF, PF, h3, h4, h5, zTc_4, zTc_5, show nI 0 = 0 from rfl, show nI 1 = 1 from rfl, show nI 2 = 2 from rfl, show nI 3 = 3 from rfl, show nI 4 = 4 from rfl, show nI 5 = 5 from rfl, show nI 6 = 6 from rfl, show nI 7 = 7 from rfl, hr, hr2, hm2, hm3, zi_s, zTc_1]
  rw [H_X0_run_6]
  simp (disch := first | assumption | rfl | omega | decide | exact zb_01 _) only [zabs_e, zmax_e, zmin_e, zrf_s, zpush_s, zpush_n, zw_app, upd_app, updL_app, Nat.reduceEqDiff, Nat.add_left_cancel_iff, Nat.add_eq_left, Nat.left_eq_add, ↓reduceIte, true_and, and_true, Int32.reduceToNatClampNeg, zin_O, zi_ltO, zi_leO, zi_Olt, zi_Ole, zi_eqO, Nat.not_lt_zero, Nat.zero_le, List.append_nil, zrn_n, zrn_s, List.cons_append, List.nil_append, zlg_lt, zlg_gt, zlg_le, zlg_ge, zlg_eq, Int32.toInt_toInt64, Int64.reduceToInt, zw_zw, zw_sw1, zw_sw2, zw_sw3, zw_sw4, zw_sw5, zw_sw6, zw_sw7, ne_eq, zi_in, zi_cl, zi_le, zi_lt, zi_eq, zi_neg, zi_0le, zb_0, if_true, if_false, eq_self, zb_T, zb_F, Bool.false_eq_true, zO_eq, zO_ne1, zO_ne2, zO_nn, zi_ne1, zi_ne2, zi_lt1, zi_le1, zi_lt2, zi_le2, Int32.reduceLT, Int32.reduceLE, Nat.reduceLT, Nat.reduceLeDiff, Int32.reduceMul, Int32.reduceAdd, Int32.reduceSub, not_false_eq_true, not_true_eq_false, Int32.reduceToInt, Int.reduceLE, Int.reduceLT, Int.reduceNeg, ite_self, R_X0_run, X_run_27, X_run_36, X_run_68, X_run_109, zAB, zOW, SHF, PF, h3, h4, h5, zTc_4, zTc_5, show nI 0 = 0 from rfl, show nI 1 = 1 from rfl, show nI 2 = 2 from rfl, show nI 3 = 3 from rfl, show nI 4 = 4 from rfl, show nI 5 = 5 from rfl, show nI 6 = 6 from rfl, show nI 7 = 7 from rfl, hr, hr2, hm2, hm3, zi_s, zTc_1]
  rw [H_X0_run_6]
  simp (disch := first | assumption | rfl | omega | decide | exact zb_01 _) only [zabs_e, zmax_e, zmin_e, zrf_s, zpush_s, zpush_n, zw_app, upd_app, updL_app, Nat.reduceEqDiff, Nat.add_left_cancel_iff, Nat.add_eq_left, Nat.left_eq_add, ↓reduceIte, true_and, and_true, Int32.reduceToNatClampNeg, zin_O, zi_ltO, zi_leO, zi_Olt, zi_Ole, zi_eqO, Nat.not_lt_zero, Nat.zero_le, List.append_nil, zrn_n, zrn_s, List.cons_append, List.nil_append, zlg_lt, zlg_gt, zlg_le, zlg_ge, zlg_eq, Int32.toInt_toInt64, Int64.reduceToInt, zw_zw, zw_sw1, zw_sw2, zw_sw3, zw_sw4, zw_sw5, zw_sw6, zw_sw7, ne_eq, zi_in, zi_cl, zi_le, zi_lt, zi_eq, zi_neg, zi_0le, zb_0, if_true, if_false, eq_self, zb_T, zb_F, Bool.false_eq_true, zO_eq, zO_ne1, zO_ne2, zO_nn, zi_ne1, zi_ne2, zi_lt1, zi_le1, zi_lt2, zi_le2, Int32.reduceLT, Int32.reduceLE, Nat.reduceLT, Nat.reduceLeDiff, Int32.reduceMul, Int32.reduceAdd, Int32.reduceSub, not_false_eq_true, not_true_eq_false, Int32.reduceToInt, Int.reduceLE, Int.reduceLT, Int.reduceNeg, ite_self, R_X0_run, X_run_27, X_run_36, X_run_68, X_run_109, zAB, zOW, SHF, PF, h3, h4, h5, zTc_4, zTc_5, show nI 0 = 0 from rfl, show nI 1 = 1 from rfl, show nI 2 = 2 from rfl, show nI 3 = 3 from rfl, show nI 4 = 4 from rfl, show nI 5 = 5 from rfl, show nI 6 = 6 from rfl, show nI 7 = 7 from rfl, hr, hr2, hm2, hm3, zi_s, zTc_1, E_X0_result, R_X0_result]
  try rfl
theorem ca_2_7 (ho : o < 8) (ih : ∀ a k, a < 4 → k < 8 → zCa f g t L o y F a k) : zCa f g t L o y (F + 1) 2 7 := by
  intro x J r m D Q hg h3 h4 h5 hl hm hD
  obtain ⟨D, rfl⟩ : ∃ D', D = D' + 2 := ⟨D - 2, by omega⟩
  have e : zsp o y (F + 1) 2 7 x = (50 :: ((zsp o y F 2 1 (x)).1 ++ (zsp o y F 0 o (2)).1), (zsp o y F 2 1 (x)).2 - (zsp o y F 0 o (2)).2) := rfl
  rw [e] at hl ⊢
  clear e
  have hg : (zgd o F 2 1 && zgd o F 0 o) = true := hg
  rw [Bool.and_eq_true] at hg
  simp only [List.length_cons, List.length_append, List.length_nil] at hl
  have hr : r < 24 := by omega
  have hr2 : ¬ 24 ≤ r := by omega
  have hm2 : m ≤ 40 := by omega
  have hm3 : ¬ 40 < m := by omega
  have q0 := fun Q => ih 2 1 (by decide) (by decide) (x) (zTc J r [50]) (r + 1) (m + 1) D Q hg.1 rfl h4 h5 (by omega) (by omega) (by omega)
  have q1 := fun Q => ih 0 o (by decide) ho (2) (zTc (zTc J r [50]) (r + 1) (zsp o y F 2 1 (x)).1) (r + 1 + (zsp o y F 2 1 (x)).1.length) (m + 1) D Q hg.2 rfl h4 h5 (by omega) (by omega) (by omega)
  have eM : (zTc (zTc (zTc J r [50]) (r + 1) (zsp o y F 2 1 (x)).1) (r + 1 + (zsp o y F 2 1 (x)).1.length) (zsp o y F 0 o (2)).1) = zTc J r (50 :: ((zsp o y F 2 1 (x)).1 ++ (zsp o y F 0 o (2)).1)) := by
    rw [show zTc (zTc J r [50]) (r + 1) (zsp o y F 2 1 (x)).1 = zTc J r ([50] ++ (zsp o y F 2 1 (x)).1) from zTc_a (cs := [50]), show r + 1 + (zsp o y F 2 1 (x)).1.length = r + ([50] ++ (zsp o y F 2 1 (x)).1).length by rw [List.length_append]; exact (Nat.add_assoc _ _ _)]
    exact zTc_a
  simp (disch := first | assumption | rfl | omega | decide | exact zb_01 _) only [zabs_e, zmax_e, zmin_e, zrf_s, zpush_s, zpush_n, zw_app, upd_app, updL_app, Nat.reduceEqDiff, Nat.add_left_cancel_iff, Nat.add_eq_left, Nat.left_eq_add, ↓reduceIte, true_and, and_true, Int32.reduceToNatClampNeg, zin_O, zi_ltO, zi_leO, zi_Olt, zi_Ole, zi_eqO, Nat.not_lt_zero, Nat.zero_le, List.append_nil, zrn_n, zrn_s, List.cons_append, List.nil_append, zlg_lt, zlg_gt, zlg_le, zlg_ge, zlg_eq, Int32.toInt_toInt64, Int64.reduceToInt, zw_zw, zw_sw1, zw_sw2, zw_sw3, zw_sw4, zw_sw5, zw_sw6, zw_sw7, ne_eq, zi_in, zi_cl, zi_le, zi_lt, zi_eq, zi_neg, zi_0le, zb_0, if_true, if_false, eq_self, zb_T, zb_F, Bool.false_eq_true, zO_eq, zO_ne1, zO_ne2, zO_nn, zi_ne1, zi_ne2, zi_lt1, zi_le1, zi_lt2, zi_le2, Int32.reduceLT, Int32.reduceLE, Nat.reduceLT, Nat.reduceLeDiff, Int32.reduceMul, Int32.reduceAdd, Int32.reduceSub, not_false_eq_true, not_true_eq_false, Int32.reduceToInt, Int.reduceLE, Int.reduceLT, Int.reduceNeg, ite_self, E_X0_run, R_X0_run, X_run_27, X_run_36, X_run_68, X_run_109, zAB, zOW, SHF, PF, h3, h4, h5, zTc_4, zTc_5, show nI 0 = 0 from rfl, show nI 1 = 1 from rfl, show nI 2 = 2 from rfl, show nI 3 = 3 from rfl, show nI 4 = 4 from rfl, show nI 5 = 5 from rfl, show nI 6 = 6 from rfl, show nI 7 = 7 from rfl, hr, hr2, hm2, hm3, zi_s, zTc_1]
  rw [H_X0_run_6]
  simp (disch := first | assumption | rfl | omega | decide | exact zb_01 _) only [zabs_e, zmax_e, zmin_e, zrf_s, zpush_s, zpush_n, zw_app, upd_app, updL_app, Nat.reduceEqDiff, Nat.add_left_cancel_iff, Nat.add_eq_left, Nat.left_eq_add, ↓reduceIte, true_and, and_true, Int32.reduceToNatClampNeg, zin_O, zi_ltO, zi_leO, zi_Olt, zi_Ole, zi_eqO, Nat.not_lt_zero, Nat.zero_le, List.append_nil, zrn_n, zrn_s, List.cons_append, List.nil_append, zlg_lt, zlg_gt, zlg_le, zlg_ge, zlg_eq, Int32.toInt_toInt64, Int64.reduceToInt, zw_zw, zw_sw1, zw_sw2, zw_sw3, zw_sw4, zw_sw5, zw_sw6, zw_sw7, ne_eq, zi_in, zi_cl, zi_le, zi_lt, zi_eq, zi_neg, zi_0le, zb_0, if_true, if_false, eq_self, zb_T, zb_F, Bool.false_eq_true, zO_eq, zO_ne1, zO_ne2, zO_nn, zi_ne1, zi_ne2, zi_lt1, zi_le1, zi_lt2, zi_le2, Int32.reduceLT, Int32.reduceLE, Nat.reduceLT, Nat.reduceLeDiff, Int32.reduceMul, Int32.reduceAdd, Int32.reduceSub, not_false_eq_true, not_true_eq_false, Int32.reduceToInt, Int.reduceLE, Int.reduceLT, Int.reduceNeg, ite_self, R_X0_run, X_run_27, X_run_36, X_run_68, X_run_109, zAB, zOW, SHF, PF, h3, h4, h5, zTc_4, zTc_5, show nI 0 = 0 from rfl, show nI 1 = 1 from rfl, show nI 2 = 2 from rfl, show nI 3 = 3 from rfl, show nI 4 = 4 from rfl, show nI 5 = 5 from rfl, show nI 6 = 6 from rfl, show nI 7 = 7 from rfl, hr, hr2, hm2, hm3, zi_s, zTc_1]
  rw [H_X0_run_6]
  simp only [show nI 0 = 0 from rfl, show nI 1 = 1 from rfl, show nI 2 = 2 from rfl, show nI 3 = 3 from rfl, show nI 4 = 4 from rfl, show nI 5 = 5 from rfl, show nI 6 = 6 from rfl, show nI 7 = 7 from rfl] at q0 q1
  simp (disch := first | assumption | rfl | omega | decide | exact zb_01 _) only [zabs_e, zmax_e, zmin_e, zrf_s, zpush_s, zpush_n, zw_app, upd_app, updL_app, Nat.reduceEqDiff, Nat.add_left_cancel_iff, Nat.add_eq_left, Nat.left_eq_add, ↓reduceIte, true_and, and_true, Int32.reduceToNatClampNeg, zin_O, zi_ltO, zi_leO, zi_Olt, zi_Ole, zi_eqO, Nat.not_lt_zero, Nat.zero_le, List.append_nil, zrn_n, zrn_s, List.cons_append, List.nil_append, zlg_lt, zlg_gt, zlg_le, zlg_ge, zlg_eq, Int32.toInt_toInt64, Int64.reduceToInt, zw_zw, zw_sw1, zw_sw2, zw_sw3, zw_sw4, zw_sw5, zw_sw6, zw_sw7, ne_eq, zi_in, zi_cl, zi_le, zi_lt, zi_eq, zi_neg, zi_0le, zb_0, if_true, if_false, eq_self, zb_T, zb_F, Bool.false_eq_true, zO_eq, zO_ne1, zO_ne2, zO_nn, zi_ne1, zi_ne2, zi_lt1, zi_le1, zi_lt2, zi_le2, Int32.reduceLT, Int32.reduceLE, Nat.reduceLT, Nat.reduceLeDiff, Int32.reduceMul, Int32.reduceAdd, Int32.reduceSub, not_false_eq_true, not_true_eq_false, Int32.reduceToInt, Int.reduceLE, Int.reduceLT, Int.reduceNeg, ite_self, R_X0_run, X_run_27, X_run_36, X_run_68, X_run_109, zAB, zOW, SHF, PF, h3, h4, h5, zTc_4, zTc_5, show nI 0 = 0 from rfl, show nI 1 = 1 from rfl, show nI 2 = 2 from rfl, show nI 3 = 3 from rfl, show nI 4 = 4 from rfl, show nI 5 = 5 from rfl, show nI 6 = 6 from rfl, show nI 7 = 7 from rfl, hr, hr2, hm2, hm3, zi_s, zTc_1, E_X0_result, R_X0_result, q0, q1]
  try rw [eM]
theorem ca_3_0 (ho : o < 8) (ih : ∀ a k, a < 4 → k < 8 → zCa f g t L o y F a k) : zCa f g t L o y (F + 1) 3 0 := by
  intro x J r m D Q hg h3 h4 h5 hl hm hD
  obtain ⟨D, rfl⟩ : ∃ D', D = D' + 2 := ⟨D - 2, by omega⟩
  have e : zsp o y (F + 1) 3 0 x = (2 :: ((zsp o y F 1 o (x)).1 ++ (zsp o y F 2 o (1)).1), (zsp o y F 1 o (x)).2 - (zsp o y F 2 o (1)).2) := rfl
  rw [e] at hl ⊢
  clear e
  have hg : (zgd o F 1 o && zgd o F 2 o) = true := hg
  rw [Bool.and_eq_true] at hg
  simp only [List.length_cons, List.length_append, List.length_nil] at hl
  have hr : r < 24 := by omega
  have hr2 : ¬ 24 ≤ r := by omega
  have hm2 : m ≤ 40 := by omega
  have hm3 : ¬ 40 < m := by omega
  have q0 := fun Q => ih 1 o (by decide) ho (x) (zTc J r [2]) (r + 1) (m + 1) D Q hg.1 rfl h4 h5 (by omega) (by omega) (by omega)
  have q1 := fun Q => ih 2 o (by decide) ho (1) (zTc (zTc J r [2]) (r + 1) (zsp o y F 1 o (x)).1) (r + 1 + (zsp o y F 1 o (x)).1.length) (m + 1) D Q hg.2 rfl h4 h5 (by omega) (by omega) (by omega)
  have eM : (zTc (zTc (zTc J r [2]) (r + 1) (zsp o y F 1 o (x)).1) (r + 1 + (zsp o y F 1 o (x)).1.length) (zsp o y F 2 o (1)).1) = zTc J r (2 :: ((zsp o y F 1 o (x)).1 ++ (zsp o y F 2 o (1)).1)) := by
    rw [show zTc (zTc J r [2]) (r + 1) (zsp o y F 1 o (x)).1 = zTc J r ([2] ++ (zsp o y F 1 o (x)).1) from zTc_a (cs := [2]), show r + 1 + (zsp o y F 1 o (x)).1.length = r + ([2] ++ (zsp o y F 1 o (x)).1).length by rw [List.length_append]; exact (Nat.add_assoc _ _ _)]
    exact zTc_a
  simp (disch := first | assumption | rfl | omega | decide | exact zb_01 _) only [zabs_e, zmax_e, zmin_e, zrf_s, zpush_s, zpush_n, zw_app, upd_app, updL_app, Nat.reduceEqDiff, Nat.add_left_cancel_iff, Nat.add_eq_left, Nat.left_eq_add, ↓reduceIte, true_and, and_true, Int32.reduceToNatClampNeg, zin_O, zi_ltO, zi_leO, zi_Olt, zi_Ole, zi_eqO, Nat.not_lt_zero, Nat.zero_le, List.append_nil, zrn_n, zrn_s, List.cons_append, List.nil_append, zlg_lt, zlg_gt, zlg_le, zlg_ge, zlg_eq, Int32.toInt_toInt64, Int64.reduceToInt, zw_zw, zw_sw1, zw_sw2, zw_sw3, zw_sw4, zw_sw5, zw_sw6, zw_sw7, ne_eq, zi_in, zi_cl, zi_le, zi_lt, zi_eq, zi_neg, zi_0le, zb_0, if_true, if_false, eq_self, zb_T, zb_F, Bool.false_eq_true, zO_eq, zO_ne1, zO_ne2, zO_nn, zi_ne1, zi_ne2, zi_lt1, zi_le1, zi_lt2, zi_le2, Int32.reduceLT, Int32.reduceLE, Nat.reduceLT, Nat.reduceLeDiff, Int32.reduceMul, Int32.reduceAdd, Int32.reduceSub, not_false_eq_true, not_true_eq_false, Int32.reduceToInt, Int.reduceLE, Int.reduceLT, Int.reduceNeg, ite_self, E_X0_run, R_X0_run, X_run_27, X_run_36, X_run_68, X_run_109, zAB, zOW, SHF, PF, h3, h4, h5, zTc_4, zTc_5, show nI 0 = 0 from rfl, show nI 1 = 1 from rfl, show nI 2 = 2 from rfl, show nI 3 = 3 from rfl, show nI 4 = 4 from rfl, show nI 5 = 5 from rfl, show nI 6 = 6 from rfl, show nI 7 = 7 from rfl, hr, hr2, hm2, hm3, zi_s, zTc_1]
  rw [H_X0_run_6]
  simp only [show nI 0 = 0 from rfl, show nI 1 = 1 from rfl, show nI 2 = 2 from rfl, show nI 3 = 3 from rfl, show nI 4 = 4 from rfl, show nI 5 = 5 from rfl, show nI 6 = 6 from rfl, show nI 7 = 7 from rfl] at q0 q1
  simp (disch := first | assumption | rfl | omega | decide | exact zb_01 _) only [zabs_e, zmax_e, zmin_e, zrf_s, zpush_s, zpush_n, zw_app, upd_app, updL_app, Nat.reduceEqDiff, Nat.add_left_cancel_iff, Nat.add_eq_left, Nat.left_eq_add, ↓reduceIte, true_and, and_true, Int32.reduceToNatClampNeg, zin_O, zi_ltO, zi_leO, zi_Olt, zi_Ole, zi_eqO, Nat.not_lt_zero, Nat.zero_le, List.append_nil, zrn_n, zrn_s, List.cons_append, List.nil_append, zlg_lt, zlg_gt, zlg_le, zlg_ge, zlg_eq, Int32.toInt_toInt64, Int64.reduceToInt, zw_zw, zw_sw1, zw_sw2, zw_sw3, zw_sw4, zw_sw5, zw_sw6, zw_sw7, ne_eq, zi_in, zi_cl, zi_le, zi_lt, zi_eq, zi_neg, zi_0le, zb_0, if_true, if_false, eq_self, zb_T, zb_F, Bool.false_eq_true, zO_eq, zO_ne1, zO_ne2, zO_nn, zi_ne1, zi_ne2, zi_lt1, zi_le1, zi_lt2, zi_le2, Int32.reduceLT, Int32.reduceLE, Nat.reduceLT, Nat.reduceLeDiff, Int32.reduceMul, Int32.reduceAdd, Int32.reduceSub, not_false_eq_true, not_true_eq_false, Int32.reduceToInt, Int.reduceLE, Int.reduceLT, Int.reduceNeg, ite_self, R_X0_run, X_run_27, X_run_36, X_run_68, X_run_109, zAB, zOW, SHF, PF, h3, h4, h5, zTc_4, zTc_5, show nI 0 = 0 from rfl, show nI 1 = 1 from rfl, show nI 2 = 2 from rfl, show nI 3 = 3 from rfl, show nI 4 = 4 from rfl, show nI 5 = 5 from rfl, show nI 6 = 6 from rfl, show nI 7 = 7 from rfl, hr, hr2, hm2, hm3, zi_s, zTc_1, E_X0_result, R_X0_result, q0, q1]
  try rw [eM]
theorem ca_3_1 (ho : o < 8) (ih : ∀ a k, a < 4 → k < 8 → zCa f g t L o y F a k) : zCa f g t L o y (F + 1) 3 1 := by
  intro x J r m D Q hg h3 h4 h5 hl hm hD
  obtain ⟨D, rfl⟩ : ∃ D', D = D' + 2 := ⟨D - 2, by omega⟩
  have e : zsp o y (F + 1) 3 1 x = (2 :: ((zsp o y F 1 o (x)).1 ++ (zsp o y F 2 o (1)).1), (zsp o y F 1 o (x)).2 - (zsp o y F 2 o (1)).2) := rfl
  rw [e] at hl ⊢
  clear e
  have hg : (zgd o F 1 o && zgd o F 2 o) = true := hg
  rw [Bool.and_eq_true] at hg
  simp only [List.length_cons, List.length_append, List.length_nil] at hl
  have hr : r < 24 := by omega
  have hr2 : ¬ 24 ≤ r := by omega
  have hm2 : m ≤ 40 := by omega
  have hm3 : ¬ 40 < m := by omega
  have q0 := fun Q => ih 1 o (by decide) ho (x) (zTc J r [2]) (r + 1) (m + 1) D Q hg.1 rfl h4 h5 (by omega) (by omega) (by omega)
  have q1 := fun Q => ih 2 o (by decide) ho (1) (zTc (zTc J r [2]) (r + 1) (zsp o y F 1 o (x)).1) (r + 1 + (zsp o y F 1 o (x)).1.length) (m + 1) D Q hg.2 rfl h4 h5 (by omega) (by omega) (by omega)
  have eM : (zTc (zTc (zTc J r [2]) (r + 1) (zsp o y F 1 o (x)).1) (r + 1 + (zsp o y F 1 o (x)).1.length) (zsp o y F 2 o (1)).1) = zTc J r (2 :: ((zsp o y F 1 o (x)).1 ++ (zsp o y F 2 o (1)).1)) := by
    rw [show zTc (zTc J r [2]) (r + 1) (zsp o y F 1 o (x)).1 = zTc J r ([2] ++ (zsp o y F 1 o (x)).1) from zTc_a (cs := [2]), show r + 1 + (zsp o y F 1 o (x)).1.length = r + ([2] ++ (zsp o y F 1 o (x)).1).length by rw [List.length_append]; exact (Nat.add_assoc _ _ _)]
    exact zTc_a
  simp (disch := first | assumption | rfl | omega | decide | exact zb_01 _) only [zabs_e, zmax_e, zmin_e, zrf_s, zpush_s, zpush_n, zw_app, upd_app, updL_app, Nat.reduceEqDiff, Nat.add_left_cancel_iff, Nat.add_eq_left, Nat.left_eq_add, ↓reduceIte, true_and, and_true, Int32.reduceToNatClampNeg, zin_O, zi_ltO, zi_leO, zi_Olt, zi_Ole, zi_eqO, Nat.not_lt_zero, Nat.zero_le, List.append_nil, zrn_n, zrn_s, List.cons_append, List.nil_append, zlg_lt, zlg_gt, zlg_le, zlg_ge, zlg_eq, Int32.toInt_toInt64, Int64.reduceToInt, zw_zw, zw_sw1, zw_sw2, zw_sw3, zw_sw4, zw_sw5, zw_sw6, zw_sw7, ne_eq, zi_in, zi_cl, zi_le, zi_lt, zi_eq, zi_neg, zi_0le, zb_0, if_true, if_false, eq_self, zb_T, zb_F, Bool.false_eq_true, zO_eq, zO_ne1, zO_ne2, zO_nn, zi_ne1, zi_ne2, zi_lt1, zi_le1, zi_lt2, zi_le2, Int32.reduceLT, Int32.reduceLE, Nat.reduceLT, Nat.reduceLeDiff, Int32.reduceMul, Int32.reduceAdd, Int32.reduceSub, not_false_eq_true, not_true_eq_false, Int32.reduceToInt, Int.reduceLE, Int.reduceLT, Int.reduceNeg, ite_self, E_X0_run, R_X0_run, X_run_27, X_run_36, X_run_68, X_run_109, zAB, zOW, SHF, PF, h3, h4, h5, zTc_4, zTc_5, show nI 0 = 0 from rfl, show nI 1 = 1 from rfl, show nI 2 = 2 from rfl, show nI 3 = 3 from rfl, show nI 4 = 4 from rfl, show nI 5 = 5 from rfl, show nI 6 = 6 from rfl, show nI 7 = 7 from rfl, hr, hr2, hm2, hm3, zi_s, zTc_1]
  rw [H_X0_run_6]
  simp (disch := first | assumption | rfl | omega | decide | exact zb_01 _) only [zabs_e, zmax_e, zmin_e, zrf_s, zpush_s, zpush_n, zw_app, upd_app, updL_app, Nat.reduceEqDiff, Nat.add_left_cancel_iff, Nat.add_eq_left, Nat.left_eq_add, ↓reduceIte, true_and, and_true, Int32.reduceToNatClampNeg, zin_O, zi_ltO, zi_leO, zi_Olt, zi_Ole, zi_eqO, Nat.not_lt_zero, Nat.zero_le, List.append_nil, zrn_n, zrn_s, List.cons_append, List.nil_append, zlg_lt, zlg_gt, zlg_le, zlg_ge, zlg_eq, Int32.toInt_toInt64, Int64.reduceToInt, zw_zw, zw_sw1, zw_sw2, zw_sw3, zw_sw4, zw_sw5, zw_sw6, zw_sw7, ne_eq, zi_in, zi_cl, zi_le, zi_lt, zi_eq, zi_neg, zi_0le, zb_0, if_true, if_false, eq_self, zb_T, zb_F, Bool.false_eq_true, zO_eq, zO_ne1, zO_ne2, zO_nn, zi_ne1, zi_ne2, zi_lt1, zi_le1, zi_lt2, zi_le2, Int32.reduceLT, Int32.reduceLE, Nat.reduceLT, Nat.reduceLeDiff, Int32.reduceMul, Int32.reduceAdd, Int32.reduceSub, not_false_eq_true, not_true_eq_false, Int32.reduceToInt, Int.reduceLE, Int.reduceLT, Int.reduceNeg, ite_self, R_X0_run, X_run_27, X_run_36, X_run_68, X_run_109, zAB, zOW, SHF, PF, h3, h4, h5, zTc_4, zTc_5, show nI 0 = 0 from rfl, show nI 1 = 1 from rfl, show nI 2 = 2 from rfl, show nI 3 = 3 from rfl, show nI 4 = 4 from rfl, show nI 5 = 5 from rfl, show nI 6 = 6 from rfl, show nI 7 = 7 from rfl, hr, hr2, hm2, hm3, zi_s, zTc_1]
  rw [H_X0_run_6]
  simp only [show nI 0 = 0 from rfl, show nI 1 = 1 from rfl, show nI 2 = 2 from rfl, show nI 3 = 3 from rfl, show nI 4 = 4 from rfl, show nI 5 = 5 from rfl, show nI 6 = 6 from rfl, show nI 7 = 7 from rfl] at q0 q1
  simp (disch := first | assumption | rfl | omega | decide | exact zb_01 _) only [zabs_e, zmax_e, zmin_e, zrf_s, zpush_s, zpush_n, zw_app, upd_app, updL_app, Nat.reduceEqDiff, Nat.add_left_cancel_iff, Nat.add_eq_left, Nat.left_eq_add, ↓reduceIte, true_and, and_true, Int32.reduceToNatClampNeg, zin_O, zi_ltO, zi_leO, zi_Olt, zi_Ole, zi_eqO, Nat.not_lt_zero, Nat.zero_le, List.append_nil, zrn_n, zrn_s, List.cons_append, List.nil_append, zlg_lt, zlg_gt, zlg_le, zlg_ge, zlg_eq, Int32.toInt_toInt64, Int64.reduceToInt, zw_zw, zw_sw1, zw_sw2, zw_sw3, zw_sw4, zw_sw5, zw_sw6, zw_sw7, ne_eq, zi_in, zi_cl, zi_le, zi_lt, zi_eq, zi_neg, zi_0le, zb_0, if_true, if_false, eq_self, zb_T, zb_F, Bool.false_eq_true, zO_eq, zO_ne1, zO_ne2, zO_nn, zi_ne1, zi_ne2, zi_lt1, zi_le1, zi_lt2, zi_le2, Int32.reduceLT, Int32.reduceLE, Nat.reduceLT, Nat.reduceLeDiff, Int32.reduceMul, Int32.reduceAdd, Int32.reduceSub, not_false_eq_true, not_true_eq_false, Int32.reduceToInt, Int.reduceLE, Int.reduceLT, Int.reduceNeg, ite_self, R_X0_run, X_run_27, X_run_36, X_run_68, X_run_109, zAB, zOW, SHF, PF, h3, h4, h5, zTc_4, zTc_5, show nI 0 = 0 from rfl, show nI 1 = 1 from rfl, show nI 2 = 2 from rfl, show nI 3 = 3 from rfl, show nI 4 = 4 from rfl, show nI 5 = 5 from rfl, show nI 6 = 6 from rfl, show nI 7 = 7 from rfl, hr, hr2, hm2, hm3, zi_s, zTc_1, E_X0_result, R_X0_result, q0, q1]
  try rw [eM]
theorem ca_3_2 (ho : o < 8) (ih : ∀ a k, a < 4 → k < 8 → zCa f g t L o y F a k) : zCa f g t L o y (F + 1) 3 2 := by
  intro x J r m D Q hg h3 h4 h5 hl hm hD
  obtain ⟨D, rfl⟩ : ∃ D', D = D' + 2 := ⟨D - 2, by omega⟩
  have e : zsp o y (F + 1) 3 2 x = (2 :: ((zsp o y F 1 o (x)).1 ++ (zsp o y F 2 o (1)).1), (zsp o y F 1 o (x)).2 - (zsp o y F 2 o (1)).2) := rfl
  rw [e] at hl ⊢
  clear e
  have hg : (zgd o F 1 o && zgd o F 2 o) = true := hg
  rw [Bool.and_eq_true] at hg
  simp only [List.length_cons, List.length_append, List.length_nil] at hl
  have hr : r < 24 := by omega
  have hr2 : ¬ 24 ≤ r := by omega
  have hm2 : m ≤ 40 := by omega
  have hm3 : ¬ 40 < m := by omega
  have q0 := fun Q => ih 1 o (by decide) ho (x) (zTc J r [2]) (r + 1) (m + 1) D Q hg.1 rfl h4 h5 (by omega) (by omega) (by omega)
  have q1 := fun Q => ih 2 o (by decide) ho (1) (zTc (zTc J r [2]) (r + 1) (zsp o y F 1 o (x)).1) (r + 1 + (zsp o y F 1 o (x)).1.length) (m + 1) D Q hg.2 rfl h4 h5 (by omega) (by omega) (by omega)
  have eM : (zTc (zTc (zTc J r [2]) (r + 1) (zsp o y F 1 o (x)).1) (r + 1 + (zsp o y F 1 o (x)).1.length) (zsp o y F 2 o (1)).1) = zTc J r (2 :: ((zsp o y F 1 o (x)).1 ++ (zsp o y F 2 o (1)).1)) := by
    rw [show zTc (zTc J r [2]) (r + 1) (zsp o y F 1 o (x)).1 = zTc J r ([2] ++ (zsp o y F 1 o (x)).1) from zTc_a (cs := [2]), show r + 1 + (zsp o y F 1 o (x)).1.length = r + ([2] ++ (zsp o y F 1 o (x)).1).length by rw [List.length_append]; exact (Nat.add_assoc _ _ _)]
    exact zTc_a
  simp (disch := first | assumption | rfl | omega | decide | exact zb_01 _) only [zabs_e, zmax_e, zmin_e, zrf_s, zpush_s, zpush_n, zw_app, upd_app, updL_app, Nat.reduceEqDiff, Nat.add_left_cancel_iff, Nat.add_eq_left, Nat.left_eq_add, ↓reduceIte, true_and, and_true, Int32.reduceToNatClampNeg, zin_O, zi_ltO, zi_leO, zi_Olt, zi_Ole, zi_eqO, Nat.not_lt_zero, Nat.zero_le, List.append_nil, zrn_n, zrn_s, List.cons_append, List.nil_append, zlg_lt, zlg_gt, zlg_le, zlg_ge, zlg_eq, Int32.toInt_toInt64, Int64.reduceToInt, zw_zw, zw_sw1, zw_sw2, zw_sw3, zw_sw4, zw_sw5, zw_sw6, zw_sw7, ne_eq, zi_in, zi_cl, zi_le, zi_lt, zi_eq, zi_neg, zi_0le, zb_0, if_true, if_false, eq_self, zb_T, zb_F, Bool.false_eq_true, zO_eq, zO_ne1, zO_ne2, zO_nn, zi_ne1, zi_ne2, zi_lt1, zi_le1, zi_lt2, zi_le2, Int32.reduceLT, Int32.reduceLE, Nat.reduceLT, Nat.reduceLeDiff, Int32.reduceMul, Int32.reduceAdd, Int32.reduceSub, not_false_eq_true, not_true_eq_false, Int32.reduceToInt, Int.reduceLE, Int.reduceLT, Int.reduceNeg, ite_self, E_X0_run, R_X0_run, X_run_27, X_run_36, X_run_68, X_run_109, zAB, zOW, SHF, PF, h3, h4, h5, zTc_4, zTc_5, show nI 0 = 0 from rfl, show nI 1 = 1 from rfl, show nI 2 = 2 from rfl, show nI 3 = 3 from rfl, show nI 4 = 4 from rfl, show nI 5 = 5 from rfl, show nI 6 = 6 from rfl, show nI 7 = 7 from rfl, hr, hr2, hm2, hm3, zi_s, zTc_1]
  rw [H_X0_run_6]
  simp (disch := first | assumption | rfl | omega | decide | exact zb_01 _) only [zabs_e, zmax_e, zmin_e, zrf_s, zpush_s, zpush_n, zw_app, upd_app, updL_app, Nat.reduceEqDiff, Nat.add_left_cancel_iff, Nat.add_eq_left, Nat.left_eq_add, ↓reduceIte, true_and, and_true, Int32.reduceToNatClampNeg, zin_O, zi_ltO, zi_leO, zi_Olt, zi_Ole, zi_eqO, Nat.not_lt_zero, Nat.zero_le, List.append_nil, zrn_n, zrn_s, List.cons_append, List.nil_append, zlg_lt, zlg_gt, zlg_le, zlg_ge, zlg_eq, Int32.toInt_toInt64, Int64.reduceToInt, zw_zw, zw_sw1, zw_sw2, zw_sw3, zw_sw4, zw_sw5, zw_sw6, zw_sw7, ne_eq, zi_in, zi_cl, zi_le, zi_lt, zi_eq, zi_neg, zi_0le, zb_0, if_true, if_false, eq_self, zb_T, zb_F, Bool.false_eq_true, zO_eq, zO_ne1, zO_ne2, zO_nn, zi_ne1, zi_ne2, zi_lt1, zi_le1, zi_lt2, zi_le2, Int32.reduceLT, Int32.reduceLE, Nat.reduceLT, Nat.reduceLeDiff, Int32.reduceMul, Int32.reduceAdd, Int32.reduceSub, not_false_eq_true, not_true_eq_false, Int32.reduceToInt, Int.reduceLE, Int.reduceLT, Int.reduceNeg, ite_self, R_X0_run, X_run_27, X_run_36, X_run_68, X_run_109, zAB, zOW, SHF, PF, h3, h4, h5, zTc_4, zTc_5, show nI 0 = 0 from rfl, show nI 1 = 1 from rfl, show nI 2 = 2 from rfl, show nI 3 = 3 from rfl, show nI 4 = 4 from rfl, show nI 5 = 5 from rfl, show nI 6 = 6 from rfl, show nI 7 = 7 from rfl, hr, hr2, hm2, hm3, zi_s, zTc_1]
  rw [H_X0_run_6]
  simp only [show nI 0 = 0 from rfl, show nI 1 = 1 from rfl, show nI 2 = 2 from rfl, show nI 3 = 3 from rfl, show nI 4 = 4 from rfl, show nI 5 = 5 from rfl, show nI 6 = 6 from rfl, show nI 7 = 7 from rfl] at q0 q1
  simp (disch := first | assumption | rfl | omega | decide | exact zb_01 _) only [zabs_e, zmax_e, zmin_e, zrf_s, zpush_s, zpush_n, zw_app, upd_app, updL_app, Nat.reduceEqDiff, Nat.add_left_cancel_iff, Nat.add_eq_left, Nat.left_eq_add, ↓reduceIte, true_and, and_true, Int32.reduceToNatClampNeg, zin_O, zi_ltO, zi_leO, zi_Olt, zi_Ole, zi_eqO, Nat.not_lt_zero, Nat.zero_le, List.append_nil, zrn_n, zrn_s, List.cons_append, List.nil_append, zlg_lt, zlg_gt, zlg_le, zlg_ge, zlg_eq, Int32.toInt_toInt64, Int64.reduceToInt, zw_zw, zw_sw1, zw_sw2, zw_sw3, zw_sw4, zw_sw5, zw_sw6, zw_sw7, ne_eq, zi_in, zi_cl, zi_le, zi_lt, zi_eq, zi_neg, zi_0le, zb_0, if_true, if_false, eq_self, zb_T, zb_F, Bool.false_eq_true, zO_eq, zO_ne1, zO_ne2, zO_nn, zi_ne1, zi_ne2, zi_lt1, zi_le1, zi_lt2, zi_le2, Int32.reduceLT, Int32.reduceLE, Nat.reduceLT, Nat.reduceLeDiff, Int32.reduceMul, Int32.reduceAdd, Int32.reduceSub, not_false_eq_true, not_true_eq_false, Int32.reduceToInt, Int.reduceLE, Int.reduceLT, Int.reduceNeg, ite_self, R_X0_run, X_run_27, X_run_36, X_run_68, X_run_109, zAB, zOW, SHF, PF, h3, h4, h5, zTc_4, zTc_5, show nI 0 = 0 from rfl, show nI 1 = 1 from rfl, show nI 2 = 2 from rfl, show nI 3 = 3 from rfl, show nI 4 = 4 from rfl, show nI 5 = 5 from rfl, show nI 6 = 6 from rfl, show nI 7 = 7 from rfl, hr, hr2, hm2, hm3, zi_s, zTc_1, E_X0_result, R_X0_result, q0, q1]
  try rw [eM]
theorem ca_3_3 (ho : o < 8) (ih : ∀ a k, a < 4 → k < 8 → zCa f g t L o y F a k) : zCa f g t L o y (F + 1) 3 3 := by
  intro x J r m D Q hg h3 h4 h5 hl hm hD
  obtain ⟨D, rfl⟩ : ∃ D', D = D' + 2 := ⟨D - 2, by omega⟩
  have e : zsp o y (F + 1) 3 3 x = (2 :: ((zsp o y F 1 o (x)).1 ++ (zsp o y F 2 o (1)).1), (zsp o y F 1 o (x)).2 - (zsp o y F 2 o (1)).2) := rfl
  rw [e] at hl ⊢
  clear e
  have hg : (zgd o F 1 o && zgd o F 2 o) = true := hg
  rw [Bool.and_eq_true] at hg
  simp only [List.length_cons, List.length_append, List.length_nil] at hl
  have hr : r < 24 := by omega
  have hr2 : ¬ 24 ≤ r := by omega
  have hm2 : m ≤ 40 := by omega
  have hm3 : ¬ 40 < m := by omega
  have q0 := fun Q => ih 1 o (by decide) ho (x) (zTc J r [2]) (r + 1) (m + 1) D Q hg.1 rfl h4 h5 (by omega) (by omega) (by omega)
  have q1 := fun Q => ih 2 o (by decide) ho (1) (zTc (zTc J r [2]) (r + 1) (zsp o y F 1 o (x)).1) (r + 1 + (zsp o y F 1 o (x)).1.length) (m + 1) D Q hg.2 rfl h4 h5 (by omega) (by omega) (by omega)
  have eM : (zTc (zTc (zTc J r [2]) (r + 1) (zsp o y F 1 o (x)).1) (r + 1 + (zsp o y F 1 o (x)).1.length) (zsp o y F 2 o (1)).1) = zTc J r (2 :: ((zsp o y F 1 o (x)).1 ++ (zsp o y F 2 o (1)).1)) := by
    rw [show zTc (zTc J r [2]) (r + 1) (zsp o y F 1 o (x)).1 = zTc J r ([2] ++ (zsp o y F 1 o (x)).1) from zTc_a (cs := [2]), show r + 1 + (zsp o y F 1 o (x)).1.length = r + ([2] ++ (zsp o y F 1 o (x)).1).length by rw [List.length_append]; exact (Nat.add_assoc _ _ _)]
    exact zTc_a
  simp (disch := first | assumption | rfl | omega | decide | exact zb_01 _) only [zabs_e, zmax_e, zmin_e, zrf_s, zpush_s, zpush_n, zw_app, upd_app, updL_app, Nat.reduceEqDiff, Nat.add_left_cancel_iff, Nat.add_eq_left, Nat.left_eq_add, ↓reduceIte, true_and, and_true, Int32.reduceToNatClampNeg, zin_O, zi_ltO, zi_leO, zi_Olt, zi_Ole, zi_eqO, Nat.not_lt_zero, Nat.zero_le, List.append_nil, zrn_n, zrn_s, List.cons_append, List.nil_append, zlg_lt, zlg_gt, zlg_le, zlg_ge, zlg_eq, Int32.toInt_toInt64, Int64.reduceToInt, zw_zw, zw_sw1, zw_sw2, zw_sw3, zw_sw4, zw_sw5, zw_sw6, zw_sw7, ne_eq, zi_in, zi_cl, zi_le, zi_lt, zi_eq, zi_neg, zi_0le, zb_0, if_true, if_false, eq_self, zb_T, zb_F, Bool.false_eq_true, zO_eq, zO_ne1, zO_ne2, zO_nn, zi_ne1, zi_ne2, zi_lt1, zi_le1, zi_lt2, zi_le2, Int32.reduceLT, Int32.reduceLE, Nat.reduceLT, Nat.reduceLeDiff, Int32.reduceMul, Int32.reduceAdd, Int32.reduceSub, not_false_eq_true, not_true_eq_false, Int32.reduceToInt, Int.reduceLE, Int.reduceLT, Int.reduceNeg, ite_self, E_X0_run, R_X0_run, X_run_27, X_run_36, X_run_68, X_run_109, zAB, zOW, SHF, PF, h3, h4, h5, zTc_4, zTc_5, show nI 0 = 0 from rfl, show nI 1 = 1 from rfl, show nI 2 = 2 from rfl, show nI 3 = 3 from rfl, show nI 4 = 4 from rfl, show nI 5 = 5 from rfl, show nI 6 = 6 from rfl, show nI 7 = 7 from rfl, hr, hr2, hm2, hm3, zi_s, zTc_1]
  rw [H_X0_run_6]
  simp (disch := first | assumption | rfl | omega | decide | exact zb_01 _) only [zabs_e, zmax_e, zmin_e, zrf_s, zpush_s, zpush_n, zw_app, upd_app, updL_app, Nat.reduceEqDiff, Nat.add_left_cancel_iff, Nat.add_eq_left, Nat.left_eq_add, ↓reduceIte, true_and, and_true, Int32.reduceToNatClampNeg, zin_O, zi_ltO, zi_leO, zi_Olt, zi_Ole, zi_eqO, Nat.not_lt_zero, Nat.zero_le, List.append_nil, zrn_n, zrn_s, List.cons_append, List.nil_append, zlg_lt, zlg_gt, zlg_le, zlg_ge, zlg_eq, Int32.toInt_toInt64, Int64.reduceToInt, zw_zw, zw_sw1, zw_sw2, zw_sw3, zw_sw4, zw_sw5, zw_sw6, zw_sw7, ne_eq, zi_in, zi_cl, zi_le, zi_lt, zi_eq, zi_neg, zi_0le, zb_0, if_true, if_false, eq_self, zb_T, zb_F, Bool.false_eq_true, zO_eq, zO_ne1, zO_ne2, zO_nn, zi_ne1, zi_ne2, zi_lt1, zi_le1, zi_lt2, zi_le2, Int32.reduceLT, Int32.reduceLE, Nat.reduceLT, Nat.reduceLeDiff, Int32.reduceMul, Int32.reduceAdd, Int32.reduceSub, not_false_eq_true, not_true_eq_false, Int32.reduceToInt, Int.reduceLE, Int.reduceLT, Int.reduceNeg, ite_self, R_X0_run, X_run_27, X_run_36, X_run_68, X_run_109, zAB, zOW, SHF, PF, h3, h4, h5, zTc_4, zTc_5, show nI 0 = 0 from rfl, show nI 1 = 1 from rfl, show nI 2 = 2 from rfl, show nI 3 = 3 from rfl, show nI 4 = 4 from rfl, show nI 5 = 5 from rfl, show nI 6 = 6 from rfl, show nI 7 = 7 from rfl, hr, hr2, hm2, hm3, zi_s, zTc_1]
  rw [H_X0_run_6]
  simp (disch := first | assumption | rfl | omega | decide | exact zb_01 _) only [zabs_e, zmax_e, zmin_e, zrf_s, zpush_s, zpush_n, zw_app, upd_app, updL_app, Nat.reduceEqDiff, Nat.add_left_cancel_iff, Nat.add_eq_left, Nat.left_eq_add, ↓reduceIte, true_and, and_true, Int32.reduceToNatClampNeg, zin_O, zi_ltO, zi_leO, zi_Olt, zi_Ole, zi_eqO, Nat.not_lt_zero, Nat.zero_le, List.append_nil, zrn_n, zrn_s, List.cons_append, List.nil_append, zlg_lt, zlg_gt, zlg_le, zlg_ge, zlg_eq, Int32.toInt_toInt64, Int64.reduceToInt, zw_zw, zw_sw1, zw_sw2, zw_sw3, zw_sw4, zw_sw5, zw_sw6, zw_sw7, ne_eq, zi_in, zi_cl, zi_le, zi_lt, zi_eq, zi_neg, zi_0le, zb_0, if_true, if_false, eq_self, zb_T, zb_F, Bool.false_eq_true, zO_eq, zO_ne1, zO_ne2, zO_nn, zi_ne1, zi_ne2, zi_lt1, zi_le1, zi_lt2, zi_le2, Int32.reduceLT, Int32.reduceLE, Nat.reduceLT, Nat.reduceLeDiff, Int32.reduceMul, Int32.reduceAdd, Int32.reduceSub, not_false_eq_true, not_true_eq_false, Int32.reduceToInt, Int.reduceLE, Int.reduceLT, Int.reduceNeg, ite_self, R_X0_run, X_run_27, X_run_36, X_run_68, X_run_109, zAB, zOW, SHF, PF, h3, h4, h5, zTc_4, zTc_5, show nI 0 = 0 from rfl, show nI 1 = 1 from rfl, show nI 2 = 2 from rfl, show nI 3 = 3 from rfl, show nI 4 = 4 from rfl, show nI 5 = 5 from rfl, show nI 6 = 6 from rfl, show nI 7 = 7 from rfl, hr, hr2, hm2, hm3, zi_s, zTc_1]
  rw [H_X0_run_6]
  simp only [show nI 0 = 0 from rfl, show nI 1 = 1 from rfl, show nI 2 = 2 from rfl, show nI 3 = 3 from rfl, show nI 4 = 4 from rfl, show nI 5 = 5 from rfl, show nI 6 = 6 from rfl, show nI 7 = 7 from rfl] at q0 q1
  simp (disch := first | assumption | rfl | omega | decide | exact zb_01 _) only [zabs_e, zmax_e, zmin_e, zrf_s, zpush_s, zpush_n, zw_app, upd_app, updL_app, Nat.reduceEqDiff, Nat.add_left_cancel_iff, Nat.add_eq_left, Nat.left_eq_add, ↓reduceIte, true_and, and_true, Int32.reduceToNatClampNeg, zin_O, zi_ltO, zi_leO, zi_Olt, zi_Ole, zi_eqO, Nat.not_lt_zero, Nat.zero_le, List.append_nil, zrn_n, zrn_s, List.cons_append, List.nil_append, zlg_lt, zlg_gt, zlg_le, zlg_ge, zlg_eq, Int32.toInt_toInt64, Int64.reduceToInt, zw_zw, zw_sw1, zw_sw2, zw_sw3, zw_sw4, zw_sw5, zw_sw6, zw_sw7, ne_eq, zi_in, zi_cl, zi_le, zi_lt, zi_eq, zi_neg, zi_0le, zb_0, if_true, if_false, eq_self, zb_T, zb_F, Bool.false_eq_true, zO_eq, zO_ne1, zO_ne2, zO_nn, zi_ne1, zi_ne2, zi_lt1, zi_le1, zi_lt2, zi_le2, Int32.reduceLT, Int32.reduceLE, Nat.reduceLT, Nat.reduceLeDiff, Int32.reduceMul, Int32.reduceAdd, Int32.reduceSub, not_false_eq_true, not_true_eq_false, Int32.reduceToInt, Int.reduceLE, Int.reduceLT, Int.reduceNeg, ite_self, R_X0_run, X_run_27, X_run_36, X_run_68, X_run_109, zAB, zOW, SHF, PF, h3, h4, h5, zTc_4, zTc_5, show nI 0 = 0 from rfl, show nI 1 = 1 from rfl, show nI 2 = 2 from rfl, show nI 3 = 3 from rfl, show nI 4 = 4 from rfl, show nI 5 = 5 from rfl, show nI 6 = 6 from rfl, show nI 7 = 7 from rfl, hr, hr2, hm2, hm3, zi_s, zTc_1, E_X0_result, R_X0_result, q0, q1]
  try rw [eM]
theorem ca_3_4 (ho : o < 8) (ih : ∀ a k, a < 4 → k < 8 → zCa f g t L o y F a k) : zCa f g t L o y (F + 1) 3 4 := by
  intro x J r m D Q hg h3 h4 h5 hl hm hD
  obtain ⟨D, rfl⟩ : ∃ D', D = D' + 2 := ⟨D - 2, by omega⟩
  have e : zsp o y (F + 1) 3 4 x = (2 :: ((zsp o y F 1 o (x)).1 ++ (zsp o y F 2 o (1)).1), (zsp o y F 1 o (x)).2 - (zsp o y F 2 o (1)).2) := rfl
  rw [e] at hl ⊢
  clear e
  have hg : (zgd o F 1 o && zgd o F 2 o) = true := hg
  rw [Bool.and_eq_true] at hg
  simp only [List.length_cons, List.length_append, List.length_nil] at hl
  have hr : r < 24 := by omega
  have hr2 : ¬ 24 ≤ r := by omega
  have hm2 : m ≤ 40 := by omega
  have hm3 : ¬ 40 < m := by omega
  have q0 := fun Q => ih 1 o (by decide) ho (x) (zTc J r [2]) (r + 1) (m + 1) D Q hg.1 rfl h4 h5 (by omega) (by omega) (by omega)
  have q1 := fun Q => ih 2 o (by decide) ho (1) (zTc (zTc J r [2]) (r + 1) (zsp o y F 1 o (x)).1) (r + 1 + (zsp o y F 1 o (x)).1.length) (m + 1) D Q hg.2 rfl h4 h5 (by omega) (by omega) (by omega)
  have eM : (zTc (zTc (zTc J r [2]) (r + 1) (zsp o y F 1 o (x)).1) (r + 1 + (zsp o y F 1 o (x)).1.length) (zsp o y F 2 o (1)).1) = zTc J r (2 :: ((zsp o y F 1 o (x)).1 ++ (zsp o y F 2 o (1)).1)) := by
    rw [show zTc (zTc J r [2]) (r + 1) (zsp o y F 1 o (x)).1 = zTc J r ([2] ++ (zsp o y F 1 o (x)).1) from zTc_a (cs := [2]), show r + 1 + (zsp o y F 1 o (x)).1.length = r + ([2] ++ (zsp o y F 1 o (x)).1).length by rw [List.length_append]; exact (Nat.add_assoc _ _ _)]
    exact zTc_a
  simp (disch := first | assumption | rfl | omega | decide | exact zb_01 _) only [zabs_e, zmax_e, zmin_e, zrf_s, zpush_s, zpush_n, zw_app, upd_app, updL_app, Nat.reduceEqDiff, Nat.add_left_cancel_iff, Nat.add_eq_left, Nat.left_eq_add, ↓reduceIte, true_and, and_true, Int32.reduceToNatClampNeg, zin_O, zi_ltO, zi_leO, zi_Olt, zi_Ole, zi_eqO, Nat.not_lt_zero, Nat.zero_le, List.append_nil, zrn_n, zrn_s, List.cons_append, List.nil_append, zlg_lt, zlg_gt, zlg_le, zlg_ge, zlg_eq, Int32.toInt_toInt64, Int64.reduceToInt, zw_zw, zw_sw1, zw_sw2, zw_sw3, zw_sw4, zw_sw5, zw_sw6, zw_sw7, ne_eq, zi_in, zi_cl, zi_le, zi_lt, zi_eq, zi_neg, zi_0le, zb_0, if_true, if_false, eq_self, zb_T, zb_F, Bool.false_eq_true, zO_eq, zO_ne1, zO_ne2, zO_nn, zi_ne1, zi_ne2, zi_lt1, zi_le1, zi_lt2, zi_le2, Int32.reduceLT, Int32.reduceLE, Nat.reduceLT, Nat.reduceLeDiff, Int32.reduceMul, Int32.reduceAdd, Int32.reduceSub, not_false_eq_true, not_true_eq_false, Int32.reduceToInt, Int.reduceLE, Int.reduceLT, Int.reduceNeg, ite_self, E_X0_run, R_X0_run, X_run_27, X_run_36, X_run_68, X_run_109, zAB, zOW, SHF, PF, h3, h4, h5, zTc_4, zTc_5, show nI 0 = 0 from rfl, show nI 1 = 1 from rfl, show nI 2 = 2 from rfl, show nI 3 = 3 from rfl, show nI 4 = 4 from rfl, show nI 5 = 5 from rfl, show nI 6 = 6 from rfl, show nI 7 = 7 from rfl, hr, hr2, hm2, hm3, zi_s, zTc_1]
  rw [H_X0_run_6]
  simp (disch := first | assumption | rfl | omega | decide | exact zb_01 _) only [zabs_e, zmax_e, zmin_e, zrf_s, zpush_s, zpush_n, zw_app, upd_app, updL_app, Nat.reduceEqDiff, Nat.add_left_cancel_iff, Nat.add_eq_left, Nat.left_eq_add, ↓reduceIte, true_and, and_true, Int32.reduceToNatClampNeg, zin_O, zi_ltO, zi_leO, zi_Olt, zi_Ole, zi_eqO, Nat.not_lt_zero, Nat.zero_le, List.append_nil, zrn_n, zrn_s, List.cons_append, List.nil_append, zlg_lt, zlg_gt, zlg_le, zlg_ge, zlg_eq, Int32.toInt_toInt64, Int64.reduceToInt, zw_zw, zw_sw1, zw_sw2, zw_sw3, zw_sw4, zw_sw5, zw_sw6, zw_sw7, ne_eq, zi_in, zi_cl, zi_le, zi_lt, zi_eq, zi_neg, zi_0le, zb_0, if_true, if_false, eq_self, zb_T, zb_F, Bool.false_eq_true, zO_eq, zO_ne1, zO_ne2, zO_nn, zi_ne1, zi_ne2, zi_lt1, zi_le1, zi_lt2, zi_le2, Int32.reduceLT, Int32.reduceLE, Nat.reduceLT, Nat.reduceLeDiff, Int32.reduceMul, Int32.reduceAdd, Int32.reduceSub, not_false_eq_true, not_true_eq_false, Int32.reduceToInt, Int.reduceLE, Int.reduceLT, Int.reduceNeg, ite_self, R_X0_run, X_run_27, X_run_36, X_run_68, X_run_109, zAB, zOW, SHF, PF, h3, h4, h5, zTc_4, zTc_5, show nI 0 = 0 from rfl, show nI 1 = 1 from rfl, show nI 2 = 2 from rfl, show nI 3 = 3 from rfl, show nI 4 = 4 from rfl, show nI 5 = 5 from rfl, show nI 6 = 6 from rfl, show nI 7 = 7 from rfl, hr, hr2, hm2, hm3, zi_s, zTc_1]
  rw [H_X0_run_6]
  simp (disch := first | assumption | rfl | omega | decide | exact zb_01 _) only [zabs_e, zmax_e, zmin_e, zrf_s, zpush_s, zpush_n, zw_app, upd_app, updL_app, Nat.reduceEqDiff, Nat.add_left_cancel_iff, Nat.add_eq_left, Nat.left_eq_add, ↓reduceIte, true_and, and_true, Int32.reduceToNatClampNeg, zin_O, zi_ltO, zi_leO, zi_Olt, zi_Ole, zi_eqO, Nat.not_lt_zero, Nat.zero_le, List.append_nil, zrn_n, zrn_s, List.cons_append, List.nil_append, zlg_lt, zlg_gt, zlg_le, zlg_ge, zlg_eq, Int32.toInt_toInt64, Int64.reduceToInt, zw_zw, zw_sw1, zw_sw2, zw_sw3, zw_sw4, zw_sw5, zw_sw6, zw_sw7, ne_eq, zi_in, zi_cl, zi_le, zi_lt, zi_eq, zi_neg, zi_0le, zb_0, if_true, if_false, eq_self, zb_T, zb_F, Bool.false_eq_true, zO_eq, zO_ne1, zO_ne2, zO_nn, zi_ne1, zi_ne2, zi_lt1, zi_le1, zi_lt2, zi_le2, Int32.reduceLT, Int32.reduceLE, Nat.reduceLT, Nat.reduceLeDiff, Int32.reduceMul, Int32.reduceAdd, Int32.reduceSub, not_false_eq_true, not_true_eq_false, Int32.reduceToInt, Int.reduceLE, Int.reduceLT, Int.reduceNeg, ite_self, R_X0_run, X_run_27, X_run_36, X_run_68, X_run_109, zAB, zOW, SHF, PF, h3, h4, h5, zTc_4, zTc_5, show nI 0 = 0 from rfl, show nI 1 = 1 from rfl, show nI 2 = 2 from rfl, show nI 3 = 3 from rfl, show nI 4 = 4 from rfl, show nI 5 = 5 from rfl, show nI 6 = 6 from rfl, show nI 7 = 7 from rfl, hr, hr2, hm2, hm3, zi_s, zTc_1]
  rw [H_X0_run_6]
  simp only [show nI 0 = 0 from rfl, show nI 1 = 1 from rfl, show nI 2 = 2 from rfl, show nI 3 = 3 from rfl, show nI 4 = 4 from rfl, show nI 5 = 5 from rfl, show nI 6 = 6 from rfl, show nI 7 = 7 from rfl] at q0 q1
  simp (disch := first | assumption | rfl | omega | decide | exact zb_01 _) only [zabs_e, zmax_e, zmin_e, zrf_s, zpush_s, zpush_n, zw_app, upd_app, updL_app, Nat.reduceEqDiff, Nat.add_left_cancel_iff, Nat.add_eq_left, Nat.left_eq_add, ↓reduceIte, true_and, and_true, Int32.reduceToNatClampNeg, zin_O, zi_ltO, zi_leO, zi_Olt, zi_Ole, zi_eqO, Nat.not_lt_zero, Nat.zero_le, List.append_nil, zrn_n, zrn_s, List.cons_append, List.nil_append, zlg_lt, zlg_gt, zlg_le, zlg_ge, zlg_eq, Int32.toInt_toInt64, Int64.reduceToInt, zw_zw, zw_sw1, zw_sw2, zw_sw3, zw_sw4, zw_sw5, zw_sw6, zw_sw7, ne_eq, zi_in, zi_cl, zi_le, zi_lt, zi_eq, zi_neg, zi_0le, zb_0, if_true, if_false, eq_self, zb_T, zb_F, Bool.false_eq_true, zO_eq, zO_ne1, zO_ne2, zO_nn, zi_ne1, zi_ne2, zi_lt1, zi_le1, zi_lt2, zi_le2, Int32.reduceLT, Int32.reduceLE, Nat.reduceLT, Nat.reduceLeDiff, Int32.reduceMul, Int32.reduceAdd, Int32.reduceSub, not_false_eq_true, not_true_eq_false, Int32.reduceToInt, Int.reduceLE, Int.reduceLT, Int.reduceNeg, ite_self, R_X0_run, X_run_27, X_run_36, X_run_68, X_run_109, zAB, zOW, SHF, PF, h3, h4, h5, zTc_4, zTc_5, show nI 0 = 0 from rfl, show nI 1 = 1 from rfl, show nI 2 = 2 from rfl, show nI 3 = 3 from rfl, show nI 4 = 4 from rfl, show nI 5 = 5 from rfl, show nI 6 = 6 from rfl, show nI 7 = 7 from rfl, hr, hr2, hm2, hm3, zi_s, zTc_1, E_X0_result, R_X0_result, q0, q1]
  try rw [eM]
theorem ca_3_5 (ho : o < 8) (ih : ∀ a k, a < 4 → k < 8 → zCa f g t L o y F a k) : zCa f g t L o y (F + 1) 3 5 := by
  intro x J r m D Q hg h3 h4 h5 hl hm hD
  obtain ⟨D, rfl⟩ : ∃ D', D = D' + 2 := ⟨D - 2, by omega⟩
  have e : zsp o y (F + 1) 3 5 x = (60 :: (zsp o y F 3 3 (x)).1, (zsp o y F 3 3 (x)).2 ^^^ 5) := rfl
  rw [e] at hl ⊢
  clear e
  have hg : zgd o F 3 3 = true := hg
  simp only [List.length_cons, List.length_append, List.length_nil] at hl
  have hr : r < 24 := by omega
  have hr2 : ¬ 24 ≤ r := by omega
  have hm2 : m ≤ 40 := by omega
  have hm3 : ¬ 40 < m := by omega
  have q0 := fun Q => ih 3 3 (by decide) (by decide) (x) (zTc J r [60]) (r + 1) (m + 1) D Q hg rfl h4 h5 (by omega) (by omega) (by omega)
  have eM : (zTc (zTc J r [60]) (r + 1) (zsp o y F 3 3 (x)).1) = zTc J r (60 :: (zsp o y F 3 3 (x)).1) := zTc_a (cs := [60])
  simp (disch := first | assumption | rfl | omega | decide | exact zb_01 _) only [zabs_e, zmax_e, zmin_e, zrf_s, zpush_s, zpush_n, zw_app, upd_app, updL_app, Nat.reduceEqDiff, Nat.add_left_cancel_iff, Nat.add_eq_left, Nat.left_eq_add, ↓reduceIte, true_and, and_true, Int32.reduceToNatClampNeg, zin_O, zi_ltO, zi_leO, zi_Olt, zi_Ole, zi_eqO, Nat.not_lt_zero, Nat.zero_le, List.append_nil, zrn_n, zrn_s, List.cons_append, List.nil_append, zlg_lt, zlg_gt, zlg_le, zlg_ge, zlg_eq, Int32.toInt_toInt64, Int64.reduceToInt, zw_zw, zw_sw1, zw_sw2, zw_sw3, zw_sw4, zw_sw5, zw_sw6, zw_sw7, ne_eq, zi_in, zi_cl, zi_le, zi_lt, zi_eq, zi_neg, zi_0le, zb_0, if_true, if_false, eq_self, zb_T, zb_F, Bool.false_eq_true, zO_eq, zO_ne1, zO_ne2, zO_nn, zi_ne1, zi_ne2, zi_lt1, zi_le1, zi_lt2, zi_le2, Int32.reduceLT, Int32.reduceLE, Nat.reduceLT, Nat.reduceLeDiff, Int32.reduceMul, Int32.reduceAdd, Int32.reduceSub, not_false_eq_true, not_true_eq_false, Int32.reduceToInt, Int.reduceLE, Int.reduceLT, Int.reduceNeg, ite_self, E_X0_run, R_X0_run, X_run_27, X_run_36, X_run_68, X_run_109, zAB, zOW, SHF, PF, h3, h4, h5, zTc_4, zTc_5, show nI 0 = 0 from rfl, show nI 1 = 1 from rfl, show nI 2 = 2 from rfl, show nI 3 = 3 from rfl, show nI 4 = 4 from rfl, show nI 5 = 5 from rfl, show nI 6 = 6 from rfl, show nI 7 = 7 from rfl, hr, hr2, hm2, hm3, zi_s, zTc_1]
  rw [H_X0_run_6]
  simp only [show nI 0 = 0 from rfl, show nI 1 = 1 from rfl, show nI 2 = 2 from rfl, show nI 3 = 3 from rfl, show nI 4 = 4 from rfl, show nI 5 = 5 from rfl, show nI 6 = 6 from rfl, show nI 7 = 7 from rfl] at q0
  simp (disch := first | assumption | rfl | omega | decide | exact zb_01 _) only [zabs_e, zmax_e, zmin_e, zrf_s, zpush_s, zpush_n, zw_app, upd_app, updL_app, Nat.reduceEqDiff, Nat.add_left_cancel_iff, Nat.add_eq_left, Nat.left_eq_add, ↓reduceIte, true_and, and_true, Int32.reduceToNatClampNeg, zin_O, zi_ltO, zi_leO, zi_Olt, zi_Ole, zi_eqO, Nat.not_lt_zero, Nat.zero_le, List.append_nil, zrn_n, zrn_s, List.cons_append, List.nil_append, zlg_lt, zlg_gt, zlg_le, zlg_ge, zlg_eq, Int32.toInt_toInt64, Int64.reduceToInt, zw_zw, zw_sw1, zw_sw2, zw_sw3, zw_sw4, zw_sw5, zw_sw6, zw_sw7, ne_eq, zi_in, zi_cl, zi_le, zi_lt, zi_eq, zi_neg, zi_0le, zb_0, if_true, if_false, eq_self, zb_T, zb_F, Bool.false_eq_true, zO_eq, zO_ne1, zO_ne2, zO_nn, zi_ne1, zi_ne2, zi_lt1, zi_le1, zi_lt2, zi_le2, Int32.reduceLT, Int32.reduceLE, Nat.reduceLT, Nat.reduceLeDiff, Int32.reduceMul, Int32.reduceAdd, Int32.reduceSub, not_false_eq_true, not_true_eq_false, Int32.reduceToInt, Int.reduceLE, Int.reduceLT, Int.reduceNeg, ite_self, R_X0_run, X_run_27, X_run_36, X_run_68, X_run_109, zAB, zOW, SHF, PF, h3, h4, h5, zTc_4, zTc_5, show nI 0 = 0 from rfl, show nI 1 = 1 from rfl, show nI 2 = 2 from rfl, show nI 3 = 3 from rfl, show nI 4 = 4 from rfl, show nI 5 = 5 from rfl, show nI 6 = 6 from rfl, show nI 7 = 7 from rfl, hr, hr2, hm2, hm3, zi_s, zTc_1, E_X0_result, R_X0_result, q0]
  try rw [eM]
theorem ca_3_6 (ho : o < 8) (ih : ∀ a k, a < 4 → k < 8 → zCa f g t L o y F a k) : zCa f g t L o y (F + 1) 3 6 := by
  intro x J r m D Q hg h3 h4 h5 hl hm hD
  obtain ⟨D, rfl⟩ : ∃ D', D = D' + 2 := ⟨D - 2, by omega⟩
  have e : zsp o y (F + 1) 3 6 x = (2 :: ((zsp o y F 1 o (x)).1 ++ (zsp o y F 2 o (1)).1), (zsp o y F 1 o (x)).2 - (zsp o y F 2 o (1)).2) := rfl
  rw [e] at hl ⊢
  clear e
  have hg : (zgd o F 1 o && zgd o F 2 o) = true := hg
  rw [Bool.and_eq_true] at hg
  simp only [List.length_cons, List.length_append, List.length_nil] at hl
  have hr : r < 24 := by omega
  have hr2 : ¬ 24 ≤ r := by omega
  have hm2 : m ≤ 40 := by omega
  have hm3 : ¬ 40 < m := by omega
  have q0 := fun Q => ih 1 o (by decide) ho (x) (zTc J r [2]) (r + 1) (m + 1) D Q hg.1 rfl h4 h5 (by omega) (by omega) (by omega)
  have q1 := fun Q => ih 2 o (by decide) ho (1) (zTc (zTc J r [2]) (r + 1) (zsp o y F 1 o (x)).1) (r + 1 + (zsp o y F 1 o (x)).1.length) (m + 1) D Q hg.2 rfl h4 h5 (by omega) (by omega) (by omega)
  have eM : (zTc (zTc (zTc J r [2]) (r + 1) (zsp o y F 1 o (x)).1) (r + 1 + (zsp o y F 1 o (x)).1.length) (zsp o y F 2 o (1)).1) = zTc J r (2 :: ((zsp o y F 1 o (x)).1 ++ (zsp o y F 2 o (1)).1)) := by
    rw [show zTc (zTc J r [2]) (r + 1) (zsp o y F 1 o (x)).1 = zTc J r ([2] ++ (zsp o y F 1 o (x)).1) from zTc_a (cs := [2]), show r + 1 + (zsp o y F 1 o (x)).1.length = r + ([2] ++ (zsp o y F 1 o (x)).1).length by rw [List.length_append]; exact (Nat.add_assoc _ _ _)]
    exact zTc_a
  simp (disch := first | assumption | rfl | omega | decide | exact zb_01 _) only [zabs_e, zmax_e, zmin_e, zrf_s, zpush_s, zpush_n, zw_app, upd_app, updL_app, Nat.reduceEqDiff, Nat.add_left_cancel_iff, Nat.add_eq_left, Nat.left_eq_add, ↓reduceIte, true_and, and_true, Int32.reduceToNatClampNeg, zin_O, zi_ltO, zi_leO, zi_Olt, zi_Ole, zi_eqO, Nat.not_lt_zero, Nat.zero_le, List.append_nil, zrn_n, zrn_s, List.cons_append, List.nil_append, zlg_lt, zlg_gt, zlg_le, zlg_ge, zlg_eq, Int32.toInt_toInt64, Int64.reduceToInt, zw_zw, zw_sw1, zw_sw2, zw_sw3, zw_sw4, zw_sw5, zw_sw6, zw_sw7, ne_eq, zi_in, zi_cl, zi_le, zi_lt, zi_eq, zi_neg, zi_0le, zb_0, if_true, if_false, eq_self, zb_T, zb_F, Bool.false_eq_true, zO_eq, zO_ne1, zO_ne2, zO_nn, zi_ne1, zi_ne2, zi_lt1, zi_le1, zi_lt2, zi_le2, Int32.reduceLT, Int32.reduceLE, Nat.reduceLT, Nat.reduceLeDiff, Int32.reduceMul, Int32.reduceAdd, Int32.reduceSub, not_false_eq_true, not_true_eq_false, Int32.reduceToInt, Int.reduceLE, Int.reduceLT, Int.reduceNeg, ite_self, E_X0_run, R_X0_run, X_run_27, X_run_36, X_run_68, X_run_109, zAB, zOW, SHF, PF, h3, h4, h5, zTc_4, zTc_5, show nI 0 = 0 from rfl, show nI 1 = 1 from rfl, show nI 2 = 2 from rfl, show nI 3 = 3 from rfl, show nI 4 = 4 from rfl, show nI 5 = 5 from rfl, show nI 6 = 6 from rfl, show nI 7 = 7 from rfl, hr, hr2, hm2, hm3, zi_s, zTc_1]
  rw [H_X0_run_6]
  simp (disch := first | assumption | rfl | omega | decide | exact zb_01 _) only [zabs_e, zmax_e, zmin_e, zrf_s, zpush_s, zpush_n, zw_app, upd_app, updL_app, Nat.reduceEqDiff, Nat.add_left_cancel_iff, Nat.add_eq_left, Nat.left_eq_add, ↓reduceIte, true_and, and_true, Int32.reduceToNatClampNeg, zin_O, zi_ltO, zi_leO, zi_Olt, zi_Ole, zi_eqO, Nat.not_lt_zero, Nat.zero_le, List.append_nil, zrn_n, zrn_s, List.cons_append, List.nil_append, zlg_lt, zlg_gt, zlg_le, zlg_ge, zlg_eq, Int32.toInt_toInt64, Int64.reduceToInt, zw_zw, zw_sw1, zw_sw2, zw_sw3, zw_sw4, zw_sw5, zw_sw6, zw_sw7, ne_eq, zi_in, zi_cl, zi_le, zi_lt, zi_eq, zi_neg, zi_0le, zb_0, if_true, if_false, eq_self, zb_T, zb_F, Bool.false_eq_true, zO_eq, zO_ne1, zO_ne2, zO_nn, zi_ne1, zi_ne2, zi_lt1, zi_le1, zi_lt2, zi_le2, Int32.reduceLT, Int32.reduceLE, Nat.reduceLT, Nat.reduceLeDiff, Int32.reduceMul, Int32.reduceAdd, Int32.reduceSub, not_false_eq_true, not_true_eq_false, Int32.reduceToInt, Int.reduceLE, Int.reduceLT, Int.reduceNeg, ite_self, R_X0_run, X_run_27, X_run_36, X_run_68, X_run_109, zAB, zOW, SHF, PF, h3, h4, h5, zTc_4, zTc_5, show nI 0 = 0 from rfl, show nI 1 = 1 from rfl, show nI 2 = 2 from rfl, show nI 3 = 3 from rfl, show nI 4 = 4 from rfl, show nI 5 = 5 from rfl, show nI 6 = 6 from rfl, show nI 7 = 7 from rfl, hr, hr2, hm2, hm3, zi_s, zTc_1]
  rw [H_X0_run_6]
  simp only [show nI 0 = 0 from rfl, show nI 1 = 1 from rfl, show nI 2 = 2 from rfl, show nI 3 = 3 from rfl, show nI 4 = 4 from rfl, show nI 5 = 5 from rfl, show nI 6 = 6 from rfl, show nI 7 = 7 from rfl] at q0 q1
  simp (disch := first | assumption | rfl | omega | decide | exact zb_01 _) only [zabs_e, zmax_e, zmin_e, zrf_s, zpush_s, zpush_n, zw_app, upd_app, updL_app, Nat.reduceEqDiff, Nat.add_left_cancel_iff, Nat.add_eq_left, Nat.left_eq_add, ↓reduceIte, true_and, and_true, Int32.reduceToNatClampNeg, zin_O, zi_ltO, zi_leO, zi_Olt, zi_Ole, zi_eqO, Nat.not_lt_zero, Nat.zero_le, List.append_nil, zrn_n, zrn_s, List.cons_append, List.nil_append, zlg_lt, zlg_gt, zlg_le, zlg_ge, zlg_eq, Int32.toInt_toInt64, Int64.reduceToInt, zw_zw, zw_sw1, zw_sw2, zw_sw3, zw_sw4, zw_sw5, zw_sw6, zw_sw7, ne_eq, zi_in, zi_cl, zi_le, zi_lt, zi_eq, zi_neg, zi_0le, zb_0, if_true, if_false, eq_self, zb_T, zb_F, Bool.false_eq_true, zO_eq, zO_ne1, zO_ne2, zO_nn, zi_ne1, zi_ne2, zi_lt1, zi_le1, zi_lt2, zi_le2, Int32.reduceLT, Int32.reduceLE, Nat.reduceLT, Nat.reduceLeDiff, Int32.reduceMul, Int32.reduceAdd, Int32.reduceSub, not_false_eq_true, not_true_eq_false, Int32.reduceToInt, Int.reduceLE, Int.reduceLT, Int.reduceNeg, ite_self, R_X0_run, X_run_27, X_run_36, X_run_68, X_run_109, zAB, zOW, SHF, PF, h3, h4, h5, zTc_4, zTc_5, show nI 0 = 0 from rfl, show nI 1 = 1 from rfl, show nI 2 = 2 from rfl, show nI 3 = 3 from rfl, show nI 4 = 4 from rfl, show nI 5 = 5 from rfl, show nI 6 = 6 from rfl, show nI 7 = 7 from rfl, hr, hr2, hm2, hm3, zi_s, zTc_1, E_X0_result, R_X0_result, q0, q1]
  try rw [eM]
theorem ca_3_7 (ho : o < 8) (ih : ∀ a k, a < 4 → k < 8 → zCa f g t L o y F a k) : zCa f g t L o y (F + 1) 3 7 := by
  intro x J r m D Q hg h3 h4 h5 hl hm hD
  obtain ⟨D, rfl⟩ : ∃ D', D = D' + 2 := ⟨D - 2, by omega⟩
  have e : zsp o y (F + 1) 3 7 x = (81 :: (zsp o y F 3 4 (x)).1, (zsp o y F 3 4 (x)).2 - 1) := rfl
  rw [e] at hl ⊢
  clear e
  have hg : zgd o F 3 4 = true := hg
  simp only [List.length_cons, List.length_append, List.length_nil] at hl
  have hr : r < 24 := by omega
  have hr2 : ¬ 24 ≤ r := by omega
  have hm2 : m ≤ 40 := by omega
  have hm3 : ¬ 40 < m := by omega
  have q0 := fun Q => ih 3 4 (by decide) (by decide) (x) (zTc J r [81]) (r + 1) (m + 1) D Q hg rfl h4 h5 (by omega) (by omega) (by omega)
  have eM : (zTc (zTc J r [81]) (r + 1) (zsp o y F 3 4 (x)).1) = zTc J r (81 :: (zsp o y F 3 4 (x)).1) := zTc_a (cs := [81])
  simp (disch := first | assumption | rfl | omega | decide | exact zb_01 _) only [zabs_e, zmax_e, zmin_e, zrf_s, zpush_s, zpush_n, zw_app, upd_app, updL_app, Nat.reduceEqDiff, Nat.add_left_cancel_iff, Nat.add_eq_left, Nat.left_eq_add, ↓reduceIte, true_and, and_true, Int32.reduceToNatClampNeg, zin_O, zi_ltO, zi_leO, zi_Olt, zi_Ole, zi_eqO, Nat.not_lt_zero, Nat.zero_le, List.append_nil, zrn_n, zrn_s, List.cons_append, List.nil_append, zlg_lt, zlg_gt, zlg_le, zlg_ge, zlg_eq, Int32.toInt_toInt64, Int64.reduceToInt, zw_zw, zw_sw1, zw_sw2, zw_sw3, zw_sw4, zw_sw5, zw_sw6, zw_sw7, ne_eq, zi_in, zi_cl, zi_le, zi_lt, zi_eq, zi_neg, zi_0le, zb_0, if_true, if_false, eq_self, zb_T, zb_F, Bool.false_eq_true, zO_eq, zO_ne1, zO_ne2, zO_nn, zi_ne1, zi_ne2, zi_lt1, zi_le1, zi_lt2, zi_le2, Int32.reduceLT, Int32.reduceLE, Nat.reduceLT, Nat.reduceLeDiff, Int32.reduceMul, Int32.reduceAdd, Int32.reduceSub, not_false_eq_true, not_true_eq_false, Int32.reduceToInt, Int.reduceLE, Int.reduceLT, Int.reduceNeg, ite_self, E_X0_run, R_X0_run, X_run_27, X_run_36, X_run_68, X_run_109, zAB, zOW, SHF, PF, h3, h4, h5, zTc_4, zTc_5, show nI 0 = 0 from rfl, show nI 1 = 1 from rfl, show nI 2 = 2 from rfl, show nI 3 = 3 from rfl, show nI 4 = 4 from rfl, show nI 5 = 5 from rfl, show nI 6 = 6 from rfl, show nI 7 = 7 from rfl, hr, hr2, hm2, hm3, zi_s, zTc_1]
  rw [H_X0_run_6]
  simp only [show nI 0 = 0 from rfl, show nI 1 = 1 from rfl, show nI 2 = 2 from rfl, show nI 3 = 3 from rfl, show nI 4 = 4 from rfl, show nI 5 = 5 from rfl, show nI 6 = 6 from rfl, show nI 7 = 7 from rfl] at q0
  simp (disch := first | assumption | rfl | omega | decide | exact zb_01 _) only [zabs_e, zmax_e, zmin_e, zrf_s, zpush_s, zpush_n, zw_app, upd_app, updL_app, Nat.reduceEqDiff, Nat.add_left_cancel_iff, Nat.add_eq_left, Nat.left_eq_add, ↓reduceIte, true_and, and_true, Int32.reduceToNatClampNeg, zin_O, zi_ltO, zi_leO, zi_Olt, zi_Ole, zi_eqO, Nat.not_lt_zero, Nat.zero_le, List.append_nil, zrn_n, zrn_s, List.cons_append, List.nil_append, zlg_lt, zlg_gt, zlg_le, zlg_ge, zlg_eq, Int32.toInt_toInt64, Int64.reduceToInt, zw_zw, zw_sw1, zw_sw2, zw_sw3, zw_sw4, zw_sw5, zw_sw6, zw_sw7, ne_eq, zi_in, zi_cl, zi_le, zi_lt, zi_eq, zi_neg, zi_0le, zb_0, if_true, if_false, eq_self, zb_T, zb_F, Bool.false_eq_true, zO_eq, zO_ne1, zO_ne2, zO_nn, zi_ne1, zi_ne2, zi_lt1, zi_le1, zi_lt2, zi_le2, Int32.reduceLT, Int32.reduceLE, Nat.reduceLT, Nat.reduceLeDiff, Int32.reduceMul, Int32.reduceAdd, Int32.reduceSub, not_false_eq_true, not_true_eq_false, Int32.reduceToInt, Int.reduceLE, Int.reduceLT, Int.reduceNeg, ite_self, R_X0_run, X_run_27, X_run_36, X_run_68, X_run_109, zAB, zOW, SHF, PF, h3, h4, h5, zTc_4, zTc_5, show nI 0 = 0 from rfl, show nI 1 = 1 from rfl, show nI 2 = 2 from rfl, show nI 3 = 3 from rfl, show nI 4 = 4 from rfl, show nI 5 = 5 from rfl, show nI 6 = 6 from rfl, show nI 7 = 7 from rfl, hr, hr2, hm2, hm3, zi_s, zTc_1, E_X0_result, R_X0_result, q0]
  try rw [eM]
theorem m_begins {r : Nat} (c : Int32) (h : J 80 43 = nI r) (hr : r < 24) : zWM (d + 1) 199 [.ref 80, .int c] (zSH, J, L, zP f g t) Q = Q none (zSH, zTm J r [c], L, zP f g t) := by
  have hr2 : ¬ 24 ≤ r := by omega
  simp (disch := first | assumption | rfl | omega | decide | exact zb_01 _) only [zabs_e, zmax_e, zmin_e, zrf_s, zpush_s, zpush_n, zw_app, upd_app, updL_app, Nat.reduceEqDiff, Nat.add_left_cancel_iff, Nat.add_eq_left, Nat.left_eq_add, ↓reduceIte, true_and, and_true, Int32.reduceToNatClampNeg, zin_O, zi_ltO, zi_leO, zi_Olt, zi_Ole, zi_eqO, Nat.not_lt_zero, Nat.zero_le, List.append_nil, zrn_n, zrn_s, List.cons_append, List.nil_append, zlg_lt, zlg_gt, zlg_le, zlg_ge, zlg_eq, Int32.toInt_toInt64, Int64.reduceToInt, zw_zw, zw_sw1, zw_sw2, zw_sw3, zw_sw4, zw_sw5, zw_sw6, zw_sw7, ne_eq, zi_in, zi_cl, zi_le, zi_lt, zi_eq, zi_neg, zi_0le, zb_0, if_true, if_false, eq_self, zb_T, zb_F, Bool.false_eq_true, zO_eq, zO_ne1, zO_ne2, zO_nn, zi_ne1, zi_ne2, zi_lt1, zi_le1, zi_lt2, zi_le2, Int32.reduceLT, Int32.reduceLE, Nat.reduceLT, Nat.reduceLeDiff, Int32.reduceMul, Int32.reduceAdd, Int32.reduceSub, not_false_eq_true, not_true_eq_false, Int32.reduceToInt, Int.reduceLE, Int.reduceLT, Int.reduceNeg, ite_self, E_X10_begins, R_X10_begins, SHF, PF, h, hr, hr2, zi_s, zTm_1]
theorem ma_0_0 (ih : ∀ a k, a < 4 → k < 8 → zMa f g t L o y F a k) (ho : o < 8) : zMa f g t L o y (F + 1) 0 0 := by
  intro x J r D Q hg h3 h4 h5 hl hD
  obtain ⟨D, rfl⟩ : ∃ D', D = D' + 2 := ⟨D - 2, by omega⟩
  have e : zsp o y (F + 1) 0 0 x = ([1], x + y) := rfl
  rw [e] at hl ⊢
  clear e
  simp only [List.length_cons, List.length_append, List.length_nil] at hl
  have hr : r < 24 := by omega
  have qb := fun Q => m_begins (d := D) (f := f) (g := g) (t := t) (L := L) (Q := Q) 1 h3 hr
  simp only [Nat.reduceAdd]
  simp (disch := first | assumption | rfl | omega | decide | exact zb_01 _) only [zabs_e, zmax_e, zmin_e, zrf_s, zpush_s, zpush_n, zw_app, upd_app, updL_app, Nat.reduceEqDiff, Nat.add_left_cancel_iff, Nat.add_eq_left, Nat.left_eq_add, ↓reduceIte, true_and, and_true, Int32.reduceToNatClampNeg, zin_O, zi_ltO, zi_leO, zi_Olt, zi_Ole, zi_eqO, Nat.not_lt_zero, Nat.zero_le, List.append_nil, zrn_n, zrn_s, List.cons_append, List.nil_append, zlg_lt, zlg_gt, zlg_le, zlg_ge, zlg_eq, Int32.toInt_toInt64, Int64.reduceToInt, zw_zw, zw_sw1, zw_sw2, zw_sw3, zw_sw4, zw_sw5, zw_sw6, zw_sw7, ne_eq, zi_in, zi_cl, zi_le, zi_lt, zi_eq, zi_neg, zi_0le, zb_0, if_true, if_false, eq_self, zb_T, zb_F, Bool.false_eq_true, zO_eq, zO_ne1, zO_ne2, zO_nn, zi_ne1, zi_ne2, zi_lt1, zi_le1, zi_lt2, zi_le2, Int32.reduceLT, Int32.reduceLE, Nat.reduceLT, Nat.reduceLeDiff, Int32.reduceMul, Int32.reduceAdd, Int32.reduceSub, not_false_eq_true, not_true_eq_false, Int32.reduceToInt, Int.reduceLE, Int.reduceLT, Int.reduceNeg, ite_self, E_X10_standsAs, R_X10_standsAs, SHF, PF, h3, h4, h5, zTm_4, zTm_5, show nI 0 = 0 from rfl, show nI 1 = 1 from rfl, show nI 2 = 2 from rfl, show nI 3 = 3 from rfl, show nI 4 = 4 from rfl, show nI 5 = 5 from rfl, show nI 6 = 6 from rfl, show nI 7 = 7 from rfl, qb]
theorem ma_0_1 (ih : ∀ a k, a < 4 → k < 8 → zMa f g t L o y F a k) (ho : o < 8) : zMa f g t L o y (F + 1) 0 1 := by
  intro x J r D Q hg h3 h4 h5 hl hD
  obtain ⟨D, rfl⟩ : ∃ D', D = D' + 2 := ⟨D - 2, by omega⟩
  have e : zsp o y (F + 1) 0 1 x = (20 :: (zsp o y F 0 0 (x)).1, (zsp o y F 0 0 (x)).2 + 3) := rfl
  rw [e] at hl ⊢
  clear e
  have hg : zgd o F 0 0 = true := hg
  simp only [List.length_cons, List.length_append, List.length_nil] at hl
  have hr : r < 24 := by omega
  have qb := fun Q => m_begins (d := D) (f := f) (g := g) (t := t) (L := L) (Q := Q) 20 h3 hr
  have q0 := fun Q => ih 0 0 (by decide) (by decide) (x) (zTm J r [20]) (r + 1) (D + 1) Q hg rfl h4 h5 (by omega) (by omega)
  have eM : (zTm (zTm J r [20]) (r + 1) (zsp o y F 0 0 (x)).1) = zTm J r (20 :: (zsp o y F 0 0 (x)).1) := zTm_a (cs := [20])
  simp only [Nat.reduceAdd, show nI 0 = 0 from rfl, show nI 1 = 1 from rfl, show nI 2 = 2 from rfl, show nI 3 = 3 from rfl, show nI 4 = 4 from rfl, show nI 5 = 5 from rfl, show nI 6 = 6 from rfl, show nI 7 = 7 from rfl] at q0
  simp only [Nat.reduceAdd]
  simp (disch := first | assumption | rfl | omega | decide | exact zb_01 _) only [zabs_e, zmax_e, zmin_e, zrf_s, zpush_s, zpush_n, zw_app, upd_app, updL_app, Nat.reduceEqDiff, Nat.add_left_cancel_iff, Nat.add_eq_left, Nat.left_eq_add, ↓reduceIte, true_and, and_true, Int32.reduceToNatClampNeg, zin_O, zi_ltO, zi_leO, zi_Olt, zi_Ole, zi_eqO, Nat.not_lt_zero, Nat.zero_le, List.append_nil, zrn_n, zrn_s, List.cons_append, List.nil_append, zlg_lt, zlg_gt, zlg_le, zlg_ge, zlg_eq, Int32.toInt_toInt64, Int64.reduceToInt, zw_zw, zw_sw1, zw_sw2, zw_sw3, zw_sw4, zw_sw5, zw_sw6, zw_sw7, ne_eq, zi_in, zi_cl, zi_le, zi_lt, zi_eq, zi_neg, zi_0le, zb_0, if_true, if_false, eq_self, zb_T, zb_F, Bool.false_eq_true, zO_eq, zO_ne1, zO_ne2, zO_nn, zi_ne1, zi_ne2, zi_lt1, zi_le1, zi_lt2, zi_le2, Int32.reduceLT, Int32.reduceLE, Nat.reduceLT, Nat.reduceLeDiff, Int32.reduceMul, Int32.reduceAdd, Int32.reduceSub, not_false_eq_true, not_true_eq_false, Int32.reduceToInt, Int.reduceLE, Int.reduceLT, Int.reduceNeg, ite_self, E_X10_standsAs, R_X10_standsAs, SHF, PF, h3, h4, h5, zTm_4, zTm_5, show nI 0 = 0 from rfl, show nI 1 = 1 from rfl, show nI 2 = 2 from rfl, show nI 3 = 3 from rfl, show nI 4 = 4 from rfl, show nI 5 = 5 from rfl, show nI 6 = 6 from rfl, show nI 7 = 7 from rfl, qb, q0]
  try rw [eM]
theorem ma_0_2 (ih : ∀ a k, a < 4 → k < 8 → zMa f g t L o y F a k) (ho : o < 8) : zMa f g t L o y (F + 1) 0 2 := by
  intro x J r D Q hg h3 h4 h5 hl hD
  obtain ⟨D, rfl⟩ : ∃ D', D = D' + 2 := ⟨D - 2, by omega⟩
  have e : zsp o y (F + 1) 0 2 x = ([1], x + y) := rfl
  rw [e] at hl ⊢
  clear e
  simp only [List.length_cons, List.length_append, List.length_nil] at hl
  have hr : r < 24 := by omega
  have qb := fun Q => m_begins (d := D) (f := f) (g := g) (t := t) (L := L) (Q := Q) 1 h3 hr
  simp only [Nat.reduceAdd]
  simp (disch := first | assumption | rfl | omega | decide | exact zb_01 _) only [zabs_e, zmax_e, zmin_e, zrf_s, zpush_s, zpush_n, zw_app, upd_app, updL_app, Nat.reduceEqDiff, Nat.add_left_cancel_iff, Nat.add_eq_left, Nat.left_eq_add, ↓reduceIte, true_and, and_true, Int32.reduceToNatClampNeg, zin_O, zi_ltO, zi_leO, zi_Olt, zi_Ole, zi_eqO, Nat.not_lt_zero, Nat.zero_le, List.append_nil, zrn_n, zrn_s, List.cons_append, List.nil_append, zlg_lt, zlg_gt, zlg_le, zlg_ge, zlg_eq, Int32.toInt_toInt64, Int64.reduceToInt, zw_zw, zw_sw1, zw_sw2, zw_sw3, zw_sw4, zw_sw5, zw_sw6, zw_sw7, ne_eq, zi_in, zi_cl, zi_le, zi_lt, zi_eq, zi_neg, zi_0le, zb_0, if_true, if_false, eq_self, zb_T, zb_F, Bool.false_eq_true, zO_eq, zO_ne1, zO_ne2, zO_nn, zi_ne1, zi_ne2, zi_lt1, zi_le1, zi_lt2, zi_le2, Int32.reduceLT, Int32.reduceLE, Nat.reduceLT, Nat.reduceLeDiff, Int32.reduceMul, Int32.reduceAdd, Int32.reduceSub, not_false_eq_true, not_true_eq_false, Int32.reduceToInt, Int.reduceLE, Int.reduceLT, Int.reduceNeg, ite_self, E_X10_standsAs, R_X10_standsAs, SHF, PF, h3, h4, h5, zTm_4, zTm_5, show nI 0 = 0 from rfl, show nI 1 = 1 from rfl, show nI 2 = 2 from rfl, show nI 3 = 3 from rfl, show nI 4 = 4 from rfl, show nI 5 = 5 from rfl, show nI 6 = 6 from rfl, show nI 7 = 7 from rfl, qb]
theorem ma_0_3 (ih : ∀ a k, a < 4 → k < 8 → zMa f g t L o y F a k) (ho : o < 8) : zMa f g t L o y (F + 1) 0 3 := by
  intro x J r D Q hg h3 h4 h5 hl hD
  obtain ⟨D, rfl⟩ : ∃ D', D = D' + 2 := ⟨D - 2, by omega⟩
  have e : zsp o y (F + 1) 0 3 x = ([1], x + y) := rfl
  rw [e] at hl ⊢
  clear e
  simp only [List.length_cons, List.length_append, List.length_nil] at hl
  have hr : r < 24 := by omega
  have qb := fun Q => m_begins (d := D) (f := f) (g := g) (t := t) (L := L) (Q := Q) 1 h3 hr
  simp only [Nat.reduceAdd]
  simp (disch := first | assumption | rfl | omega | decide | exact zb_01 _) only [zabs_e, zmax_e, zmin_e, zrf_s, zpush_s, zpush_n, zw_app, upd_app, updL_app, Nat.reduceEqDiff, Nat.add_left_cancel_iff, Nat.add_eq_left, Nat.left_eq_add, ↓reduceIte, true_and, and_true, Int32.reduceToNatClampNeg, zin_O, zi_ltO, zi_leO, zi_Olt, zi_Ole, zi_eqO, Nat.not_lt_zero, Nat.zero_le, List.append_nil, zrn_n, zrn_s, List.cons_append, List.nil_append, zlg_lt, zlg_gt, zlg_le, zlg_ge, zlg_eq, Int32.toInt_toInt64, Int64.reduceToInt, zw_zw, zw_sw1, zw_sw2, zw_sw3, zw_sw4, zw_sw5, zw_sw6, zw_sw7, ne_eq, zi_in, zi_cl, zi_le, zi_lt, zi_eq, zi_neg, zi_0le, zb_0, if_true, if_false, eq_self, zb_T, zb_F, Bool.false_eq_true, zO_eq, zO_ne1, zO_ne2, zO_nn, zi_ne1, zi_ne2, zi_lt1, zi_le1, zi_lt2, zi_le2, Int32.reduceLT, Int32.reduceLE, Nat.reduceLT, Nat.reduceLeDiff, Int32.reduceMul, Int32.reduceAdd, Int32.reduceSub, not_false_eq_true, not_true_eq_false, Int32.reduceToInt, Int.reduceLE, Int.reduceLT, Int.reduceNeg, ite_self, E_X10_standsAs, R_X10_standsAs, SHF, PF, h3, h4, h5, zTm_4, zTm_5, show nI 0 = 0 from rfl, show nI 1 = 1 from rfl, show nI 2 = 2 from rfl, show nI 3 = 3 from rfl, show nI 4 = 4 from rfl, show nI 5 = 5 from rfl, show nI 6 = 6 from rfl, show nI 7 = 7 from rfl, qb]
theorem ma_0_4 (ih : ∀ a k, a < 4 → k < 8 → zMa f g t L o y F a k) (ho : o < 8) : zMa f g t L o y (F + 1) 0 4 := by
  intro x J r D Q hg h3 h4 h5 hl hD
  obtain ⟨D, rfl⟩ : ∃ D', D = D' + 2 := ⟨D - 2, by omega⟩
  have e : zsp o y (F + 1) 0 4 x = (20 :: (zsp o y F 0 0 (x)).1, (zsp o y F 0 0 (x)).2 + 3) := rfl
  rw [e] at hl ⊢
  clear e
  have hg : zgd o F 0 0 = true := hg
  simp only [List.length_cons, List.length_append, List.length_nil] at hl
  have hr : r < 24 := by omega
  have qb := fun Q => m_begins (d := D) (f := f) (g := g) (t := t) (L := L) (Q := Q) 20 h3 hr
  have q0 := fun Q => ih 0 0 (by decide) (by decide) (x) (zTm J r [20]) (r + 1) (D + 1) Q hg rfl h4 h5 (by omega) (by omega)
  have eM : (zTm (zTm J r [20]) (r + 1) (zsp o y F 0 0 (x)).1) = zTm J r (20 :: (zsp o y F 0 0 (x)).1) := zTm_a (cs := [20])
  simp only [Nat.reduceAdd, show nI 0 = 0 from rfl, show nI 1 = 1 from rfl, show nI 2 = 2 from rfl, show nI 3 = 3 from rfl, show nI 4 = 4 from rfl, show nI 5 = 5 from rfl, show nI 6 = 6 from rfl, show nI 7 = 7 from rfl] at q0
  simp only [Nat.reduceAdd]
  simp (disch := first | assumption | rfl | omega | decide | exact zb_01 _) only [zabs_e, zmax_e, zmin_e, zrf_s, zpush_s, zpush_n, zw_app, upd_app, updL_app, Nat.reduceEqDiff, Nat.add_left_cancel_iff, Nat.add_eq_left, Nat.left_eq_add, ↓reduceIte, true_and, and_true, Int32.reduceToNatClampNeg, zin_O, zi_ltO, zi_leO, zi_Olt, zi_Ole, zi_eqO, Nat.not_lt_zero, Nat.zero_le, List.append_nil, zrn_n, zrn_s, List.cons_append, List.nil_append, zlg_lt, zlg_gt, zlg_le, zlg_ge, zlg_eq, Int32.toInt_toInt64, Int64.reduceToInt, zw_zw, zw_sw1, zw_sw2, zw_sw3, zw_sw4, zw_sw5, zw_sw6, zw_sw7, ne_eq, zi_in, zi_cl, zi_le, zi_lt, zi_eq, zi_neg, zi_0le, zb_0, if_true, if_false, eq_self, zb_T, zb_F, Bool.false_eq_true, zO_eq, zO_ne1, zO_ne2, zO_nn, zi_ne1, zi_ne2, zi_lt1, zi_le1, zi_lt2, zi_le2, Int32.reduceLT, Int32.reduceLE, Nat.reduceLT, Nat.reduceLeDiff, Int32.reduceMul, Int32.reduceAdd, Int32.reduceSub, not_false_eq_true, not_true_eq_false, Int32.reduceToInt, Int.reduceLE, Int.reduceLT, Int.reduceNeg, ite_self, E_X10_standsAs, R_X10_standsAs, SHF, PF, h3, h4, h5, zTm_4, zTm_5, show nI 0 = 0 from rfl, show nI 1 = 1 from rfl, show nI 2 = 2 from rfl, show nI 3 = 3 from rfl, show nI 4 = 4 from rfl, show nI 5 = 5 from rfl, show nI 6 = 6 from rfl, show nI 7 = 7 from rfl, qb, q0]
  try rw [eM]
theorem ma_0_5 (ih : ∀ a k, a < 4 → k < 8 → zMa f g t L o y F a k) (ho : o < 8) : zMa f g t L o y (F + 1) 0 5 := by
  intro x J r D Q hg h3 h4 h5 hl hD
  obtain ⟨D, rfl⟩ : ∃ D', D = D' + 2 := ⟨D - 2, by omega⟩
  have e : zsp o y (F + 1) 0 5 x = ([1], x + y) := rfl
  rw [e] at hl ⊢
  clear e
  simp only [List.length_cons, List.length_append, List.length_nil] at hl
  have hr : r < 24 := by omega
  have qb := fun Q => m_begins (d := D) (f := f) (g := g) (t := t) (L := L) (Q := Q) 1 h3 hr
  simp only [Nat.reduceAdd]
  simp (disch := first | assumption | rfl | omega | decide | exact zb_01 _) only [zabs_e, zmax_e, zmin_e, zrf_s, zpush_s, zpush_n, zw_app, upd_app, updL_app, Nat.reduceEqDiff, Nat.add_left_cancel_iff, Nat.add_eq_left, Nat.left_eq_add, ↓reduceIte, true_and, and_true, Int32.reduceToNatClampNeg, zin_O, zi_ltO, zi_leO, zi_Olt, zi_Ole, zi_eqO, Nat.not_lt_zero, Nat.zero_le, List.append_nil, zrn_n, zrn_s, List.cons_append, List.nil_append, zlg_lt, zlg_gt, zlg_le, zlg_ge, zlg_eq, Int32.toInt_toInt64, Int64.reduceToInt, zw_zw, zw_sw1, zw_sw2, zw_sw3, zw_sw4, zw_sw5, zw_sw6, zw_sw7, ne_eq, zi_in, zi_cl, zi_le, zi_lt, zi_eq, zi_neg, zi_0le, zb_0, if_true, if_false, eq_self, zb_T, zb_F, Bool.false_eq_true, zO_eq, zO_ne1, zO_ne2, zO_nn, zi_ne1, zi_ne2, zi_lt1, zi_le1, zi_lt2, zi_le2, Int32.reduceLT, Int32.reduceLE, Nat.reduceLT, Nat.reduceLeDiff, Int32.reduceMul, Int32.reduceAdd, Int32.reduceSub, not_false_eq_true, not_true_eq_false, Int32.reduceToInt, Int.reduceLE, Int.reduceLT, Int.reduceNeg, ite_self, E_X10_standsAs, R_X10_standsAs, SHF, PF, h3, h4, h5, zTm_4, zTm_5, show nI 0 = 0 from rfl, show nI 1 = 1 from rfl, show nI 2 = 2 from rfl, show nI 3 = 3 from rfl, show nI 4 = 4 from rfl, show nI 5 = 5 from rfl, show nI 6 = 6 from rfl, show nI 7 = 7 from rfl, qb]
theorem ma_0_6 (ih : ∀ a k, a < 4 → k < 8 → zMa f g t L o y F a k) (ho : o < 8) : zMa f g t L o y (F + 1) 0 6 := by
  intro x J r D Q hg h3 h4 h5 hl hD
  obtain ⟨D, rfl⟩ : ∃ D', D = D' + 2 := ⟨D - 2, by omega⟩
  have e : zsp o y (F + 1) 0 6 x = (70 :: (zsp o y F 0 0 (x)).1, (zsp o y F 0 0 (x)).2 * 2) := rfl
  rw [e] at hl ⊢
  clear e
  have hg : zgd o F 0 0 = true := hg
  simp only [List.length_cons, List.length_append, List.length_nil] at hl
  have hr : r < 24 := by omega
  have qb := fun Q => m_begins (d := D) (f := f) (g := g) (t := t) (L := L) (Q := Q) 70 h3 hr
  have q0 := fun Q => ih 0 0 (by decide) (by decide) (x) (zTm J r [70]) (r + 1) (D + 1) Q hg rfl h4 h5 (by omega) (by omega)
  have eM : (zTm (zTm J r [70]) (r + 1) (zsp o y F 0 0 (x)).1) = zTm J r (70 :: (zsp o y F 0 0 (x)).1) := zTm_a (cs := [70])
  simp only [Nat.reduceAdd, show nI 0 = 0 from rfl, show nI 1 = 1 from rfl, show nI 2 = 2 from rfl, show nI 3 = 3 from rfl, show nI 4 = 4 from rfl, show nI 5 = 5 from rfl, show nI 6 = 6 from rfl, show nI 7 = 7 from rfl] at q0
  simp only [Nat.reduceAdd]
  simp (disch := first | assumption | rfl | omega | decide | exact zb_01 _) only [zabs_e, zmax_e, zmin_e, zrf_s, zpush_s, zpush_n, zw_app, upd_app, updL_app, Nat.reduceEqDiff, Nat.add_left_cancel_iff, Nat.add_eq_left, Nat.left_eq_add, ↓reduceIte, true_and, and_true, Int32.reduceToNatClampNeg, zin_O, zi_ltO, zi_leO, zi_Olt, zi_Ole, zi_eqO, Nat.not_lt_zero, Nat.zero_le, List.append_nil, zrn_n, zrn_s, List.cons_append, List.nil_append, zlg_lt, zlg_gt, zlg_le, zlg_ge, zlg_eq, Int32.toInt_toInt64, Int64.reduceToInt, zw_zw, zw_sw1, zw_sw2, zw_sw3, zw_sw4, zw_sw5, zw_sw6, zw_sw7, ne_eq, zi_in, zi_cl, zi_le, zi_lt, zi_eq, zi_neg, zi_0le, zb_0, if_true, if_false, eq_self, zb_T, zb_F, Bool.false_eq_true, zO_eq, zO_ne1, zO_ne2, zO_nn, zi_ne1, zi_ne2, zi_lt1, zi_le1, zi_lt2, zi_le2, Int32.reduceLT, Int32.reduceLE, Nat.reduceLT, Nat.reduceLeDiff, Int32.reduceMul, Int32.reduceAdd, Int32.reduceSub, not_false_eq_true, not_true_eq_false, Int32.reduceToInt, Int.reduceLE, Int.reduceLT, Int.reduceNeg, ite_self, E_X10_standsAs, R_X10_standsAs, SHF, PF, h3, h4, h5, zTm_4, zTm_5, show nI 0 = 0 from rfl, show nI 1 = 1 from rfl, show nI 2 = 2 from rfl, show nI 3 = 3 from rfl, show nI 4 = 4 from rfl, show nI 5 = 5 from rfl, show nI 6 = 6 from rfl, show nI 7 = 7 from rfl, qb, q0]
  try rw [eM]
theorem ma_0_7 (ih : ∀ a k, a < 4 → k < 8 → zMa f g t L o y F a k) (ho : o < 8) : zMa f g t L o y (F + 1) 0 7 := by
  intro x J r D Q hg h3 h4 h5 hl hD
  obtain ⟨D, rfl⟩ : ∃ D', D = D' + 2 := ⟨D - 2, by omega⟩
  have e : zsp o y (F + 1) 0 7 x = (20 :: (zsp o y F 0 0 (x)).1, (zsp o y F 0 0 (x)).2 + 3) := rfl
  rw [e] at hl ⊢
  clear e
  have hg : zgd o F 0 0 = true := hg
  simp only [List.length_cons, List.length_append, List.length_nil] at hl
  have hr : r < 24 := by omega
  have qb := fun Q => m_begins (d := D) (f := f) (g := g) (t := t) (L := L) (Q := Q) 20 h3 hr
  have q0 := fun Q => ih 0 0 (by decide) (by decide) (x) (zTm J r [20]) (r + 1) (D + 1) Q hg rfl h4 h5 (by omega) (by omega)
  have eM : (zTm (zTm J r [20]) (r + 1) (zsp o y F 0 0 (x)).1) = zTm J r (20 :: (zsp o y F 0 0 (x)).1) := zTm_a (cs := [20])
  simp only [Nat.reduceAdd, show nI 0 = 0 from rfl, show nI 1 = 1 from rfl, show nI 2 = 2 from rfl, show nI 3 = 3 from rfl, show nI 4 = 4 from rfl, show nI 5 = 5 from rfl, show nI 6 = 6 from rfl, show nI 7 = 7 from rfl] at q0
  simp only [Nat.reduceAdd]
  simp (disch := first | assumption | rfl | omega | decide | exact zb_01 _) only [zabs_e, zmax_e, zmin_e, zrf_s, zpush_s, zpush_n, zw_app, upd_app, updL_app, Nat.reduceEqDiff, Nat.add_left_cancel_iff, Nat.add_eq_left, Nat.left_eq_add, ↓reduceIte, true_and, and_true, Int32.reduceToNatClampNeg, zin_O, zi_ltO, zi_leO, zi_Olt, zi_Ole, zi_eqO, Nat.not_lt_zero, Nat.zero_le, List.append_nil, zrn_n, zrn_s, List.cons_append, List.nil_append, zlg_lt, zlg_gt, zlg_le, zlg_ge, zlg_eq, Int32.toInt_toInt64, Int64.reduceToInt, zw_zw, zw_sw1, zw_sw2, zw_sw3, zw_sw4, zw_sw5, zw_sw6, zw_sw7, ne_eq, zi_in, zi_cl, zi_le, zi_lt, zi_eq, zi_neg, zi_0le, zb_0, if_true, if_false, eq_self, zb_T, zb_F, Bool.false_eq_true, zO_eq, zO_ne1, zO_ne2, zO_nn, zi_ne1, zi_ne2, zi_lt1, zi_le1, zi_lt2, zi_le2, Int32.reduceLT, Int32.reduceLE, Nat.reduceLT, Nat.reduceLeDiff, Int32.reduceMul, Int32.reduceAdd, Int32.reduceSub, not_false_eq_true, not_true_eq_false, Int32.reduceToInt, Int.reduceLE, Int.reduceLT, Int.reduceNeg, ite_self, E_X10_standsAs, R_X10_standsAs, SHF, PF, h3, h4, h5, zTm_4, zTm_5, show nI 0 = 0 from rfl, show nI 1 = 1 from rfl, show nI 2 = 2 from rfl, show nI 3 = 3 from rfl, show nI 4 = 4 from rfl, show nI 5 = 5 from rfl, show nI 6 = 6 from rfl, show nI 7 = 7 from rfl, qb, q0]
  try rw [eM]
theorem ma_1_0 (ih : ∀ a k, a < 4 → k < 8 → zMa f g t L o y F a k) (ho : o < 8) : zMa f g t L o y (F + 1) 1 0 := by
  intro x J r D Q hg h3 h4 h5 hl hD
  obtain ⟨D, rfl⟩ : ∃ D', D = D' + 2 := ⟨D - 2, by omega⟩
  have e : zsp o y (F + 1) 1 0 x = (10 :: (zsp o y F 0 o (x)).1, (zsp o y F 0 o (x)).2 * 2) := rfl
  rw [e] at hl ⊢
  clear e
  have hg : zgd o F 0 o = true := hg
  simp only [List.length_cons, List.length_append, List.length_nil] at hl
  have hr : r < 24 := by omega
  have qb := fun Q => m_begins (d := D) (f := f) (g := g) (t := t) (L := L) (Q := Q) 10 h3 hr
  have q0 := fun Q => ih 0 o (by decide) ho (x) (zTm J r [10]) (r + 1) (D + 1) Q hg rfl h4 h5 (by omega) (by omega)
  have eM : (zTm (zTm J r [10]) (r + 1) (zsp o y F 0 o (x)).1) = zTm J r (10 :: (zsp o y F 0 o (x)).1) := zTm_a (cs := [10])
  simp only [Nat.reduceAdd, show nI 0 = 0 from rfl, show nI 1 = 1 from rfl, show nI 2 = 2 from rfl, show nI 3 = 3 from rfl, show nI 4 = 4 from rfl, show nI 5 = 5 from rfl, show nI 6 = 6 from rfl, show nI 7 = 7 from rfl] at q0
  simp only [Nat.reduceAdd]
  simp (disch := first | assumption | rfl | omega | decide | exact zb_01 _) only [zabs_e, zmax_e, zmin_e, zrf_s, zpush_s, zpush_n, zw_app, upd_app, updL_app, Nat.reduceEqDiff, Nat.add_left_cancel_iff, Nat.add_eq_left, Nat.left_eq_add, ↓reduceIte, true_and, and_true, Int32.reduceToNatClampNeg, zin_O, zi_ltO, zi_leO, zi_Olt, zi_Ole, zi_eqO, Nat.not_lt_zero, Nat.zero_le, List.append_nil, zrn_n, zrn_s, List.cons_append, List.nil_append, zlg_lt, zlg_gt, zlg_le, zlg_ge, zlg_eq, Int32.toInt_toInt64, Int64.reduceToInt, zw_zw, zw_sw1, zw_sw2, zw_sw3, zw_sw4, zw_sw5, zw_sw6, zw_sw7, ne_eq, zi_in, zi_cl, zi_le, zi_lt, zi_eq, zi_neg, zi_0le, zb_0, if_true, if_false, eq_self, zb_T, zb_F, Bool.false_eq_true, zO_eq, zO_ne1, zO_ne2, zO_nn, zi_ne1, zi_ne2, zi_lt1, zi_le1, zi_lt2, zi_le2, Int32.reduceLT, Int32.reduceLE, Nat.reduceLT, Nat.reduceLeDiff, Int32.reduceMul, Int32.reduceAdd, Int32.reduceSub, not_false_eq_true, not_true_eq_false, Int32.reduceToInt, Int.reduceLE, Int.reduceLT, Int.reduceNeg, ite_self, E_X10_leansAs, R_X10_leansAs, SHF, PF, h3, h4, h5, zTm_4, zTm_5, show nI 0 = 0 from rfl, show nI 1 = 1 from rfl, show nI 2 = 2 from rfl, show nI 3 = 3 from rfl, show nI 4 = 4 from rfl, show nI 5 = 5 from rfl, show nI 6 = 6 from rfl, show nI 7 = 7 from rfl, qb, q0]
  try rw [eM]
theorem ma_1_1 (ih : ∀ a k, a < 4 → k < 8 → zMa f g t L o y F a k) (ho : o < 8) : zMa f g t L o y (F + 1) 1 1 := by
  intro x J r D Q hg h3 h4 h5 hl hD
  obtain ⟨D, rfl⟩ : ∃ D', D = D' + 2 := ⟨D - 2, by omega⟩
  have e : zsp o y (F + 1) 1 1 x = (10 :: (zsp o y F 0 o (x)).1, (zsp o y F 0 o (x)).2 * 2) := rfl
  rw [e] at hl ⊢
  clear e
  have hg : zgd o F 0 o = true := hg
  simp only [List.length_cons, List.length_append, List.length_nil] at hl
  have hr : r < 24 := by omega
  have qb := fun Q => m_begins (d := D) (f := f) (g := g) (t := t) (L := L) (Q := Q) 10 h3 hr
  have q0 := fun Q => ih 0 o (by decide) ho (x) (zTm J r [10]) (r + 1) (D + 1) Q hg rfl h4 h5 (by omega) (by omega)
  have eM : (zTm (zTm J r [10]) (r + 1) (zsp o y F 0 o (x)).1) = zTm J r (10 :: (zsp o y F 0 o (x)).1) := zTm_a (cs := [10])
  simp only [Nat.reduceAdd, show nI 0 = 0 from rfl, show nI 1 = 1 from rfl, show nI 2 = 2 from rfl, show nI 3 = 3 from rfl, show nI 4 = 4 from rfl, show nI 5 = 5 from rfl, show nI 6 = 6 from rfl, show nI 7 = 7 from rfl] at q0
  simp only [Nat.reduceAdd]
  simp (disch := first | assumption | rfl | omega | decide | exact zb_01 _) only [zabs_e, zmax_e, zmin_e, zrf_s, zpush_s, zpush_n, zw_app, upd_app, updL_app, Nat.reduceEqDiff, Nat.add_left_cancel_iff, Nat.add_eq_left, Nat.left_eq_add, ↓reduceIte, true_and, and_true, Int32.reduceToNatClampNeg, zin_O, zi_ltO, zi_leO, zi_Olt, zi_Ole, zi_eqO, Nat.not_lt_zero, Nat.zero_le, List.append_nil, zrn_n, zrn_s, List.cons_append, List.nil_append, zlg_lt, zlg_gt, zlg_le, zlg_ge, zlg_eq, Int32.toInt_toInt64, Int64.reduceToInt, zw_zw, zw_sw1, zw_sw2, zw_sw3, zw_sw4, zw_sw5, zw_sw6, zw_sw7, ne_eq, zi_in, zi_cl, zi_le, zi_lt, zi_eq, zi_neg, zi_0le, zb_0, if_true, if_false, eq_self, zb_T, zb_F, Bool.false_eq_true, zO_eq, zO_ne1, zO_ne2, zO_nn, zi_ne1, zi_ne2, zi_lt1, zi_le1, zi_lt2, zi_le2, Int32.reduceLT, Int32.reduceLE, Nat.reduceLT, Nat.reduceLeDiff, Int32.reduceMul, Int32.reduceAdd, Int32.reduceSub, not_false_eq_true, not_true_eq_false, Int32.reduceToInt, Int.reduceLE, Int.reduceLT, Int.reduceNeg, ite_self, E_X10_leansAs, R_X10_leansAs, SHF, PF, h3, h4, h5, zTm_4, zTm_5, show nI 0 = 0 from rfl, show nI 1 = 1 from rfl, show nI 2 = 2 from rfl, show nI 3 = 3 from rfl, show nI 4 = 4 from rfl, show nI 5 = 5 from rfl, show nI 6 = 6 from rfl, show nI 7 = 7 from rfl, qb, q0]
  try rw [eM]
theorem ma_1_2 (ih : ∀ a k, a < 4 → k < 8 → zMa f g t L o y F a k) (ho : o < 8) : zMa f g t L o y (F + 1) 1 2 := by
  intro x J r D Q hg h3 h4 h5 hl hD
  obtain ⟨D, rfl⟩ : ∃ D', D = D' + 2 := ⟨D - 2, by omega⟩
  have e : zsp o y (F + 1) 1 2 x = (30 :: (zsp o y F 1 0 (x)).1, -(zsp o y F 1 0 (x)).2) := rfl
  rw [e] at hl ⊢
  clear e
  have hg : zgd o F 1 0 = true := hg
  simp only [List.length_cons, List.length_append, List.length_nil] at hl
  have hr : r < 24 := by omega
  have qb := fun Q => m_begins (d := D) (f := f) (g := g) (t := t) (L := L) (Q := Q) 30 h3 hr
  have q0 := fun Q => ih 1 0 (by decide) (by decide) (x) (zTm J r [30]) (r + 1) (D + 1) Q hg rfl h4 h5 (by omega) (by omega)
  have eM : (zTm (zTm J r [30]) (r + 1) (zsp o y F 1 0 (x)).1) = zTm J r (30 :: (zsp o y F 1 0 (x)).1) := zTm_a (cs := [30])
  simp only [Nat.reduceAdd, show nI 0 = 0 from rfl, show nI 1 = 1 from rfl, show nI 2 = 2 from rfl, show nI 3 = 3 from rfl, show nI 4 = 4 from rfl, show nI 5 = 5 from rfl, show nI 6 = 6 from rfl, show nI 7 = 7 from rfl] at q0
  simp only [Nat.reduceAdd]
  simp (disch := first | assumption | rfl | omega | decide | exact zb_01 _) only [zabs_e, zmax_e, zmin_e, zrf_s, zpush_s, zpush_n, zw_app, upd_app, updL_app, Nat.reduceEqDiff, Nat.add_left_cancel_iff, Nat.add_eq_left, Nat.left_eq_add, ↓reduceIte, true_and, and_true, Int32.reduceToNatClampNeg, zin_O, zi_ltO, zi_leO, zi_Olt, zi_Ole, zi_eqO, Nat.not_lt_zero, Nat.zero_le, List.append_nil, zrn_n, zrn_s, List.cons_append, List.nil_append, zlg_lt, zlg_gt, zlg_le, zlg_ge, zlg_eq, Int32.toInt_toInt64, Int64.reduceToInt, zw_zw, zw_sw1, zw_sw2, zw_sw3, zw_sw4, zw_sw5, zw_sw6, zw_sw7, ne_eq, zi_in, zi_cl, zi_le, zi_lt, zi_eq, zi_neg, zi_0le, zb_0, if_true, if_false, eq_self, zb_T, zb_F, Bool.false_eq_true, zO_eq, zO_ne1, zO_ne2, zO_nn, zi_ne1, zi_ne2, zi_lt1, zi_le1, zi_lt2, zi_le2, Int32.reduceLT, Int32.reduceLE, Nat.reduceLT, Nat.reduceLeDiff, Int32.reduceMul, Int32.reduceAdd, Int32.reduceSub, not_false_eq_true, not_true_eq_false, Int32.reduceToInt, Int.reduceLE, Int.reduceLT, Int.reduceNeg, ite_self, E_X10_leansAs, R_X10_leansAs, SHF, PF, h3, h4, h5, zTm_4, zTm_5, show nI 0 = 0 from rfl, show nI 1 = 1 from rfl, show nI 2 = 2 from rfl, show nI 3 = 3 from rfl, show nI 4 = 4 from rfl, show nI 5 = 5 from rfl, show nI 6 = 6 from rfl, show nI 7 = 7 from rfl, qb, q0]
  try rw [eM]
theorem ma_1_3 (ih : ∀ a k, a < 4 → k < 8 → zMa f g t L o y F a k) (ho : o < 8) : zMa f g t L o y (F + 1) 1 3 := by
  intro x J r D Q hg h3 h4 h5 hl hD
  obtain ⟨D, rfl⟩ : ∃ D', D = D' + 2 := ⟨D - 2, by omega⟩
  have e : zsp o y (F + 1) 1 3 x = (41 :: (zsp o y F 1 2 (x + 1)).1, (zsp o y F 1 2 (x + 1)).2) := rfl
  rw [e] at hl ⊢
  clear e
  have hg : zgd o F 1 2 = true := hg
  simp only [List.length_cons, List.length_append, List.length_nil] at hl
  have hr : r < 24 := by omega
  have qb := fun Q => m_begins (d := D) (f := f) (g := g) (t := t) (L := L) (Q := Q) 41 h3 hr
  have q0 := fun Q => ih 1 2 (by decide) (by decide) (x + 1) (zTm J r [41]) (r + 1) (D + 1) Q hg rfl h4 h5 (by omega) (by omega)
  have eM : (zTm (zTm J r [41]) (r + 1) (zsp o y F 1 2 (x + 1)).1) = zTm J r (41 :: (zsp o y F 1 2 (x + 1)).1) := zTm_a (cs := [41])
  simp only [Nat.reduceAdd, show nI 0 = 0 from rfl, show nI 1 = 1 from rfl, show nI 2 = 2 from rfl, show nI 3 = 3 from rfl, show nI 4 = 4 from rfl, show nI 5 = 5 from rfl, show nI 6 = 6 from rfl, show nI 7 = 7 from rfl] at q0
  simp only [Nat.reduceAdd]
  simp (disch := first | assumption | rfl | omega | decide | exact zb_01 _) only [zabs_e, zmax_e, zmin_e, zrf_s, zpush_s, zpush_n, zw_app, upd_app, updL_app, Nat.reduceEqDiff, Nat.add_left_cancel_iff, Nat.add_eq_left, Nat.left_eq_add, ↓reduceIte, true_and, and_true, Int32.reduceToNatClampNeg, zin_O, zi_ltO, zi_leO, zi_Olt, zi_Ole, zi_eqO, Nat.not_lt_zero, Nat.zero_le, List.append_nil, zrn_n, zrn_s, List.cons_append, List.nil_append, zlg_lt, zlg_gt, zlg_le, zlg_ge, zlg_eq, Int32.toInt_toInt64, Int64.reduceToInt, zw_zw, zw_sw1, zw_sw2, zw_sw3, zw_sw4, zw_sw5, zw_sw6, zw_sw7, ne_eq, zi_in, zi_cl, zi_le, zi_lt, zi_eq, zi_neg, zi_0le, zb_0, if_true, if_false, eq_self, zb_T, zb_F, Bool.false_eq_true, zO_eq, zO_ne1, zO_ne2, zO_nn, zi_ne1, zi_ne2, zi_lt1, zi_le1, zi_lt2, zi_le2, Int32.reduceLT, Int32.reduceLE, Nat.reduceLT, Nat.reduceLeDiff, Int32.reduceMul, Int32.reduceAdd, Int32.reduceSub, not_false_eq_true, not_true_eq_false, Int32.reduceToInt, Int.reduceLE, Int.reduceLT, Int.reduceNeg, ite_self, E_X10_leansAs, R_X10_leansAs, SHF, PF, h3, h4, h5, zTm_4, zTm_5, show nI 0 = 0 from rfl, show nI 1 = 1 from rfl, show nI 2 = 2 from rfl, show nI 3 = 3 from rfl, show nI 4 = 4 from rfl, show nI 5 = 5 from rfl, show nI 6 = 6 from rfl, show nI 7 = 7 from rfl, qb, q0]
  try rw [eM]
theorem ma_1_4 (ih : ∀ a k, a < 4 → k < 8 → zMa f g t L o y F a k) (ho : o < 8) : zMa f g t L o y (F + 1) 1 4 := by
  intro x J r D Q hg h3 h4 h5 hl hD
  obtain ⟨D, rfl⟩ : ∃ D', D = D' + 2 := ⟨D - 2, by omega⟩
  have e : zsp o y (F + 1) 1 4 x = (10 :: (zsp o y F 0 o (x)).1, (zsp o y F 0 o (x)).2 * 2) := rfl
  rw [e] at hl ⊢
  clear e
  have hg : zgd o F 0 o = true := hg
  simp only [List.length_cons, List.length_append, List.length_nil] at hl
  have hr : r < 24 := by omega
  have qb := fun Q => m_begins (d := D) (f := f) (g := g) (t := t) (L := L) (Q := Q) 10 h3 hr
  have q0 := fun Q => ih 0 o (by decide) ho (x) (zTm J r [10]) (r + 1) (D + 1) Q hg rfl h4 h5 (by omega) (by omega)
  have eM : (zTm (zTm J r [10]) (r + 1) (zsp o y F 0 o (x)).1) = zTm J r (10 :: (zsp o y F 0 o (x)).1) := zTm_a (cs := [10])
  simp only [Nat.reduceAdd, show nI 0 = 0 from rfl, show nI 1 = 1 from rfl, show nI 2 = 2 from rfl, show nI 3 = 3 from rfl, show nI 4 = 4 from rfl, show nI 5 = 5 from rfl, show nI 6 = 6 from rfl, show nI 7 = 7 from rfl] at q0
  simp only [Nat.reduceAdd]
  simp (disch := first | assumption | rfl | omega | decide | exact zb_01 _) only [zabs_e, zmax_e, zmin_e, zrf_s, zpush_s, zpush_n, zw_app, upd_app, updL_app, Nat.reduceEqDiff, Nat.add_left_cancel_iff, Nat.add_eq_left, Nat.left_eq_add, ↓reduceIte, true_and, and_true, Int32.reduceToNatClampNeg, zin_O, zi_ltO, zi_leO, zi_Olt, zi_Ole, zi_eqO, Nat.not_lt_zero, Nat.zero_le, List.append_nil, zrn_n, zrn_s, List.cons_append, List.nil_append, zlg_lt, zlg_gt, zlg_le, zlg_ge, zlg_eq, Int32.toInt_toInt64, Int64.reduceToInt, zw_zw, zw_sw1, zw_sw2, zw_sw3, zw_sw4, zw_sw5, zw_sw6, zw_sw7, ne_eq, zi_in, zi_cl, zi_le, zi_lt, zi_eq, zi_neg, zi_0le, zb_0, if_true, if_false, eq_self, zb_T, zb_F, Bool.false_eq_true, zO_eq, zO_ne1, zO_ne2, zO_nn, zi_ne1, zi_ne2, zi_lt1, zi_le1, zi_lt2, zi_le2, Int32.reduceLT, Int32.reduceLE, Nat.reduceLT, Nat.reduceLeDiff, Int32.reduceMul, Int32.reduceAdd, Int32.reduceSub, not_false_eq_true, not_true_eq_false, Int32.reduceToInt, Int.reduceLE, Int.reduceLT, Int.reduceNeg, ite_self, E_X10_leansAs, R_X10_leansAs, SHF, PF, h3, h4, h5, zTm_4, zTm_5, show nI 0 = 0 from rfl, show nI 1 = 1 from rfl, show nI 2 = 2 from rfl, show nI 3 = 3 from rfl, show nI 4 = 4 from rfl, show nI 5 = 5 from rfl, show nI 6 = 6 from rfl, show nI 7 = 7 from rfl, qb, q0]
  try rw [eM]
theorem ma_1_5 (ih : ∀ a k, a < 4 → k < 8 → zMa f g t L o y F a k) (ho : o < 8) : zMa f g t L o y (F + 1) 1 5 := by
  intro x J r D Q hg h3 h4 h5 hl hD
  obtain ⟨D, rfl⟩ : ∃ D', D = D' + 2 := ⟨D - 2, by omega⟩
  have e : zsp o y (F + 1) 1 5 x = (41 :: (zsp o y F 1 2 (x + 1)).1, (zsp o y F 1 2 (x + 1)).2) := rfl
  rw [e] at hl ⊢
  clear e
  have hg : zgd o F 1 2 = true := hg
  simp only [List.length_cons, List.length_append, List.length_nil] at hl
  have hr : r < 24 := by omega
  have qb := fun Q => m_begins (d := D) (f := f) (g := g) (t := t) (L := L) (Q := Q) 41 h3 hr
  have q0 := fun Q => ih 1 2 (by decide) (by decide) (x + 1) (zTm J r [41]) (r + 1) (D + 1) Q hg rfl h4 h5 (by omega) (by omega)
  have eM : (zTm (zTm J r [41]) (r + 1) (zsp o y F 1 2 (x + 1)).1) = zTm J r (41 :: (zsp o y F 1 2 (x + 1)).1) := zTm_a (cs := [41])
  simp only [Nat.reduceAdd, show nI 0 = 0 from rfl, show nI 1 = 1 from rfl, show nI 2 = 2 from rfl, show nI 3 = 3 from rfl, show nI 4 = 4 from rfl, show nI 5 = 5 from rfl, show nI 6 = 6 from rfl, show nI 7 = 7 from rfl] at q0
  simp only [Nat.reduceAdd]
  simp (disch := first | assumption | rfl | omega | decide | exact zb_01 _) only [zabs_e, zmax_e, zmin_e, zrf_s, zpush_s, zpush_n, zw_app, upd_app, updL_app, Nat.reduceEqDiff, Nat.add_left_cancel_iff, Nat.add_eq_left, Nat.left_eq_add, ↓reduceIte, true_and, and_true, Int32.reduceToNatClampNeg, zin_O, zi_ltO, zi_leO, zi_Olt, zi_Ole, zi_eqO, Nat.not_lt_zero, Nat.zero_le, List.append_nil, zrn_n, zrn_s, List.cons_append, List.nil_append, zlg_lt, zlg_gt, zlg_le, zlg_ge, zlg_eq, Int32.toInt_toInt64, Int64.reduceToInt, zw_zw, zw_sw1, zw_sw2, zw_sw3, zw_sw4, zw_sw5, zw_sw6, zw_sw7, ne_eq, zi_in, zi_cl, zi_le, zi_lt, zi_eq, zi_neg, zi_0le, zb_0, if_true, if_false, eq_self, zb_T, zb_F, Bool.false_eq_true, zO_eq, zO_ne1, zO_ne2, zO_nn, zi_ne1, zi_ne2, zi_lt1, zi_le1, zi_lt2, zi_le2, Int32.reduceLT, Int32.reduceLE, Nat.reduceLT, Nat.reduceLeDiff, Int32.reduceMul, Int32.reduceAdd, Int32.reduceSub, not_false_eq_true, not_true_eq_false, Int32.reduceToInt, Int.reduceLE, Int.reduceLT, Int.reduceNeg, ite_self, E_X10_leansAs, R_X10_leansAs, SHF, PF, h3, h4, h5, zTm_4, zTm_5, show nI 0 = 0 from rfl, show nI 1 = 1 from rfl, show nI 2 = 2 from rfl, show nI 3 = 3 from rfl, show nI 4 = 4 from rfl, show nI 5 = 5 from rfl, show nI 6 = 6 from rfl, show nI 7 = 7 from rfl, qb, q0]
  try rw [eM]
theorem ma_1_6 (ih : ∀ a k, a < 4 → k < 8 → zMa f g t L o y F a k) (ho : o < 8) : zMa f g t L o y (F + 1) 1 6 := by
  intro x J r D Q hg h3 h4 h5 hl hD
  obtain ⟨D, rfl⟩ : ∃ D', D = D' + 2 := ⟨D - 2, by omega⟩
  have e : zsp o y (F + 1) 1 6 x = (10 :: (zsp o y F 0 o (x)).1, (zsp o y F 0 o (x)).2 * 2) := rfl
  rw [e] at hl ⊢
  clear e
  have hg : zgd o F 0 o = true := hg
  simp only [List.length_cons, List.length_append, List.length_nil] at hl
  have hr : r < 24 := by omega
  have qb := fun Q => m_begins (d := D) (f := f) (g := g) (t := t) (L := L) (Q := Q) 10 h3 hr
  have q0 := fun Q => ih 0 o (by decide) ho (x) (zTm J r [10]) (r + 1) (D + 1) Q hg rfl h4 h5 (by omega) (by omega)
  have eM : (zTm (zTm J r [10]) (r + 1) (zsp o y F 0 o (x)).1) = zTm J r (10 :: (zsp o y F 0 o (x)).1) := zTm_a (cs := [10])
  simp only [Nat.reduceAdd, show nI 0 = 0 from rfl, show nI 1 = 1 from rfl, show nI 2 = 2 from rfl, show nI 3 = 3 from rfl, show nI 4 = 4 from rfl, show nI 5 = 5 from rfl, show nI 6 = 6 from rfl, show nI 7 = 7 from rfl] at q0
  simp only [Nat.reduceAdd]
  simp (disch := first | assumption | rfl | omega | decide | exact zb_01 _) only [zabs_e, zmax_e, zmin_e, zrf_s, zpush_s, zpush_n, zw_app, upd_app, updL_app, Nat.reduceEqDiff, Nat.add_left_cancel_iff, Nat.add_eq_left, Nat.left_eq_add, ↓reduceIte, true_and, and_true, Int32.reduceToNatClampNeg, zin_O, zi_ltO, zi_leO, zi_Olt, zi_Ole, zi_eqO, Nat.not_lt_zero, Nat.zero_le, List.append_nil, zrn_n, zrn_s, List.cons_append, List.nil_append, zlg_lt, zlg_gt, zlg_le, zlg_ge, zlg_eq, Int32.toInt_toInt64, Int64.reduceToInt, zw_zw, zw_sw1, zw_sw2, zw_sw3, zw_sw4, zw_sw5, zw_sw6, zw_sw7, ne_eq, zi_in, zi_cl, zi_le, zi_lt, zi_eq, zi_neg, zi_0le, zb_0, if_true, if_false, eq_self, zb_T, zb_F, Bool.false_eq_true, zO_eq, zO_ne1, zO_ne2, zO_nn, zi_ne1, zi_ne2, zi_lt1, zi_le1, zi_lt2, zi_le2, Int32.reduceLT, Int32.reduceLE, Nat.reduceLT, Nat.reduceLeDiff, Int32.reduceMul, Int32.reduceAdd, Int32.reduceSub, not_false_eq_true, not_true_eq_false, Int32.reduceToInt, Int.reduceLE, Int.reduceLT, Int.reduceNeg, ite_self, E_X10_leansAs, R_X10_leansAs, SHF, PF, h3, h4, h5, zTm_4, zTm_5, show nI 0 = 0 from rfl, show nI 1 = 1 from rfl, show nI 2 = 2 from rfl, show nI 3 = 3 from rfl, show nI 4 = 4 from rfl, show nI 5 = 5 from rfl, show nI 6 = 6 from rfl, show nI 7 = 7 from rfl, qb, q0]
  try rw [eM]
theorem ma_1_7 (ih : ∀ a k, a < 4 → k < 8 → zMa f g t L o y F a k) (ho : o < 8) : zMa f g t L o y (F + 1) 1 7 := by
  intro x J r D Q hg h3 h4 h5 hl hD
  obtain ⟨D, rfl⟩ : ∃ D', D = D' + 2 := ⟨D - 2, by omega⟩
  have e : zsp o y (F + 1) 1 7 x = (80 :: ((zsp o y F 1 4 (x)).1 ++ (zsp o y F 2 o (2)).1), (zsp o y F 1 4 (x)).2 + (zsp o y F 2 o (2)).2) := rfl
  rw [e] at hl ⊢
  clear e
  have hg : (zgd o F 1 4 && zgd o F 2 o) = true := hg
  rw [Bool.and_eq_true] at hg
  simp only [List.length_cons, List.length_append, List.length_nil] at hl
  have hr : r < 24 := by omega
  have qb := fun Q => m_begins (d := D) (f := f) (g := g) (t := t) (L := L) (Q := Q) 80 h3 hr
  have q0 := fun Q => ih 1 4 (by decide) (by decide) (x) (zTm J r [80]) (r + 1) (D + 1) Q hg.1 rfl h4 h5 (by omega) (by omega)
  have q1 := fun Q => ih 2 o (by decide) ho (2) (zTm (zTm J r [80]) (r + 1) (zsp o y F 1 4 (x)).1) (r + 1 + (zsp o y F 1 4 (x)).1.length) (D + 1) Q hg.2 rfl h4 h5 (by omega) (by omega)
  have eM : (zTm (zTm (zTm J r [80]) (r + 1) (zsp o y F 1 4 (x)).1) (r + 1 + (zsp o y F 1 4 (x)).1.length) (zsp o y F 2 o (2)).1) = zTm J r (80 :: ((zsp o y F 1 4 (x)).1 ++ (zsp o y F 2 o (2)).1)) := by
    rw [show zTm (zTm J r [80]) (r + 1) (zsp o y F 1 4 (x)).1 = zTm J r ([80] ++ (zsp o y F 1 4 (x)).1) from zTm_a (cs := [80]), show r + 1 + (zsp o y F 1 4 (x)).1.length = r + ([80] ++ (zsp o y F 1 4 (x)).1).length by rw [List.length_append]; exact (Nat.add_assoc _ _ _)]
    exact zTm_a
  simp only [Nat.reduceAdd, show nI 0 = 0 from rfl, show nI 1 = 1 from rfl, show nI 2 = 2 from rfl, show nI 3 = 3 from rfl, show nI 4 = 4 from rfl, show nI 5 = 5 from rfl, show nI 6 = 6 from rfl, show nI 7 = 7 from rfl] at q0 q1
  simp only [Nat.reduceAdd]
  simp (disch := first | assumption | rfl | omega | decide | exact zb_01 _) only [zabs_e, zmax_e, zmin_e, zrf_s, zpush_s, zpush_n, zw_app, upd_app, updL_app, Nat.reduceEqDiff, Nat.add_left_cancel_iff, Nat.add_eq_left, Nat.left_eq_add, ↓reduceIte, true_and, and_true, Int32.reduceToNatClampNeg, zin_O, zi_ltO, zi_leO, zi_Olt, zi_Ole, zi_eqO, Nat.not_lt_zero, Nat.zero_le, List.append_nil, zrn_n, zrn_s, List.cons_append, List.nil_append, zlg_lt, zlg_gt, zlg_le, zlg_ge, zlg_eq, Int32.toInt_toInt64, Int64.reduceToInt, zw_zw, zw_sw1, zw_sw2, zw_sw3, zw_sw4, zw_sw5, zw_sw6, zw_sw7, ne_eq, zi_in, zi_cl, zi_le, zi_lt, zi_eq, zi_neg, zi_0le, zb_0, if_true, if_false, eq_self, zb_T, zb_F, Bool.false_eq_true, zO_eq, zO_ne1, zO_ne2, zO_nn, zi_ne1, zi_ne2, zi_lt1, zi_le1, zi_lt2, zi_le2, Int32.reduceLT, Int32.reduceLE, Nat.reduceLT, Nat.reduceLeDiff, Int32.reduceMul, Int32.reduceAdd, Int32.reduceSub, not_false_eq_true, not_true_eq_false, Int32.reduceToInt, Int.reduceLE, Int.reduceLT, Int.reduceNeg, ite_self, E_X10_leansAs, R_X10_leansAs, SHF, PF, h3, h4, h5, zTm_4, zTm_5, show nI 0 = 0 from rfl, show nI 1 = 1 from rfl, show nI 2 = 2 from rfl, show nI 3 = 3 from rfl, show nI 4 = 4 from rfl, show nI 5 = 5 from rfl, show nI 6 = 6 from rfl, show nI 7 = 7 from rfl, qb, q0, q1]
  try rw [eM]
theorem ma_2_0 (ih : ∀ a k, a < 4 → k < 8 → zMa f g t L o y F a k) (ho : o < 8) : zMa f g t L o y (F + 1) 2 0 := by
  intro x J r D Q hg h3 h4 h5 hl hD
  obtain ⟨D, rfl⟩ : ∃ D', D = D' + 2 := ⟨D - 2, by omega⟩
  have e : zsp o y (F + 1) 2 0 x = ([11], x ^^^ y) := rfl
  rw [e] at hl ⊢
  clear e
  simp only [List.length_cons, List.length_append, List.length_nil] at hl
  have hr : r < 24 := by omega
  have qb := fun Q => m_begins (d := D) (f := f) (g := g) (t := t) (L := L) (Q := Q) 11 h3 hr
  simp only [Nat.reduceAdd]
  simp (disch := first | assumption | rfl | omega | decide | exact zb_01 _) only [zabs_e, zmax_e, zmin_e, zrf_s, zpush_s, zpush_n, zw_app, upd_app, updL_app, Nat.reduceEqDiff, Nat.add_left_cancel_iff, Nat.add_eq_left, Nat.left_eq_add, ↓reduceIte, true_and, and_true, Int32.reduceToNatClampNeg, zin_O, zi_ltO, zi_leO, zi_Olt, zi_Ole, zi_eqO, Nat.not_lt_zero, Nat.zero_le, List.append_nil, zrn_n, zrn_s, List.cons_append, List.nil_append, zlg_lt, zlg_gt, zlg_le, zlg_ge, zlg_eq, Int32.toInt_toInt64, Int64.reduceToInt, zw_zw, zw_sw1, zw_sw2, zw_sw3, zw_sw4, zw_sw5, zw_sw6, zw_sw7, ne_eq, zi_in, zi_cl, zi_le, zi_lt, zi_eq, zi_neg, zi_0le, zb_0, if_true, if_false, eq_self, zb_T, zb_F, Bool.false_eq_true, zO_eq, zO_ne1, zO_ne2, zO_nn, zi_ne1, zi_ne2, zi_lt1, zi_le1, zi_lt2, zi_le2, Int32.reduceLT, Int32.reduceLE, Nat.reduceLT, Nat.reduceLeDiff, Int32.reduceMul, Int32.reduceAdd, Int32.reduceSub, not_false_eq_true, not_true_eq_false, Int32.reduceToInt, Int.reduceLE, Int.reduceLT, Int.reduceNeg, ite_self, E_X10_burnsAs, R_X10_burnsAs, SHF, PF, h3, h4, h5, zTm_4, zTm_5, show nI 0 = 0 from rfl, show nI 1 = 1 from rfl, show nI 2 = 2 from rfl, show nI 3 = 3 from rfl, show nI 4 = 4 from rfl, show nI 5 = 5 from rfl, show nI 6 = 6 from rfl, show nI 7 = 7 from rfl, qb]
theorem ma_2_1 (ih : ∀ a k, a < 4 → k < 8 → zMa f g t L o y F a k) (ho : o < 8) : zMa f g t L o y (F + 1) 2 1 := by
  intro x J r D Q hg h3 h4 h5 hl hD
  obtain ⟨D, rfl⟩ : ∃ D', D = D' + 2 := ⟨D - 2, by omega⟩
  have e : zsp o y (F + 1) 2 1 x = ([11], x ^^^ y) := rfl
  rw [e] at hl ⊢
  clear e
  simp only [List.length_cons, List.length_append, List.length_nil] at hl
  have hr : r < 24 := by omega
  have qb := fun Q => m_begins (d := D) (f := f) (g := g) (t := t) (L := L) (Q := Q) 11 h3 hr
  simp only [Nat.reduceAdd]
  simp (disch := first | assumption | rfl | omega | decide | exact zb_01 _) only [zabs_e, zmax_e, zmin_e, zrf_s, zpush_s, zpush_n, zw_app, upd_app, updL_app, Nat.reduceEqDiff, Nat.add_left_cancel_iff, Nat.add_eq_left, Nat.left_eq_add, ↓reduceIte, true_and, and_true, Int32.reduceToNatClampNeg, zin_O, zi_ltO, zi_leO, zi_Olt, zi_Ole, zi_eqO, Nat.not_lt_zero, Nat.zero_le, List.append_nil, zrn_n, zrn_s, List.cons_append, List.nil_append, zlg_lt, zlg_gt, zlg_le, zlg_ge, zlg_eq, Int32.toInt_toInt64, Int64.reduceToInt, zw_zw, zw_sw1, zw_sw2, zw_sw3, zw_sw4, zw_sw5, zw_sw6, zw_sw7, ne_eq, zi_in, zi_cl, zi_le, zi_lt, zi_eq, zi_neg, zi_0le, zb_0, if_true, if_false, eq_self, zb_T, zb_F, Bool.false_eq_true, zO_eq, zO_ne1, zO_ne2, zO_nn, zi_ne1, zi_ne2, zi_lt1, zi_le1, zi_lt2, zi_le2, Int32.reduceLT, Int32.reduceLE, Nat.reduceLT, Nat.reduceLeDiff, Int32.reduceMul, Int32.reduceAdd, Int32.reduceSub, not_false_eq_true, not_true_eq_false, Int32.reduceToInt, Int.reduceLE, Int.reduceLT, Int.reduceNeg, ite_self, E_X10_burnsAs, R_X10_burnsAs, SHF, PF, h3, h4, h5, zTm_4, zTm_5, show nI 0 = 0 from rfl, show nI 1 = 1 from rfl, show nI 2 = 2 from rfl, show nI 3 = 3 from rfl, show nI 4 = 4 from rfl, show nI 5 = 5 from rfl, show nI 6 = 6 from rfl, show nI 7 = 7 from rfl, qb]
theorem ma_2_2 (ih : ∀ a k, a < 4 → k < 8 → zMa f g t L o y F a k) (ho : o < 8) : zMa f g t L o y (F + 1) 2 2 := by
  intro x J r D Q hg h3 h4 h5 hl hD
  obtain ⟨D, rfl⟩ : ∃ D', D = D' + 2 := ⟨D - 2, by omega⟩
  have e : zsp o y (F + 1) 2 2 x = ([11], x ^^^ y) := rfl
  rw [e] at hl ⊢
  clear e
  simp only [List.length_cons, List.length_append, List.length_nil] at hl
  have hr : r < 24 := by omega
  have qb := fun Q => m_begins (d := D) (f := f) (g := g) (t := t) (L := L) (Q := Q) 11 h3 hr
  simp only [Nat.reduceAdd]
  simp (disch := first | assumption | rfl | omega | decide | exact zb_01 _) only [zabs_e, zmax_e, zmin_e, zrf_s, zpush_s, zpush_n, zw_app, upd_app, updL_app, Nat.reduceEqDiff, Nat.add_left_cancel_iff, Nat.add_eq_left, Nat.left_eq_add, ↓reduceIte, true_and, and_true, Int32.reduceToNatClampNeg, zin_O, zi_ltO, zi_leO, zi_Olt, zi_Ole, zi_eqO, Nat.not_lt_zero, Nat.zero_le, List.append_nil, zrn_n, zrn_s, List.cons_append, List.nil_append, zlg_lt, zlg_gt, zlg_le, zlg_ge, zlg_eq, Int32.toInt_toInt64, Int64.reduceToInt, zw_zw, zw_sw1, zw_sw2, zw_sw3, zw_sw4, zw_sw5, zw_sw6, zw_sw7, ne_eq, zi_in, zi_cl, zi_le, zi_lt, zi_eq, zi_neg, zi_0le, zb_0, if_true, if_false, eq_self, zb_T, zb_F, Bool.false_eq_true, zO_eq, zO_ne1, zO_ne2, zO_nn, zi_ne1, zi_ne2, zi_lt1, zi_le1, zi_lt2, zi_le2, Int32.reduceLT, Int32.reduceLE, Nat.reduceLT, Nat.reduceLeDiff, Int32.reduceMul, Int32.reduceAdd, Int32.reduceSub, not_false_eq_true, not_true_eq_false, Int32.reduceToInt, Int.reduceLE, Int.reduceLT, Int.reduceNeg, ite_self, E_X10_burnsAs, R_X10_burnsAs, SHF, PF, h3, h4, h5, zTm_4, zTm_5, show nI 0 = 0 from rfl, show nI 1 = 1 from rfl, show nI 2 = 2 from rfl, show nI 3 = 3 from rfl, show nI 4 = 4 from rfl, show nI 5 = 5 from rfl, show nI 6 = 6 from rfl, show nI 7 = 7 from rfl, qb]
theorem ma_2_3 (ih : ∀ a k, a < 4 → k < 8 → zMa f g t L o y F a k) (ho : o < 8) : zMa f g t L o y (F + 1) 2 3 := by
  intro x J r D Q hg h3 h4 h5 hl hD
  obtain ⟨D, rfl⟩ : ∃ D', D = D' + 2 := ⟨D - 2, by omega⟩
  have e : zsp o y (F + 1) 2 3 x = (40 :: (zsp o y F 2 2 (x)).1, (zsp o y F 2 2 (x)).2 * 3) := rfl
  rw [e] at hl ⊢
  clear e
  have hg : zgd o F 2 2 = true := hg
  simp only [List.length_cons, List.length_append, List.length_nil] at hl
  have hr : r < 24 := by omega
  have qb := fun Q => m_begins (d := D) (f := f) (g := g) (t := t) (L := L) (Q := Q) 40 h3 hr
  have q0 := fun Q => ih 2 2 (by decide) (by decide) (x) (zTm J r [40]) (r + 1) (D + 1) Q hg rfl h4 h5 (by omega) (by omega)
  have eM : (zTm (zTm J r [40]) (r + 1) (zsp o y F 2 2 (x)).1) = zTm J r (40 :: (zsp o y F 2 2 (x)).1) := zTm_a (cs := [40])
  simp only [Nat.reduceAdd, show nI 0 = 0 from rfl, show nI 1 = 1 from rfl, show nI 2 = 2 from rfl, show nI 3 = 3 from rfl, show nI 4 = 4 from rfl, show nI 5 = 5 from rfl, show nI 6 = 6 from rfl, show nI 7 = 7 from rfl] at q0
  simp only [Nat.reduceAdd]
  simp (disch := first | assumption | rfl | omega | decide | exact zb_01 _) only [zabs_e, zmax_e, zmin_e, zrf_s, zpush_s, zpush_n, zw_app, upd_app, updL_app, Nat.reduceEqDiff, Nat.add_left_cancel_iff, Nat.add_eq_left, Nat.left_eq_add, ↓reduceIte, true_and, and_true, Int32.reduceToNatClampNeg, zin_O, zi_ltO, zi_leO, zi_Olt, zi_Ole, zi_eqO, Nat.not_lt_zero, Nat.zero_le, List.append_nil, zrn_n, zrn_s, List.cons_append, List.nil_append, zlg_lt, zlg_gt, zlg_le, zlg_ge, zlg_eq, Int32.toInt_toInt64, Int64.reduceToInt, zw_zw, zw_sw1, zw_sw2, zw_sw3, zw_sw4, zw_sw5, zw_sw6, zw_sw7, ne_eq, zi_in, zi_cl, zi_le, zi_lt, zi_eq, zi_neg, zi_0le, zb_0, if_true, if_false, eq_self, zb_T, zb_F, Bool.false_eq_true, zO_eq, zO_ne1, zO_ne2, zO_nn, zi_ne1, zi_ne2, zi_lt1, zi_le1, zi_lt2, zi_le2, Int32.reduceLT, Int32.reduceLE, Nat.reduceLT, Nat.reduceLeDiff, Int32.reduceMul, Int32.reduceAdd, Int32.reduceSub, not_false_eq_true, not_true_eq_false, Int32.reduceToInt, Int.reduceLE, Int.reduceLT, Int.reduceNeg, ite_self, E_X10_burnsAs, R_X10_burnsAs, SHF, PF, h3, h4, h5, zTm_4, zTm_5, show nI 0 = 0 from rfl, show nI 1 = 1 from rfl, show nI 2 = 2 from rfl, show nI 3 = 3 from rfl, show nI 4 = 4 from rfl, show nI 5 = 5 from rfl, show nI 6 = 6 from rfl, show nI 7 = 7 from rfl, qb, q0]
  try rw [eM]
theorem ma_2_4 (ih : ∀ a k, a < 4 → k < 8 → zMa f g t L o y F a k) (ho : o < 8) : zMa f g t L o y (F + 1) 2 4 := by
  intro x J r D Q hg h3 h4 h5 hl hD
  obtain ⟨D, rfl⟩ : ∃ D', D = D' + 2 := ⟨D - 2, by omega⟩
  have e : zsp o y (F + 1) 2 4 x = (50 :: ((zsp o y F 2 1 (x)).1 ++ (zsp o y F 0 o (2)).1), (zsp o y F 2 1 (x)).2 - (zsp o y F 0 o (2)).2) := rfl
  rw [e] at hl ⊢
  clear e
  have hg : (zgd o F 2 1 && zgd o F 0 o) = true := hg
  rw [Bool.and_eq_true] at hg
  simp only [List.length_cons, List.length_append, List.length_nil] at hl
  have hr : r < 24 := by omega
  have qb := fun Q => m_begins (d := D) (f := f) (g := g) (t := t) (L := L) (Q := Q) 50 h3 hr
  have q0 := fun Q => ih 2 1 (by decide) (by decide) (x) (zTm J r [50]) (r + 1) (D + 1) Q hg.1 rfl h4 h5 (by omega) (by omega)
  have q1 := fun Q => ih 0 o (by decide) ho (2) (zTm (zTm J r [50]) (r + 1) (zsp o y F 2 1 (x)).1) (r + 1 + (zsp o y F 2 1 (x)).1.length) (D + 1) Q hg.2 rfl h4 h5 (by omega) (by omega)
  have eM : (zTm (zTm (zTm J r [50]) (r + 1) (zsp o y F 2 1 (x)).1) (r + 1 + (zsp o y F 2 1 (x)).1.length) (zsp o y F 0 o (2)).1) = zTm J r (50 :: ((zsp o y F 2 1 (x)).1 ++ (zsp o y F 0 o (2)).1)) := by
    rw [show zTm (zTm J r [50]) (r + 1) (zsp o y F 2 1 (x)).1 = zTm J r ([50] ++ (zsp o y F 2 1 (x)).1) from zTm_a (cs := [50]), show r + 1 + (zsp o y F 2 1 (x)).1.length = r + ([50] ++ (zsp o y F 2 1 (x)).1).length by rw [List.length_append]; exact (Nat.add_assoc _ _ _)]
    exact zTm_a
  simp only [Nat.reduceAdd, show nI 0 = 0 from rfl, show nI 1 = 1 from rfl, show nI 2 = 2 from rfl, show nI 3 = 3 from rfl, show nI 4 = 4 from rfl, show nI 5 = 5 from rfl, show nI 6 = 6 from rfl, show nI 7 = 7 from rfl] at q0 q1
  simp only [Nat.reduceAdd]
  simp (disch := first | assumption | rfl | omega | decide | exact zb_01 _) only [zabs_e, zmax_e, zmin_e, zrf_s, zpush_s, zpush_n, zw_app, upd_app, updL_app, Nat.reduceEqDiff, Nat.add_left_cancel_iff, Nat.add_eq_left, Nat.left_eq_add, ↓reduceIte, true_and, and_true, Int32.reduceToNatClampNeg, zin_O, zi_ltO, zi_leO, zi_Olt, zi_Ole, zi_eqO, Nat.not_lt_zero, Nat.zero_le, List.append_nil, zrn_n, zrn_s, List.cons_append, List.nil_append, zlg_lt, zlg_gt, zlg_le, zlg_ge, zlg_eq, Int32.toInt_toInt64, Int64.reduceToInt, zw_zw, zw_sw1, zw_sw2, zw_sw3, zw_sw4, zw_sw5, zw_sw6, zw_sw7, ne_eq, zi_in, zi_cl, zi_le, zi_lt, zi_eq, zi_neg, zi_0le, zb_0, if_true, if_false, eq_self, zb_T, zb_F, Bool.false_eq_true, zO_eq, zO_ne1, zO_ne2, zO_nn, zi_ne1, zi_ne2, zi_lt1, zi_le1, zi_lt2, zi_le2, Int32.reduceLT, Int32.reduceLE, Nat.reduceLT, Nat.reduceLeDiff, Int32.reduceMul, Int32.reduceAdd, Int32.reduceSub, not_false_eq_true, not_true_eq_false, Int32.reduceToInt, Int.reduceLE, Int.reduceLT, Int.reduceNeg, ite_self, E_X10_burnsAs, R_X10_burnsAs, SHF, PF, h3, h4, h5, zTm_4, zTm_5, show nI 0 = 0 from rfl, show nI 1 = 1 from rfl, show nI 2 = 2 from rfl, show nI 3 = 3 from rfl, show nI 4 = 4 from rfl, show nI 5 = 5 from rfl, show nI 6 = 6 from rfl, show nI 7 = 7 from rfl, qb, q0, q1]
  try rw [eM]
theorem ma_2_5 (ih : ∀ a k, a < 4 → k < 8 → zMa f g t L o y F a k) (ho : o < 8) : zMa f g t L o y (F + 1) 2 5 := by
  intro x J r D Q hg h3 h4 h5 hl hD
  obtain ⟨D, rfl⟩ : ∃ D', D = D' + 2 := ⟨D - 2, by omega⟩
  have e : zsp o y (F + 1) 2 5 x = (40 :: (zsp o y F 2 2 (x)).1, (zsp o y F 2 2 (x)).2 * 3) := rfl
  rw [e] at hl ⊢
  clear e
  have hg : zgd o F 2 2 = true := hg
  simp only [List.length_cons, List.length_append, List.length_nil] at hl
  have hr : r < 24 := by omega
  have qb := fun Q => m_begins (d := D) (f := f) (g := g) (t := t) (L := L) (Q := Q) 40 h3 hr
  have q0 := fun Q => ih 2 2 (by decide) (by decide) (x) (zTm J r [40]) (r + 1) (D + 1) Q hg rfl h4 h5 (by omega) (by omega)
  have eM : (zTm (zTm J r [40]) (r + 1) (zsp o y F 2 2 (x)).1) = zTm J r (40 :: (zsp o y F 2 2 (x)).1) := zTm_a (cs := [40])
  simp only [Nat.reduceAdd, show nI 0 = 0 from rfl, show nI 1 = 1 from rfl, show nI 2 = 2 from rfl, show nI 3 = 3 from rfl, show nI 4 = 4 from rfl, show nI 5 = 5 from rfl, show nI 6 = 6 from rfl, show nI 7 = 7 from rfl] at q0
  simp only [Nat.reduceAdd]
  simp (disch := first | assumption | rfl | omega | decide | exact zb_01 _) only [zabs_e, zmax_e, zmin_e, zrf_s, zpush_s, zpush_n, zw_app, upd_app, updL_app, Nat.reduceEqDiff, Nat.add_left_cancel_iff, Nat.add_eq_left, Nat.left_eq_add, ↓reduceIte, true_and, and_true, Int32.reduceToNatClampNeg, zin_O, zi_ltO, zi_leO, zi_Olt, zi_Ole, zi_eqO, Nat.not_lt_zero, Nat.zero_le, List.append_nil, zrn_n, zrn_s, List.cons_append, List.nil_append, zlg_lt, zlg_gt, zlg_le, zlg_ge, zlg_eq, Int32.toInt_toInt64, Int64.reduceToInt, zw_zw, zw_sw1, zw_sw2, zw_sw3, zw_sw4, zw_sw5, zw_sw6, zw_sw7, ne_eq, zi_in, zi_cl, zi_le, zi_lt, zi_eq, zi_neg, zi_0le, zb_0, if_true, if_false, eq_self, zb_T, zb_F, Bool.false_eq_true, zO_eq, zO_ne1, zO_ne2, zO_nn, zi_ne1, zi_ne2, zi_lt1, zi_le1, zi_lt2, zi_le2, Int32.reduceLT, Int32.reduceLE, Nat.reduceLT, Nat.reduceLeDiff, Int32.reduceMul, Int32.reduceAdd, Int32.reduceSub, not_false_eq_true, not_true_eq_false, Int32.reduceToInt, Int.reduceLE, Int.reduceLT, Int.reduceNeg, ite_self, E_X10_burnsAs, R_X10_burnsAs, SHF, PF, h3, h4, h5, zTm_4, zTm_5, show nI 0 = 0 from rfl, show nI 1 = 1 from rfl, show nI 2 = 2 from rfl, show nI 3 = 3 from rfl, show nI 4 = 4 from rfl, show nI 5 = 5 from rfl, show nI 6 = 6 from rfl, show nI 7 = 7 from rfl, qb, q0]
  try rw [eM]
theorem ma_2_6 (ih : ∀ a k, a < 4 → k < 8 → zMa f g t L o y F a k) (ho : o < 8) : zMa f g t L o y (F + 1) 2 6 := by
  intro x J r D Q hg h3 h4 h5 hl hD
  obtain ⟨D, rfl⟩ : ∃ D', D = D' + 2 := ⟨D - 2, by omega⟩
  have e : zsp o y (F + 1) 2 6 x = ([11], x ^^^ y) := rfl
  rw [e] at hl ⊢
  clear e
  simp only [List.length_cons, List.length_append, List.length_nil] at hl
  have hr : r < 24 := by omega
  have qb := fun Q => m_begins (d := D) (f := f) (g := g) (t := t) (L := L) (Q := Q) 11 h3 hr
  simp only [Nat.reduceAdd]
  simp (disch := first | assumption | rfl | omega | decide | exact zb_01 _) only [zabs_e, zmax_e, zmin_e, zrf_s, zpush_s, zpush_n, zw_app, upd_app, updL_app, Nat.reduceEqDiff, Nat.add_left_cancel_iff, Nat.add_eq_left, Nat.left_eq_add, ↓reduceIte, true_and, and_true, Int32.reduceToNatClampNeg, zin_O, zi_ltO, zi_leO, zi_Olt, zi_Ole, zi_eqO, Nat.not_lt_zero, Nat.zero_le, List.append_nil, zrn_n, zrn_s, List.cons_append, List.nil_append, zlg_lt, zlg_gt, zlg_le, zlg_ge, zlg_eq, Int32.toInt_toInt64, Int64.reduceToInt, zw_zw, zw_sw1, zw_sw2, zw_sw3, zw_sw4, zw_sw5, zw_sw6, zw_sw7, ne_eq, zi_in, zi_cl, zi_le, zi_lt, zi_eq, zi_neg, zi_0le, zb_0, if_true, if_false, eq_self, zb_T, zb_F, Bool.false_eq_true, zO_eq, zO_ne1, zO_ne2, zO_nn, zi_ne1, zi_ne2, zi_lt1, zi_le1, zi_lt2, zi_le2, Int32.reduceLT, Int32.reduceLE, Nat.reduceLT, Nat.reduceLeDiff, Int32.reduceMul, Int32.reduceAdd, Int32.reduceSub, not_false_eq_true, not_true_eq_false, Int32.reduceToInt, Int.reduceLE, Int.reduceLT, Int.reduceNeg, ite_self, E_X10_burnsAs, R_X10_burnsAs, SHF, PF, h3, h4, h5, zTm_4, zTm_5, show nI 0 = 0 from rfl, show nI 1 = 1 from rfl, show nI 2 = 2 from rfl, show nI 3 = 3 from rfl, show nI 4 = 4 from rfl, show nI 5 = 5 from rfl, show nI 6 = 6 from rfl, show nI 7 = 7 from rfl, qb]
theorem ma_2_7 (ih : ∀ a k, a < 4 → k < 8 → zMa f g t L o y F a k) (ho : o < 8) : zMa f g t L o y (F + 1) 2 7 := by
  intro x J r D Q hg h3 h4 h5 hl hD
  obtain ⟨D, rfl⟩ : ∃ D', D = D' + 2 := ⟨D - 2, by omega⟩
  have e : zsp o y (F + 1) 2 7 x = (50 :: ((zsp o y F 2 1 (x)).1 ++ (zsp o y F 0 o (2)).1), (zsp o y F 2 1 (x)).2 - (zsp o y F 0 o (2)).2) := rfl
  rw [e] at hl ⊢
  clear e
  have hg : (zgd o F 2 1 && zgd o F 0 o) = true := hg
  rw [Bool.and_eq_true] at hg
  simp only [List.length_cons, List.length_append, List.length_nil] at hl
  have hr : r < 24 := by omega
  have qb := fun Q => m_begins (d := D) (f := f) (g := g) (t := t) (L := L) (Q := Q) 50 h3 hr
  have q0 := fun Q => ih 2 1 (by decide) (by decide) (x) (zTm J r [50]) (r + 1) (D + 1) Q hg.1 rfl h4 h5 (by omega) (by omega)
  have q1 := fun Q => ih 0 o (by decide) ho (2) (zTm (zTm J r [50]) (r + 1) (zsp o y F 2 1 (x)).1) (r + 1 + (zsp o y F 2 1 (x)).1.length) (D + 1) Q hg.2 rfl h4 h5 (by omega) (by omega)
  have eM : (zTm (zTm (zTm J r [50]) (r + 1) (zsp o y F 2 1 (x)).1) (r + 1 + (zsp o y F 2 1 (x)).1.length) (zsp o y F 0 o (2)).1) = zTm J r (50 :: ((zsp o y F 2 1 (x)).1 ++ (zsp o y F 0 o (2)).1)) := by
    rw [show zTm (zTm J r [50]) (r + 1) (zsp o y F 2 1 (x)).1 = zTm J r ([50] ++ (zsp o y F 2 1 (x)).1) from zTm_a (cs := [50]), show r + 1 + (zsp o y F 2 1 (x)).1.length = r + ([50] ++ (zsp o y F 2 1 (x)).1).length by rw [List.length_append]; exact (Nat.add_assoc _ _ _)]
    exact zTm_a
  simp only [Nat.reduceAdd, show nI 0 = 0 from rfl, show nI 1 = 1 from rfl, show nI 2 = 2 from rfl, show nI 3 = 3 from rfl, show nI 4 = 4 from rfl, show nI 5 = 5 from rfl, show nI 6 = 6 from rfl, show nI 7 = 7 from rfl] at q0 q1
  simp only [Nat.reduceAdd]
  simp (disch := first | assumption | rfl | omega | decide | exact zb_01 _) only [zabs_e, zmax_e, zmin_e, zrf_s, zpush_s, zpush_n, zw_app, upd_app, updL_app, Nat.reduceEqDiff, Nat.add_left_cancel_iff, Nat.add_eq_left, Nat.left_eq_add, ↓reduceIte, true_and, and_true, Int32.reduceToNatClampNeg, zin_O, zi_ltO, zi_leO, zi_Olt, zi_Ole, zi_eqO, Nat.not_lt_zero, Nat.zero_le, List.append_nil, zrn_n, zrn_s, List.cons_append, List.nil_append, zlg_lt, zlg_gt, zlg_le, zlg_ge, zlg_eq, Int32.toInt_toInt64, Int64.reduceToInt, zw_zw, zw_sw1, zw_sw2, zw_sw3, zw_sw4, zw_sw5, zw_sw6, zw_sw7, ne_eq, zi_in, zi_cl, zi_le, zi_lt, zi_eq, zi_neg, zi_0le, zb_0, if_true, if_false, eq_self, zb_T, zb_F, Bool.false_eq_true, zO_eq, zO_ne1, zO_ne2, zO_nn, zi_ne1, zi_ne2, zi_lt1, zi_le1, zi_lt2, zi_le2, Int32.reduceLT, Int32.reduceLE, Nat.reduceLT, Nat.reduceLeDiff, Int32.reduceMul, Int32.reduceAdd, Int32.reduceSub, not_false_eq_true, not_true_eq_false, Int32.reduceToInt, Int.reduceLE, Int.reduceLT, Int.reduceNeg, ite_self, E_X10_burnsAs, R_X10_burnsAs, SHF, PF, h3, h4, h5, zTm_4, zTm_5, show nI 0 = 0 from rfl, show nI 1 = 1 from rfl, show nI 2 = 2 from rfl, show nI 3 = 3 from rfl, show nI 4 = 4 from rfl, show nI 5 = 5 from rfl, show nI 6 = 6 from rfl, show nI 7 = 7 from rfl, qb, q0, q1]
  try rw [eM]
theorem ma_3_0 (ih : ∀ a k, a < 4 → k < 8 → zMa f g t L o y F a k) (ho : o < 8) : zMa f g t L o y (F + 1) 3 0 := by
  intro x J r D Q hg h3 h4 h5 hl hD
  obtain ⟨D, rfl⟩ : ∃ D', D = D' + 2 := ⟨D - 2, by omega⟩
  have e : zsp o y (F + 1) 3 0 x = (2 :: ((zsp o y F 1 o (x)).1 ++ (zsp o y F 2 o (1)).1), (zsp o y F 1 o (x)).2 - (zsp o y F 2 o (1)).2) := rfl
  rw [e] at hl ⊢
  clear e
  have hg : (zgd o F 1 o && zgd o F 2 o) = true := hg
  rw [Bool.and_eq_true] at hg
  simp only [List.length_cons, List.length_append, List.length_nil] at hl
  have hr : r < 24 := by omega
  have qb := fun Q => m_begins (d := D) (f := f) (g := g) (t := t) (L := L) (Q := Q) 2 h3 hr
  have q0 := fun Q => ih 1 o (by decide) ho (x) (zTm J r [2]) (r + 1) (D + 1) Q hg.1 rfl h4 h5 (by omega) (by omega)
  have q1 := fun Q => ih 2 o (by decide) ho (1) (zTm (zTm J r [2]) (r + 1) (zsp o y F 1 o (x)).1) (r + 1 + (zsp o y F 1 o (x)).1.length) (D + 1) Q hg.2 rfl h4 h5 (by omega) (by omega)
  have eM : (zTm (zTm (zTm J r [2]) (r + 1) (zsp o y F 1 o (x)).1) (r + 1 + (zsp o y F 1 o (x)).1.length) (zsp o y F 2 o (1)).1) = zTm J r (2 :: ((zsp o y F 1 o (x)).1 ++ (zsp o y F 2 o (1)).1)) := by
    rw [show zTm (zTm J r [2]) (r + 1) (zsp o y F 1 o (x)).1 = zTm J r ([2] ++ (zsp o y F 1 o (x)).1) from zTm_a (cs := [2]), show r + 1 + (zsp o y F 1 o (x)).1.length = r + ([2] ++ (zsp o y F 1 o (x)).1).length by rw [List.length_append]; exact (Nat.add_assoc _ _ _)]
    exact zTm_a
  simp only [Nat.reduceAdd, show nI 0 = 0 from rfl, show nI 1 = 1 from rfl, show nI 2 = 2 from rfl, show nI 3 = 3 from rfl, show nI 4 = 4 from rfl, show nI 5 = 5 from rfl, show nI 6 = 6 from rfl, show nI 7 = 7 from rfl] at q0 q1
  simp only [Nat.reduceAdd]
  simp (disch := first | assumption | rfl | omega | decide | exact zb_01 _) only [zabs_e, zmax_e, zmin_e, zrf_s, zpush_s, zpush_n, zw_app, upd_app, updL_app, Nat.reduceEqDiff, Nat.add_left_cancel_iff, Nat.add_eq_left, Nat.left_eq_add, ↓reduceIte, true_and, and_true, Int32.reduceToNatClampNeg, zin_O, zi_ltO, zi_leO, zi_Olt, zi_Ole, zi_eqO, Nat.not_lt_zero, Nat.zero_le, List.append_nil, zrn_n, zrn_s, List.cons_append, List.nil_append, zlg_lt, zlg_gt, zlg_le, zlg_ge, zlg_eq, Int32.toInt_toInt64, Int64.reduceToInt, zw_zw, zw_sw1, zw_sw2, zw_sw3, zw_sw4, zw_sw5, zw_sw6, zw_sw7, ne_eq, zi_in, zi_cl, zi_le, zi_lt, zi_eq, zi_neg, zi_0le, zb_0, if_true, if_false, eq_self, zb_T, zb_F, Bool.false_eq_true, zO_eq, zO_ne1, zO_ne2, zO_nn, zi_ne1, zi_ne2, zi_lt1, zi_le1, zi_lt2, zi_le2, Int32.reduceLT, Int32.reduceLE, Nat.reduceLT, Nat.reduceLeDiff, Int32.reduceMul, Int32.reduceAdd, Int32.reduceSub, not_false_eq_true, not_true_eq_false, Int32.reduceToInt, Int.reduceLE, Int.reduceLT, Int.reduceNeg, ite_self, E_X10_tellsAs, R_X10_tellsAs, SHF, PF, h3, h4, h5, zTm_4, zTm_5, show nI 0 = 0 from rfl, show nI 1 = 1 from rfl, show nI 2 = 2 from rfl, show nI 3 = 3 from rfl, show nI 4 = 4 from rfl, show nI 5 = 5 from rfl, show nI 6 = 6 from rfl, show nI 7 = 7 from rfl, qb, q0, q1]
  try rw [eM]
theorem ma_3_1 (ih : ∀ a k, a < 4 → k < 8 → zMa f g t L o y F a k) (ho : o < 8) : zMa f g t L o y (F + 1) 3 1 := by
  intro x J r D Q hg h3 h4 h5 hl hD
  obtain ⟨D, rfl⟩ : ∃ D', D = D' + 2 := ⟨D - 2, by omega⟩
  have e : zsp o y (F + 1) 3 1 x = (2 :: ((zsp o y F 1 o (x)).1 ++ (zsp o y F 2 o (1)).1), (zsp o y F 1 o (x)).2 - (zsp o y F 2 o (1)).2) := rfl
  rw [e] at hl ⊢
  clear e
  have hg : (zgd o F 1 o && zgd o F 2 o) = true := hg
  rw [Bool.and_eq_true] at hg
  simp only [List.length_cons, List.length_append, List.length_nil] at hl
  have hr : r < 24 := by omega
  have qb := fun Q => m_begins (d := D) (f := f) (g := g) (t := t) (L := L) (Q := Q) 2 h3 hr
  have q0 := fun Q => ih 1 o (by decide) ho (x) (zTm J r [2]) (r + 1) (D + 1) Q hg.1 rfl h4 h5 (by omega) (by omega)
  have q1 := fun Q => ih 2 o (by decide) ho (1) (zTm (zTm J r [2]) (r + 1) (zsp o y F 1 o (x)).1) (r + 1 + (zsp o y F 1 o (x)).1.length) (D + 1) Q hg.2 rfl h4 h5 (by omega) (by omega)
  have eM : (zTm (zTm (zTm J r [2]) (r + 1) (zsp o y F 1 o (x)).1) (r + 1 + (zsp o y F 1 o (x)).1.length) (zsp o y F 2 o (1)).1) = zTm J r (2 :: ((zsp o y F 1 o (x)).1 ++ (zsp o y F 2 o (1)).1)) := by
    rw [show zTm (zTm J r [2]) (r + 1) (zsp o y F 1 o (x)).1 = zTm J r ([2] ++ (zsp o y F 1 o (x)).1) from zTm_a (cs := [2]), show r + 1 + (zsp o y F 1 o (x)).1.length = r + ([2] ++ (zsp o y F 1 o (x)).1).length by rw [List.length_append]; exact (Nat.add_assoc _ _ _)]
    exact zTm_a
  simp only [Nat.reduceAdd, show nI 0 = 0 from rfl, show nI 1 = 1 from rfl, show nI 2 = 2 from rfl, show nI 3 = 3 from rfl, show nI 4 = 4 from rfl, show nI 5 = 5 from rfl, show nI 6 = 6 from rfl, show nI 7 = 7 from rfl] at q0 q1
  simp only [Nat.reduceAdd]
  simp (disch := first | assumption | rfl | omega | decide | exact zb_01 _) only [zabs_e, zmax_e, zmin_e, zrf_s, zpush_s, zpush_n, zw_app, upd_app, updL_app, Nat.reduceEqDiff, Nat.add_left_cancel_iff, Nat.add_eq_left, Nat.left_eq_add, ↓reduceIte, true_and, and_true, Int32.reduceToNatClampNeg, zin_O, zi_ltO, zi_leO, zi_Olt, zi_Ole, zi_eqO, Nat.not_lt_zero, Nat.zero_le, List.append_nil, zrn_n, zrn_s, List.cons_append, List.nil_append, zlg_lt, zlg_gt, zlg_le, zlg_ge, zlg_eq, Int32.toInt_toInt64, Int64.reduceToInt, zw_zw, zw_sw1, zw_sw2, zw_sw3, zw_sw4, zw_sw5, zw_sw6, zw_sw7, ne_eq, zi_in, zi_cl, zi_le, zi_lt, zi_eq, zi_neg, zi_0le, zb_0, if_true, if_false, eq_self, zb_T, zb_F, Bool.false_eq_true, zO_eq, zO_ne1, zO_ne2, zO_nn, zi_ne1, zi_ne2, zi_lt1, zi_le1, zi_lt2, zi_le2, Int32.reduceLT, Int32.reduceLE, Nat.reduceLT, Nat.reduceLeDiff, Int32.reduceMul, Int32.reduceAdd, Int32.reduceSub, not_false_eq_true, not_true_eq_false, Int32.reduceToInt, Int.reduceLE, Int.reduceLT, Int.reduceNeg, ite_self, E_X10_tellsAs, R_X10_tellsAs, SHF, PF, h3, h4, h5, zTm_4, zTm_5, show nI 0 = 0 from rfl, show nI 1 = 1 from rfl, show nI 2 = 2 from rfl, show nI 3 = 3 from rfl, show nI 4 = 4 from rfl, show nI 5 = 5 from rfl, show nI 6 = 6 from rfl, show nI 7 = 7 from rfl, qb, q0, q1]
  try rw [eM]
theorem ma_3_2 (ih : ∀ a k, a < 4 → k < 8 → zMa f g t L o y F a k) (ho : o < 8) : zMa f g t L o y (F + 1) 3 2 := by
  intro x J r D Q hg h3 h4 h5 hl hD
  obtain ⟨D, rfl⟩ : ∃ D', D = D' + 2 := ⟨D - 2, by omega⟩
  have e : zsp o y (F + 1) 3 2 x = (2 :: ((zsp o y F 1 o (x)).1 ++ (zsp o y F 2 o (1)).1), (zsp o y F 1 o (x)).2 - (zsp o y F 2 o (1)).2) := rfl
  rw [e] at hl ⊢
  clear e
  have hg : (zgd o F 1 o && zgd o F 2 o) = true := hg
  rw [Bool.and_eq_true] at hg
  simp only [List.length_cons, List.length_append, List.length_nil] at hl
  have hr : r < 24 := by omega
  have qb := fun Q => m_begins (d := D) (f := f) (g := g) (t := t) (L := L) (Q := Q) 2 h3 hr
  have q0 := fun Q => ih 1 o (by decide) ho (x) (zTm J r [2]) (r + 1) (D + 1) Q hg.1 rfl h4 h5 (by omega) (by omega)
  have q1 := fun Q => ih 2 o (by decide) ho (1) (zTm (zTm J r [2]) (r + 1) (zsp o y F 1 o (x)).1) (r + 1 + (zsp o y F 1 o (x)).1.length) (D + 1) Q hg.2 rfl h4 h5 (by omega) (by omega)
  have eM : (zTm (zTm (zTm J r [2]) (r + 1) (zsp o y F 1 o (x)).1) (r + 1 + (zsp o y F 1 o (x)).1.length) (zsp o y F 2 o (1)).1) = zTm J r (2 :: ((zsp o y F 1 o (x)).1 ++ (zsp o y F 2 o (1)).1)) := by
    rw [show zTm (zTm J r [2]) (r + 1) (zsp o y F 1 o (x)).1 = zTm J r ([2] ++ (zsp o y F 1 o (x)).1) from zTm_a (cs := [2]), show r + 1 + (zsp o y F 1 o (x)).1.length = r + ([2] ++ (zsp o y F 1 o (x)).1).length by rw [List.length_append]; exact (Nat.add_assoc _ _ _)]
    exact zTm_a
  simp only [Nat.reduceAdd, show nI 0 = 0 from rfl, show nI 1 = 1 from rfl, show nI 2 = 2 from rfl, show nI 3 = 3 from rfl, show nI 4 = 4 from rfl, show nI 5 = 5 from rfl, show nI 6 = 6 from rfl, show nI 7 = 7 from rfl] at q0 q1
  simp only [Nat.reduceAdd]
  simp (disch := first | assumption | rfl | omega | decide | exact zb_01 _) only [zabs_e, zmax_e, zmin_e, zrf_s, zpush_s, zpush_n, zw_app, upd_app, updL_app, Nat.reduceEqDiff, Nat.add_left_cancel_iff, Nat.add_eq_left, Nat.left_eq_add, ↓reduceIte, true_and, and_true, Int32.reduceToNatClampNeg, zin_O, zi_ltO, zi_leO, zi_Olt, zi_Ole, zi_eqO, Nat.not_lt_zero, Nat.zero_le, List.append_nil, zrn_n, zrn_s, List.cons_append, List.nil_append, zlg_lt, zlg_gt, zlg_le, zlg_ge, zlg_eq, Int32.toInt_toInt64, Int64.reduceToInt, zw_zw, zw_sw1, zw_sw2, zw_sw3, zw_sw4, zw_sw5, zw_sw6, zw_sw7, ne_eq, zi_in, zi_cl, zi_le, zi_lt, zi_eq, zi_neg, zi_0le, zb_0, if_true, if_false, eq_self, zb_T, zb_F, Bool.false_eq_true, zO_eq, zO_ne1, zO_ne2, zO_nn, zi_ne1, zi_ne2, zi_lt1, zi_le1, zi_lt2, zi_le2, Int32.reduceLT, Int32.reduceLE, Nat.reduceLT, Nat.reduceLeDiff, Int32.reduceMul, Int32.reduceAdd, Int32.reduceSub, not_false_eq_true, not_true_eq_false, Int32.reduceToInt, Int.reduceLE, Int.reduceLT, Int.reduceNeg, ite_self, E_X10_tellsAs, R_X10_tellsAs, SHF, PF, h3, h4, h5, zTm_4, zTm_5, show nI 0 = 0 from rfl, show nI 1 = 1 from rfl, show nI 2 = 2 from rfl, show nI 3 = 3 from rfl, show nI 4 = 4 from rfl, show nI 5 = 5 from rfl, show nI 6 = 6 from rfl, show nI 7 = 7 from rfl, qb, q0, q1]
  try rw [eM]
theorem ma_3_3 (ih : ∀ a k, a < 4 → k < 8 → zMa f g t L o y F a k) (ho : o < 8) : zMa f g t L o y (F + 1) 3 3 := by
  intro x J r D Q hg h3 h4 h5 hl hD
  obtain ⟨D, rfl⟩ : ∃ D', D = D' + 2 := ⟨D - 2, by omega⟩
  have e : zsp o y (F + 1) 3 3 x = (2 :: ((zsp o y F 1 o (x)).1 ++ (zsp o y F 2 o (1)).1), (zsp o y F 1 o (x)).2 - (zsp o y F 2 o (1)).2) := rfl
  rw [e] at hl ⊢
  clear e
  have hg : (zgd o F 1 o && zgd o F 2 o) = true := hg
  rw [Bool.and_eq_true] at hg
  simp only [List.length_cons, List.length_append, List.length_nil] at hl
  have hr : r < 24 := by omega
  have qb := fun Q => m_begins (d := D) (f := f) (g := g) (t := t) (L := L) (Q := Q) 2 h3 hr
  have q0 := fun Q => ih 1 o (by decide) ho (x) (zTm J r [2]) (r + 1) (D + 1) Q hg.1 rfl h4 h5 (by omega) (by omega)
  have q1 := fun Q => ih 2 o (by decide) ho (1) (zTm (zTm J r [2]) (r + 1) (zsp o y F 1 o (x)).1) (r + 1 + (zsp o y F 1 o (x)).1.length) (D + 1) Q hg.2 rfl h4 h5 (by omega) (by omega)
  have eM : (zTm (zTm (zTm J r [2]) (r + 1) (zsp o y F 1 o (x)).1) (r + 1 + (zsp o y F 1 o (x)).1.length) (zsp o y F 2 o (1)).1) = zTm J r (2 :: ((zsp o y F 1 o (x)).1 ++ (zsp o y F 2 o (1)).1)) := by
    rw [show zTm (zTm J r [2]) (r + 1) (zsp o y F 1 o (x)).1 = zTm J r ([2] ++ (zsp o y F 1 o (x)).1) from zTm_a (cs := [2]), show r + 1 + (zsp o y F 1 o (x)).1.length = r + ([2] ++ (zsp o y F 1 o (x)).1).length by rw [List.length_append]; exact (Nat.add_assoc _ _ _)]
    exact zTm_a
  simp only [Nat.reduceAdd, show nI 0 = 0 from rfl, show nI 1 = 1 from rfl, show nI 2 = 2 from rfl, show nI 3 = 3 from rfl, show nI 4 = 4 from rfl, show nI 5 = 5 from rfl, show nI 6 = 6 from rfl, show nI 7 = 7 from rfl] at q0 q1
  simp only [Nat.reduceAdd]
  simp (disch := first | assumption | rfl | omega | decide | exact zb_01 _) only [zabs_e, zmax_e, zmin_e, zrf_s, zpush_s, zpush_n, zw_app, upd_app, updL_app, Nat.reduceEqDiff, Nat.add_left_cancel_iff, Nat.add_eq_left, Nat.left_eq_add, ↓reduceIte, true_and, and_true, Int32.reduceToNatClampNeg, zin_O, zi_ltO, zi_leO, zi_Olt, zi_Ole, zi_eqO, Nat.not_lt_zero, Nat.zero_le, List.append_nil, zrn_n, zrn_s, List.cons_append, List.nil_append, zlg_lt, zlg_gt, zlg_le, zlg_ge, zlg_eq, Int32.toInt_toInt64, Int64.reduceToInt, zw_zw, zw_sw1, zw_sw2, zw_sw3, zw_sw4, zw_sw5, zw_sw6, zw_sw7, ne_eq, zi_in, zi_cl, zi_le, zi_lt, zi_eq, zi_neg, zi_0le, zb_0, if_true, if_false, eq_self, zb_T, zb_F, Bool.false_eq_true, zO_eq, zO_ne1, zO_ne2, zO_nn, zi_ne1, zi_ne2, zi_lt1, zi_le1, zi_lt2, zi_le2, Int32.reduceLT, Int32.reduceLE, Nat.reduceLT, Nat.reduceLeDiff, Int32.reduceMul, Int32.reduceAdd, Int32.reduceSub, not_false_eq_true, not_true_eq_false, Int32.reduceToInt, Int.reduceLE, Int.reduceLT, Int.reduceNeg, ite_self, E_X10_tellsAs, R_X10_tellsAs, SHF, PF, h3, h4, h5, zTm_4, zTm_5, show nI 0 = 0 from rfl, show nI 1 = 1 from rfl, show nI 2 = 2 from rfl, show nI 3 = 3 from rfl, show nI 4 = 4 from rfl, show nI 5 = 5 from rfl, show nI 6 = 6 from rfl, show nI 7 = 7 from rfl, qb, q0, q1]
  try rw [eM]
theorem ma_3_4 (ih : ∀ a k, a < 4 → k < 8 → zMa f g t L o y F a k) (ho : o < 8) : zMa f g t L o y (F + 1) 3 4 := by
  intro x J r D Q hg h3 h4 h5 hl hD
  obtain ⟨D, rfl⟩ : ∃ D', D = D' + 2 := ⟨D - 2, by omega⟩
  have e : zsp o y (F + 1) 3 4 x = (2 :: ((zsp o y F 1 o (x)).1 ++ (zsp o y F 2 o (1)).1), (zsp o y F 1 o (x)).2 - (zsp o y F 2 o (1)).2) := rfl
  rw [e] at hl ⊢
  clear e
  have hg : (zgd o F 1 o && zgd o F 2 o) = true := hg
  rw [Bool.and_eq_true] at hg
  simp only [List.length_cons, List.length_append, List.length_nil] at hl
  have hr : r < 24 := by omega
  have qb := fun Q => m_begins (d := D) (f := f) (g := g) (t := t) (L := L) (Q := Q) 2 h3 hr
  have q0 := fun Q => ih 1 o (by decide) ho (x) (zTm J r [2]) (r + 1) (D + 1) Q hg.1 rfl h4 h5 (by omega) (by omega)
  have q1 := fun Q => ih 2 o (by decide) ho (1) (zTm (zTm J r [2]) (r + 1) (zsp o y F 1 o (x)).1) (r + 1 + (zsp o y F 1 o (x)).1.length) (D + 1) Q hg.2 rfl h4 h5 (by omega) (by omega)
  have eM : (zTm (zTm (zTm J r [2]) (r + 1) (zsp o y F 1 o (x)).1) (r + 1 + (zsp o y F 1 o (x)).1.length) (zsp o y F 2 o (1)).1) = zTm J r (2 :: ((zsp o y F 1 o (x)).1 ++ (zsp o y F 2 o (1)).1)) := by
    rw [show zTm (zTm J r [2]) (r + 1) (zsp o y F 1 o (x)).1 = zTm J r ([2] ++ (zsp o y F 1 o (x)).1) from zTm_a (cs := [2]), show r + 1 + (zsp o y F 1 o (x)).1.length = r + ([2] ++ (zsp o y F 1 o (x)).1).length by rw [List.length_append]; exact (Nat.add_assoc _ _ _)]
    exact zTm_a
  simp only [Nat.reduceAdd, show nI 0 = 0 from rfl, show nI 1 = 1 from rfl, show nI 2 = 2 from rfl, show nI 3 = 3 from rfl, show nI 4 = 4 from rfl, show nI 5 = 5 from rfl, show nI 6 = 6 from rfl, show nI 7 = 7 from rfl] at q0 q1
  simp only [Nat.reduceAdd]
  simp (disch := first | assumption | rfl | omega | decide | exact zb_01 _) only [zabs_e, zmax_e, zmin_e, zrf_s, zpush_s, zpush_n, zw_app, upd_app, updL_app, Nat.reduceEqDiff, Nat.add_left_cancel_iff, Nat.add_eq_left, Nat.left_eq_add, ↓reduceIte, true_and, and_true, Int32.reduceToNatClampNeg, zin_O, zi_ltO, zi_leO, zi_Olt, zi_Ole, zi_eqO, Nat.not_lt_zero, Nat.zero_le, List.append_nil, zrn_n, zrn_s, List.cons_append, List.nil_append, zlg_lt, zlg_gt, zlg_le, zlg_ge, zlg_eq, Int32.toInt_toInt64, Int64.reduceToInt, zw_zw, zw_sw1, zw_sw2, zw_sw3, zw_sw4, zw_sw5, zw_sw6, zw_sw7, ne_eq, zi_in, zi_cl, zi_le, zi_lt, zi_eq, zi_neg, zi_0le, zb_0, if_true, if_false, eq_self, zb_T, zb_F, Bool.false_eq_true, zO_eq, zO_ne1, zO_ne2, zO_nn, zi_ne1, zi_ne2, zi_lt1, zi_le1, zi_lt2, zi_le2, Int32.reduceLT, Int32.reduceLE, Nat.reduceLT, Nat.reduceLeDiff, Int32.reduceMul, Int32.reduceAdd, Int32.reduceSub, not_false_eq_true, not_true_eq_false, Int32.reduceToInt, Int.reduceLE, Int.reduceLT, Int.reduceNeg, ite_self, E_X10_tellsAs, R_X10_tellsAs, SHF, PF, h3, h4, h5, zTm_4, zTm_5, show nI 0 = 0 from rfl, show nI 1 = 1 from rfl, show nI 2 = 2 from rfl, show nI 3 = 3 from rfl, show nI 4 = 4 from rfl, show nI 5 = 5 from rfl, show nI 6 = 6 from rfl, show nI 7 = 7 from rfl, qb, q0, q1]
  try rw [eM]
theorem ma_3_5 (ih : ∀ a k, a < 4 → k < 8 → zMa f g t L o y F a k) (ho : o < 8) : zMa f g t L o y (F + 1) 3 5 := by
  intro x J r D Q hg h3 h4 h5 hl hD
  obtain ⟨D, rfl⟩ : ∃ D', D = D' + 2 := ⟨D - 2, by omega⟩
  have e : zsp o y (F + 1) 3 5 x = (60 :: (zsp o y F 3 3 (x)).1, (zsp o y F 3 3 (x)).2 ^^^ 5) := rfl
  rw [e] at hl ⊢
  clear e
  have hg : zgd o F 3 3 = true := hg
  simp only [List.length_cons, List.length_append, List.length_nil] at hl
  have hr : r < 24 := by omega
  have qb := fun Q => m_begins (d := D) (f := f) (g := g) (t := t) (L := L) (Q := Q) 60 h3 hr
  have q0 := fun Q => ih 3 3 (by decide) (by decide) (x) (zTm J r [60]) (r + 1) (D + 1) Q hg rfl h4 h5 (by omega) (by omega)
  have eM : (zTm (zTm J r [60]) (r + 1) (zsp o y F 3 3 (x)).1) = zTm J r (60 :: (zsp o y F 3 3 (x)).1) := zTm_a (cs := [60])
  simp only [Nat.reduceAdd, show nI 0 = 0 from rfl, show nI 1 = 1 from rfl, show nI 2 = 2 from rfl, show nI 3 = 3 from rfl, show nI 4 = 4 from rfl, show nI 5 = 5 from rfl, show nI 6 = 6 from rfl, show nI 7 = 7 from rfl] at q0
  simp only [Nat.reduceAdd]
  simp (disch := first | assumption | rfl | omega | decide | exact zb_01 _) only [zabs_e, zmax_e, zmin_e, zrf_s, zpush_s, zpush_n, zw_app, upd_app, updL_app, Nat.reduceEqDiff, Nat.add_left_cancel_iff, Nat.add_eq_left, Nat.left_eq_add, ↓reduceIte, true_and, and_true, Int32.reduceToNatClampNeg, zin_O, zi_ltO, zi_leO, zi_Olt, zi_Ole, zi_eqO, Nat.not_lt_zero, Nat.zero_le, List.append_nil, zrn_n, zrn_s, List.cons_append, List.nil_append, zlg_lt, zlg_gt, zlg_le, zlg_ge, zlg_eq, Int32.toInt_toInt64, Int64.reduceToInt, zw_zw, zw_sw1, zw_sw2, zw_sw3, zw_sw4, zw_sw5, zw_sw6, zw_sw7, ne_eq, zi_in, zi_cl, zi_le, zi_lt, zi_eq, zi_neg, zi_0le, zb_0, if_true, if_false, eq_self, zb_T, zb_F, Bool.false_eq_true, zO_eq, zO_ne1, zO_ne2, zO_nn, zi_ne1, zi_ne2, zi_lt1, zi_le1, zi_lt2, zi_le2, Int32.reduceLT, Int32.reduceLE, Nat.reduceLT, Nat.reduceLeDiff, Int32.reduceMul, Int32.reduceAdd, Int32.reduceSub, not_false_eq_true, not_true_eq_false, Int32.reduceToInt, Int.reduceLE, Int.reduceLT, Int.reduceNeg, ite_self, E_X10_tellsAs, R_X10_tellsAs, SHF, PF, h3, h4, h5, zTm_4, zTm_5, show nI 0 = 0 from rfl, show nI 1 = 1 from rfl, show nI 2 = 2 from rfl, show nI 3 = 3 from rfl, show nI 4 = 4 from rfl, show nI 5 = 5 from rfl, show nI 6 = 6 from rfl, show nI 7 = 7 from rfl, qb, q0]
  try rw [eM]
theorem ma_3_6 (ih : ∀ a k, a < 4 → k < 8 → zMa f g t L o y F a k) (ho : o < 8) : zMa f g t L o y (F + 1) 3 6 := by
  intro x J r D Q hg h3 h4 h5 hl hD
  obtain ⟨D, rfl⟩ : ∃ D', D = D' + 2 := ⟨D - 2, by omega⟩
  have e : zsp o y (F + 1) 3 6 x = (2 :: ((zsp o y F 1 o (x)).1 ++ (zsp o y F 2 o (1)).1), (zsp o y F 1 o (x)).2 - (zsp o y F 2 o (1)).2) := rfl
  rw [e] at hl ⊢
  clear e
  have hg : (zgd o F 1 o && zgd o F 2 o) = true := hg
  rw [Bool.and_eq_true] at hg
  simp only [List.length_cons, List.length_append, List.length_nil] at hl
  have hr : r < 24 := by omega
  have qb := fun Q => m_begins (d := D) (f := f) (g := g) (t := t) (L := L) (Q := Q) 2 h3 hr
  have q0 := fun Q => ih 1 o (by decide) ho (x) (zTm J r [2]) (r + 1) (D + 1) Q hg.1 rfl h4 h5 (by omega) (by omega)
  have q1 := fun Q => ih 2 o (by decide) ho (1) (zTm (zTm J r [2]) (r + 1) (zsp o y F 1 o (x)).1) (r + 1 + (zsp o y F 1 o (x)).1.length) (D + 1) Q hg.2 rfl h4 h5 (by omega) (by omega)
  have eM : (zTm (zTm (zTm J r [2]) (r + 1) (zsp o y F 1 o (x)).1) (r + 1 + (zsp o y F 1 o (x)).1.length) (zsp o y F 2 o (1)).1) = zTm J r (2 :: ((zsp o y F 1 o (x)).1 ++ (zsp o y F 2 o (1)).1)) := by
    rw [show zTm (zTm J r [2]) (r + 1) (zsp o y F 1 o (x)).1 = zTm J r ([2] ++ (zsp o y F 1 o (x)).1) from zTm_a (cs := [2]), show r + 1 + (zsp o y F 1 o (x)).1.length = r + ([2] ++ (zsp o y F 1 o (x)).1).length by rw [List.length_append]; exact (Nat.add_assoc _ _ _)]
    exact zTm_a
  simp only [Nat.reduceAdd, show nI 0 = 0 from rfl, show nI 1 = 1 from rfl, show nI 2 = 2 from rfl, show nI 3 = 3 from rfl, show nI 4 = 4 from rfl, show nI 5 = 5 from rfl, show nI 6 = 6 from rfl, show nI 7 = 7 from rfl] at q0 q1
  simp only [Nat.reduceAdd]
  simp (disch := first | assumption | rfl | omega | decide | exact zb_01 _) only [zabs_e, zmax_e, zmin_e, zrf_s, zpush_s, zpush_n, zw_app, upd_app, updL_app, Nat.reduceEqDiff, Nat.add_left_cancel_iff, Nat.add_eq_left, Nat.left_eq_add, ↓reduceIte, true_and, and_true, Int32.reduceToNatClampNeg, zin_O, zi_ltO, zi_leO, zi_Olt, zi_Ole, zi_eqO, Nat.not_lt_zero, Nat.zero_le, List.append_nil, zrn_n, zrn_s, List.cons_append, List.nil_append, zlg_lt, zlg_gt, zlg_le, zlg_ge, zlg_eq, Int32.toInt_toInt64, Int64.reduceToInt, zw_zw, zw_sw1, zw_sw2, zw_sw3, zw_sw4, zw_sw5, zw_sw6, zw_sw7, ne_eq, zi_in, zi_cl, zi_le, zi_lt, zi_eq, zi_neg, zi_0le, zb_0, if_true, if_false, eq_self, zb_T, zb_F, Bool.false_eq_true, zO_eq, zO_ne1, zO_ne2, zO_nn, zi_ne1, zi_ne2, zi_lt1, zi_le1, zi_lt2, zi_le2, Int32.reduceLT, Int32.reduceLE, Nat.reduceLT, Nat.reduceLeDiff, Int32.reduceMul, Int32.reduceAdd, Int32.reduceSub, not_false_eq_true, not_true_eq_false, Int32.reduceToInt, Int.reduceLE, Int.reduceLT, Int.reduceNeg, ite_self, E_X10_tellsAs, R_X10_tellsAs, SHF, PF, h3, h4, h5, zTm_4, zTm_5, show nI 0 = 0 from rfl, show nI 1 = 1 from rfl, show nI 2 = 2 from rfl, show nI 3 = 3 from rfl, show nI 4 = 4 from rfl, show nI 5 = 5 from rfl, show nI 6 = 6 from rfl, show nI 7 = 7 from rfl, qb, q0, q1]
  try rw [eM]
theorem ma_3_7 (ih : ∀ a k, a < 4 → k < 8 → zMa f g t L o y F a k) (ho : o < 8) : zMa f g t L o y (F + 1) 3 7 := by
  intro x J r D Q hg h3 h4 h5 hl hD
  obtain ⟨D, rfl⟩ : ∃ D', D = D' + 2 := ⟨D - 2, by omega⟩
  have e : zsp o y (F + 1) 3 7 x = (81 :: (zsp o y F 3 4 (x)).1, (zsp o y F 3 4 (x)).2 - 1) := rfl
  rw [e] at hl ⊢
  clear e
  have hg : zgd o F 3 4 = true := hg
  simp only [List.length_cons, List.length_append, List.length_nil] at hl
  have hr : r < 24 := by omega
  have qb := fun Q => m_begins (d := D) (f := f) (g := g) (t := t) (L := L) (Q := Q) 81 h3 hr
  have q0 := fun Q => ih 3 4 (by decide) (by decide) (x) (zTm J r [81]) (r + 1) (D + 1) Q hg rfl h4 h5 (by omega) (by omega)
  have eM : (zTm (zTm J r [81]) (r + 1) (zsp o y F 3 4 (x)).1) = zTm J r (81 :: (zsp o y F 3 4 (x)).1) := zTm_a (cs := [81])
  simp only [Nat.reduceAdd, show nI 0 = 0 from rfl, show nI 1 = 1 from rfl, show nI 2 = 2 from rfl, show nI 3 = 3 from rfl, show nI 4 = 4 from rfl, show nI 5 = 5 from rfl, show nI 6 = 6 from rfl, show nI 7 = 7 from rfl] at q0
  simp only [Nat.reduceAdd]
  simp (disch := first | assumption | rfl | omega | decide | exact zb_01 _) only [zabs_e, zmax_e, zmin_e, zrf_s, zpush_s, zpush_n, zw_app, upd_app, updL_app, Nat.reduceEqDiff, Nat.add_left_cancel_iff, Nat.add_eq_left, Nat.left_eq_add, ↓reduceIte, true_and, and_true, Int32.reduceToNatClampNeg, zin_O, zi_ltO, zi_leO, zi_Olt, zi_Ole, zi_eqO, Nat.not_lt_zero, Nat.zero_le, List.append_nil, zrn_n, zrn_s, List.cons_append, List.nil_append, zlg_lt, zlg_gt, zlg_le, zlg_ge, zlg_eq, Int32.toInt_toInt64, Int64.reduceToInt, zw_zw, zw_sw1, zw_sw2, zw_sw3, zw_sw4, zw_sw5, zw_sw6, zw_sw7, ne_eq, zi_in, zi_cl, zi_le, zi_lt, zi_eq, zi_neg, zi_0le, zb_0, if_true, if_false, eq_self, zb_T, zb_F, Bool.false_eq_true, zO_eq, zO_ne1, zO_ne2, zO_nn, zi_ne1, zi_ne2, zi_lt1, zi_le1, zi_lt2, zi_le2, Int32.reduceLT, Int32.reduceLE, Nat.reduceLT, Nat.reduceLeDiff, Int32.reduceMul, Int32.reduceAdd, Int32.reduceSub, not_false_eq_true, not_true_eq_false, Int32.reduceToInt, Int.reduceLE, Int.reduceLT, Int.reduceNeg, ite_self, E_X10_tellsAs, R_X10_tellsAs, SHF, PF, h3, h4, h5, zTm_4, zTm_5, show nI 0 = 0 from rfl, show nI 1 = 1 from rfl, show nI 2 = 2 from rfl, show nI 3 = 3 from rfl, show nI 4 = 4 from rfl, show nI 5 = 5 from rfl, show nI 6 = 6 from rfl, show nI 7 = 7 from rfl, qb, q0]
  try rw [eM]
end ACTS
