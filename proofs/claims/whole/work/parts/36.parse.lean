/-! THE TAPE read: what both sides answer -/
/-- the byte at p; -1 behind the end -/
def zah (s : Nat → Int32) (N : Nat) : Nat → Int32 := fun p => if p < N then s p else -1
abbrev zdg (x : Int32) : Prop := 48 ≤ x ∧ x ≤ 57
def znm (x : Int32) : Int32 := if x = 100 then 2 else if x = 102 then 0 else if x = 107 then 3 else if x = 109 then 4 else if x = 112 then 1 else if x = 119 then 5 else -2
def zlvl (x : Int32) : Int32 := if x = 37 then 4 else if x = 38 then 1 else if x = 42 then 4 else if x = 43 then 3 else if x = 45 then 3 else if x = 47 then 4 else if x = 60 then 2 else if x = 61 then 2 else if x = 62 then 2 else if x = 124 then 0 else -2
/-- an operator between two -/
def zjn (op a b : Int32) : Int32 :=
  if op = 124 then (if ¬ a = 0 ∨ ¬ b = 0 then 1 else 0) else
  if op = 38 then (if ¬ a = 0 ∧ ¬ b = 0 then 1 else 0) else
  if op = 60 then (if a < b then 1 else 0) else
  if op = 61 then (if a = b then 1 else 0) else
  if op = 62 then (if b < a then 1 else 0) else
  if op = 43 then a + b else
  if op = 45 then a - b else
  if op = 42 then a * b else
  if op = 47 then (if b = 0 then 0 else a / b) else
  if op = 37 then (if b = 0 then 0 else a - a / b * b) else 0
/-- read: whether it's good; where it stopped; parts; what it is worth; how many are open -/
abbrev zR := Bool × Nat × List (Int32 × Int32) × Int32 × Int32
def zdig (ah : Nat → Int32) : Nat → Nat → Int32 → Nat × Int32
  | 0, p, v => (p, v)
  | c + 1, p, v => if zdg (ah p) then zdig ah c (p + 1) (10 * v + ah p - 48) else (p, v)
def zloop (ah : Nat → Int32) (lev : Int32) (X : Nat → zR) : Nat → Nat → List (Int32 × Int32) → Int32 → Int32 → zR
  | 0, p, c, v, o => (true, p, c, v, o)
  | k + 1, p, c, v, o => if zlvl (ah p) = lev then
      (if (X (p + 1)).1 = true then zloop ah lev X k (X (p + 1)).2.1 (c ++ (X (p + 1)).2.2.1 ++ [(ah p, 0)]) (zjn (ah p) v (X (p + 1)).2.2.2.1) (X (p + 1)).2.2.2.2
       else (false, (X (p + 1)).2.1, c ++ (X (p + 1)).2.2.1, zjn (ah p) v (X (p + 1)).2.2.2.1, (X (p + 1)).2.2.2.2))
    else (true, p, c, v, o)
def zlev (ah : Nat → Int32) (lev : Int32) (k : Nat) (X : Nat → zR) (p : Nat) : zR :=
  if (X p).1 = true then zloop ah lev X k (X p).2.1 (X p).2.2.1 (X p).2.2.2.1 (X p).2.2.2.2 else X p
def zexp (ah : Nat → Int32) (X : Nat → zR) : Nat → zR := zlev ah 0 120 (zlev ah 1 120 (zlev ah 2 1 (zlev ah 3 120 (zlev ah 4 120 X))))
/-- an operand, so many may still be opened -/
def zone (ah nm : Nat → Int32) : Nat → Nat → zR
  | 0, p => if zdg (ah p) then (true, (zdig ah 4 p 0).1, [(110, (zdig ah 4 p 0).2)], (zdig ah 4 p 0).2, 6)
      else if ¬ znm (ah p) = -2 then (true, p + 1, [(118, znm (ah p))], nm (znm (ah p)).toNatClampNeg, 6)
      else (false, p, [], 0, 6)
  | r + 1, p => if zdg (ah p) then (true, (zdig ah 4 p 0).1, [(110, (zdig ah 4 p 0).2)], (zdig ah 4 p 0).2, nI (5 - r))
      else if ¬ znm (ah p) = -2 then (true, p + 1, [(118, znm (ah p))], nm (znm (ah p)).toNatClampNeg, nI (5 - r))
      else if ah p = 40 then
        (if (zexp ah (zone ah nm r) (p + 1)).1 = true then
          (if ah (zexp ah (zone ah nm r) (p + 1)).2.1 = 41 then (true, (zexp ah (zone ah nm r) (p + 1)).2.1 + 1, (zexp ah (zone ah nm r) (p + 1)).2.2.1, (zexp ah (zone ah nm r) (p + 1)).2.2.2.1, (zexp ah (zone ah nm r) (p + 1)).2.2.2.2 - 1)
           else (false, (zexp ah (zone ah nm r) (p + 1)).2.1, (zexp ah (zone ah nm r) (p + 1)).2.2.1, 0, (zexp ah (zone ah nm r) (p + 1)).2.2.2.2))
         else (false, (zexp ah (zone ah nm r) (p + 1)).2.1, (zexp ah (zone ah nm r) (p + 1)).2.2.1, 0, (zexp ah (zone ah nm r) (p + 1)).2.2.2.2))
      else if ah p = 33 then
        (if (zone ah nm r (p + 1)).1 = true then (true, (zone ah nm r (p + 1)).2.1, (zone ah nm r (p + 1)).2.2.1 ++ [(33, 0)], if (zone ah nm r (p + 1)).2.2.2.1 = 0 then 1 else 0, (zone ah nm r (p + 1)).2.2.2.2 - 1)
         else (false, (zone ah nm r (p + 1)).2.1, (zone ah nm r (p + 1)).2.2.1, if (zone ah nm r (p + 1)).2.2.2.1 = 0 then 1 else 0, (zone ah nm r (p + 1)).2.2.2.2 - 1))
      else if ah p = 45 then
        (if (zone ah nm r (p + 1)).1 = true then (true, (zone ah nm r (p + 1)).2.1, (zone ah nm r (p + 1)).2.2.1 ++ [(126, 0)], -(zone ah nm r (p + 1)).2.2.2.1, (zone ah nm r (p + 1)).2.2.2.2 - 1)
         else (false, (zone ah nm r (p + 1)).2.1, (zone ah nm r (p + 1)).2.2.1, -(zone ah nm r (p + 1)).2.2.2.1, (zone ah nm r (p + 1)).2.2.2.2 - 1))
      else (false, p, [], 0, nI (5 - r))
/-! the class reads -/
def zEp (c : List (Int32 × Int32)) (old : Nat → Int32) : Nat → Int32 := fun j => if j < 121 then (match c[j]? with | some x => x.1 | none => old j) else old j
def zEv (c : List (Int32 × Int32)) (old : Nat → Int32) : Nat → Int32 := fun j => if j < 121 then (match c[j]? with | some x => x.2 | none => old j) else old j
def zEn (c : List (Int32 × Int32)) : Nat := if c.length < 121 then c.length else 121
/-- read up to p, parts c laid into the program at e -/
def zE (e : Nat) (I : Nat → Nat → Int32) (p : Nat) (c : List (Int32 × Int32)) : Nat → Nat → Int32 :=
  zw (zw (zw (zw I 31 (upd (I 31) 2 (nI p))) (e + 1) (zEp c (I (e + 1)))) (e + 2) (zEv c (I (e + 2)))) e (upd (I e) 3 (nI (zEn c)))
theorem zEp_a {c : List (Int32 × Int32)} {x : Int32 × Int32} {old : Nat → Int32} (h : c.length < 121) : upd (zEp c old) c.length x.1 = zEp (c ++ [x]) old := by
  funext j
  simp only [upd, zEp]
  by_cases e : j = c.length
  · subst e; simp [h]
  · rw [if_neg e]
    by_cases h2 : j < c.length
    · rw [List.getElem?_append_left h2]
    · have h3 : (c ++ [x])[j]? = none := by rw [List.getElem?_eq_none]; simp; omega
      have h4 : c[j]? = none := by rw [List.getElem?_eq_none]; omega
      rw [h3, h4]
theorem zEv_a {c : List (Int32 × Int32)} {x : Int32 × Int32} {old : Nat → Int32} (h : c.length < 121) : upd (zEv c old) c.length x.2 = zEv (c ++ [x]) old := by
  funext j
  simp only [upd, zEv]
  by_cases e : j = c.length
  · subst e; simp [h]
  · rw [if_neg e]
    by_cases h2 : j < c.length
    · rw [List.getElem?_append_left h2]
    · have h3 : (c ++ [x])[j]? = none := by rw [List.getElem?_eq_none]; simp; omega
      have h4 : c[j]? = none := by rw [List.getElem?_eq_none]; omega
      rw [h3, h4]
theorem zEp_b {c : List (Int32 × Int32)} {x : Int32 × Int32} {old : Nat → Int32} (h : ¬ c.length < 121) : zEp (c ++ [x]) old = zEp c old := by
  funext j
  simp only [zEp]
  by_cases e : j < 121
  · rw [List.getElem?_append_left (by omega)]
  · rw [if_neg e, if_neg e]
theorem zEv_b {c : List (Int32 × Int32)} {x : Int32 × Int32} {old : Nat → Int32} (h : ¬ c.length < 121) : zEv (c ++ [x]) old = zEv c old := by
  funext j
  simp only [zEv]
  by_cases e : j < 121
  · rw [List.getElem?_append_left (by omega)]
  · rw [if_neg e, if_neg e]
def zpr (e : Nat) : Prop := e = 60 ∨ e = 64
theorem zE_31 {e : Nat} (he : zpr e) {I : Nat → Nat → Int32} {p : Nat} {c : List (Int32 × Int32)} : zE e I p c 31 = upd (I 31) 2 (nI p) := by
  rcases he with rfl | rfl <;> simp [zE, zw]
theorem zE_32 {e : Nat} (he : zpr e) {I : Nat → Nat → Int32} {p : Nat} {c : List (Int32 × Int32)} : zE e I p c 32 = I 32 := by
  rcases he with rfl | rfl <;> simp [zE, zw]
theorem zE_p {e : Nat} (he : zpr e) {I : Nat → Nat → Int32} {p q : Nat} {c : List (Int32 × Int32)} : zw (zE e I p c) 31 (upd (I 31) 2 (nI q)) = zE e I q c := by
  rcases he with rfl | rfl <;> (funext x; simp only [zE, zw]; by_cases h : x = 31 <;> simp [h])
theorem zpr_s {e : Nat} (he : zpr e) : zSH[e]? = some (.inl 5) := by
  rcases he with rfl | rfl <;> rfl
section PARSE
variable {d e f g N p : Nat} {t : Option Nat} {I : Nat → Nat → Int32} {L : Nat → Nat → Int64} {Q : Option Value → zMm → Prop} {c : List (Int32 × Int32)}
theorem c_add (he : zpr e) (a b : Int32) {P : Nat → Nat → Option Nat} (h1 : P e 0 = some (e + 1)) (h2 : P e 1 = some (e + 2)) : zWM (d + 1) 43 [.ref e, .int a, .int b] (zSH, zE e I p c, L, P) Q = Q none (zSH, zE e I p (c ++ [(a, b)]), L, P) := by
  have hn : zEn c < 2147483648 := by unfold zEn; split <;> omega
  by_cases hc : c.length < 121
  · have h3 : zEn c = c.length := if_pos hc
    have h4 : nI (zEn (c ++ [(a, b)])) = nI (c.length + 1) := by
      unfold zEn
      rw [List.length_append]
      simp only [List.length_cons, List.length_nil]
      split <;> congr 1 <;> omega
    have e1 := zEp_a (x := (a, b)) (old := I (e + 1)) hc
    have e2 := zEv_a (x := (a, b)) (old := I (e + 2)) hc
    dsimp only at e1 e2
    rcases he with rfl | rfl
    · simp only [Nat.reduceAdd] at *
      simp (disch := first | assumption | rfl | omega | decide | exact zb_01 _) only [zabs_e, zmax_e, zmin_e, zrf_s, zpush_s, zpush_n, zw_app, upd_app, updL_app, Nat.reduceEqDiff, Nat.add_left_cancel_iff, Nat.add_eq_left, Nat.left_eq_add, ↓reduceIte, true_and, and_true, Int32.reduceToNatClampNeg, zin_O, zi_ltO, zi_leO, zi_Olt, zi_Ole, zi_eqO, Nat.not_lt_zero, Nat.zero_le, List.append_nil, zrn_n, zrn_s, List.cons_append, List.nil_append, zlg_lt, zlg_gt, zlg_le, zlg_ge, zlg_eq, Int32.toInt_toInt64, Int64.reduceToInt, zw_zw, zw_sw1, zw_sw2, zw_sw3, zw_sw4, zw_sw5, zw_sw6, zw_sw7, ne_eq, zi_in, zi_cl, zi_le, zi_lt, zi_eq, zi_neg, zi_0le, zb_0, if_true, if_false, eq_self, zb_T, zb_F, Bool.false_eq_true, zO_eq, zO_ne1, zO_ne2, zO_nn, zi_ne1, zi_ne2, zi_lt1, zi_le1, zi_lt2, zi_le2, Int32.reduceLT, Int32.reduceLE, Nat.reduceLT, Nat.reduceLeDiff, Int32.reduceMul, Int32.reduceAdd, Int32.reduceSub, not_false_eq_true, not_true_eq_false, E_X5_add, R_X5_add, SHF, h1, h2, zE, h3, zi_s, e1, e2, h4]
      rw [if_neg (by omega), upd_upd]
    · simp only [Nat.reduceAdd] at *
      simp (disch := first | assumption | rfl | omega | decide | exact zb_01 _) only [zabs_e, zmax_e, zmin_e, zrf_s, zpush_s, zpush_n, zw_app, upd_app, updL_app, Nat.reduceEqDiff, Nat.add_left_cancel_iff, Nat.add_eq_left, Nat.left_eq_add, ↓reduceIte, true_and, and_true, Int32.reduceToNatClampNeg, zin_O, zi_ltO, zi_leO, zi_Olt, zi_Ole, zi_eqO, Nat.not_lt_zero, Nat.zero_le, List.append_nil, zrn_n, zrn_s, List.cons_append, List.nil_append, zlg_lt, zlg_gt, zlg_le, zlg_ge, zlg_eq, Int32.toInt_toInt64, Int64.reduceToInt, zw_zw, zw_sw1, zw_sw2, zw_sw3, zw_sw4, zw_sw5, zw_sw6, zw_sw7, ne_eq, zi_in, zi_cl, zi_le, zi_lt, zi_eq, zi_neg, zi_0le, zb_0, if_true, if_false, eq_self, zb_T, zb_F, Bool.false_eq_true, zO_eq, zO_ne1, zO_ne2, zO_nn, zi_ne1, zi_ne2, zi_lt1, zi_le1, zi_lt2, zi_le2, Int32.reduceLT, Int32.reduceLE, Nat.reduceLT, Nat.reduceLeDiff, Int32.reduceMul, Int32.reduceAdd, Int32.reduceSub, not_false_eq_true, not_true_eq_false, E_X5_add, R_X5_add, SHF, h1, h2, zE, h3, zi_s, e1, e2, h4]
      rw [if_neg (by omega), upd_upd]
  · have h3 : zEn c = 121 := if_neg hc
    have h4 : zEn (c ++ [(a, b)]) = 121 := by
      unfold zEn
      rw [List.length_append]
      exact if_neg (by omega)
    have e1 := zEp_b (x := (a, b)) (old := I (e + 1)) hc
    have e2 := zEv_b (x := (a, b)) (old := I (e + 2)) hc
    have e3 : zE e I p (c ++ [(a, b)]) = zE e I p c := by unfold zE; rw [h3, h4, e1, e2]
    have e4 : zE e I p c e 3 = nI 121 := by unfold zE; rw [h3]; simp only [zw, ↓reduceIte, upd]
    have e5 : (121 : Int32) ≤ nI 121 := by decide
    clear h3 h4 e1 e2
    rw [e3]
    rcases he with rfl | rfl
    · simp (disch := first | assumption | rfl | omega | decide | exact zb_01 _) only [E_X5_add, R_X5_add, SHF, e4]
      rw [if_pos e5]
    · simp (disch := first | assumption | rfl | omega | decide | exact zb_01 _) only [E_X5_add, R_X5_add, SHF, e4]
      rw [if_pos e5]
theorem c_isDigit (x : Int32) (h : zMm) : zWM (d + 1) 39 [.int x] h Q = Q (some (.int (zb (zdg x)))) h := by
  simp (disch := first | assumption | rfl | omega | decide | exact zb_01 _) only [zabs_e, zmax_e, zmin_e, zrf_s, zpush_s, zpush_n, zw_app, upd_app, updL_app, Nat.reduceEqDiff, Nat.add_left_cancel_iff, Nat.add_eq_left, Nat.left_eq_add, ↓reduceIte, true_and, and_true, Int32.reduceToNatClampNeg, zin_O, zi_ltO, zi_leO, zi_Olt, zi_Ole, zi_eqO, Nat.not_lt_zero, Nat.zero_le, List.append_nil, zrn_n, zrn_s, List.cons_append, List.nil_append, zlg_lt, zlg_gt, zlg_le, zlg_ge, zlg_eq, Int32.toInt_toInt64, Int64.reduceToInt, zw_zw, zw_sw1, zw_sw2, zw_sw3, zw_sw4, zw_sw5, zw_sw6, zw_sw7, ne_eq, zi_in, zi_cl, zi_le, zi_lt, zi_eq, zi_neg, zi_0le, zb_0, if_true, if_false, eq_self, zb_T, zb_F, Bool.false_eq_true, zO_eq, zO_ne1, zO_ne2, zO_nn, zi_ne1, zi_ne2, zi_lt1, zi_le1, zi_lt2, zi_le2, Int32.reduceLT, Int32.reduceLE, Nat.reduceLT, Nat.reduceLeDiff, Int32.reduceMul, Int32.reduceAdd, Int32.reduceSub, not_false_eq_true, not_true_eq_false, E_X4_isDigit, R_X4_isDigit]
  unfold zdg
  repeat' split
  all_goals first | rfl | rw [zb_t (by first | omega | (simp only [Int32.lt_iff_toInt_lt, Int32.le_iff_toInt_le, ← Int32.toInt_inj, Int32.reduceToInt] at *; omega))] | rw [zb_f (by first | omega | (simp only [Int32.lt_iff_toInt_lt, Int32.le_iff_toInt_le, ← Int32.toInt_inj, Int32.reduceToInt] at *; omega))]
theorem c_nameOf (x : Int32) (h : zMm) : zWM (d + 1) 40 [.int x] h Q = Q (some (.int (znm x))) h := by
  rw [E_X4_nameOf, R_X4_nameOf.1, R_X4_nameOf.2.1]
  unfold znm
  by_cases h1 : x = 100
  · subst h1; simp (disch := first | assumption | rfl | omega | decide | exact zb_01 _) only [R_X4_nameOf, if_true, zO_eq, Nat.reduceEqDiff, if_false, ↓reduceIte]
  by_cases h2 : x = 102
  · subst h2; simp (disch := first | assumption | rfl | omega | decide | exact zb_01 _) only [R_X4_nameOf, if_true, zO_eq, Nat.reduceEqDiff, if_false, ↓reduceIte]
  by_cases h3 : x = 107
  · subst h3; simp (disch := first | assumption | rfl | omega | decide | exact zb_01 _) only [R_X4_nameOf, if_true, zO_eq, Nat.reduceEqDiff, if_false, ↓reduceIte]
  by_cases h4 : x = 109
  · subst h4; simp (disch := first | assumption | rfl | omega | decide | exact zb_01 _) only [R_X4_nameOf, if_true, zO_eq, Nat.reduceEqDiff, if_false, ↓reduceIte]
  by_cases h5 : x = 112
  · subst h5; simp (disch := first | assumption | rfl | omega | decide | exact zb_01 _) only [R_X4_nameOf, if_true, zO_eq, Nat.reduceEqDiff, if_false, ↓reduceIte]
  by_cases h6 : x = 119
  · subst h6; simp (disch := first | assumption | rfl | omega | decide | exact zb_01 _) only [R_X4_nameOf, if_true, zO_eq, Nat.reduceEqDiff, if_false, ↓reduceIte]
  simp only [h1, h2, h3, h4, h5, h6, ↓reduceIte]
  simp only [R_X4_nameOf, ite_self]
theorem c_levelOf (x : Int32) (h : zMm) : zWM (d + 1) 41 [.int x] h Q = Q (some (.int (zlvl x))) h := by
  have qi : ∀ (c : Prop) [Decidable c] (a b : Int32), (if c then Q (some (.int a)) h else Q (some (.int b)) h) = Q (some (.int (if c then a else b))) h := fun c _ a b => by split <;> rfl
  rw [E_X4_levelOf, R_X4_levelOf.1, R_X4_levelOf.2.1]
  simp only [R_X4_levelOf, qi]
  rfl
/-- the class's parser, so far -/
theorem c_ahead (he : zpr e) (hN : I 31 1 = nI N) (h120 : N ≤ 120) (hp : p < 2147483648) : zWM (d + 1) 38 [.ref 31] (zSH, zE e I p c, L, zP f g (some e)) Q = Q (some (.int (zah (I 32) N p))) (zSH, zE e I p c, L, zP f g (some e)) := by
  simp (disch := first | assumption | rfl | omega | decide | exact zb_01 _) only [zabs_e, zmax_e, zmin_e, zrf_s, zpush_s, zpush_n, zw_app, upd_app, updL_app, Nat.reduceEqDiff, Nat.add_left_cancel_iff, Nat.add_eq_left, Nat.left_eq_add, ↓reduceIte, true_and, and_true, Int32.reduceToNatClampNeg, zin_O, zi_ltO, zi_leO, zi_Olt, zi_Ole, zi_eqO, Nat.not_lt_zero, Nat.zero_le, List.append_nil, zrn_n, zrn_s, List.cons_append, List.nil_append, zlg_lt, zlg_gt, zlg_le, zlg_ge, zlg_eq, Int32.toInt_toInt64, Int64.reduceToInt, zw_zw, zw_sw1, zw_sw2, zw_sw3, zw_sw4, zw_sw5, zw_sw6, zw_sw7, ne_eq, zi_in, zi_cl, zi_le, zi_lt, zi_eq, zi_neg, zi_0le, zb_0, if_true, if_false, eq_self, zb_T, zb_F, Bool.false_eq_true, zO_eq, zO_ne1, zO_ne2, zO_nn, zi_ne1, zi_ne2, zi_lt1, zi_le1, zi_lt2, zi_le2, Int32.reduceLT, Int32.reduceLE, Nat.reduceLT, Nat.reduceLeDiff, Int32.reduceMul, Int32.reduceAdd, Int32.reduceSub, not_false_eq_true, not_true_eq_false, E_X4_ahead, R_X4_ahead, PF, SHF, zE_31 he, zE_32 he, hN]
  unfold zah
  by_cases h : p < N
  · rw [if_neg (by omega), if_neg (by omega), if_pos h]
  · rw [if_pos (by omega), if_neg h]
theorem zah_lt {s : Nat → Int32} (h : ¬ zah s N p = -1) : p < N := by
  unfold zah at h
  by_cases e : p < N
  · exact e
  · rw [if_neg e] at h
    exact absurd rfl h
theorem zdg_lt {s : Nat → Int32} (h : zdg (zah s N p)) : p < N := zah_lt (fun z => by rw [z] at h; exact absurd h.1 (by decide))
theorem c_number_l (he : zpr e) (hN : I 31 1 = nI N) (h120 : N ≤ 120) : ∀ k p v, k ≤ 4 → p ≤ N → zWp (d + 1) zi_37 none 4 [.ref 31, .int v, .int (nI (4 - k))] [] (zSH, zE e I p c, L, zP f g (some e)) Q = Q none (zSH, zE e I (zdig (zah (I 32) N) k p v).1 (c ++ [(110, (zdig (zah (I 32) N) k p v).2)]), L, zP f g (some e)) := by
  have hs := zpr_s he
  have a1 : zP f g (some e) e 0 = some (e + 1) := by rcases he with rfl | rfl <;> rfl
  have a2 : zP f g (some e) e 1 = some (e + 2) := by rcases he with rfl | rfl <;> rfl
  intro k
  induction k with
  | zero =>
    intro p v _ hp
    rw [H_X4_number_4]
    simp (disch := first | assumption | rfl | omega | decide | exact zb_01 _) only [zabs_e, zmax_e, zmin_e, zrf_s, zpush_s, zpush_n, zw_app, upd_app, updL_app, Nat.reduceEqDiff, Nat.add_left_cancel_iff, Nat.add_eq_left, Nat.left_eq_add, ↓reduceIte, true_and, and_true, Int32.reduceToNatClampNeg, zin_O, zi_ltO, zi_leO, zi_Olt, zi_Ole, zi_eqO, Nat.not_lt_zero, Nat.zero_le, List.append_nil, zrn_n, zrn_s, List.cons_append, List.nil_append, zlg_lt, zlg_gt, zlg_le, zlg_ge, zlg_eq, Int32.toInt_toInt64, Int64.reduceToInt, zw_zw, zw_sw1, zw_sw2, zw_sw3, zw_sw4, zw_sw5, zw_sw6, zw_sw7, ne_eq, zi_in, zi_cl, zi_le, zi_lt, zi_eq, zi_neg, zi_0le, zb_0, if_true, if_false, eq_self, zb_T, zb_F, Bool.false_eq_true, zO_eq, zO_ne1, zO_ne2, zO_nn, zi_ne1, zi_ne2, zi_lt1, zi_le1, zi_lt2, zi_le2, Int32.reduceLT, Int32.reduceLE, Nat.reduceLT, Nat.reduceLeDiff, Int32.reduceMul, Int32.reduceAdd, Int32.reduceSub, not_false_eq_true, not_true_eq_false, R_X4_number, PF, SHF, Nat.sub_zero, c_add he _ _ a1 a2]
    rfl
  | succ k ih =>
    intro p v hk hp
    have e4 : ¬ 4 ≤ 4 - (k + 1) := by omega
    have e5 : 4 - (k + 1) + 1 = 4 - k := by omega
    rw [H_X4_number_4]
    simp (disch := first | assumption | rfl | omega | decide | exact zb_01 _) only [zabs_e, zmax_e, zmin_e, zrf_s, zpush_s, zpush_n, zw_app, upd_app, updL_app, Nat.reduceEqDiff, Nat.add_left_cancel_iff, Nat.add_eq_left, Nat.left_eq_add, ↓reduceIte, true_and, and_true, Int32.reduceToNatClampNeg, zin_O, zi_ltO, zi_leO, zi_Olt, zi_Ole, zi_eqO, Nat.not_lt_zero, Nat.zero_le, List.append_nil, zrn_n, zrn_s, List.cons_append, List.nil_append, zlg_lt, zlg_gt, zlg_le, zlg_ge, zlg_eq, Int32.toInt_toInt64, Int64.reduceToInt, zw_zw, zw_sw1, zw_sw2, zw_sw3, zw_sw4, zw_sw5, zw_sw6, zw_sw7, ne_eq, zi_in, zi_cl, zi_le, zi_lt, zi_eq, zi_neg, zi_0le, zb_0, if_true, if_false, eq_self, zb_T, zb_F, Bool.false_eq_true, zO_eq, zO_ne1, zO_ne2, zO_nn, zi_ne1, zi_ne2, zi_lt1, zi_le1, zi_lt2, zi_le2, Int32.reduceLT, Int32.reduceLE, Nat.reduceLT, Nat.reduceLeDiff, Int32.reduceMul, Int32.reduceAdd, Int32.reduceSub, not_false_eq_true, not_true_eq_false, R_X4_number, PF, SHF, e4, e5, c_ahead he hN h120, c_isDigit, zE_31 he, zi_s, upd_upd, zE_p he, c_add he _ _ a1 a2]
    unfold zdig
    by_cases h : zdg (zah (I 32) N p)
    · rw [if_pos h, if_neg (fun z => z h)]
      exact ih _ _ (by omega) (zdg_lt h)
    · rw [if_neg h, if_pos h]
theorem c_number (he : zpr e) (hN : I 31 1 = nI N) (h120 : N ≤ 120) (hp : p ≤ N) : zWM (d + 2) 37 [.ref 31] (zSH, zE e I p c, L, zP f g (some e)) Q = Q none (zSH, zE e I (zdig (zah (I 32) N) 4 p 0).1 (c ++ [(110, (zdig (zah (I 32) N) 4 p 0).2)]), L, zP f g (some e)) := by
  simp (disch := first | assumption | rfl | omega | decide | exact zb_01 _) only [zabs_e, zmax_e, zmin_e, zrf_s, zpush_s, zpush_n, zw_app, upd_app, updL_app, Nat.reduceEqDiff, Nat.add_left_cancel_iff, Nat.add_eq_left, Nat.left_eq_add, ↓reduceIte, true_and, and_true, Int32.reduceToNatClampNeg, zin_O, zi_ltO, zi_leO, zi_Olt, zi_Ole, zi_eqO, Nat.not_lt_zero, Nat.zero_le, List.append_nil, zrn_n, zrn_s, List.cons_append, List.nil_append, zlg_lt, zlg_gt, zlg_le, zlg_ge, zlg_eq, Int32.toInt_toInt64, Int64.reduceToInt, zw_zw, zw_sw1, zw_sw2, zw_sw3, zw_sw4, zw_sw5, zw_sw6, zw_sw7, ne_eq, zi_in, zi_cl, zi_le, zi_lt, zi_eq, zi_neg, zi_0le, zb_0, if_true, if_false, eq_self, zb_T, zb_F, Bool.false_eq_true, zO_eq, zO_ne1, zO_ne2, zO_nn, zi_ne1, zi_ne2, zi_lt1, zi_le1, zi_lt2, zi_le2, Int32.reduceLT, Int32.reduceLE, Nat.reduceLT, Nat.reduceLeDiff, Int32.reduceMul, Int32.reduceAdd, Int32.reduceSub, not_false_eq_true, not_true_eq_false, E_X4_number, R_X4_number]
  exact c_number_l he hN h120 4 p 0 (by omega) hp
end PARSE
