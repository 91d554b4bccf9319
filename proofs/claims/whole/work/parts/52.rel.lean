/-! class and reference, side by side -/
abbrev zok1 (p dm x y : Int32) : Prop := (1 ≤ p.toInt ∧ p.toInt ≤ 9) ∧ (0 ≤ dm.toInt ∧ dm.toInt ≤ p.toInt) ∧ (-4 ≤ x.toInt ∧ x.toInt ≤ 4) ∧ -4 ≤ y.toInt ∧ y.toInt ≤ 4
/-- ROUNDS -/
def zRt (I : Nat → Nat → Int32) (n : Nat) : Prop := I 1 6 = nI n ∧ I 80 6 = nI n ∧ n ≤ 24 ∧ tSet I 1 n ∧ ∀ j, j < n → I 85 j = I 2 j ∧ I 81 j = I 5 j ∧ I 81 (24 + j) = I 6 j ∧ I 81 (48 + j) = I 3 j ∧ zok1 (I 2 j) (I 3 j) (I 5 j) (I 6 j)
/-- WIND, LIMIT, THIEVES -/
def zRw (I : Nat → Nat → Int32) : Prop := (I 81 72 = I 0 14 ∧ I 81 73 = I 0 15 ∧ I 81 82 = I 27 4 ∧ I 81 83 = I 0 16) ∧ (-9 ≤ (I 0 14).toInt ∧ (I 0 14).toInt ≤ 9) ∧ (-9 ≤ (I 0 15).toInt ∧ (I 0 15).toInt ≤ 9) ∧ (1 ≤ (I 27 4).toInt ∧ (I 27 4).toInt ≤ 999) ∧ 0 ≤ (I 0 16).toInt ∧ (I 0 16).toInt ≤ 12
/-- PANES -/
def zRp (I : Nat → Nat → Int32) (k : Nat) : Prop := I 27 3 = nI k ∧ I 80 10 = nI k ∧ k ≤ 8 ∧ (∀ j, j < k → I 86 j = I 28 j ∧ I 87 j = I 29 j ∧ zpn (I 28 j) (I 29 j)) ∧ ∀ j, j < 8 → I 81 (74 + j) = I 30 j ∧ 0 ≤ (I 30 j).toInt ∧ (I 30 j).toInt ≤ 9
abbrev zst (s : Nat → Int32) : Prop := (0 ≤ (s 0).toInt ∧ (s 0).toInt ≤ 99) ∧ (0 ≤ (s 1).toInt ∧ (s 1).toInt ≤ 99) ∧ 0 ≤ (s 2).toInt ∧ (s 2).toInt ≤ 30
/-- STORE -/
def zRs (I : Nat → Nat → Int32) : Prop := I 80 8 = I 51 0 ∧ I 80 9 = I 51 1 ∧ I 80 33 = I 51 2 ∧ I 80 34 = I 51 3 ∧ I 80 35 = I 51 4 ∧ I 80 36 = I 51 5 ∧ zst (I 51)
/-- AN IMAGE -/
def zRi (I : Nat → Nat → Int32) : Prop := (I 0 13 = 0 ∧ I 80 38 = 0) ∨ (I 0 13 = 1 ∧ I 80 38 = 1 ∧ I 97 0 = I 52 0 ∧ I 97 1 = I 52 1 ∧ I 97 2 = I 52 2 ∧ I 97 3 = I 52 4 ∧ I 97 4 = I 52 5 ∧ I 97 5 = I 52 3 ∧ zst (I 52))
/-- a change: what it is of, of how many, where, and how it may be -/
def zcb (w : Nat) : Nat := if w = 0 then 0 else if w = 1 then 24 else if w = 2 then 48 else if w = 3 then 72 else if w = 4 then 73 else if w = 5 then 74 else if w = 6 then 82 else 83
def zcm (w k : Nat) : Nat := if w < 3 then 24 else if w = 5 then k else 1
def zcr (w : Nat) (v : Int32) : Prop := if w < 2 then -4 ≤ v.toInt ∧ v.toInt ≤ 4 else if w = 2 then 0 ≤ v.toInt ∧ v.toInt ≤ 9 else if w < 5 then -9 ≤ v.toInt ∧ v.toInt ≤ 9 else if w = 5 then 0 ≤ v.toInt ∧ v.toInt ≤ 9 else if w = 6 then 1 ≤ v.toInt ∧ v.toInt ≤ 999 else 0 ≤ v.toInt ∧ v.toInt ≤ 12
/-- CHANGES -/
def zRc (I : Nat → Nat → Int32) (a b k : Nat) : Prop := I 54 1 = nI a ∧ I 54 2 = nI b ∧ I 80 5 = nI a ∧ I 80 4 = nI b ∧ a ≤ b ∧ b ≤ 40 ∧ ∀ j, j < b → ∃ w m, w < 8 ∧ m < zcm w k ∧ I 55 (4 * j) = nI m ∧ I 55 (4 * j + 1) = nI w ∧ I 82 j = nI (zcb w + m) ∧ I 55 (4 * j + 2) = I 83 j ∧ I 55 (4 * j + 3) = I 84 j ∧ zcr w (I 83 j) ∧ zcr w (I 84 j)
/-- THE TAPE -/
def zRy (I : Nat → Nat → Int32) (z : Nat) : Prop := I 31 1 = nI z ∧ I 80 14 = nI z ∧ z ≤ 120 ∧ ∀ j, j < z → I 88 j = I 32 j
/-- BODIES -/
def zRb (I : Nat → Nat → Int32) (b : Nat) : Prop := I 56 2 = nI b ∧ I 80 40 = nI b ∧ b ≤ 50 ∧ ∀ j, j < b → I 98 j = I 57 j ∧ ∃ c, c < 8 ∧ I 57 j = nI c
def zRr (I : Nat → Nat → Int32) : Prop := ∃ r, I 56 3 = nI r ∧ I 80 43 = nI r ∧ r ≤ 1000 ∧ ∀ j, j < r → j < 24 → I 99 j = I 58 j
/-- SHELVES -/
def zRh1 (I : Nat → Nat → Int32) (L : Nat → Nat → Int64) (b d : Nat) : Prop := (I (68 + 2 * d) 1 = -2 ∧ I 100 d = -1) ∨ (I (68 + 2 * d) 1 = -1 ∧ ∃ m, m < b ∧ I (68 + 2 * d) 2 = nI m ∧ I 100 d = nI m) ∨ ∃ c l, c < 5 ∧ l ≤ 60 ∧ I (68 + 2 * d) 1 = nI c ∧ I 100 d = nI (50 + c) ∧ I (68 + 2 * d) 3 = nI l ∧ I 101 d = nI l ∧ ∀ i, i < 60 → L 102 (60 * d + i) = L (69 + 2 * d) i ∧ (c = 0 → -128 ≤ (L (69 + 2 * d) i).toInt ∧ (L (69 + 2 * d) i).toInt ≤ 127)
def zRh (I : Nat → Nat → Int32) (L : Nat → Nat → Int64) (b : Nat) : Prop := ∀ d, d < 6 → zRh1 I L b d
/-- the class's fire, where it is known -/
def zRf (I : Nat → Nat → Int32) (n : Nat) (law : zLawT) : Prop := I 33 6 = 0 ∨ (I 33 6 = 1 ∧ (I 33 7, I 33 8, I 33 9, I 33 10) = zbn law n (I 2) (I 3) (I 5) (I 6) (I 0 14) (I 0 15) (zabs (I 0 14) + zabs (I 0 15)) 61 ∧ zFk I n (zfu law (I 2) (I 3) (zabs (I 0 14) + zabs (I 0 15))))
def zRl (I : Nat → Nat → Int32) (f : Nat) (law : zLawT) : Prop := zLc I f law ∧ zLm I law
abbrev zRel9 (I : Nat → Nat → Int32) (L : Nat → Nat → Int64) (f g : Nat) (law : zLawT) (n k a b z bb : Nat) : Prop := ((f = 60 ∧ g = 64) ∨ (f = 64 ∧ g = 60)) ∧ zRt I n ∧ zRw I ∧ zRp I k ∧ zRs I ∧ zRi I ∧ zRc I a b k ∧ zRy I z ∧ zRl I f law ∧ zRb I bb ∧ zRr I ∧ zRh I L bb ∧ zRf I n law
def zRel (I : Nat → Nat → Int32) (L : Nat → Nat → Int64) (f g : Nat) : Prop := ∃ law n k a b z bb, zRel9 I L f g law n k a b z bb
/-- a call of both: they answer alike, and stand alike behind it -/
def zOp (mi mj : Nat) (as : List Value) (I : Nat → Nat → Int32) (L : Nat → Nat → Int64) (f g : Nat) (t : Option Nat) : Prop := ∃ (r : Value) (I1 : Nat → Nat → Int32) (L1 : Nat → Nat → Int64) (f1 g1 : Nat) (t1 : Option Nat) (I2 : Nat → Nat → Int32) (L2 : Nat → Nat → Int64), (∀ d Q, zWM (d + 100) mi (.ref 0 :: as) (zSH, I, L, zP f g t) Q = Q (some r) (zSH, I1, L1, zP f1 g1 t1)) ∧ (∀ d Q, zWM (d + 100) mj (.ref 80 :: as) (zSH, I1, L1, zP f1 g1 t1) Q = Q (some r) (zSH, I2, L2, zP f1 g1 t1)) ∧ zRel I2 L2 f1 g1 ∧ (mi ≠ 116 → ∃ v : Int32, r = .int v) ∧ (mi = 116 → ∃ v : Int64, r = .long v)
/-- the same memory behind both -/
theorem zOp_s {mi mj : Nat} {as : List Value} {I : Nat → Nat → Int32} {L : Nat → Nat → Int64} {f g : Nat} {t : Option Nat} (hR : zRel I L f g) (r : Value) (h1 : ∀ d Q, zWM (d + 100) mi (.ref 0 :: as) (zSH, I, L, zP f g t) Q = Q (some r) (zSH, I, L, zP f g t)) (h2 : ∀ d Q, zWM (d + 100) mj (.ref 80 :: as) (zSH, I, L, zP f g t) Q = Q (some r) (zSH, I, L, zP f g t)) (hv : (mi ≠ 116 → ∃ v : Int32, r = .int v) ∧ (mi = 116 → ∃ v : Int64, r = .long v) := by first | exact ⟨fun _ => ⟨_, rfl⟩, fun h => absurd h (by decide)⟩ | exact ⟨fun h => absurd rfl h, fun _ => ⟨_, rfl⟩⟩) : zOp mi mj as I L f g t := ⟨r, I, L, f, g, t, I, L, h1, h2, hR, hv⟩
/-! numbers in a range -/
theorem zrg (x a b : Int32) (A B : Int) (hA : a.toInt = A) (hB : b.toInt = B) : ((A ≤ x.toInt ∧ x.toInt ≤ B) ∧ ¬ x < a ∧ ¬ b < x ∧ a ≤ x ∧ x ≤ b) ∨ (¬ (A ≤ x.toInt ∧ x.toInt ≤ B) ∧ ((x < a ∧ ¬ a ≤ x) ∨ (¬ x < a ∧ a ≤ x ∧ b < x ∧ ¬ x ≤ b))) := by
  simp only [Int32.lt_iff_toInt_lt, Int32.le_iff_toInt_le, hA, hB]
  omega
theorem zrN (x : Int32) (n : Nat) (hn : n < 2147483648) : (∃ j, j < n ∧ x = nI j) ∨ (¬ (0 ≤ x ∧ x < nI n) ∧ ¬ (0 ≤ x.toInt ∧ x.toInt ≤ (nI n - 1).toInt) ∧ ((x < 0 ∧ ¬ 0 ≤ x) ∨ (¬ x < 0 ∧ 0 ≤ x ∧ nI n ≤ x ∧ ¬ x < nI n))) := by
  have t0 : (0 : Int32).toInt = 0 := by decide
  have e := zi_nt hn
  have e2 : (nI n - 1).toInt = n - 1 := by rw [zt_sub (by rw [e]; show _ ≤ (n : Int) - (1 : Int); omega) (by rw [e]; show (n : Int) - (1 : Int) ≤ _; omega), e]; rfl
  simp only [Int32.lt_iff_toInt_lt, Int32.le_iff_toInt_le, e, e2, t0]
  by_cases h : 0 ≤ x.toInt ∧ x.toInt < n
  · refine Or.inl ⟨x.toInt.toNat, by omega, Int32.toInt_inj.mp ?_⟩
    rw [zi_nt (by omega)]
    omega
  · exact Or.inr ⟨h, by omega, by omega⟩
theorem zrN_i {j n : Nat} (h : j < n) (hn : n < 2147483648) : (0 ≤ (nI j).toInt ∧ (nI j).toInt ≤ (nI n - 1).toInt) = True := eq_true (by
  have e := zi_nt hn
  have e2 : (nI n - 1).toInt = n - 1 := by rw [zt_sub (by rw [e]; show _ ≤ (n : Int) - (1 : Int); omega) (by rw [e]; show (n : Int) - (1 : Int) ≤ _; omega), e]; rfl
  rw [e2, zi_nt (by omega)]
  omega)
theorem zen1 {x : Int32} (h : 0 ≤ x.toInt ∧ x.toInt ≤ 1) : x = 0 ∨ x = 1 := by
  have t0 : (0 : Int32).toInt = 0 := by decide
  have t1 : (1 : Int32).toInt = 1 := by decide
  obtain ⟨j, hj, rfl⟩ := nI_of2 (x := x) (M := 1) (n := 1) (by decide) (fun z => by have := Int32.lt_iff_toInt_lt.mp z; omega) (Int32.le_iff_toInt_le.mpr (by omega))
  have hj2 : j = 0 ∨ j = 1 := by omega
  rcases hj2 with rfl | rfl <;> simp only [show nI 0 = 0 from rfl, show nI 1 = 1 from rfl, true_or, or_true]
theorem zen2 {x : Int32} (h : 0 ≤ x.toInt ∧ x.toInt ≤ 2) : x = 0 ∨ x = 1 ∨ x = 2 := by
  have t0 : (0 : Int32).toInt = 0 := by decide
  have t1 : (2 : Int32).toInt = 2 := by decide
  obtain ⟨j, hj, rfl⟩ := nI_of2 (x := x) (M := 2) (n := 2) (by decide) (fun z => by have := Int32.lt_iff_toInt_lt.mp z; omega) (Int32.le_iff_toInt_le.mpr (by omega))
  have hj2 : j = 0 ∨ j = 1 ∨ j = 2 := by omega
  rcases hj2 with rfl | rfl | rfl <;> simp only [show nI 0 = 0 from rfl, show nI 1 = 1 from rfl, show nI 2 = 2 from rfl, true_or, or_true]
theorem zen3 {x : Int32} (h : 0 ≤ x.toInt ∧ x.toInt ≤ 3) : x = 0 ∨ x = 1 ∨ x = 2 ∨ x = 3 := by
  have t0 : (0 : Int32).toInt = 0 := by decide
  have t1 : (3 : Int32).toInt = 3 := by decide
  obtain ⟨j, hj, rfl⟩ := nI_of2 (x := x) (M := 3) (n := 3) (by decide) (fun z => by have := Int32.lt_iff_toInt_lt.mp z; omega) (Int32.le_iff_toInt_le.mpr (by omega))
  have hj2 : j = 0 ∨ j = 1 ∨ j = 2 ∨ j = 3 := by omega
  rcases hj2 with rfl | rfl | rfl | rfl <;> simp only [show nI 0 = 0 from rfl, show nI 1 = 1 from rfl, show nI 2 = 2 from rfl, show nI 3 = 3 from rfl, true_or, or_true]
theorem zen4 {x : Int32} (h : 0 ≤ x.toInt ∧ x.toInt ≤ 4) : x = 0 ∨ x = 1 ∨ x = 2 ∨ x = 3 ∨ x = 4 := by
  have t0 : (0 : Int32).toInt = 0 := by decide
  have t1 : (4 : Int32).toInt = 4 := by decide
  obtain ⟨j, hj, rfl⟩ := nI_of2 (x := x) (M := 4) (n := 4) (by decide) (fun z => by have := Int32.lt_iff_toInt_lt.mp z; omega) (Int32.le_iff_toInt_le.mpr (by omega))
  have hj2 : j = 0 ∨ j = 1 ∨ j = 2 ∨ j = 3 ∨ j = 4 := by omega
  rcases hj2 with rfl | rfl | rfl | rfl | rfl <;> simp only [show nI 0 = 0 from rfl, show nI 1 = 1 from rfl, show nI 2 = 2 from rfl, show nI 3 = 3 from rfl, show nI 4 = 4 from rfl, true_or, or_true]
theorem zen6 {x : Int32} (h : 0 ≤ x.toInt ∧ x.toInt ≤ 6) : x = 0 ∨ x = 1 ∨ x = 2 ∨ x = 3 ∨ x = 4 ∨ x = 5 ∨ x = 6 := by
  have t0 : (0 : Int32).toInt = 0 := by decide
  have t1 : (6 : Int32).toInt = 6 := by decide
  obtain ⟨j, hj, rfl⟩ := nI_of2 (x := x) (M := 6) (n := 6) (by decide) (fun z => by have := Int32.lt_iff_toInt_lt.mp z; omega) (Int32.le_iff_toInt_le.mpr (by omega))
  have hj2 : j = 0 ∨ j = 1 ∨ j = 2 ∨ j = 3 ∨ j = 4 ∨ j = 5 ∨ j = 6 := by omega
  rcases hj2 with rfl | rfl | rfl | rfl | rfl | rfl | rfl <;> simp only [show nI 0 = 0 from rfl, show nI 1 = 1 from rfl, show nI 2 = 2 from rfl, show nI 3 = 3 from rfl, show nI 4 = 4 from rfl, show nI 5 = 5 from rfl, show nI 6 = 6 from rfl, true_or, or_true]
theorem zen7 {x : Int32} (h : 0 ≤ x.toInt ∧ x.toInt ≤ 7) : x = 0 ∨ x = 1 ∨ x = 2 ∨ x = 3 ∨ x = 4 ∨ x = 5 ∨ x = 6 ∨ x = 7 := by
  have t0 : (0 : Int32).toInt = 0 := by decide
  have t1 : (7 : Int32).toInt = 7 := by decide
  obtain ⟨j, hj, rfl⟩ := nI_of2 (x := x) (M := 7) (n := 7) (by decide) (fun z => by have := Int32.lt_iff_toInt_lt.mp z; omega) (Int32.le_iff_toInt_le.mpr (by omega))
  have hj2 : j = 0 ∨ j = 1 ∨ j = 2 ∨ j = 3 ∨ j = 4 ∨ j = 5 ∨ j = 6 ∨ j = 7 := by omega
  rcases hj2 with rfl | rfl | rfl | rfl | rfl | rfl | rfl | rfl <;> simp only [show nI 0 = 0 from rfl, show nI 1 = 1 from rfl, show nI 2 = 2 from rfl, show nI 3 = 3 from rfl, show nI 4 = 4 from rfl, show nI 5 = 5 from rfl, show nI 6 = 6 from rfl, show nI 7 = 7 from rfl, true_or, or_true]
theorem zen8 {x : Int32} (h : 0 ≤ x.toInt ∧ x.toInt ≤ 8) : x = 0 ∨ x = 1 ∨ x = 2 ∨ x = 3 ∨ x = 4 ∨ x = 5 ∨ x = 6 ∨ x = 7 ∨ x = 8 := by
  have t0 : (0 : Int32).toInt = 0 := by decide
  have t1 : (8 : Int32).toInt = 8 := by decide
  obtain ⟨j, hj, rfl⟩ := nI_of2 (x := x) (M := 8) (n := 8) (by decide) (fun z => by have := Int32.lt_iff_toInt_lt.mp z; omega) (Int32.le_iff_toInt_le.mpr (by omega))
  have hj2 : j = 0 ∨ j = 1 ∨ j = 2 ∨ j = 3 ∨ j = 4 ∨ j = 5 ∨ j = 6 ∨ j = 7 ∨ j = 8 := by omega
  rcases hj2 with rfl | rfl | rfl | rfl | rfl | rfl | rfl | rfl | rfl <;> simp only [show nI 0 = 0 from rfl, show nI 1 = 1 from rfl, show nI 2 = 2 from rfl, show nI 3 = 3 from rfl, show nI 4 = 4 from rfl, show nI 5 = 5 from rfl, show nI 6 = 6 from rfl, show nI 7 = 7 from rfl, show nI 8 = 8 from rfl, true_or, or_true]
theorem zmS (I : Nat → Nat → Int32) {a : Nat} (F : Nat → Int32) (h : 81 ≠ a) : mSy (zw I a F) = mSy I := mSy_c (zw_n h)
theorem zmD (I : Nat → Nat → Int32) {a : Nat} (F : Nat → Int32) (h : 81 ≠ a) : mDm (zw I a F) = mDm I := mDm_c (zw_n h)
theorem zRt_fa {I : Nat → Nat → Int32} {n : Nat} (h : zRt I n) (hw : zRw I) (X : Nat → Int32) : zFa n (zfl n (I 85) X) (I 81) (mSy I) (I 81 72) (I 81 73) = zFa n (I 2) (I 5) (I 6) (I 0 14) (I 0 15) := by
  rw [hw.1.1, hw.1.2.1]
  exact zFa_congr (fun j hj => by rw [zfl_lt hj]; exact (h.2.2.2.2 j hj).1) (fun j hj => (h.2.2.2.2 j hj).2.1) (fun j hj => (h.2.2.2.2 j hj).2.2.1)
theorem zRt_fa2 {I : Nat → Nat → Int32} {n : Nat} (h : zRt I n) (wx wy : Int32) (X : Nat → Int32) : zFa n (zfl n (I 85) X) (I 81) (mSy I) wx wy = zFa n (I 2) (I 5) (I 6) wx wy :=
  zFa_congr (fun j hj => by rw [zfl_lt hj]; exact (h.2.2.2.2 j hj).1) (fun j hj => (h.2.2.2.2 j hj).2.1) (fun j hj => (h.2.2.2.2 j hj).2.2.1)
