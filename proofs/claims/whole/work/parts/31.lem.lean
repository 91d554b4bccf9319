/-! reading what was written -/
theorem zw_app {α : Type} (f : Nat → Nat → α) (a : Nat) (g : Nat → α) (b : Nat) : zw f a g b = if b = a then g else f b := rfl
theorem upd_app (f : Nat → Int32) (k : Nat) (x : Int32) (j : Nat) : upd f k x j = if j = k then x else f j := rfl
theorem updL_app (f : Nat → Int64) (k : Nat) (x : Int64) (j : Nat) : vp_updL f k x j = if j = k then x else f j := rfl
theorem zw_zw {α : Type} (f : Nat → Nat → α) (a : Nat) (g g' : Nat → α) : zw (zw f a g) a g' = zw f a g' := by
  funext x; simp only [zw]; split <;> rfl
theorem zw_cm {α : Type} {f : Nat → Nat → α} {a b : Nat} {g g' : Nat → α} (h : a ≠ b) : zw (zw f a g) b g' = zw (zw f b g') a g := by
  funext x; simp only [zw]; split <;> split <;> first | rfl | (subst_vars; exact absurd rfl h)
theorem zw_id {α : Type} (f : Nat → Nat → α) (a : Nat) : zw f a (f a) = f := by
  funext x; simp only [zw]; split <;> simp_all
theorem upd_id (f : Nat → Int32) (k : Nat) : upd f k (f k) = f := by
  funext x; simp only [upd]; split <;> simp_all
theorem upd_upd (f : Nat → Int32) (k : Nat) (x y : Int32) : upd (upd f k x) k y = upd f k y := by
  funext j; simp only [upd]; split <;> rfl
/-- the first n are new -/
def zfl {α : Type} (n : Nat) (new old : Nat → α) : Nat → α := fun j => if j < n then new j else old j
theorem zfl_0 {α : Type} (new old : Nat → α) : zfl 0 new old = old := by funext j; simp [zfl]
theorem zfl_s (n : Nat) (new old : Nat → Int32) : upd (zfl n new old) n (new n) = zfl (n + 1) new old := by
  funext j
  simp only [upd, zfl]
  by_cases h : j = n
  · subst h; simp
  · by_cases h2 : j < n
    · simp [h, h2, Nat.lt_succ_of_lt h2]
    · have : ¬ j < n + 1 := by omega
      simp [h, h2, this]
theorem zfl_lt {α : Type} {n j : Nat} {new old : Nat → α} (h : j < n) : zfl n new old j = new j := if_pos h
theorem zfl_ge {α : Type} {n j : Nat} {new old : Nat → α} (h : ¬ j < n) : zfl n new old j = old j := if_neg h
/-! sums -/
def sumI (s : Nat → Int32) : Nat → Int32
  | 0 => 0
  | k + 1 => sumI s k + s k
theorem sumI_congr {s t : Nat → Int32} : ∀ {n : Nat}, (∀ j, j < n → s j = t j) → sumI s n = sumI t n
  | 0, _ => rfl
  | n + 1, h => by rw [sumI, sumI, sumI_congr (fun j hj => h j (by omega)), h n (by omega)]
/-! numbers -/
theorem zi_le {a b : Nat} (ha : a < 2147483648) (hb : b < 2147483648) : (nI a ≤ nI b) = (a ≤ b) := propext (nI_leI (by omega) (by omega))
theorem zi_lt {a b : Nat} (ha : a < 2147483648) (hb : b < 2147483648) : (nI a < nI b) = (a < b) := propext (nI_ltI (by omega) (by omega))
theorem zi_eq {a b : Nat} (ha : a < 2147483648) (hb : b < 2147483648) : (nI a = nI b) = (a = b) := propext (nI_eq (by omega) (by omega))
theorem zi_neg {a : Nat} (ha : a < 2147483648) : (nI a < 0) = False := eq_false (nI_pos (by omega))
theorem zi_0le {a : Nat} (ha : a < 2147483648) : (0 ≤ nI a) = True := eq_true (nI_pos' (by omega))
theorem zi_cl {a : Nat} (ha : a < 2147483648) : (nI a).toNatClampNeg = a := nI_clamp (by omega)
theorem zi_in {a n : Nat} (ha : a < n) (hn : n < 2147483648) : vp_in (nI a) n = True := eq_true (vp_in_nI ha (by omega))
theorem zi_s (a : Nat) : nI a + 1 = nI (a + 1) := nI_1 a
theorem zi_m {a : Nat} (ha : 0 < a) : nI a - 1 = nI (a - 1) := by
  obtain ⟨k, rfl⟩ : ∃ k, a = k + 1 := ⟨a - 1, by omega⟩
  exact nI_pred k
theorem zi_m1 {a : Nat} (ha : 0 < a) : nI a + (-1) = nI (a - 1) := by
  obtain ⟨k, rfl⟩ : ∃ k, a = k + 1 := ⟨a - 1, by omega⟩
  exact pk_m1 k
def zb (c : Prop) [Decidable c] : Int32 := if c then 1 else 0
theorem zb_01 (c : Prop) [Decidable c] : zb c = 0 ∨ zb c = 1 := by unfold zb; split <;> simp
theorem zb_0 (c : Prop) [Decidable c] : (zb c = 0) = ¬ c := by unfold zb; split <;> simp_all
theorem zb_t {c : Prop} [Decidable c] (h : c) : zb c = 1 := if_pos h
theorem zb_f {c : Prop} [Decidable c] (h : ¬ c) : zb c = 0 := if_neg h
/-- the same start -/
theorem zWp_h {d : Nat} {q : zInfo} {scr : Option (Nat × (Nat → Int32))} {pc : Nat} {la st : List Value} {h h' : zMm} {Q : Option Value → zMm → Prop} (e : h = h') : zWp d q scr pc la st h Q = zWp d q scr pc la st h' Q := by rw [e]
def zabs (x : Int32) : Int32 := if 0 ≤ x then x else 0 - x
def zmax (x y : Int32) : Int32 := if x < y then y else x
def zmin (x y : Int32) : Int32 := if y < x then y else x
theorem zabs_e (x : Int32) : (if 0 ≤ x then x else 0 - x) = zabs x := rfl
theorem zmax_e (x y : Int32) : (if x < y then y else x) = zmax x y := rfl
theorem zmin_e (x y : Int32) : (if y < x then y else x) = zmin x y := rfl
theorem zw_sw1 {α : Type} {f : Nat → Nat → α} {a b0 : Nat} {g k g0 : Nat → α} (h0 : a ≠ b0) : zw (zw (zw f a g) b0 g0) a k = zw (zw f a k) b0 g0 := by
  funext x
  simp only [zw]
  by_cases e : x = a
  · subst e
    simp [h0]
  · simp [e]
theorem zw_sw2 {α : Type} {f : Nat → Nat → α} {a b0 b1 : Nat} {g k g0 g1 : Nat → α} (h0 : a ≠ b0) (h1 : a ≠ b1) : zw (zw (zw (zw f a g) b0 g0) b1 g1) a k = zw (zw (zw f a k) b0 g0) b1 g1 := by
  funext x
  simp only [zw]
  by_cases e : x = a
  · subst e
    simp [h0, h1]
  · simp [e]
theorem zw_sw3 {α : Type} {f : Nat → Nat → α} {a b0 b1 b2 : Nat} {g k g0 g1 g2 : Nat → α} (h0 : a ≠ b0) (h1 : a ≠ b1) (h2 : a ≠ b2) : zw (zw (zw (zw (zw f a g) b0 g0) b1 g1) b2 g2) a k = zw (zw (zw (zw f a k) b0 g0) b1 g1) b2 g2 := by
  funext x
  simp only [zw]
  by_cases e : x = a
  · subst e
    simp [h0, h1, h2]
  · simp [e]
theorem zw_sw4 {α : Type} {f : Nat → Nat → α} {a b0 b1 b2 b3 : Nat} {g k g0 g1 g2 g3 : Nat → α} (h0 : a ≠ b0) (h1 : a ≠ b1) (h2 : a ≠ b2) (h3 : a ≠ b3) : zw (zw (zw (zw (zw (zw f a g) b0 g0) b1 g1) b2 g2) b3 g3) a k = zw (zw (zw (zw (zw f a k) b0 g0) b1 g1) b2 g2) b3 g3 := by
  funext x
  simp only [zw]
  by_cases e : x = a
  · subst e
    simp [h0, h1, h2, h3]
  · simp [e]
theorem zw_sw5 {α : Type} {f : Nat → Nat → α} {a b0 b1 b2 b3 b4 : Nat} {g k g0 g1 g2 g3 g4 : Nat → α} (h0 : a ≠ b0) (h1 : a ≠ b1) (h2 : a ≠ b2) (h3 : a ≠ b3) (h4 : a ≠ b4) : zw (zw (zw (zw (zw (zw (zw f a g) b0 g0) b1 g1) b2 g2) b3 g3) b4 g4) a k = zw (zw (zw (zw (zw (zw f a k) b0 g0) b1 g1) b2 g2) b3 g3) b4 g4 := by
  funext x
  simp only [zw]
  by_cases e : x = a
  · subst e
    simp [h0, h1, h2, h3, h4]
  · simp [e]
theorem zw_sw6 {α : Type} {f : Nat → Nat → α} {a b0 b1 b2 b3 b4 b5 : Nat} {g k g0 g1 g2 g3 g4 g5 : Nat → α} (h0 : a ≠ b0) (h1 : a ≠ b1) (h2 : a ≠ b2) (h3 : a ≠ b3) (h4 : a ≠ b4) (h5 : a ≠ b5) : zw (zw (zw (zw (zw (zw (zw (zw f a g) b0 g0) b1 g1) b2 g2) b3 g3) b4 g4) b5 g5) a k = zw (zw (zw (zw (zw (zw (zw f a k) b0 g0) b1 g1) b2 g2) b3 g3) b4 g4) b5 g5 := by
  funext x
  simp only [zw]
  by_cases e : x = a
  · subst e
    simp [h0, h1, h2, h3, h4, h5]
  · simp [e]
theorem zw_sw7 {α : Type} {f : Nat → Nat → α} {a b0 b1 b2 b3 b4 b5 b6 : Nat} {g k g0 g1 g2 g3 g4 g5 g6 : Nat → α} (h0 : a ≠ b0) (h1 : a ≠ b1) (h2 : a ≠ b2) (h3 : a ≠ b3) (h4 : a ≠ b4) (h5 : a ≠ b5) (h6 : a ≠ b6) : zw (zw (zw (zw (zw (zw (zw (zw (zw f a g) b0 g0) b1 g1) b2 g2) b3 g3) b4 g4) b5 g5) b6 g6) a k = zw (zw (zw (zw (zw (zw (zw (zw f a k) b0 g0) b1 g1) b2 g2) b3 g3) b4 g4) b5 g5) b6 g6 := by
  funext x
  simp only [zw]
  by_cases e : x = a
  · subst e
    simp [h0, h1, h2, h3, h4, h5, h6]
  · simp [e]
theorem zi_nt {n : Nat} (h : n < 2147483648) : (nI n).toInt = (n : Int) := nI_toInt (by omega)
theorem zlg_v (x y : Int64) : (y.toInt < x.toInt ∧ lg_cmp x y = 1) ∨ (x.toInt = y.toInt ∧ lg_cmp x y = 0) ∨ (x.toInt < y.toInt ∧ lg_cmp x y = -1) := by
  unfold lg_cmp
  by_cases h1 : y.toInt < x.toInt
  · exact Or.inl ⟨h1, if_pos (Int64.lt_iff_toInt_lt.mpr h1)⟩
  · have h2 : ¬ x > y := fun z => h1 (Int64.lt_iff_toInt_lt.mp z)
    by_cases h3 : x.toInt = y.toInt
    · exact Or.inr (Or.inl ⟨h3, by rw [if_neg h2, if_pos (Int64.toInt_inj.mp h3)]⟩)
    · exact Or.inr (Or.inr ⟨by omega, by rw [if_neg h2, if_neg (fun z => h3 (Int64.toInt_inj.mpr z))]⟩)
theorem zlg_lt (x y : Int64) : (lg_cmp x y < 0) = (x.toInt < y.toInt) := by
  rcases zlg_v x y with ⟨h, e⟩ | ⟨h, e⟩ | ⟨h, e⟩ <;> rw [e] <;> apply propext <;> constructor <;> intro z <;> first | omega | exact absurd z (by decide) | decide
theorem zlg_gt (x y : Int64) : (0 < lg_cmp x y) = (y.toInt < x.toInt) := by
  rcases zlg_v x y with ⟨h, e⟩ | ⟨h, e⟩ | ⟨h, e⟩ <;> rw [e] <;> apply propext <;> constructor <;> intro z <;> first | omega | exact absurd z (by decide) | decide
theorem zlg_le (x y : Int64) : (lg_cmp x y ≤ 0) = (x.toInt ≤ y.toInt) := by
  rcases zlg_v x y with ⟨h, e⟩ | ⟨h, e⟩ | ⟨h, e⟩ <;> rw [e] <;> apply propext <;> constructor <;> intro z <;> first | omega | exact absurd z (by decide) | decide
theorem zlg_ge (x y : Int64) : (0 ≤ lg_cmp x y) = (y.toInt ≤ x.toInt) := by
  rcases zlg_v x y with ⟨h, e⟩ | ⟨h, e⟩ | ⟨h, e⟩ <;> rw [e] <;> apply propext <;> constructor <;> intro z <;> first | omega | exact absurd z (by decide) | decide
theorem zlg_eq (x y : Int64) : (lg_cmp x y = 0) = (x.toInt = y.toInt) := by
  rcases zlg_v x y with ⟨h, e⟩ | ⟨h, e⟩ | ⟨h, e⟩ <;> rw [e] <;> apply propext <;> constructor <;> intro z <;> first | omega | exact absurd z (by decide) | decide
theorem zO_nI (k : Nat) : (OfNat.ofNat k : Int32) = nI k := rfl
theorem zin_O {k n : Nat} (h : k < n) (hn : n < 2147483648) : vp_in (no_index (OfNat.ofNat k : Int32)) n = True := zi_in h hn
theorem zi_ltO {n k : Nat} (hn : n < 2147483648) (hk : k < 2147483648) : (nI n < (no_index (OfNat.ofNat k : Int32))) = (n < (OfNat.ofNat k : Nat)) := zi_lt hn hk
theorem zi_leO {n k : Nat} (hn : n < 2147483648) (hk : k < 2147483648) : (nI n ≤ (no_index (OfNat.ofNat k : Int32))) = (n ≤ (OfNat.ofNat k : Nat)) := zi_le hn hk
theorem zi_Olt {n k : Nat} (hn : n < 2147483648) (hk : k < 2147483648) : ((no_index (OfNat.ofNat k : Int32)) < nI n) = ((OfNat.ofNat k : Nat) < n) := zi_lt hk hn
theorem zi_Ole {n k : Nat} (hn : n < 2147483648) (hk : k < 2147483648) : ((no_index (OfNat.ofNat k : Int32)) ≤ nI n) = ((OfNat.ofNat k : Nat) ≤ n) := zi_le hk hn
theorem zi_eqO {n k : Nat} (hn : n < 2147483648) (hk : k < 2147483648) : (nI n = (no_index (OfNat.ofNat k : Int32))) = (n = (OfNat.ofNat k : Nat)) := zi_eq hn hk
theorem zcpy0 {α : Type} (x y : Nat → α) (n : Nat) : va_cpy x y 0 0 n = zfl n x y := by
  funext j
  simp only [va_cpy, zfl, Nat.zero_le, true_and, Nat.zero_add, Nat.sub_zero]
theorem zw_same {α : Type} {f : Nat → Nat → α} {a : Nat} {g : Nat → α} (h : f a = g) : zw f a g = f := by rw [← h]; exact zw_id f a
theorem zrn_n : (none : Option Value).toList = [] := rfl
theorem zrn_s (v : Value) : (some v).toList = [v] := rfl
theorem zt_add {a b : Int32} (h1 : -2147483648 ≤ a.toInt + b.toInt) (h2 : a.toInt + b.toInt ≤ 2147483647) : (a + b).toInt = a.toInt + b.toInt := by
  rw [Int32.toInt_add]; exact Int.bmod_eq_of_le (by omega) (by omega)
theorem zt_sub {a b : Int32} (h1 : -2147483648 ≤ a.toInt - b.toInt) (h2 : a.toInt - b.toInt ≤ 2147483647) : (a - b).toInt = a.toInt - b.toInt := by
  rw [Int32.toInt_sub]; exact Int.bmod_eq_of_le (by omega) (by omega)
theorem zt_mul {a b : Int32} (h1 : -2147483648 ≤ a.toInt * b.toInt) (h2 : a.toInt * b.toInt ≤ 2147483647) : (a * b).toInt = a.toInt * b.toInt := by
  rw [Int32.toInt_mul]; exact Int.bmod_eq_of_le (by omega) (by omega)
theorem zt_neg {a : Int32} (h : -2147483648 < a.toInt) : (-a).toInt = -a.toInt := by
  have h2 := Int32.toInt_lt a
  rw [Int32.toInt_neg]; exact Int.bmod_eq_of_le (by omega) (by omega)
theorem zO_eq {k m : Nat} (hk : k < 2147483648) (hm : m < 2147483648) : ((no_index (OfNat.ofNat k : Int32)) = (no_index (OfNat.ofNat m : Int32))) = ((OfNat.ofNat k : Nat) = (OfNat.ofNat m : Nat)) := zi_eq hk hm
theorem zng_t {m : Nat} (hm : m < 2147483648) : (-(nI m)).toInt = -(m : Int) := by
  rw [zt_neg (by rw [zi_nt hm]; omega), zi_nt hm]
theorem zi_ne1 {n m : Nat} (hn : n < 2147483648) (hm : m < 2147483648) (h : 0 < m) : (nI n = -(no_index (OfNat.ofNat m : Int32))) = False := eq_false (fun z => by
  have e := congrArg Int32.toInt z
  rw [zi_nt hn, show (OfNat.ofNat m : Int32) = nI m from rfl, zng_t hm] at e
  omega)
theorem zi_ne2 {n m : Nat} (hn : n < 2147483648) (hm : m < 2147483648) (h : 0 < m) : (-(no_index (OfNat.ofNat m : Int32)) = nI n) = False := eq_false (fun z => by
  have e := congrArg Int32.toInt z
  rw [zi_nt hn, show (OfNat.ofNat m : Int32) = nI m from rfl, zng_t hm] at e
  omega)
theorem zO_ne1 {n m : Nat} (hn : n < 2147483648) (hm : m < 2147483648) (h : 0 < m) : ((no_index (OfNat.ofNat n : Int32)) = -(no_index (OfNat.ofNat m : Int32))) = False := zi_ne1 hn hm h
theorem zO_ne2 {n m : Nat} (hn : n < 2147483648) (hm : m < 2147483648) (h : 0 < m) : (-(no_index (OfNat.ofNat m : Int32)) = (no_index (OfNat.ofNat n : Int32))) = False := zi_ne2 hn hm h
theorem zO_nn {n m : Nat} (hn : n < 2147483648) (hm : m < 2147483648) : (-(no_index (OfNat.ofNat n : Int32)) = -(no_index (OfNat.ofNat m : Int32))) = ((OfNat.ofNat n : Nat) = (OfNat.ofNat m : Nat)) := propext ⟨fun z => by
  have e := congrArg Int32.toInt z
  rw [show (OfNat.ofNat m : Int32) = nI m from rfl, show (OfNat.ofNat n : Int32) = nI n from rfl, zng_t hm, zng_t hn] at e
  have e2 : n = m := by omega
  exact e2, fun z => by
  have e2 : n = m := z
  rw [e2]⟩
theorem zi_lt1 {n m : Nat} (hn : n < 2147483648) (hm : m < 2147483648) : (nI n < -(no_index (OfNat.ofNat m : Int32))) = False := eq_false (fun z => by
  have e := Int32.lt_iff_toInt_lt.mp z
  rw [zi_nt hn, show (OfNat.ofNat m : Int32) = nI m from rfl, zng_t hm] at e
  omega)
theorem zi_le1 {n m : Nat} (hn : n < 2147483648) (hm : m < 2147483648) : (-(no_index (OfNat.ofNat m : Int32)) ≤ nI n) = True := eq_true (by
  have e := Int32.le_iff_toInt_le (x := -(nI m)) (y := nI n)
  rw [zi_nt hn, zng_t hm] at e
  exact e.mpr (by omega))
theorem zi_lt2 {n m : Nat} (hn : n < 2147483648) (hm : m < 2147483648) (h : 0 < m) : (-(no_index (OfNat.ofNat m : Int32)) < nI n) = True := eq_true (by
  have e := Int32.lt_iff_toInt_lt (x := -(nI m)) (y := nI n)
  rw [zi_nt hn, zng_t hm] at e
  exact e.mpr (by omega))
theorem zi_le2 {n m : Nat} (hn : n < 2147483648) (hm : m < 2147483648) (h : 0 < m) : (nI n ≤ -(no_index (OfNat.ofNat m : Int32))) = False := eq_false (fun z => by
  have e := Int32.le_iff_toInt_le.mp z
  rw [zi_nt hn, show (OfNat.ofNat m : Int32) = nI m from rfl, zng_t hm] at e
  omega)
theorem zb_T [Decidable True] : zb True = 1 := if_pos trivial
theorem zb_F [Decidable False] : zb False = 0 := if_neg not_false
