/-! A FIRE, in thought -/
def zf1 (p dm : Nat → Int32) (k : Nat) : Int32 := 12 * (p k - dm k) + 8 * dm k
def zlit (p dm : Nat → Int32) : Nat → Int32
  | 0 => 0
  | k + 1 => zlit p dm k + (if p (k + 1) - dm (k + 1) < dm (k + 1) then 4 else 2)
def zls (now a : Int32) : Int32 := zmax 0 (zmin now a)
abbrev zLawT : Type := Option (List (Int32 × Int32))
def znms (now p d k m w : Int32) : Nat → Int32 := fun j => if j = 0 then now else if j = 1 then p else if j = 2 then d else if j = 3 then k else if j = 4 then m else w
/-- what THE LAW gives -/
def zam (law : zLawT) (p dm : Nat → Int32) (w : Int32) (k m : Nat) (now : Int32) : Int32 := match law with
  | none => (p k + w) / 2 + 1
  | some c => zwo (znms now (p k) (dm k) (nI k) (nI m) w) c [] true
/-- FUEL left as a minute begins -/
def zfu (law : zLawT) (p dm : Nat → Int32) (w : Int32) : Nat → Nat → Int32
  | 0, k => zf1 p dm k
  | m + 1, k => if nI m < zlit p dm k then zfu law p dm w m k else zfu law p dm w m k - zls (zfu law p dm w m k) (zam law p dm w k m (zfu law p dm w m k))
def zct (p s f : Int32) : Int32 := if s = 0 then 0 else if f < 2 * s then p else zmax 1 (p / 2)
/-- PALLETS as they count behind a minute -/
def zcn (law : zLawT) (p dm : Nat → Int32) (w : Int32) (m k : Nat) : Int32 := zct (p k) (zfu law p dm w (m + 1) k) (zf1 p dm k)
abbrev zF4 : Type := Int32 × Int32 × Int32 × Int32
def zbs (m : Nat) (gone : Prop) [Decidable gone] (a wh : Int32) (q : zF4) : zF4 :=
  (if q.1 = -2 ∧ ¬ a = -2 then nI m else q.1, if q.1 = -2 ∧ ¬ a = -2 then a else q.2.1, if q.1 = -2 ∧ ¬ a = -2 then wh else q.2.2.1, if gone ∧ q.2.2.2 = -2 then nI m else q.2.2.2)
abbrev zgn (n : Nat) (s : Nat → Int32) : Prop := ∀ i, i < n → s i = 0
def zbn (law : zLawT) (n : Nat) (p dm sx sy : Nat → Int32) (wx wy w : Int32) : Nat → zF4
  | 0 => (-2, -2, -2, -2)
  | m + 1 => zbs m (zgn n (zfu law p dm w (m + 1))) (zFa n (zcn law p dm w m) sx sy wx wy) (zWh n (zcn law p dm w m) sx sy wx wy (zFa n (zcn law p dm w m) sx sy wx wy).toNatClampNeg) (zbn law n p dm sx sy wx wy w m)
/-! the same on the same ROUNDS -/
section FCONG
variable {law : zLawT} {n : Nat} {p p' dm dm' sx sx' sy sy' : Nat → Int32} {wx wy w : Int32}
theorem zf1_congr {k : Nat} (hp : p k = p' k) (hd : dm k = dm' k) : zf1 p dm k = zf1 p' dm' k := by unfold zf1; rw [hp, hd]
theorem zlit_congr (hp : ∀ j, j < n → p j = p' j) (hd : ∀ j, j < n → dm j = dm' j) : ∀ k, k < n → zlit p dm k = zlit p' dm' k
  | 0, _ => rfl
  | k + 1, h => by rw [zlit, zlit, zlit_congr hp hd k (by omega), hp _ h, hd _ h]
theorem zam_congr {k m : Nat} {now : Int32} (hp : p k = p' k) (hd : dm k = dm' k) : zam law p dm w k m now = zam law p' dm' w k m now := by unfold zam; rw [hp, hd]
theorem zfu_congr (hp : ∀ j, j < n → p j = p' j) (hd : ∀ j, j < n → dm j = dm' j) : ∀ m k, k < n → zfu law p dm w m k = zfu law p' dm' w m k
  | 0, k, h => zf1_congr (hp k h) (hd k h)
  | m + 1, k, h => by rw [zfu, zfu, zfu_congr hp hd m k h, zlit_congr hp hd k h, zam_congr (hp k h) (hd k h)]
theorem zcn_congr (hp : ∀ j, j < n → p j = p' j) (hd : ∀ j, j < n → dm j = dm' j) (m k : Nat) (h : k < n) : zcn law p dm w m k = zcn law p' dm' w m k := by
  unfold zcn
  rw [hp k h, zfu_congr hp hd (m + 1) k h, zf1_congr (hp k h) (hd k h)]
theorem zgn_congr {s s' : Nat → Int32} (h : ∀ j, j < n → s j = s' j) : zgn n s ↔ zgn n s' := ⟨fun z i hi => by rw [← h i hi]; exact z i hi, fun z i hi => by rw [h i hi]; exact z i hi⟩
theorem zbs_congr {m : Nat} {g g' : Prop} [Decidable g] [Decidable g'] {a wh : Int32} {q : zF4} (h : g ↔ g') : zbs m g a wh q = zbs m g' a wh q := by
  unfold zbs
  by_cases h1 : g
  · have h2 := h.mp h1; simp only [h1, h2]
  · have h2 : ¬ g' := fun z => h1 (h.mpr z); simp only [h1, h2]
theorem zWh_congr2 (h24 : n ≤ 24) {q q' : Nat → Int32} (hp : ∀ j, j < n → q j = q' j) (hx : ∀ j, j < n → sx j = sx' j) (hy : ∀ j, j < n → sy j = sy' j) {m : Nat} {g : Prop} [Decidable g] {x : zF4} : zbs m g (zFa n q sx sy wx wy) (zWh n q sx sy wx wy (zFa n q sx sy wx wy).toNatClampNeg) x = zbs m g (zFa n q' sx' sy' wx wy) (zWh n q' sx' sy' wx wy (zFa n q' sx' sy' wx wy).toNatClampNeg) x := by
  have e := zFa_congr (wx := wx) (wy := wy) hp hx hy
  rw [← e]
  rcases zFa_spec (n := n) (p := q) (sx := sx) (sy := sy) (wx := wx) (wy := wy) with h | ⟨k, hk, h, _⟩
  · unfold zbs
    simp only [h, not_true_eq_false, and_false, ↓reduceIte]
  · rw [h, zi_cl (by omega), zWh_congr hp hx hy hk]
theorem zbn_congr (h24 : n ≤ 24) (hp : ∀ j, j < n → p j = p' j) (hd : ∀ j, j < n → dm j = dm' j) (hx : ∀ j, j < n → sx j = sx' j) (hy : ∀ j, j < n → sy j = sy' j) : ∀ m, zbn law n p dm sx sy wx wy w m = zbn law n p' dm' sx' sy' wx wy w m
  | 0 => rfl
  | m + 1 => by
    rw [zbn, zbn, zbn_congr h24 hp hd hx hy m, zWh_congr2 h24 (zcn_congr hp hd m) hx hy]
    exact zbs_congr (zgn_congr (zfu_congr hp hd (m + 1)))
end FCONG
/-! bounds -/
theorem zmax_v (x y : Int32) : (x.toInt < y.toInt ∧ zmax x y = y) ∨ (y.toInt ≤ x.toInt ∧ zmax x y = x) := by
  unfold zmax
  by_cases h : x < y
  · rw [if_pos h]; exact Or.inl ⟨Int32.lt_iff_toInt_lt.mp h, rfl⟩
  · rw [if_neg h]; exact Or.inr ⟨Int32.le_iff_toInt_le.mp (Int32.not_lt.mp h), rfl⟩
theorem zmin_v (x y : Int32) : (y.toInt < x.toInt ∧ zmin x y = y) ∨ (x.toInt ≤ y.toInt ∧ zmin x y = x) := by
  unfold zmin
  by_cases h : y < x
  · rw [if_pos h]; exact Or.inl ⟨Int32.lt_iff_toInt_lt.mp h, rfl⟩
  · rw [if_neg h]; exact Or.inr ⟨Int32.le_iff_toInt_le.mp (Int32.not_lt.mp h), rfl⟩
theorem zabs_v {x : Int32} (h : -2147483648 < x.toInt) : (0 ≤ x.toInt ∧ (zabs x).toInt = x.toInt) ∨ (x.toInt < 0 ∧ (zabs x).toInt = - x.toInt) := by
  have t0 : (0 : Int32).toInt = 0 := by decide
  have h3 := Int32.toInt_lt x
  unfold zabs
  by_cases h2 : 0 ≤ x
  · rw [if_pos h2]; exact Or.inl ⟨by have := Int32.le_iff_toInt_le.mp h2; omega, rfl⟩
  · rw [if_neg h2]
    have h4 := Int32.lt_iff_toInt_lt.mp (Int32.not_le.mp h2)
    exact Or.inr ⟨by omega, by rw [zt_sub (by omega) (by omega)]; omega⟩
theorem zt_k {k x : Int32} (K : Int) (hK : k.toInt = K) (h1 : -2147483648 ≤ K * x.toInt) (h2 : K * x.toInt ≤ 2147483647) : (k * x).toInt = K * x.toInt := by subst hK; exact zt_mul h1 h2
theorem zt_kr {k x : Int32} (K : Int) (hK : k.toInt = K) (h1 : -2147483648 ≤ K * x.toInt) (h2 : K * x.toInt ≤ 2147483647) : (x * k).toInt = K * x.toInt := by rw [Int32.mul_comm]; exact zt_k K hK h1 h2
theorem zls_bd {now a : Int32} (h : 0 ≤ now.toInt) : 0 ≤ (zls now a).toInt ∧ (zls now a).toInt ≤ now.toInt := by
  have t0 : (0 : Int32).toInt = 0 := by decide
  unfold zls
  rcases zmin_v now a with ⟨h1, h2⟩ | ⟨h1, h2⟩
  · rw [h2]
    rcases zmax_v 0 a with ⟨h3, h4⟩ | ⟨h3, h4⟩ <;> rw [h4] <;> omega
  · rw [h2]
    rcases zmax_v 0 now with ⟨h3, h4⟩ | ⟨h3, h4⟩ <;> rw [h4] <;> omega
section FBD
variable {law : zLawT} {n : Nat} {p dm : Nat → Int32} {w : Int32}
/-- PALLETS and DAMP as they may be -/
def zPD (n : Nat) (p dm : Nat → Int32) : Prop := ∀ j, j < n → 0 ≤ (dm j).toInt ∧ (dm j).toInt ≤ (p j).toInt ∧ (p j).toInt ≤ 9
theorem zf1_bd (h : zPD n p dm) {k : Nat} (hk : k < n) : 0 ≤ (zf1 p dm k).toInt ∧ (zf1 p dm k).toInt ≤ 108 := by
  obtain ⟨h1, h2, h3⟩ := h k hk
  have t12 : (12 : Int32).toInt = 12 := by decide
  have t8 : (8 : Int32).toInt = 8 := by decide
  have e1 : (p k - dm k).toInt = (p k).toInt - (dm k).toInt := zt_sub (by omega) (by omega)
  have e2 : (12 * (p k - dm k)).toInt = 12 * ((p k).toInt - (dm k).toInt) := by rw [zt_k 12 t12 (by omega) (by omega), e1]
  have e3 : (8 * dm k).toInt = 8 * (dm k).toInt := zt_k 8 t8 (by omega) (by omega)
  have e4 : (zf1 p dm k).toInt = 12 * ((p k).toInt - (dm k).toInt) + 8 * (dm k).toInt := by
    unfold zf1
    rw [zt_add (by omega) (by omega), e2, e3]
  omega
theorem zfu_bd (h : zPD n p dm) {k : Nat} (hk : k < n) : ∀ m, 0 ≤ (zfu law p dm w m k).toInt ∧ (zfu law p dm w m k).toInt ≤ 108
  | 0 => zf1_bd h hk
  | m + 1 => by
    have ih := zfu_bd h hk m
    have e := zls_bd (a := zam law p dm w k m (zfu law p dm w m k)) ih.1
    rw [zfu]
    split
    · exact ih
    · rw [zt_sub (by omega) (by omega)]
      omega
theorem zfu_dn (h : zPD n p dm) {k : Nat} (hk : k < n) (m : Nat) : (zfu law p dm w (m + 1) k).toInt ≤ (zfu law p dm w m k).toInt := by
  have ih := zfu_bd (law := law) (w := w) h hk m
  have e := zls_bd (a := zam law p dm w k m (zfu law p dm w m k)) ih.1
  rw [zfu]
  split
  · exact Int.le_refl _
  · rw [zt_sub (by omega) (by omega)]
    omega
theorem zct_bd {p s f : Int32} (h : 0 ≤ p.toInt ∧ p.toInt ≤ 9) : 0 ≤ (zct p s f).toInt ∧ (zct p s f).toInt ≤ 9 := by
  have t9 : (9 : Int32).toInt = 9 := by decide
  have t0 : (0 : Int32).toInt = 0 := by decide
  obtain ⟨j, hj, rfl⟩ := nI_of2 (x := p) (M := 9) (n := 9) (by decide) (fun z => by have := Int32.lt_iff_toInt_lt.mp z; omega) (Int32.le_iff_toInt_le.mpr (by omega))
  have e : ∀ j, j < 10 → 0 ≤ (zmax 1 (nI j / 2)).toInt ∧ (zmax 1 (nI j / 2)).toInt ≤ 9 := by decide +kernel
  unfold zct
  split
  · decide
  · split
    · exact h
    · exact e j (by omega)
theorem zcn_bd (h : zPD n p dm) (m : Nat) : ∀ j, j < n → 0 ≤ (zcn law p dm w m j).toInt ∧ (zcn law p dm w m j).toInt ≤ 9 := fun j hj => zct_bd ⟨by have := h j hj; omega, (h j hj).2.2⟩
theorem zbn_1 {sx sy : Nat → Int32} {wx wy : Int32} : ∀ m, (zbn law n p dm sx sy wx wy w m).1 = -2 ∨ ∃ j, j < m ∧ (zbn law n p dm sx sy wx wy w m).1 = nI j
  | 0 => Or.inl rfl
  | m + 1 => by
    rw [zbn]
    unfold zbs
    dsimp only
    split
    · exact Or.inr ⟨m, by omega, rfl⟩
    · rcases zbn_1 m with h | ⟨j, hj, h⟩
      · exact Or.inl h
      · exact Or.inr ⟨j, by omega, h⟩
theorem zbn_4 {sx sy : Nat → Int32} {wx wy : Int32} : ∀ m, (zbn law n p dm sx sy wx wy w m).2.2.2 = -2 ∨ ∃ j, j < m ∧ (zbn law n p dm sx sy wx wy w m).2.2.2 = nI j
  | 0 => Or.inl rfl
  | m + 1 => by
    rw [zbn]
    unfold zbs
    dsimp only
    split
    · exact Or.inr ⟨m, by omega, rfl⟩
    · rcases zbn_4 m with h | ⟨j, hj, h⟩
      · exact Or.inl h
      · exact Or.inr ⟨j, by omega, h⟩
end FBD
