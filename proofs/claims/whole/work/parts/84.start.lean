/-! THE START: the two constructors. What they write, in its order; the memory behind n cells, i ints and m references -/
def zWI : List (Nat × Nat × Int32) := [(27, 4, 200), (51, 0, 20), (51, 1, 10), (51, 5, (-2)), (52, 0, 20), (52, 1, 10), (52, 5, (-2)), (53, 0, 20), (53, 1, 10), (53, 5, (-2)), (0, 16, 3), (68, 1, (-2)), (68, 2, (-1)), (70, 1, (-2)), (70, 2, (-1)), (72, 1, (-2)), (72, 2, (-1)), (74, 1, (-2)), (74, 2, (-1)), (76, 1, (-2)), (76, 2, (-1)), (78, 1, (-2)), (78, 2, (-1)), (100, 0, (-1)), (100, 1, (-1)), (100, 2, (-1)), (100, 3, (-1)), (100, 4, (-1)), (100, 5, (-1)), (80, 16, (-1)), (81, 82, 200), (81, 83, 3), (80, 8, 20), (80, 9, 10), (80, 36, (-2))]
def zWP : List (Nat × Nat × Nat) := [(1, 0, 2), (1, 1, 3), (4, 0, 5), (4, 1, 6), (1, 2, 4), (7, 0, 8), (7, 1, 9), (1, 3, 7), (1, 4, 10), (11, 0, 12), (11, 1, 13), (1, 5, 11), (0, 0, 1), (14, 0, 15), (14, 1, 16), (17, 0, 18), (17, 1, 19), (14, 2, 17), (20, 0, 21), (20, 1, 22), (14, 3, 20), (14, 4, 23), (24, 0, 25), (24, 1, 26), (14, 5, 24), (0, 1, 14), (27, 0, 28), (27, 1, 29), (27, 2, 30), (0, 2, 27), (31, 0, 32), (0, 3, 31), (33, 0, 34), (33, 1, 35), (33, 2, 36), (33, 3, 37), (38, 0, 39), (38, 1, 40), (41, 0, 42), (41, 1, 43), (38, 2, 41), (44, 0, 45), (44, 1, 46), (38, 3, 44), (38, 4, 47), (48, 0, 49), (48, 1, 50), (38, 5, 48), (33, 4, 38), (0, 4, 33), (0, 5, 51), (0, 6, 52), (0, 7, 53), (54, 0, 55), (0, 8, 54), (56, 0, 57), (56, 1, 58), (0, 9, 56), (0, 10, 59), (60, 0, 61), (60, 1, 62), (60, 2, 63), (0, 11, 60), (64, 0, 65), (64, 1, 66), (64, 2, 67), (0, 12, 64), (68, 0, 69), (59, 0, 68), (70, 0, 71), (59, 1, 70), (72, 0, 73), (59, 2, 72), (74, 0, 75), (59, 3, 74), (76, 0, 77), (59, 4, 76), (78, 0, 79), (59, 5, 78), (80, 0, 81), (80, 1, 82), (80, 2, 83), (80, 3, 84), (80, 7, 85), (80, 11, 86), (80, 12, 87), (80, 13, 88), (80, 15, 89), (80, 22, 90), (80, 23, 91), (80, 24, 92), (80, 25, 93), (80, 26, 94), (80, 27, 95), (80, 28, 96), (80, 39, 97), (80, 41, 98), (80, 42, 99), (80, 46, 100), (80, 47, 101), (80, 48, 102), (80, 49, 103)]
def zQI (i : Nat) : Nat → Nat → Int32 := fun a k => (zlk (zWI.take i) a k).getD 0
def zQP (m : Nat) : Nat → Nat → Option Nat := zlk (zWP.take m)
def zqs (n i m : Nat) : zMm := (zSH.take n, zQI i, fun _ _ => 0, zQP m)
theorem zlk_app {α : Type} (a k : Nat) (v : α) : ∀ (ws : List (Nat × Nat × α)), zlk ws a k = none → zlk (ws ++ [(a, k, v)]) = fun x y => if x = a ∧ y = k then some v else zlk ws x y
  | [], _ => by
    funext x y
    show (if a = x ∧ k = y then some v else none) = _
    by_cases h : x = a ∧ y = k
    · rw [if_pos h, if_pos ⟨h.1.symm, h.2.symm⟩]
    · rw [if_neg h, if_neg (fun z => h ⟨z.1.symm, z.2.symm⟩)]; rfl
  | (b, c, w) :: r, h => by
    funext x y
    have hn : ¬ (b = a ∧ c = k) := fun z => by
      have h2 : (if b = a ∧ c = k then some w else zlk r a k) = none := h
      rw [if_pos z] at h2
      cases h2
    have hr : zlk r a k = none := by
      have h2 : (if b = a ∧ c = k then some w else zlk r a k) = none := h
      rw [if_neg hn] at h2
      exact h2
    have ih := congrFun (congrFun (zlk_app a k v r hr) x) y
    show (if b = x ∧ c = y then some w else zlk (r ++ [(a, k, v)]) x y) = (if x = a ∧ y = k then some v else (if b = x ∧ c = y then some w else zlk r x y))
    rw [ih]
    by_cases h1 : b = x ∧ c = y
    · obtain ⟨rfl, rfl⟩ := h1
      rw [if_pos ⟨rfl, rfl⟩, if_neg hn, if_pos ⟨rfl, rfl⟩]
    · rw [if_neg h1, if_neg h1]
theorem zlk_hi {α : Type} {n : Nat} : ∀ {ws : List (Nat × Nat × α)}, ws.all (fun e => decide (e.1 < n)) = true → ∀ a k, n ≤ a → zlk ws a k = none
  | [], _, _, _, _ => rfl
  | (b, c, w) :: r, h, a, k, ha => by
    rw [List.all_cons, Bool.and_eq_true] at h
    have hb : b < n := of_decide_eq_true h.1
    show (if b = a ∧ c = k then some w else zlk r a k) = none
    rw [if_neg (fun z => by omega)]
    exact zlk_hi h.2 a k ha
theorem zlk_eqv {α : Type} {w1 w2 : List (Nat × Nat × α)} (h1 : ∀ e, e ∈ w1 → zlk w2 e.1 e.2.1 = some e.2.2) (h2 : ∀ e, e ∈ w2 → zlk w1 e.1 e.2.1 = some e.2.2) : zlk w1 = zlk w2 := by
  funext a k
  cases e1 : zlk w1 a k with
  | some v => exact (h1 _ (zlk_mem e1)).symm
  | none => cases e2 : zlk w2 a k with
    | none => rfl
    | some v =>
      have := h2 _ (zlk_mem e2)
      dsimp only at this
      rw [e1] at this
      cases this
theorem zq_take {α : Type} {l : List α} {n : Nat} {x : α} (h : l[n]? = some x) : l.take n ++ [x] = l.take (n + 1) := by
  rw [List.take_add_one, h]; rfl
theorem zq_len {n : Nat} {s : zSh} (h : zSH[n]? = some s) : (zSH.take n).length = n ∧ n < 104 := by
  have := (List.getElem?_eq_some_iff.mp h).1
  have e : zSH.length = 104 := rfl
  rw [List.length_take]
  omega
theorem zq_I {i n : Nat} (h : (zWI.take i).all (fun e => decide (e.1 < n)) = true) {x : Nat} (hx : n ≤ x) : zQI i x = fun _ => 0 := by
  funext k
  show (zlk (zWI.take i) x k).getD 0 = 0
  rw [zlk_hi h x k hx]; rfl
theorem zq_P {m n : Nat} (h : (zWP.take m).all (fun e => decide (e.1 < n)) = true) {x : Nat} (hx : n ≤ x) : zQP m x = fun _ => none := by
  funext k
  exact zlk_hi h x k hx
theorem zw_sam {α : Type} {f : Nat → Nat → α} {a : Nat} {g : Nat → α} (h : f a = g) : zw f a g = f := by
  funext x
  by_cases e : x = a
  · subst e; rw [zw_s, h]
  · rw [zw_n e]
theorem zq_al {n i m : Nat} {s : zSh} (hn : zSH[n]? = some s) (hI : (zWI.take i).all (fun e => decide (e.1 < n)) = true) (hP : (zWP.take m).all (fun e => decide (e.1 < n)) = true) : zal (zqs n i m) s = zqs (n + 1) i m := by
  have hl := (zq_len hn).1
  show (zSH.take n ++ [s], zw (zQI i) (zSH.take n).length (fun _ => 0), zw (fun _ _ => 0) (zSH.take n).length (fun _ => 0), zw (zQP m) (zSH.take n).length (fun _ => none)) = _
  rw [hl, zq_take hn, zw_sam (zq_I hI (Nat.le_refl n)), zw_sam (zq_P hP (Nat.le_refl n)), zw_sam rfl]
  rfl
theorem zq_wI {i a k : Nat} {v : Int32} (h : zWI[i]? = some (a, k, v)) (h0 : zlk (zWI.take i) a k = none) : zw (zQI i) a (upd (zQI i a) k v) = zQI (i + 1) := by
  funext x y
  show _ = (zlk (zWI.take (i + 1)) x y).getD 0
  rw [← zq_take h, zlk_app a k v _ h0]
  by_cases e : x = a
  · subst e
    rw [zw_s]
    show (if y = k then v else zQI i x y) = (if x = x ∧ y = k then some v else zlk (zWI.take i) x y).getD 0
    by_cases c : y = k
    · rw [if_pos c, if_pos ⟨rfl, c⟩]; rfl
    · rw [if_neg c, if_neg (fun z => c z.2)]; rfl
  · rw [zw_n e]
    show _ = (if x = a ∧ y = k then some v else zlk (zWI.take i) x y).getD 0
    rw [if_neg (fun z => e z.1)]; rfl
theorem zq_wP {m a k v : Nat} (h : zWP[m]? = some (a, k, v)) (h0 : zlk (zWP.take m) a k = none) : zw (zQP m) a (va_up (zQP m a) k (some v)) = zQP (m + 1) := by
  funext x y
  show _ = zlk (zWP.take (m + 1)) x y
  rw [← zq_take h, zlk_app a k v _ h0]
  by_cases e : x = a
  · subst e
    rw [zw_s]
    show (if y = k then some v else zQP m x y) = (if x = x ∧ y = k then some v else zlk (zWP.take m) x y)
    by_cases c : y = k
    · rw [if_pos c, if_pos ⟨rfl, c⟩]
    · rw [if_neg c, if_neg (fun z => c z.2)]; rfl
  · rw [zw_n e]
    show _ = (if x = a ∧ y = k then some v else zlk (zWP.take m) x y)
    rw [if_neg (fun z => e z.1)]; rfl
section ZC
variable {d : Nat} {q : zInfo} {scr : Option (Nat × (Nat → Int32))} {pc n i m k M ci cj idx a b v : Nat} {la st rest : List Value} {Q : Option Value → zMm → Prop} {x y w : Int32} {y0 : zInfo} {t : FieldType}
theorem zc_new (hl : q.2.2.2.2.2.2.lookup pc = some (.new idx)) (hk : zlk zLNs q.2.2.2.2.1 idx = some ci) (hn : zSH[n]? = some (.inl ci)) (hI : (zWI.take i).all (fun e => decide (e.1 < n)) = true) (hP : (zWP.take m).all (fun e => decide (e.1 < n)) = true) : zWp d q scr pc la st (zqs n i m) Q = zWp d q scr (pc + 3) la (.ref n :: st) (zqs (n + 1) i m) Q := zW_s fun cal ih => by
  have hl2 := zq_len hn
  unfold zstep; rw [hl]; show zdoNew _ _ _ _ _ _ _ = _; unfold zdoNew; rw [hk]
  show (if 500 < (zSH.take n).length then none else ih (pc + 3) la (.ref (zSH.take n).length :: st) (zal (zqs n i m) (.inl ci))) = _
  rw [hl2.1, if_neg (by omega), zq_al hn hI hP]
theorem zc_newI (hl : q.2.2.2.2.2.2.lookup pc = some (.newarray .int)) (hx : ¬ (x < 0 ∨ 10000 < x.toNatClampNeg)) (hn : zSH[n]? = some (.inr (.int, x.toNatClampNeg))) (hI : (zWI.take i).all (fun e => decide (e.1 < n)) = true) (hP : (zWP.take m).all (fun e => decide (e.1 < n)) = true) : zWp d q scr pc la (.int x :: st) (zqs n i m) Q = zWp d q scr (pc + 2) la (.ref n :: st) (zqs (n + 1) i m) Q := zW_s fun cal ih => by
  have hl2 := zq_len hn
  unfold zstep; rw [hl]; show zdoNewa _ _ _ _ _ _ = _; unfold zdoNewa
  show (if x < 0 ∨ 10000 < x.toNatClampNeg ∨ 500 < (zSH.take n).length then none else ih (pc + 2) la (.ref (zSH.take n).length :: st) (zal (zqs n i m) (.inr (.int, x.toNatClampNeg)))) = _
  rw [hl2.1, if_neg (by rintro (z | z | z); exact hx (Or.inl z); exact hx (Or.inr z); omega), zq_al hn hI hP]
theorem zc_newJ (hl : q.2.2.2.2.2.2.lookup pc = some (.newarray .long)) (hx : ¬ (x < 0 ∨ 10000 < x.toNatClampNeg)) (hn : zSH[n]? = some (.inr (.long, x.toNatClampNeg))) (hI : (zWI.take i).all (fun e => decide (e.1 < n)) = true) (hP : (zWP.take m).all (fun e => decide (e.1 < n)) = true) : zWp d q scr pc la (.int x :: st) (zqs n i m) Q = zWp d q scr (pc + 2) la (.ref n :: st) (zqs (n + 1) i m) Q := zW_s fun cal ih => by
  have hl2 := zq_len hn
  unfold zstep; rw [hl]; show zdoNewa _ _ _ _ _ _ = _; unfold zdoNewa
  show (if x < 0 ∨ 10000 < x.toNatClampNeg ∨ 500 < (zSH.take n).length then none else ih (pc + 2) la (.ref (zSH.take n).length :: st) (zal (zqs n i m) (.inr (.long, x.toNatClampNeg)))) = _
  rw [hl2.1, if_neg (by rintro (z | z | z); exact hx (Or.inl z); exact hx (Or.inr z); omega), zq_al hn hI hP]
theorem zc_newq (hl : q.2.2.2.2.2.2.lookup pc = some (.anewarray idx)) (hk : zlk zLNs q.2.2.2.2.1 idx = some 6) (hx : ¬ (x < 0 ∨ 10000 < x.toNatClampNeg)) (hn : zSH[n]? = some (.inr (.object (zNm 6), x.toNatClampNeg))) (hI : (zWI.take i).all (fun e => decide (e.1 < n)) = true) (hP : (zWP.take m).all (fun e => decide (e.1 < n)) = true) : zWp d q scr pc la (.int x :: st) (zqs n i m) Q = zWp d q scr (pc + 3) la (.ref n :: st) (zqs (n + 1) i m) Q := zW_s fun cal ih => by
  have hl2 := zq_len hn
  unfold zstep; rw [hl]; show zdoNewq _ _ _ _ _ _ _ = _; unfold zdoNewq; rw [hk]
  refine (if_neg (fun z => ?_)).trans ?_
  · rcases z with z | z | z | z
    · exact hx (Or.inl z)
    · exact hx (Or.inr z)
    · have z : 500 < (zSH.take n).length := z
      omega
    · exact z rfl
  · show ih (pc + 3) la (.ref (zSH.take n).length :: st) (zal (zqs n i m) (.inr (.object (zNm 6), x.toNatClampNeg))) = _
    rw [hl2.1, zq_al hn hI hP]
theorem zc_new2 {u : Nat} (hl : q.2.2.2.2.2.2.lookup pc = some (.multianewarray idx 2)) (hk : zlk zL2s q.2.2.2.2.1 idx = some u) (hx : ¬ (x < 0 ∨ 10000 < x.toNatClampNeg)) (hn : zSH[n]? = some (.inr (.array .int, 2))) (hn1 : zSH[n + 1]? = some (.inr (.int, x.toNatClampNeg))) (hn2 : zSH[n + 2]? = some (.inr (.int, x.toNatClampNeg))) (hI : (zWI.take i).all (fun e => decide (e.1 < n)) = true) (hP : (zWP.take m).all (fun e => decide (e.1 < n)) = true) (h0 : zWP[m]? = some (n, 0, n + 1)) (h1 : zWP[m + 1]? = some (n, 1, n + 2)) (h2 : zlk (zWP.take (m + 1)) n 1 = none) : zWp d q scr pc la (.int x :: .int 2 :: st) (zqs n i m) Q = zWp d q scr (pc + 4) la (.ref n :: st) (zqs (n + 3) i (m + 2)) Q := zW_s fun cal ih => by
  have hl2 := zq_len hn
  have e2 : (2 : Int32).toNatClampNeg = 2 := rfl
  unfold zstep; rw [hl]
  show zdoNew2 _ _ _ _ _ _ _ = _; unfold zdoNew2; rw [hk]
  show (if (2 : Int32) < 0 ∨ x < 0 ∨ 50 < (2 : Int32).toNatClampNeg ∨ 10000 < x.toNatClampNeg ∨ 500 < (zSH.take n).length then none else ih (pc + 4) la (.ref (zSH.take n).length :: st) (zal2 (zqs n i m) (2 : Int32).toNatClampNeg x.toNatClampNeg)) = _
  rw [hl2.1, e2, if_neg (by rintro (z | z | z | z | z); exact absurd z (by decide); exact hx (Or.inl z); omega; exact hx (Or.inr z); omega)]
  have e : zal2 (zqs n i m) 2 x.toNatClampNeg = zqs (n + 3) i (m + 2) := by
    show ((zSH.take n ++ [.inr (.array .int, 2)]) ++ [.inr (.int, x.toNatClampNeg), .inr (.int, x.toNatClampNeg)], (fun y => if (zSH.take n).length ≤ y then (fun _ => 0) else zQI i y), (fun _ _ => 0), (fun y => if y = (zSH.take n).length then (fun j => if j < 2 then some ((zSH.take n).length + 1 + j) else none) else if (zSH.take n).length ≤ y then (fun _ => none) else zQP m y)) = ((zSH.take (n + 3), zQI i, (fun _ _ => 0), zQP (m + 2)) : zMm)
    rw [hl2.1]
    have a1 : (zSH.take n ++ [.inr (.array .int, 2)]) ++ [.inr (.int, x.toNatClampNeg), .inr (.int, x.toNatClampNeg)] = zSH.take (n + 3) := by
      rw [zq_take hn, ← zq_take (n := n + 2) hn2, ← zq_take (n := n + 1) hn1, List.append_assoc]; rfl
    have a2 : (fun y => if n ≤ y then (fun _ => (0 : Int32)) else zQI i y) = zQI i := by
      funext y
      by_cases c : n ≤ y
      · rw [if_pos c, zq_I hI c]
      · rw [if_neg c]
    have a3 : (fun y => if y = n then (fun j => if j < 2 then some (n + 1 + j) else none) else if n ≤ y then (fun _ => none) else zQP m y) = zQP (m + 2) := by
      rw [← zq_wP h1 h2, ← zq_wP h0 (congrFun (zq_P hP (Nat.le_refl n)) 0)]
      funext y j
      by_cases c : y = n
      · subst c
        rw [if_pos rfl, zw_s, zw_s, zq_P hP (Nat.le_refl y)]
        show (if j < 2 then some (y + 1 + j) else none) = if j = 1 then some (y + 2) else if j = 0 then some (y + 1) else none
        by_cases c1 : j = 1
        · subst c1; rfl
        · by_cases c0 : j = 0
          · subst c0; rfl
          · rw [if_neg c1, if_neg c0, if_neg (by omega)]
      · rw [if_neg c, zw_n c, zw_n c]
        by_cases c2 : n ≤ y
        · rw [if_pos c2, zq_P hP c2]
        · rw [if_neg c2]
    rw [a1, a2, a3]
  rw [e]
theorem zc_spe0 (hl : q.2.2.2.2.2.2.lookup pc = some (.invokespecial idx)) (hk : zlk zLMs q.2.2.2.2.1 idx = some 999) (hc : Nat.ble (zcat st) 8 = true) {h : zMm} : zWp d q scr pc la (.ref a :: st) h Q = zWp d q scr (pc + 3) la st h Q := zW_s fun cal ih => by
  unfold zstep; rw [hl]; show zdoSpe _ _ _ _ _ _ _ _ = _; unfold zdoSpe; rw [hk]
  exact if_neg (Nat.not_lt.mpr (Nat.le_of_ble_eq_true hc))
theorem zc_spe (hl : q.2.2.2.2.2.2.lookup pc = some (.invokespecial idx)) (hk : zlk zLMs q.2.2.2.2.1 idx = some M) (hM : zM M = some y0) (hkd : zkds[M]? = some 2) (hn : y0.2.2.2.2.2.1 = 0) (hc : Nat.ble (zcat rest) 8 = true) {h : zMm} : zWp d q scr pc la (.ref b :: rest) h Q = zWM d M [.ref b] h (fun r h1 => zWp d q scr (pc + 3) la (r.toList ++ rest) h1 Q) := zW_c fun cal ih => by
  have hM9 : ¬ M = 999 := fun z => by subst z; rw [show zkds[999]? = none from rfl] at hkd; cases hkd
  unfold zstep; rw [hl]; show zdoSpe _ _ _ _ _ _ _ _ = _; unfold zdoSpe; rw [hk]
  show (if M = 999 then _ else zdoCall cal ih 2 M pc la (.ref b :: rest) h) = _
  rw [if_neg hM9]
  exact zdc_v (as := []) hM (by decide) hkd hn.symm (Nat.le_of_ble_eq_true hc) (fun z => absurd z (by decide))
theorem zc_putI (hl : q.2.2.2.2.2.2.lookup pc = some (.putfield idx)) (hk : zlk zLFs q.2.2.2.2.1 idx = some (ci, k)) (hf : ((zTf ci k).2.2.2 && !(zini q && ci == q.2.2.2.2.1)) = false) (ht : zFt ci k = .int) (hs : (zSH.take n)[a]? = some (.inl ci)) (hw : zWI[i]? = some (a, k, x)) (h0 : zlk (zWI.take i) a k = none) : zWp d q scr pc la (.int x :: .ref a :: st) (zqs n i m) Q = zWp d q scr (pc + 3) la st (zqs n (i + 1) m) Q := by
  show zWp d q scr pc la (.int x :: .ref a :: st) (zSH.take n, zQI i, (fun _ _ => 0), zQP m) Q = zWp d q scr (pc + 3) la st (zSH.take n, zQI (i + 1), (fun _ _ => 0), zQP m) Q
  rw [zr_putI hl hk hf ht hs, zq_wI hw h0]
theorem zc_putQ (hl : q.2.2.2.2.2.2.lookup pc = some (.putfield idx)) (hk : zlk zLFs q.2.2.2.2.1 idx = some (ci, k)) (hf : ((zTf ci k).2.2.2 && !(zini q && ci == q.2.2.2.2.1)) = false) (ht : (match zFt ci k with | .object _ => true | .array _ => true | _ => false) = true) (hs : (zSH.take n)[a]? = some (.inl ci)) (hw : zWP[m]? = some (a, k, v)) (h0 : zlk (zWP.take m) a k = none) : zWp d q scr pc la (.ref v :: .ref a :: st) (zqs n i m) Q = zWp d q scr (pc + 3) la st (zqs n i (m + 1)) Q := by
  have e : zWp d q scr pc la (.ref v :: .ref a :: st) (zqs n i m) Q = zWp d q scr (pc + 3) la st (zSH.take n, zQI i, (fun _ _ => 0), zw (zQP m) a (va_up (zQP m a) k (some v))) Q := zW_s fun cal ih => by
    unfold zstep; rw [hl]; show zdoPut _ _ _ _ _ _ _ = _; unfold zdoPut; rw [hk]; dsimp only
    rw [if_neg (by rintro ⟨z1, z2⟩; rw [z1] at hf; simp at hf; exact z2 hf)]
    split at ht
    · rename_i h1; rw [h1]; exact if_pos hs
    · rename_i h1; rw [h1]; exact if_pos hs
    · cases ht
  rw [e, zq_wP hw h0]
  rfl
theorem zc_getQ (hl : q.2.2.2.2.2.2.lookup pc = some (.getfield idx)) (hk : zlk zLFs q.2.2.2.2.1 idx = some (ci, k)) (ht : ∀ x y z, zfv id (zFt ci k) x y z = va_rf (z.map id)) (hs : (zSH.take n)[a]? = some (.inl ci)) (hv : zlk (zWP.take m) a k = some v) : zWp d q scr pc la (.ref a :: st) (zqs n i m) Q = zWp d q scr (pc + 3) la (.ref v :: st) (zqs n i m) Q := by
  have e := zr_getQ (d := d) (q := q) (scr := scr) (la := la) (st := st) (Q := Q) (I := zQI i) (L := fun _ _ => 0) (P := zQP m) hl hk ht hs
  rw [show zQP m a k = some v from hv] at e
  exact e
theorem zc_ast (hl : q.2.2.2.2.2.2.lookup pc = some .iastore) (hs : zAk (zSH.take n) a = some .int) (hx : ¬ (x < 0 ∨ zAn (zSH.take n) a ≤ x.toNatClampNeg)) (hw : zWI[i]? = some (a, x.toNatClampNeg, w)) (h0 : zlk (zWI.take i) a x.toNatClampNeg = none) : zWp d q scr pc la (.int w :: .int x :: .ref a :: st) (zqs n i m) Q = zWp d q scr (pc + 1) la st (zqs n (i + 1) m) Q := by
  refine (zr_ast (I := zQI i) (L := fun _ _ => 0) (P := zQP m) hl hs).trans ?_
  rw [zq_wI hw h0]
  exact propext ⟨fun h => h.2, fun h => ⟨hx, h⟩⟩
theorem zc_qst {C : String} (hl : q.2.2.2.2.2.2.lookup pc = some .aastore) (hs : (zSH.take n)[a]? = some (.inr (.object C, k))) (hv : (zSH.take n)[v]? = some (.inl ci)) (hx : ¬ (x < 0 ∨ k ≤ x.toNatClampNeg)) (hC : C = zNm ci) (hci : ci < 11) (hw : zWP[m]? = some (a, x.toNatClampNeg, v)) (h0 : zlk (zWP.take m) a x.toNatClampNeg = none) : zWp d q scr pc la (.ref v :: .int x :: .ref a :: st) (zqs n i m) Q = zWp d q scr (pc + 1) la st (zqs n i (m + 1)) Q := by
  have e : zWp d q scr pc la (.ref v :: .int x :: .ref a :: st) (zqs n i m) Q = zWp d q scr (pc + 1) la st (zSH.take n, zQI i, (fun _ _ => 0), zw (zQP m) a (va_up (zQP m a) x.toNatClampNeg (some v))) Q := zW_s fun cal ih => by
    unfold zstep; rw [hl]; show zdoQst _ _ _ _ _ = _; unfold zdoQst
    show (match (zSH.take n)[a]?, (zSH.take n)[v]? with | some (.inr (.object C, n)), some (.inl ci) => _ | _, _ => none) = _
    rw [hs, hv]
    exact if_neg (by rintro (z | z | z | z); exact hx (Or.inl z); exact hx (Or.inr z); exact z hC; omega)
  rw [e, zq_wP hw h0]
  rfl
theorem zc_iinc {kc : Int} {h : zMm} (hl : q.2.2.2.2.2.2.lookup pc = some (.iinc n kc)) (hz : zlc la n = .int x) (hn : n < la.length) (h2 : zok2 la n = true) (hw : x + Int32.ofInt kc = y) : zWp d q scr pc la st h Q = zWp d q scr (pc + 3) (la.set n (.int y)) st h Q := by
  subst hw
  exact zr_iinc hl hz hn h2 rfl
end ZC
theorem i_0 (d : Nat) (Q : Option Value → zMm → Prop) : zWM (d + 1) 57 [.ref 1] (zqs 2 0 0) Q = Q none (zqs 14 0 12) := by
  refine (zW_M m_57 (Nat.le_of_ble_eq_true rfl) rfl).trans ?_
  show zWp d zi_57 none 0 [.ref 1] [] (zqs 2 0 0) Q = _
  refine Eq.trans (b := zWp d zi_57 none 1 [.ref 1] [.ref 1] (zqs 2 0 0) Q) (zr_aload_n rfl rfl) ?_
  refine Eq.trans (b := zWp d zi_57 none 4 [.ref 1] [] (zqs 2 0 0) Q) (zc_spe0 rfl lm_8_3 rfl) ?_
  refine Eq.trans (b := zWp d zi_57 none 5 [.ref 1] [.ref 1] (zqs 2 0 0) Q) (zr_aload_n rfl rfl) ?_
  refine Eq.trans (b := zWp d zi_57 none 7 [.ref 1] [.int 24, .ref 1] (zqs 2 0 0) Q) (zr_bipush rfl (by decide)) ?_
  refine Eq.trans (b := zWp d zi_57 none 9 [.ref 1] [.ref 2, .ref 1] (zqs 3 0 0) Q) (zc_newI rfl (by decide) rfl rfl rfl) ?_
  refine Eq.trans (b := zWp d zi_57 none 12 [.ref 1] [] (zqs 3 0 1) Q) (zc_putQ rfl lf_8_11 rfl rfl rfl rfl rfl) ?_
  refine Eq.trans (b := zWp d zi_57 none 13 [.ref 1] [.ref 1] (zqs 3 0 1) Q) (zr_aload_n rfl rfl) ?_
  refine Eq.trans (b := zWp d zi_57 none 15 [.ref 1] [.int 24, .ref 1] (zqs 3 0 1) Q) (zr_bipush rfl (by decide)) ?_
  refine Eq.trans (b := zWp d zi_57 none 17 [.ref 1] [.ref 3, .ref 1] (zqs 4 0 1) Q) (zc_newI rfl (by decide) rfl rfl rfl) ?_
  refine Eq.trans (b := zWp d zi_57 none 20 [.ref 1] [] (zqs 4 0 2) Q) (zc_putQ rfl lf_8_15 rfl rfl rfl rfl rfl) ?_
  refine Eq.trans (b := zWp d zi_57 none 21 [.ref 1] [.ref 1] (zqs 4 0 2) Q) (zr_aload_n rfl rfl) ?_
  refine Eq.trans (b := zWp d zi_57 none 22 [.ref 1] [.int 2, .ref 1] (zqs 4 0 2) Q) (zr_iconst rfl (by decide)) ?_
  refine Eq.trans (b := zWp d zi_57 none 24 [.ref 1] [.int 24, .int 2, .ref 1] (zqs 4 0 2) Q) (zr_bipush rfl (by decide)) ?_
  refine Eq.trans (b := zWp d zi_57 none 28 [.ref 1] [.ref 4, .ref 1] (zqs 7 0 4) Q) (zc_new2 rfl rfl (by decide) rfl rfl rfl rfl rfl rfl rfl rfl) ?_
  refine Eq.trans (b := zWp d zi_57 none 31 [.ref 1] [] (zqs 7 0 5) Q) (zc_putQ rfl lf_8_20 rfl rfl rfl rfl rfl) ?_
  refine Eq.trans (b := zWp d zi_57 none 32 [.ref 1] [.ref 1] (zqs 7 0 5) Q) (zr_aload_n rfl rfl) ?_
  refine Eq.trans (b := zWp d zi_57 none 33 [.ref 1] [.int 2, .ref 1] (zqs 7 0 5) Q) (zr_iconst rfl (by decide)) ?_
  refine Eq.trans (b := zWp d zi_57 none 35 [.ref 1] [.int 24, .int 2, .ref 1] (zqs 7 0 5) Q) (zr_bipush rfl (by decide)) ?_
  refine Eq.trans (b := zWp d zi_57 none 39 [.ref 1] [.ref 7, .ref 1] (zqs 10 0 7) Q) (zc_new2 rfl rfl (by decide) rfl rfl rfl rfl rfl rfl rfl rfl) ?_
  refine Eq.trans (b := zWp d zi_57 none 42 [.ref 1] [] (zqs 10 0 8) Q) (zc_putQ rfl lf_8_23 rfl rfl rfl rfl rfl) ?_
  refine Eq.trans (b := zWp d zi_57 none 43 [.ref 1] [.ref 1] (zqs 10 0 8) Q) (zr_aload_n rfl rfl) ?_
  refine Eq.trans (b := zWp d zi_57 none 45 [.ref 1] [.int 24, .ref 1] (zqs 10 0 8) Q) (zr_bipush rfl (by decide)) ?_
  refine Eq.trans (b := zWp d zi_57 none 47 [.ref 1] [.ref 10, .ref 1] (zqs 11 0 8) Q) (zc_newI rfl (by decide) rfl rfl rfl) ?_
  refine Eq.trans (b := zWp d zi_57 none 50 [.ref 1] [] (zqs 11 0 9) Q) (zc_putQ rfl lf_8_26 rfl rfl rfl rfl rfl) ?_
  refine Eq.trans (b := zWp d zi_57 none 51 [.ref 1] [.ref 1] (zqs 11 0 9) Q) (zr_aload_n rfl rfl) ?_
  refine Eq.trans (b := zWp d zi_57 none 52 [.ref 1] [.int 2, .ref 1] (zqs 11 0 9) Q) (zr_iconst rfl (by decide)) ?_
  refine Eq.trans (b := zWp d zi_57 none 54 [.ref 1] [.int 24, .int 2, .ref 1] (zqs 11 0 9) Q) (zr_bipush rfl (by decide)) ?_
  refine Eq.trans (b := zWp d zi_57 none 58 [.ref 1] [.ref 11, .ref 1] (zqs 14 0 11) Q) (zc_new2 rfl rfl (by decide) rfl rfl rfl rfl rfl rfl rfl rfl) ?_
  refine Eq.trans (b := zWp d zi_57 none 61 [.ref 1] [] (zqs 14 0 12) Q) (zc_putQ rfl lf_8_29 rfl rfl rfl rfl rfl) ?_
  exact zr_vret rfl rfl
theorem i_1 (d : Nat) (Q : Option Value → zMm → Prop) : zWM (d + 1) 57 [.ref 14] (zqs 15 0 13) Q = Q none (zqs 27 0 25) := by
  refine (zW_M m_57 (Nat.le_of_ble_eq_true rfl) rfl).trans ?_
  show zWp d zi_57 none 0 [.ref 14] [] (zqs 15 0 13) Q = _
  refine Eq.trans (b := zWp d zi_57 none 1 [.ref 14] [.ref 14] (zqs 15 0 13) Q) (zr_aload_n rfl rfl) ?_
  refine Eq.trans (b := zWp d zi_57 none 4 [.ref 14] [] (zqs 15 0 13) Q) (zc_spe0 rfl lm_8_3 rfl) ?_
  refine Eq.trans (b := zWp d zi_57 none 5 [.ref 14] [.ref 14] (zqs 15 0 13) Q) (zr_aload_n rfl rfl) ?_
  refine Eq.trans (b := zWp d zi_57 none 7 [.ref 14] [.int 24, .ref 14] (zqs 15 0 13) Q) (zr_bipush rfl (by decide)) ?_
  refine Eq.trans (b := zWp d zi_57 none 9 [.ref 14] [.ref 15, .ref 14] (zqs 16 0 13) Q) (zc_newI rfl (by decide) rfl rfl rfl) ?_
  refine Eq.trans (b := zWp d zi_57 none 12 [.ref 14] [] (zqs 16 0 14) Q) (zc_putQ rfl lf_8_11 rfl rfl rfl rfl rfl) ?_
  refine Eq.trans (b := zWp d zi_57 none 13 [.ref 14] [.ref 14] (zqs 16 0 14) Q) (zr_aload_n rfl rfl) ?_
  refine Eq.trans (b := zWp d zi_57 none 15 [.ref 14] [.int 24, .ref 14] (zqs 16 0 14) Q) (zr_bipush rfl (by decide)) ?_
  refine Eq.trans (b := zWp d zi_57 none 17 [.ref 14] [.ref 16, .ref 14] (zqs 17 0 14) Q) (zc_newI rfl (by decide) rfl rfl rfl) ?_
  refine Eq.trans (b := zWp d zi_57 none 20 [.ref 14] [] (zqs 17 0 15) Q) (zc_putQ rfl lf_8_15 rfl rfl rfl rfl rfl) ?_
  refine Eq.trans (b := zWp d zi_57 none 21 [.ref 14] [.ref 14] (zqs 17 0 15) Q) (zr_aload_n rfl rfl) ?_
  refine Eq.trans (b := zWp d zi_57 none 22 [.ref 14] [.int 2, .ref 14] (zqs 17 0 15) Q) (zr_iconst rfl (by decide)) ?_
  refine Eq.trans (b := zWp d zi_57 none 24 [.ref 14] [.int 24, .int 2, .ref 14] (zqs 17 0 15) Q) (zr_bipush rfl (by decide)) ?_
  refine Eq.trans (b := zWp d zi_57 none 28 [.ref 14] [.ref 17, .ref 14] (zqs 20 0 17) Q) (zc_new2 rfl rfl (by decide) rfl rfl rfl rfl rfl rfl rfl rfl) ?_
  refine Eq.trans (b := zWp d zi_57 none 31 [.ref 14] [] (zqs 20 0 18) Q) (zc_putQ rfl lf_8_20 rfl rfl rfl rfl rfl) ?_
  refine Eq.trans (b := zWp d zi_57 none 32 [.ref 14] [.ref 14] (zqs 20 0 18) Q) (zr_aload_n rfl rfl) ?_
  refine Eq.trans (b := zWp d zi_57 none 33 [.ref 14] [.int 2, .ref 14] (zqs 20 0 18) Q) (zr_iconst rfl (by decide)) ?_
  refine Eq.trans (b := zWp d zi_57 none 35 [.ref 14] [.int 24, .int 2, .ref 14] (zqs 20 0 18) Q) (zr_bipush rfl (by decide)) ?_
  refine Eq.trans (b := zWp d zi_57 none 39 [.ref 14] [.ref 20, .ref 14] (zqs 23 0 20) Q) (zc_new2 rfl rfl (by decide) rfl rfl rfl rfl rfl rfl rfl rfl) ?_
  refine Eq.trans (b := zWp d zi_57 none 42 [.ref 14] [] (zqs 23 0 21) Q) (zc_putQ rfl lf_8_23 rfl rfl rfl rfl rfl) ?_
  refine Eq.trans (b := zWp d zi_57 none 43 [.ref 14] [.ref 14] (zqs 23 0 21) Q) (zr_aload_n rfl rfl) ?_
  refine Eq.trans (b := zWp d zi_57 none 45 [.ref 14] [.int 24, .ref 14] (zqs 23 0 21) Q) (zr_bipush rfl (by decide)) ?_
  refine Eq.trans (b := zWp d zi_57 none 47 [.ref 14] [.ref 23, .ref 14] (zqs 24 0 21) Q) (zc_newI rfl (by decide) rfl rfl rfl) ?_
  refine Eq.trans (b := zWp d zi_57 none 50 [.ref 14] [] (zqs 24 0 22) Q) (zc_putQ rfl lf_8_26 rfl rfl rfl rfl rfl) ?_
  refine Eq.trans (b := zWp d zi_57 none 51 [.ref 14] [.ref 14] (zqs 24 0 22) Q) (zr_aload_n rfl rfl) ?_
  refine Eq.trans (b := zWp d zi_57 none 52 [.ref 14] [.int 2, .ref 14] (zqs 24 0 22) Q) (zr_iconst rfl (by decide)) ?_
  refine Eq.trans (b := zWp d zi_57 none 54 [.ref 14] [.int 24, .int 2, .ref 14] (zqs 24 0 22) Q) (zr_bipush rfl (by decide)) ?_
  refine Eq.trans (b := zWp d zi_57 none 58 [.ref 14] [.ref 24, .ref 14] (zqs 27 0 24) Q) (zc_new2 rfl rfl (by decide) rfl rfl rfl rfl rfl rfl rfl rfl) ?_
  refine Eq.trans (b := zWp d zi_57 none 61 [.ref 14] [] (zqs 27 0 25) Q) (zc_putQ rfl lf_8_29 rfl rfl rfl rfl rfl) ?_
  exact zr_vret rfl rfl
theorem i_2 (d : Nat) (Q : Option Value → zMm → Prop) : zWM (d + 1) 21 [.ref 27] (zqs 28 0 26) Q = Q none (zqs 31 1 29) := by
  refine (zW_M m_21 (Nat.le_of_ble_eq_true rfl) rfl).trans ?_
  show zWp d zi_21 none 0 [.ref 27] [] (zqs 28 0 26) Q = _
  refine Eq.trans (b := zWp d zi_21 none 1 [.ref 27] [.ref 27] (zqs 28 0 26) Q) (zr_aload_n rfl rfl) ?_
  refine Eq.trans (b := zWp d zi_21 none 4 [.ref 27] [] (zqs 28 0 26) Q) (zc_spe0 rfl lm_3_3 rfl) ?_
  refine Eq.trans (b := zWp d zi_21 none 5 [.ref 27] [.ref 27] (zqs 28 0 26) Q) (zr_aload_n rfl rfl) ?_
  refine Eq.trans (b := zWp d zi_21 none 7 [.ref 27] [.int 8, .ref 27] (zqs 28 0 26) Q) (zr_bipush rfl (by decide)) ?_
  refine Eq.trans (b := zWp d zi_21 none 9 [.ref 27] [.ref 28, .ref 27] (zqs 29 0 26) Q) (zc_newI rfl (by decide) rfl rfl rfl) ?_
  refine Eq.trans (b := zWp d zi_21 none 12 [.ref 27] [] (zqs 29 0 27) Q) (zc_putQ rfl lf_3_11 rfl rfl rfl rfl rfl) ?_
  refine Eq.trans (b := zWp d zi_21 none 13 [.ref 27] [.ref 27] (zqs 29 0 27) Q) (zr_aload_n rfl rfl) ?_
  refine Eq.trans (b := zWp d zi_21 none 15 [.ref 27] [.int 8, .ref 27] (zqs 29 0 27) Q) (zr_bipush rfl (by decide)) ?_
  refine Eq.trans (b := zWp d zi_21 none 17 [.ref 27] [.ref 29, .ref 27] (zqs 30 0 27) Q) (zc_newI rfl (by decide) rfl rfl rfl) ?_
  refine Eq.trans (b := zWp d zi_21 none 20 [.ref 27] [] (zqs 30 0 28) Q) (zc_putQ rfl lf_3_15 rfl rfl rfl rfl rfl) ?_
  refine Eq.trans (b := zWp d zi_21 none 21 [.ref 27] [.ref 27] (zqs 30 0 28) Q) (zr_aload_n rfl rfl) ?_
  refine Eq.trans (b := zWp d zi_21 none 23 [.ref 27] [.int 8, .ref 27] (zqs 30 0 28) Q) (zr_bipush rfl (by decide)) ?_
  refine Eq.trans (b := zWp d zi_21 none 25 [.ref 27] [.ref 30, .ref 27] (zqs 31 0 28) Q) (zc_newI rfl (by decide) rfl rfl rfl) ?_
  refine Eq.trans (b := zWp d zi_21 none 28 [.ref 27] [] (zqs 31 0 29) Q) (zc_putQ rfl lf_3_18 rfl rfl rfl rfl rfl) ?_
  refine Eq.trans (b := zWp d zi_21 none 29 [.ref 27] [.ref 27] (zqs 31 0 29) Q) (zr_aload_n rfl rfl) ?_
  refine Eq.trans (b := zWp d zi_21 none 32 [.ref 27] [.int 200, .ref 27] (zqs 31 0 29) Q) (zr_sipush rfl (by decide)) ?_
  refine Eq.trans (b := zWp d zi_21 none 35 [.ref 27] [] (zqs 31 1 29) Q) (zc_putI rfl lf_3_21 rfl rfl rfl rfl rfl) ?_
  exact zr_vret rfl rfl
theorem i_3 (d : Nat) (Q : Option Value → zMm → Prop) : zWM (d + 1) 32 [.ref 31] (zqs 32 1 30) Q = Q none (zqs 33 1 31) := by
  refine (zW_M m_32 (Nat.le_of_ble_eq_true rfl) rfl).trans ?_
  show zWp d zi_32 none 0 [.ref 31] [] (zqs 32 1 30) Q = _
  refine Eq.trans (b := zWp d zi_32 none 1 [.ref 31] [.ref 31] (zqs 32 1 30) Q) (zr_aload_n rfl rfl) ?_
  refine Eq.trans (b := zWp d zi_32 none 4 [.ref 31] [] (zqs 32 1 30) Q) (zc_spe0 rfl lm_4_3 rfl) ?_
  refine Eq.trans (b := zWp d zi_32 none 5 [.ref 31] [.ref 31] (zqs 32 1 30) Q) (zr_aload_n rfl rfl) ?_
  refine Eq.trans (b := zWp d zi_32 none 7 [.ref 31] [.int 120, .ref 31] (zqs 32 1 30) Q) (zr_bipush rfl (by decide)) ?_
  refine Eq.trans (b := zWp d zi_32 none 9 [.ref 31] [.ref 32, .ref 31] (zqs 33 1 30) Q) (zc_newI rfl (by decide) rfl rfl rfl) ?_
  refine Eq.trans (b := zWp d zi_32 none 12 [.ref 31] [] (zqs 33 1 31) Q) (zc_putQ rfl lf_4_11 rfl rfl rfl rfl rfl) ?_
  exact zr_vret rfl rfl
theorem i_4 (d : Nat) (Q : Option Value → zMm → Prop) : zWM (d + 1) 57 [.ref 38] (zqs 39 1 36) Q = Q none (zqs 51 1 48) := by
  refine (zW_M m_57 (Nat.le_of_ble_eq_true rfl) rfl).trans ?_
  show zWp d zi_57 none 0 [.ref 38] [] (zqs 39 1 36) Q = _
  refine Eq.trans (b := zWp d zi_57 none 1 [.ref 38] [.ref 38] (zqs 39 1 36) Q) (zr_aload_n rfl rfl) ?_
  refine Eq.trans (b := zWp d zi_57 none 4 [.ref 38] [] (zqs 39 1 36) Q) (zc_spe0 rfl lm_8_3 rfl) ?_
  refine Eq.trans (b := zWp d zi_57 none 5 [.ref 38] [.ref 38] (zqs 39 1 36) Q) (zr_aload_n rfl rfl) ?_
  refine Eq.trans (b := zWp d zi_57 none 7 [.ref 38] [.int 24, .ref 38] (zqs 39 1 36) Q) (zr_bipush rfl (by decide)) ?_
  refine Eq.trans (b := zWp d zi_57 none 9 [.ref 38] [.ref 39, .ref 38] (zqs 40 1 36) Q) (zc_newI rfl (by decide) rfl rfl rfl) ?_
  refine Eq.trans (b := zWp d zi_57 none 12 [.ref 38] [] (zqs 40 1 37) Q) (zc_putQ rfl lf_8_11 rfl rfl rfl rfl rfl) ?_
  refine Eq.trans (b := zWp d zi_57 none 13 [.ref 38] [.ref 38] (zqs 40 1 37) Q) (zr_aload_n rfl rfl) ?_
  refine Eq.trans (b := zWp d zi_57 none 15 [.ref 38] [.int 24, .ref 38] (zqs 40 1 37) Q) (zr_bipush rfl (by decide)) ?_
  refine Eq.trans (b := zWp d zi_57 none 17 [.ref 38] [.ref 40, .ref 38] (zqs 41 1 37) Q) (zc_newI rfl (by decide) rfl rfl rfl) ?_
  refine Eq.trans (b := zWp d zi_57 none 20 [.ref 38] [] (zqs 41 1 38) Q) (zc_putQ rfl lf_8_15 rfl rfl rfl rfl rfl) ?_
  refine Eq.trans (b := zWp d zi_57 none 21 [.ref 38] [.ref 38] (zqs 41 1 38) Q) (zr_aload_n rfl rfl) ?_
  refine Eq.trans (b := zWp d zi_57 none 22 [.ref 38] [.int 2, .ref 38] (zqs 41 1 38) Q) (zr_iconst rfl (by decide)) ?_
  refine Eq.trans (b := zWp d zi_57 none 24 [.ref 38] [.int 24, .int 2, .ref 38] (zqs 41 1 38) Q) (zr_bipush rfl (by decide)) ?_
  refine Eq.trans (b := zWp d zi_57 none 28 [.ref 38] [.ref 41, .ref 38] (zqs 44 1 40) Q) (zc_new2 rfl rfl (by decide) rfl rfl rfl rfl rfl rfl rfl rfl) ?_
  refine Eq.trans (b := zWp d zi_57 none 31 [.ref 38] [] (zqs 44 1 41) Q) (zc_putQ rfl lf_8_20 rfl rfl rfl rfl rfl) ?_
  refine Eq.trans (b := zWp d zi_57 none 32 [.ref 38] [.ref 38] (zqs 44 1 41) Q) (zr_aload_n rfl rfl) ?_
  refine Eq.trans (b := zWp d zi_57 none 33 [.ref 38] [.int 2, .ref 38] (zqs 44 1 41) Q) (zr_iconst rfl (by decide)) ?_
  refine Eq.trans (b := zWp d zi_57 none 35 [.ref 38] [.int 24, .int 2, .ref 38] (zqs 44 1 41) Q) (zr_bipush rfl (by decide)) ?_
  refine Eq.trans (b := zWp d zi_57 none 39 [.ref 38] [.ref 44, .ref 38] (zqs 47 1 43) Q) (zc_new2 rfl rfl (by decide) rfl rfl rfl rfl rfl rfl rfl rfl) ?_
  refine Eq.trans (b := zWp d zi_57 none 42 [.ref 38] [] (zqs 47 1 44) Q) (zc_putQ rfl lf_8_23 rfl rfl rfl rfl rfl) ?_
  refine Eq.trans (b := zWp d zi_57 none 43 [.ref 38] [.ref 38] (zqs 47 1 44) Q) (zr_aload_n rfl rfl) ?_
  refine Eq.trans (b := zWp d zi_57 none 45 [.ref 38] [.int 24, .ref 38] (zqs 47 1 44) Q) (zr_bipush rfl (by decide)) ?_
  refine Eq.trans (b := zWp d zi_57 none 47 [.ref 38] [.ref 47, .ref 38] (zqs 48 1 44) Q) (zc_newI rfl (by decide) rfl rfl rfl) ?_
  refine Eq.trans (b := zWp d zi_57 none 50 [.ref 38] [] (zqs 48 1 45) Q) (zc_putQ rfl lf_8_26 rfl rfl rfl rfl rfl) ?_
  refine Eq.trans (b := zWp d zi_57 none 51 [.ref 38] [.ref 38] (zqs 48 1 45) Q) (zr_aload_n rfl rfl) ?_
  refine Eq.trans (b := zWp d zi_57 none 52 [.ref 38] [.int 2, .ref 38] (zqs 48 1 45) Q) (zr_iconst rfl (by decide)) ?_
  refine Eq.trans (b := zWp d zi_57 none 54 [.ref 38] [.int 24, .int 2, .ref 38] (zqs 48 1 45) Q) (zr_bipush rfl (by decide)) ?_
  refine Eq.trans (b := zWp d zi_57 none 58 [.ref 38] [.ref 48, .ref 38] (zqs 51 1 47) Q) (zc_new2 rfl rfl (by decide) rfl rfl rfl rfl rfl rfl rfl rfl) ?_
  refine Eq.trans (b := zWp d zi_57 none 61 [.ref 38] [] (zqs 51 1 48) Q) (zc_putQ rfl lf_8_29 rfl rfl rfl rfl rfl) ?_
  exact zr_vret rfl rfl
theorem i_5 (d : Nat) (Q : Option Value → zMm → Prop) : zWM (d + 2) 12 [.ref 33] (zqs 34 1 32) Q = Q none (zqs 51 1 49) := by
  refine (zW_M m_12 (Nat.le_of_ble_eq_true rfl) rfl).trans ?_
  show zWp (d + 1) zi_12 none 0 [.ref 33] [] (zqs 34 1 32) Q = _
  refine Eq.trans (b := zWp (d + 1) zi_12 none 1 [.ref 33] [.ref 33] (zqs 34 1 32) Q) (zr_aload_n rfl rfl) ?_
  refine Eq.trans (b := zWp (d + 1) zi_12 none 4 [.ref 33] [] (zqs 34 1 32) Q) (zc_spe0 rfl lm_2_3 rfl) ?_
  refine Eq.trans (b := zWp (d + 1) zi_12 none 5 [.ref 33] [.ref 33] (zqs 34 1 32) Q) (zr_aload_n rfl rfl) ?_
  refine Eq.trans (b := zWp (d + 1) zi_12 none 7 [.ref 33] [.int 24, .ref 33] (zqs 34 1 32) Q) (zr_bipush rfl (by decide)) ?_
  refine Eq.trans (b := zWp (d + 1) zi_12 none 9 [.ref 33] [.ref 34, .ref 33] (zqs 35 1 32) Q) (zc_newI rfl (by decide) rfl rfl rfl) ?_
  refine Eq.trans (b := zWp (d + 1) zi_12 none 12 [.ref 33] [] (zqs 35 1 33) Q) (zc_putQ rfl lf_2_11 rfl rfl rfl rfl rfl) ?_
  refine Eq.trans (b := zWp (d + 1) zi_12 none 13 [.ref 33] [.ref 33] (zqs 35 1 33) Q) (zr_aload_n rfl rfl) ?_
  refine Eq.trans (b := zWp (d + 1) zi_12 none 15 [.ref 33] [.int 24, .ref 33] (zqs 35 1 33) Q) (zr_bipush rfl (by decide)) ?_
  refine Eq.trans (b := zWp (d + 1) zi_12 none 17 [.ref 33] [.ref 35, .ref 33] (zqs 36 1 33) Q) (zc_newI rfl (by decide) rfl rfl rfl) ?_
  refine Eq.trans (b := zWp (d + 1) zi_12 none 20 [.ref 33] [] (zqs 36 1 34) Q) (zc_putQ rfl lf_2_17 rfl rfl rfl rfl rfl) ?_
  refine Eq.trans (b := zWp (d + 1) zi_12 none 21 [.ref 33] [.ref 33] (zqs 36 1 34) Q) (zr_aload_n rfl rfl) ?_
  refine Eq.trans (b := zWp (d + 1) zi_12 none 24 [.ref 33] [.int 1464, .ref 33] (zqs 36 1 34) Q) (zr_sipush rfl (by decide)) ?_
  refine Eq.trans (b := zWp (d + 1) zi_12 none 26 [.ref 33] [.ref 36, .ref 33] (zqs 37 1 34) Q) (zc_newI rfl (by decide) rfl rfl rfl) ?_
  refine Eq.trans (b := zWp (d + 1) zi_12 none 29 [.ref 33] [] (zqs 37 1 35) Q) (zc_putQ rfl lf_2_20 rfl rfl rfl rfl rfl) ?_
  refine Eq.trans (b := zWp (d + 1) zi_12 none 30 [.ref 33] [.ref 33] (zqs 37 1 35) Q) (zr_aload_n rfl rfl) ?_
  refine Eq.trans (b := zWp (d + 1) zi_12 none 32 [.ref 33] [.int 6, .ref 33] (zqs 37 1 35) Q) (zr_bipush rfl (by decide)) ?_
  refine Eq.trans (b := zWp (d + 1) zi_12 none 34 [.ref 33] [.ref 37, .ref 33] (zqs 38 1 35) Q) (zc_newI rfl (by decide) rfl rfl rfl) ?_
  refine Eq.trans (b := zWp (d + 1) zi_12 none 37 [.ref 33] [] (zqs 38 1 36) Q) (zc_putQ rfl lf_2_23 rfl rfl rfl rfl rfl) ?_
  refine Eq.trans (b := zWp (d + 1) zi_12 none 38 [.ref 33] [.ref 33] (zqs 38 1 36) Q) (zr_aload_n rfl rfl) ?_
  refine Eq.trans (b := zWp (d + 1) zi_12 none 41 [.ref 33] [.ref 38, .ref 33] (zqs 39 1 36) Q) (zc_new rfl rfl rfl rfl rfl) ?_
  refine Eq.trans (b := zWp (d + 1) zi_12 none 42 [.ref 33] [.ref 38, .ref 38, .ref 33] (zqs 39 1 36) Q) (zr_dup rfl rfl) ?_
  refine (zc_spe (rest := [.ref 38, .ref 33]) rfl lm_2_26 m_57 kd_57 rfl rfl).trans ?_
  refine (i_4 _ _).trans ?_
  show zWp (d + 1) zi_12 none 45 [.ref 33] [.ref 38, .ref 33] (zqs 51 1 48) Q = _
  refine Eq.trans (b := zWp (d + 1) zi_12 none 48 [.ref 33] [] (zqs 51 1 49) Q) (zc_putQ rfl lf_2_27 rfl rfl rfl rfl rfl) ?_
  exact zr_vret rfl rfl
theorem i_6 (d : Nat) (Q : Option Value → zMm → Prop) : zWM (d + 1) 52 [.ref 51] (zqs 52 1 50) Q = Q none (zqs 52 4 50) := by
  refine (zW_M m_52 (Nat.le_of_ble_eq_true rfl) rfl).trans ?_
  show zWp d zi_52 none 0 [.ref 51] [] (zqs 52 1 50) Q = _
  refine Eq.trans (b := zWp d zi_52 none 1 [.ref 51] [.ref 51] (zqs 52 1 50) Q) (zr_aload_n rfl rfl) ?_
  refine Eq.trans (b := zWp d zi_52 none 4 [.ref 51] [] (zqs 52 1 50) Q) (zc_spe0 rfl lm_7_3 rfl) ?_
  refine Eq.trans (b := zWp d zi_52 none 5 [.ref 51] [.ref 51] (zqs 52 1 50) Q) (zr_aload_n rfl rfl) ?_
  refine Eq.trans (b := zWp d zi_52 none 7 [.ref 51] [.int 20, .ref 51] (zqs 52 1 50) Q) (zr_bipush rfl (by decide)) ?_
  refine Eq.trans (b := zWp d zi_52 none 10 [.ref 51] [] (zqs 52 2 50) Q) (zc_putI rfl lf_7_9 rfl rfl rfl rfl rfl) ?_
  refine Eq.trans (b := zWp d zi_52 none 11 [.ref 51] [.ref 51] (zqs 52 2 50) Q) (zr_aload_n rfl rfl) ?_
  refine Eq.trans (b := zWp d zi_52 none 13 [.ref 51] [.int 10, .ref 51] (zqs 52 2 50) Q) (zr_bipush rfl (by decide)) ?_
  refine Eq.trans (b := zWp d zi_52 none 16 [.ref 51] [] (zqs 52 3 50) Q) (zc_putI rfl lf_7_15 rfl rfl rfl rfl rfl) ?_
  refine Eq.trans (b := zWp d zi_52 none 17 [.ref 51] [.ref 51] (zqs 52 3 50) Q) (zr_aload_n rfl rfl) ?_
  refine Eq.trans (b := zWp d zi_52 none 19 [.ref 51] [.int (-2), .ref 51] (zqs 52 3 50) Q) (zr_bipush rfl (by decide)) ?_
  refine Eq.trans (b := zWp d zi_52 none 22 [.ref 51] [] (zqs 52 4 50) Q) (zc_putI rfl lf_7_18 rfl rfl rfl rfl rfl) ?_
  exact zr_vret rfl rfl
theorem i_7 (d : Nat) (Q : Option Value → zMm → Prop) : zWM (d + 1) 52 [.ref 52] (zqs 53 4 51) Q = Q none (zqs 53 7 51) := by
  refine (zW_M m_52 (Nat.le_of_ble_eq_true rfl) rfl).trans ?_
  show zWp d zi_52 none 0 [.ref 52] [] (zqs 53 4 51) Q = _
  refine Eq.trans (b := zWp d zi_52 none 1 [.ref 52] [.ref 52] (zqs 53 4 51) Q) (zr_aload_n rfl rfl) ?_
  refine Eq.trans (b := zWp d zi_52 none 4 [.ref 52] [] (zqs 53 4 51) Q) (zc_spe0 rfl lm_7_3 rfl) ?_
  refine Eq.trans (b := zWp d zi_52 none 5 [.ref 52] [.ref 52] (zqs 53 4 51) Q) (zr_aload_n rfl rfl) ?_
  refine Eq.trans (b := zWp d zi_52 none 7 [.ref 52] [.int 20, .ref 52] (zqs 53 4 51) Q) (zr_bipush rfl (by decide)) ?_
  refine Eq.trans (b := zWp d zi_52 none 10 [.ref 52] [] (zqs 53 5 51) Q) (zc_putI rfl lf_7_9 rfl rfl rfl rfl rfl) ?_
  refine Eq.trans (b := zWp d zi_52 none 11 [.ref 52] [.ref 52] (zqs 53 5 51) Q) (zr_aload_n rfl rfl) ?_
  refine Eq.trans (b := zWp d zi_52 none 13 [.ref 52] [.int 10, .ref 52] (zqs 53 5 51) Q) (zr_bipush rfl (by decide)) ?_
  refine Eq.trans (b := zWp d zi_52 none 16 [.ref 52] [] (zqs 53 6 51) Q) (zc_putI rfl lf_7_15 rfl rfl rfl rfl rfl) ?_
  refine Eq.trans (b := zWp d zi_52 none 17 [.ref 52] [.ref 52] (zqs 53 6 51) Q) (zr_aload_n rfl rfl) ?_
  refine Eq.trans (b := zWp d zi_52 none 19 [.ref 52] [.int (-2), .ref 52] (zqs 53 6 51) Q) (zr_bipush rfl (by decide)) ?_
  refine Eq.trans (b := zWp d zi_52 none 22 [.ref 52] [] (zqs 53 7 51) Q) (zc_putI rfl lf_7_18 rfl rfl rfl rfl rfl) ?_
  exact zr_vret rfl rfl
theorem i_8 (d : Nat) (Q : Option Value → zMm → Prop) : zWM (d + 1) 52 [.ref 53] (zqs 54 7 52) Q = Q none (zqs 54 10 52) := by
  refine (zW_M m_52 (Nat.le_of_ble_eq_true rfl) rfl).trans ?_
  show zWp d zi_52 none 0 [.ref 53] [] (zqs 54 7 52) Q = _
  refine Eq.trans (b := zWp d zi_52 none 1 [.ref 53] [.ref 53] (zqs 54 7 52) Q) (zr_aload_n rfl rfl) ?_
  refine Eq.trans (b := zWp d zi_52 none 4 [.ref 53] [] (zqs 54 7 52) Q) (zc_spe0 rfl lm_7_3 rfl) ?_
  refine Eq.trans (b := zWp d zi_52 none 5 [.ref 53] [.ref 53] (zqs 54 7 52) Q) (zr_aload_n rfl rfl) ?_
  refine Eq.trans (b := zWp d zi_52 none 7 [.ref 53] [.int 20, .ref 53] (zqs 54 7 52) Q) (zr_bipush rfl (by decide)) ?_
  refine Eq.trans (b := zWp d zi_52 none 10 [.ref 53] [] (zqs 54 8 52) Q) (zc_putI rfl lf_7_9 rfl rfl rfl rfl rfl) ?_
  refine Eq.trans (b := zWp d zi_52 none 11 [.ref 53] [.ref 53] (zqs 54 8 52) Q) (zr_aload_n rfl rfl) ?_
  refine Eq.trans (b := zWp d zi_52 none 13 [.ref 53] [.int 10, .ref 53] (zqs 54 8 52) Q) (zr_bipush rfl (by decide)) ?_
  refine Eq.trans (b := zWp d zi_52 none 16 [.ref 53] [] (zqs 54 9 52) Q) (zc_putI rfl lf_7_15 rfl rfl rfl rfl rfl) ?_
  refine Eq.trans (b := zWp d zi_52 none 17 [.ref 53] [.ref 53] (zqs 54 9 52) Q) (zr_aload_n rfl rfl) ?_
  refine Eq.trans (b := zWp d zi_52 none 19 [.ref 53] [.int (-2), .ref 53] (zqs 54 9 52) Q) (zr_bipush rfl (by decide)) ?_
  refine Eq.trans (b := zWp d zi_52 none 22 [.ref 53] [] (zqs 54 10 52) Q) (zc_putI rfl lf_7_18 rfl rfl rfl rfl rfl) ?_
  exact zr_vret rfl rfl
theorem i_9 (d : Nat) (Q : Option Value → zMm → Prop) : zWM (d + 1) 6 [.ref 54] (zqs 55 10 53) Q = Q none (zqs 56 10 54) := by
  refine (zW_M m_6 (Nat.le_of_ble_eq_true rfl) rfl).trans ?_
  show zWp d zi_6 none 0 [.ref 54] [] (zqs 55 10 53) Q = _
  refine Eq.trans (b := zWp d zi_6 none 1 [.ref 54] [.ref 54] (zqs 55 10 53) Q) (zr_aload_n rfl rfl) ?_
  refine Eq.trans (b := zWp d zi_6 none 4 [.ref 54] [] (zqs 55 10 53) Q) (zc_spe0 rfl lm_1_1 rfl) ?_
  refine Eq.trans (b := zWp d zi_6 none 5 [.ref 54] [.ref 54] (zqs 55 10 53) Q) (zr_aload_n rfl rfl) ?_
  refine Eq.trans (b := zWp d zi_6 none 8 [.ref 54] [.int 160, .ref 54] (zqs 55 10 53) Q) (zr_sipush rfl (by decide)) ?_
  refine Eq.trans (b := zWp d zi_6 none 10 [.ref 54] [.ref 55, .ref 54] (zqs 56 10 53) Q) (zc_newI rfl (by decide) rfl rfl rfl) ?_
  refine Eq.trans (b := zWp d zi_6 none 13 [.ref 54] [] (zqs 56 10 54) Q) (zc_putQ rfl lf_1_9 rfl rfl rfl rfl rfl) ?_
  exact zr_vret rfl rfl
theorem i_10 (d : Nat) (Q : Option Value → zMm → Prop) : zWM (d + 1) 0 [.ref 56] (zqs 57 10 55) Q = Q none (zqs 59 10 57) := by
  refine (zW_M m_0 (Nat.le_of_ble_eq_true rfl) rfl).trans ?_
  show zWp d zi_0 none 0 [.ref 56] [] (zqs 57 10 55) Q = _
  refine Eq.trans (b := zWp d zi_0 none 1 [.ref 56] [.ref 56] (zqs 57 10 55) Q) (zr_aload_n rfl rfl) ?_
  refine Eq.trans (b := zWp d zi_0 none 4 [.ref 56] [] (zqs 57 10 55) Q) (zc_spe0 rfl lm_0_1 rfl) ?_
  refine Eq.trans (b := zWp d zi_0 none 5 [.ref 56] [.ref 56] (zqs 57 10 55) Q) (zr_aload_n rfl rfl) ?_
  refine Eq.trans (b := zWp d zi_0 none 7 [.ref 56] [.int 50, .ref 56] (zqs 57 10 55) Q) (zr_bipush rfl (by decide)) ?_
  refine Eq.trans (b := zWp d zi_0 none 9 [.ref 56] [.ref 57, .ref 56] (zqs 58 10 55) Q) (zc_newI rfl (by decide) rfl rfl rfl) ?_
  refine Eq.trans (b := zWp d zi_0 none 12 [.ref 56] [] (zqs 58 10 56) Q) (zc_putQ rfl lf_0_9 rfl rfl rfl rfl rfl) ?_
  refine Eq.trans (b := zWp d zi_0 none 13 [.ref 56] [.ref 56] (zqs 58 10 56) Q) (zr_aload_n rfl rfl) ?_
  refine Eq.trans (b := zWp d zi_0 none 15 [.ref 56] [.int 24, .ref 56] (zqs 58 10 56) Q) (zr_bipush rfl (by decide)) ?_
  refine Eq.trans (b := zWp d zi_0 none 17 [.ref 56] [.ref 58, .ref 56] (zqs 59 10 56) Q) (zc_newI rfl (by decide) rfl rfl rfl) ?_
  refine Eq.trans (b := zWp d zi_0 none 20 [.ref 56] [] (zqs 59 10 57) Q) (zc_putQ rfl lf_0_13 rfl rfl rfl rfl rfl) ?_
  exact zr_vret rfl rfl
theorem i_11 (d : Nat) (Q : Option Value → zMm → Prop) : zWM (d + 1) 42 [.ref 60] (zqs 61 10 59) Q = Q none (zqs 64 10 62) := by
  refine (zW_M m_42 (Nat.le_of_ble_eq_true rfl) rfl).trans ?_
  show zWp d zi_42 none 0 [.ref 60] [] (zqs 61 10 59) Q = _
  refine Eq.trans (b := zWp d zi_42 none 1 [.ref 60] [.ref 60] (zqs 61 10 59) Q) (zr_aload_n rfl rfl) ?_
  refine Eq.trans (b := zWp d zi_42 none 4 [.ref 60] [] (zqs 61 10 59) Q) (zc_spe0 rfl lm_5_3 rfl) ?_
  refine Eq.trans (b := zWp d zi_42 none 5 [.ref 60] [.ref 60] (zqs 61 10 59) Q) (zr_aload_n rfl rfl) ?_
  refine Eq.trans (b := zWp d zi_42 none 7 [.ref 60] [.int 121, .ref 60] (zqs 61 10 59) Q) (zr_bipush rfl (by decide)) ?_
  refine Eq.trans (b := zWp d zi_42 none 9 [.ref 60] [.ref 61, .ref 60] (zqs 62 10 59) Q) (zc_newI rfl (by decide) rfl rfl rfl) ?_
  refine Eq.trans (b := zWp d zi_42 none 12 [.ref 60] [] (zqs 62 10 60) Q) (zc_putQ rfl lf_5_11 rfl rfl rfl rfl rfl) ?_
  refine Eq.trans (b := zWp d zi_42 none 13 [.ref 60] [.ref 60] (zqs 62 10 60) Q) (zr_aload_n rfl rfl) ?_
  refine Eq.trans (b := zWp d zi_42 none 15 [.ref 60] [.int 121, .ref 60] (zqs 62 10 60) Q) (zr_bipush rfl (by decide)) ?_
  refine Eq.trans (b := zWp d zi_42 none 17 [.ref 60] [.ref 62, .ref 60] (zqs 63 10 60) Q) (zc_newI rfl (by decide) rfl rfl rfl) ?_
  refine Eq.trans (b := zWp d zi_42 none 20 [.ref 60] [] (zqs 63 10 61) Q) (zc_putQ rfl lf_5_15 rfl rfl rfl rfl rfl) ?_
  refine Eq.trans (b := zWp d zi_42 none 21 [.ref 60] [.ref 60] (zqs 63 10 61) Q) (zr_aload_n rfl rfl) ?_
  refine Eq.trans (b := zWp d zi_42 none 23 [.ref 60] [.int 121, .ref 60] (zqs 63 10 61) Q) (zr_bipush rfl (by decide)) ?_
  refine Eq.trans (b := zWp d zi_42 none 25 [.ref 60] [.ref 63, .ref 60] (zqs 64 10 61) Q) (zc_newI rfl (by decide) rfl rfl rfl) ?_
  refine Eq.trans (b := zWp d zi_42 none 28 [.ref 60] [] (zqs 64 10 62) Q) (zc_putQ rfl lf_5_18 rfl rfl rfl rfl rfl) ?_
  exact zr_vret rfl rfl
theorem i_12 (d : Nat) (Q : Option Value → zMm → Prop) : zWM (d + 1) 42 [.ref 64] (zqs 65 10 63) Q = Q none (zqs 68 10 66) := by
  refine (zW_M m_42 (Nat.le_of_ble_eq_true rfl) rfl).trans ?_
  show zWp d zi_42 none 0 [.ref 64] [] (zqs 65 10 63) Q = _
  refine Eq.trans (b := zWp d zi_42 none 1 [.ref 64] [.ref 64] (zqs 65 10 63) Q) (zr_aload_n rfl rfl) ?_
  refine Eq.trans (b := zWp d zi_42 none 4 [.ref 64] [] (zqs 65 10 63) Q) (zc_spe0 rfl lm_5_3 rfl) ?_
  refine Eq.trans (b := zWp d zi_42 none 5 [.ref 64] [.ref 64] (zqs 65 10 63) Q) (zr_aload_n rfl rfl) ?_
  refine Eq.trans (b := zWp d zi_42 none 7 [.ref 64] [.int 121, .ref 64] (zqs 65 10 63) Q) (zr_bipush rfl (by decide)) ?_
  refine Eq.trans (b := zWp d zi_42 none 9 [.ref 64] [.ref 65, .ref 64] (zqs 66 10 63) Q) (zc_newI rfl (by decide) rfl rfl rfl) ?_
  refine Eq.trans (b := zWp d zi_42 none 12 [.ref 64] [] (zqs 66 10 64) Q) (zc_putQ rfl lf_5_11 rfl rfl rfl rfl rfl) ?_
  refine Eq.trans (b := zWp d zi_42 none 13 [.ref 64] [.ref 64] (zqs 66 10 64) Q) (zr_aload_n rfl rfl) ?_
  refine Eq.trans (b := zWp d zi_42 none 15 [.ref 64] [.int 121, .ref 64] (zqs 66 10 64) Q) (zr_bipush rfl (by decide)) ?_
  refine Eq.trans (b := zWp d zi_42 none 17 [.ref 64] [.ref 66, .ref 64] (zqs 67 10 64) Q) (zc_newI rfl (by decide) rfl rfl rfl) ?_
  refine Eq.trans (b := zWp d zi_42 none 20 [.ref 64] [] (zqs 67 10 65) Q) (zc_putQ rfl lf_5_15 rfl rfl rfl rfl rfl) ?_
  refine Eq.trans (b := zWp d zi_42 none 21 [.ref 64] [.ref 64] (zqs 67 10 65) Q) (zr_aload_n rfl rfl) ?_
  refine Eq.trans (b := zWp d zi_42 none 23 [.ref 64] [.int 121, .ref 64] (zqs 67 10 65) Q) (zr_bipush rfl (by decide)) ?_
  refine Eq.trans (b := zWp d zi_42 none 25 [.ref 64] [.ref 67, .ref 64] (zqs 68 10 65) Q) (zc_newI rfl (by decide) rfl rfl rfl) ?_
  refine Eq.trans (b := zWp d zi_42 none 28 [.ref 64] [] (zqs 68 10 66) Q) (zc_putQ rfl lf_5_18 rfl rfl rfl rfl rfl) ?_
  exact zr_vret rfl rfl
theorem i_13 (d : Nat) (Q : Option Value → zMm → Prop) : zWM (d + 1) 47 [.ref 68] (zqs 69 11 67) Q = Q none (zqs 70 13 68) := by
  refine (zW_M m_47 (Nat.le_of_ble_eq_true rfl) rfl).trans ?_
  show zWp d zi_47 none 0 [.ref 68] [] (zqs 69 11 67) Q = _
  refine Eq.trans (b := zWp d zi_47 none 1 [.ref 68] [.ref 68] (zqs 69 11 67) Q) (zr_aload_n rfl rfl) ?_
  refine Eq.trans (b := zWp d zi_47 none 4 [.ref 68] [] (zqs 69 11 67) Q) (zc_spe0 rfl lm_6_1 rfl) ?_
  refine Eq.trans (b := zWp d zi_47 none 5 [.ref 68] [.ref 68] (zqs 69 11 67) Q) (zr_aload_n rfl rfl) ?_
  refine Eq.trans (b := zWp d zi_47 none 7 [.ref 68] [.int 60, .ref 68] (zqs 69 11 67) Q) (zr_bipush rfl (by decide)) ?_
  refine Eq.trans (b := zWp d zi_47 none 9 [.ref 68] [.ref 69, .ref 68] (zqs 70 11 67) Q) (zc_newJ rfl (by decide) rfl rfl rfl) ?_
  refine Eq.trans (b := zWp d zi_47 none 12 [.ref 68] [] (zqs 70 11 68) Q) (zc_putQ rfl lf_6_9 rfl rfl rfl rfl rfl) ?_
  refine Eq.trans (b := zWp d zi_47 none 13 [.ref 68] [.ref 68] (zqs 70 11 68) Q) (zr_aload_n rfl rfl) ?_
  refine Eq.trans (b := zWp d zi_47 none 15 [.ref 68] [.int (-2), .ref 68] (zqs 70 11 68) Q) (zr_bipush rfl (by decide)) ?_
  refine Eq.trans (b := zWp d zi_47 none 18 [.ref 68] [] (zqs 70 12 68) Q) (zc_putI rfl lf_6_13 rfl rfl rfl rfl rfl) ?_
  refine Eq.trans (b := zWp d zi_47 none 19 [.ref 68] [.ref 68] (zqs 70 12 68) Q) (zr_aload_n rfl rfl) ?_
  refine Eq.trans (b := zWp d zi_47 none 20 [.ref 68] [.int (-1), .ref 68] (zqs 70 12 68) Q) (zr_iconst rfl (by decide)) ?_
  refine Eq.trans (b := zWp d zi_47 none 23 [.ref 68] [] (zqs 70 13 68) Q) (zc_putI rfl lf_6_17 rfl rfl rfl rfl rfl) ?_
  exact zr_vret rfl rfl
theorem i_14 (d : Nat) (Q : Option Value → zMm → Prop) : zWM (d + 1) 47 [.ref 70] (zqs 71 13 69) Q = Q none (zqs 72 15 70) := by
  refine (zW_M m_47 (Nat.le_of_ble_eq_true rfl) rfl).trans ?_
  show zWp d zi_47 none 0 [.ref 70] [] (zqs 71 13 69) Q = _
  refine Eq.trans (b := zWp d zi_47 none 1 [.ref 70] [.ref 70] (zqs 71 13 69) Q) (zr_aload_n rfl rfl) ?_
  refine Eq.trans (b := zWp d zi_47 none 4 [.ref 70] [] (zqs 71 13 69) Q) (zc_spe0 rfl lm_6_1 rfl) ?_
  refine Eq.trans (b := zWp d zi_47 none 5 [.ref 70] [.ref 70] (zqs 71 13 69) Q) (zr_aload_n rfl rfl) ?_
  refine Eq.trans (b := zWp d zi_47 none 7 [.ref 70] [.int 60, .ref 70] (zqs 71 13 69) Q) (zr_bipush rfl (by decide)) ?_
  refine Eq.trans (b := zWp d zi_47 none 9 [.ref 70] [.ref 71, .ref 70] (zqs 72 13 69) Q) (zc_newJ rfl (by decide) rfl rfl rfl) ?_
  refine Eq.trans (b := zWp d zi_47 none 12 [.ref 70] [] (zqs 72 13 70) Q) (zc_putQ rfl lf_6_9 rfl rfl rfl rfl rfl) ?_
  refine Eq.trans (b := zWp d zi_47 none 13 [.ref 70] [.ref 70] (zqs 72 13 70) Q) (zr_aload_n rfl rfl) ?_
  refine Eq.trans (b := zWp d zi_47 none 15 [.ref 70] [.int (-2), .ref 70] (zqs 72 13 70) Q) (zr_bipush rfl (by decide)) ?_
  refine Eq.trans (b := zWp d zi_47 none 18 [.ref 70] [] (zqs 72 14 70) Q) (zc_putI rfl lf_6_13 rfl rfl rfl rfl rfl) ?_
  refine Eq.trans (b := zWp d zi_47 none 19 [.ref 70] [.ref 70] (zqs 72 14 70) Q) (zr_aload_n rfl rfl) ?_
  refine Eq.trans (b := zWp d zi_47 none 20 [.ref 70] [.int (-1), .ref 70] (zqs 72 14 70) Q) (zr_iconst rfl (by decide)) ?_
  refine Eq.trans (b := zWp d zi_47 none 23 [.ref 70] [] (zqs 72 15 70) Q) (zc_putI rfl lf_6_17 rfl rfl rfl rfl rfl) ?_
  exact zr_vret rfl rfl
theorem i_15 (d : Nat) (Q : Option Value → zMm → Prop) : zWM (d + 1) 47 [.ref 72] (zqs 73 15 71) Q = Q none (zqs 74 17 72) := by
  refine (zW_M m_47 (Nat.le_of_ble_eq_true rfl) rfl).trans ?_
  show zWp d zi_47 none 0 [.ref 72] [] (zqs 73 15 71) Q = _
  refine Eq.trans (b := zWp d zi_47 none 1 [.ref 72] [.ref 72] (zqs 73 15 71) Q) (zr_aload_n rfl rfl) ?_
  refine Eq.trans (b := zWp d zi_47 none 4 [.ref 72] [] (zqs 73 15 71) Q) (zc_spe0 rfl lm_6_1 rfl) ?_
  refine Eq.trans (b := zWp d zi_47 none 5 [.ref 72] [.ref 72] (zqs 73 15 71) Q) (zr_aload_n rfl rfl) ?_
  refine Eq.trans (b := zWp d zi_47 none 7 [.ref 72] [.int 60, .ref 72] (zqs 73 15 71) Q) (zr_bipush rfl (by decide)) ?_
  refine Eq.trans (b := zWp d zi_47 none 9 [.ref 72] [.ref 73, .ref 72] (zqs 74 15 71) Q) (zc_newJ rfl (by decide) rfl rfl rfl) ?_
  refine Eq.trans (b := zWp d zi_47 none 12 [.ref 72] [] (zqs 74 15 72) Q) (zc_putQ rfl lf_6_9 rfl rfl rfl rfl rfl) ?_
  refine Eq.trans (b := zWp d zi_47 none 13 [.ref 72] [.ref 72] (zqs 74 15 72) Q) (zr_aload_n rfl rfl) ?_
  refine Eq.trans (b := zWp d zi_47 none 15 [.ref 72] [.int (-2), .ref 72] (zqs 74 15 72) Q) (zr_bipush rfl (by decide)) ?_
  refine Eq.trans (b := zWp d zi_47 none 18 [.ref 72] [] (zqs 74 16 72) Q) (zc_putI rfl lf_6_13 rfl rfl rfl rfl rfl) ?_
  refine Eq.trans (b := zWp d zi_47 none 19 [.ref 72] [.ref 72] (zqs 74 16 72) Q) (zr_aload_n rfl rfl) ?_
  refine Eq.trans (b := zWp d zi_47 none 20 [.ref 72] [.int (-1), .ref 72] (zqs 74 16 72) Q) (zr_iconst rfl (by decide)) ?_
  refine Eq.trans (b := zWp d zi_47 none 23 [.ref 72] [] (zqs 74 17 72) Q) (zc_putI rfl lf_6_17 rfl rfl rfl rfl rfl) ?_
  exact zr_vret rfl rfl
theorem i_16 (d : Nat) (Q : Option Value → zMm → Prop) : zWM (d + 1) 47 [.ref 74] (zqs 75 17 73) Q = Q none (zqs 76 19 74) := by
  refine (zW_M m_47 (Nat.le_of_ble_eq_true rfl) rfl).trans ?_
  show zWp d zi_47 none 0 [.ref 74] [] (zqs 75 17 73) Q = _
  refine Eq.trans (b := zWp d zi_47 none 1 [.ref 74] [.ref 74] (zqs 75 17 73) Q) (zr_aload_n rfl rfl) ?_
  refine Eq.trans (b := zWp d zi_47 none 4 [.ref 74] [] (zqs 75 17 73) Q) (zc_spe0 rfl lm_6_1 rfl) ?_
  refine Eq.trans (b := zWp d zi_47 none 5 [.ref 74] [.ref 74] (zqs 75 17 73) Q) (zr_aload_n rfl rfl) ?_
  refine Eq.trans (b := zWp d zi_47 none 7 [.ref 74] [.int 60, .ref 74] (zqs 75 17 73) Q) (zr_bipush rfl (by decide)) ?_
  refine Eq.trans (b := zWp d zi_47 none 9 [.ref 74] [.ref 75, .ref 74] (zqs 76 17 73) Q) (zc_newJ rfl (by decide) rfl rfl rfl) ?_
  refine Eq.trans (b := zWp d zi_47 none 12 [.ref 74] [] (zqs 76 17 74) Q) (zc_putQ rfl lf_6_9 rfl rfl rfl rfl rfl) ?_
  refine Eq.trans (b := zWp d zi_47 none 13 [.ref 74] [.ref 74] (zqs 76 17 74) Q) (zr_aload_n rfl rfl) ?_
  refine Eq.trans (b := zWp d zi_47 none 15 [.ref 74] [.int (-2), .ref 74] (zqs 76 17 74) Q) (zr_bipush rfl (by decide)) ?_
  refine Eq.trans (b := zWp d zi_47 none 18 [.ref 74] [] (zqs 76 18 74) Q) (zc_putI rfl lf_6_13 rfl rfl rfl rfl rfl) ?_
  refine Eq.trans (b := zWp d zi_47 none 19 [.ref 74] [.ref 74] (zqs 76 18 74) Q) (zr_aload_n rfl rfl) ?_
  refine Eq.trans (b := zWp d zi_47 none 20 [.ref 74] [.int (-1), .ref 74] (zqs 76 18 74) Q) (zr_iconst rfl (by decide)) ?_
  refine Eq.trans (b := zWp d zi_47 none 23 [.ref 74] [] (zqs 76 19 74) Q) (zc_putI rfl lf_6_17 rfl rfl rfl rfl rfl) ?_
  exact zr_vret rfl rfl
theorem i_17 (d : Nat) (Q : Option Value → zMm → Prop) : zWM (d + 1) 47 [.ref 76] (zqs 77 19 75) Q = Q none (zqs 78 21 76) := by
  refine (zW_M m_47 (Nat.le_of_ble_eq_true rfl) rfl).trans ?_
  show zWp d zi_47 none 0 [.ref 76] [] (zqs 77 19 75) Q = _
  refine Eq.trans (b := zWp d zi_47 none 1 [.ref 76] [.ref 76] (zqs 77 19 75) Q) (zr_aload_n rfl rfl) ?_
  refine Eq.trans (b := zWp d zi_47 none 4 [.ref 76] [] (zqs 77 19 75) Q) (zc_spe0 rfl lm_6_1 rfl) ?_
  refine Eq.trans (b := zWp d zi_47 none 5 [.ref 76] [.ref 76] (zqs 77 19 75) Q) (zr_aload_n rfl rfl) ?_
  refine Eq.trans (b := zWp d zi_47 none 7 [.ref 76] [.int 60, .ref 76] (zqs 77 19 75) Q) (zr_bipush rfl (by decide)) ?_
  refine Eq.trans (b := zWp d zi_47 none 9 [.ref 76] [.ref 77, .ref 76] (zqs 78 19 75) Q) (zc_newJ rfl (by decide) rfl rfl rfl) ?_
  refine Eq.trans (b := zWp d zi_47 none 12 [.ref 76] [] (zqs 78 19 76) Q) (zc_putQ rfl lf_6_9 rfl rfl rfl rfl rfl) ?_
  refine Eq.trans (b := zWp d zi_47 none 13 [.ref 76] [.ref 76] (zqs 78 19 76) Q) (zr_aload_n rfl rfl) ?_
  refine Eq.trans (b := zWp d zi_47 none 15 [.ref 76] [.int (-2), .ref 76] (zqs 78 19 76) Q) (zr_bipush rfl (by decide)) ?_
  refine Eq.trans (b := zWp d zi_47 none 18 [.ref 76] [] (zqs 78 20 76) Q) (zc_putI rfl lf_6_13 rfl rfl rfl rfl rfl) ?_
  refine Eq.trans (b := zWp d zi_47 none 19 [.ref 76] [.ref 76] (zqs 78 20 76) Q) (zr_aload_n rfl rfl) ?_
  refine Eq.trans (b := zWp d zi_47 none 20 [.ref 76] [.int (-1), .ref 76] (zqs 78 20 76) Q) (zr_iconst rfl (by decide)) ?_
  refine Eq.trans (b := zWp d zi_47 none 23 [.ref 76] [] (zqs 78 21 76) Q) (zc_putI rfl lf_6_17 rfl rfl rfl rfl rfl) ?_
  exact zr_vret rfl rfl
theorem i_18 (d : Nat) (Q : Option Value → zMm → Prop) : zWM (d + 1) 47 [.ref 78] (zqs 79 21 77) Q = Q none (zqs 80 23 78) := by
  refine (zW_M m_47 (Nat.le_of_ble_eq_true rfl) rfl).trans ?_
  show zWp d zi_47 none 0 [.ref 78] [] (zqs 79 21 77) Q = _
  refine Eq.trans (b := zWp d zi_47 none 1 [.ref 78] [.ref 78] (zqs 79 21 77) Q) (zr_aload_n rfl rfl) ?_
  refine Eq.trans (b := zWp d zi_47 none 4 [.ref 78] [] (zqs 79 21 77) Q) (zc_spe0 rfl lm_6_1 rfl) ?_
  refine Eq.trans (b := zWp d zi_47 none 5 [.ref 78] [.ref 78] (zqs 79 21 77) Q) (zr_aload_n rfl rfl) ?_
  refine Eq.trans (b := zWp d zi_47 none 7 [.ref 78] [.int 60, .ref 78] (zqs 79 21 77) Q) (zr_bipush rfl (by decide)) ?_
  refine Eq.trans (b := zWp d zi_47 none 9 [.ref 78] [.ref 79, .ref 78] (zqs 80 21 77) Q) (zc_newJ rfl (by decide) rfl rfl rfl) ?_
  refine Eq.trans (b := zWp d zi_47 none 12 [.ref 78] [] (zqs 80 21 78) Q) (zc_putQ rfl lf_6_9 rfl rfl rfl rfl rfl) ?_
  refine Eq.trans (b := zWp d zi_47 none 13 [.ref 78] [.ref 78] (zqs 80 21 78) Q) (zr_aload_n rfl rfl) ?_
  refine Eq.trans (b := zWp d zi_47 none 15 [.ref 78] [.int (-2), .ref 78] (zqs 80 21 78) Q) (zr_bipush rfl (by decide)) ?_
  refine Eq.trans (b := zWp d zi_47 none 18 [.ref 78] [] (zqs 80 22 78) Q) (zc_putI rfl lf_6_13 rfl rfl rfl rfl rfl) ?_
  refine Eq.trans (b := zWp d zi_47 none 19 [.ref 78] [.ref 78] (zqs 80 22 78) Q) (zr_aload_n rfl rfl) ?_
  refine Eq.trans (b := zWp d zi_47 none 20 [.ref 78] [.int (-1), .ref 78] (zqs 80 22 78) Q) (zr_iconst rfl (by decide)) ?_
  refine Eq.trans (b := zWp d zi_47 none 23 [.ref 78] [] (zqs 80 23 78) Q) (zc_putI rfl lf_6_17 rfl rfl rfl rfl rfl) ?_
  exact zr_vret rfl rfl
theorem i_19 (d : Nat) (Q : Option Value → zMm → Prop) : zWM (d + 3) 72 [.ref 0] (zqs 1 0 0) Q = Q none (zqs 80 23 79) := by
  refine (zW_M m_72 (Nat.le_of_ble_eq_true rfl) rfl).trans ?_
  show zWp (d + 2) zi_72 none 0 [.ref 0, .retAddr 0] [] (zqs 1 0 0) Q = _
  refine Eq.trans (b := zWp (d + 2) zi_72 none 1 [.ref 0, .retAddr 0] [.ref 0] (zqs 1 0 0) Q) (zr_aload_n rfl rfl) ?_
  refine Eq.trans (b := zWp (d + 2) zi_72 none 4 [.ref 0, .retAddr 0] [] (zqs 1 0 0) Q) (zc_spe0 rfl lm_9_1 rfl) ?_
  refine Eq.trans (b := zWp (d + 2) zi_72 none 5 [.ref 0, .retAddr 0] [.ref 0] (zqs 1 0 0) Q) (zr_aload_n rfl rfl) ?_
  refine Eq.trans (b := zWp (d + 2) zi_72 none 8 [.ref 0, .retAddr 0] [.ref 1, .ref 0] (zqs 2 0 0) Q) (zc_new rfl rfl rfl rfl rfl) ?_
  refine Eq.trans (b := zWp (d + 2) zi_72 none 9 [.ref 0, .retAddr 0] [.ref 1, .ref 1, .ref 0] (zqs 2 0 0) Q) (zr_dup rfl rfl) ?_
  refine (zc_spe (rest := [.ref 1, .ref 0]) rfl lm_9_9 m_57 kd_57 rfl rfl).trans ?_
  refine (i_0 _ _).trans ?_
  show zWp (d + 2) zi_72 none 12 [.ref 0, .retAddr 0] [.ref 1, .ref 0] (zqs 14 0 12) Q = _
  refine Eq.trans (b := zWp (d + 2) zi_72 none 15 [.ref 0, .retAddr 0] [] (zqs 14 0 13) Q) (zc_putQ rfl lf_9_10 rfl rfl rfl rfl rfl) ?_
  refine Eq.trans (b := zWp (d + 2) zi_72 none 16 [.ref 0, .retAddr 0] [.ref 0] (zqs 14 0 13) Q) (zr_aload_n rfl rfl) ?_
  refine Eq.trans (b := zWp (d + 2) zi_72 none 19 [.ref 0, .retAddr 0] [.ref 14, .ref 0] (zqs 15 0 13) Q) (zc_new rfl rfl rfl rfl rfl) ?_
  refine Eq.trans (b := zWp (d + 2) zi_72 none 20 [.ref 0, .retAddr 0] [.ref 14, .ref 14, .ref 0] (zqs 15 0 13) Q) (zr_dup rfl rfl) ?_
  refine (zc_spe (rest := [.ref 14, .ref 0]) rfl lm_9_9 m_57 kd_57 rfl rfl).trans ?_
  refine (i_1 _ _).trans ?_
  show zWp (d + 2) zi_72 none 23 [.ref 0, .retAddr 0] [.ref 14, .ref 0] (zqs 27 0 25) Q = _
  refine Eq.trans (b := zWp (d + 2) zi_72 none 26 [.ref 0, .retAddr 0] [] (zqs 27 0 26) Q) (zc_putQ rfl lf_9_16 rfl rfl rfl rfl rfl) ?_
  refine Eq.trans (b := zWp (d + 2) zi_72 none 27 [.ref 0, .retAddr 0] [.ref 0] (zqs 27 0 26) Q) (zr_aload_n rfl rfl) ?_
  refine Eq.trans (b := zWp (d + 2) zi_72 none 30 [.ref 0, .retAddr 0] [.ref 27, .ref 0] (zqs 28 0 26) Q) (zc_new rfl rfl rfl rfl rfl) ?_
  refine Eq.trans (b := zWp (d + 2) zi_72 none 31 [.ref 0, .retAddr 0] [.ref 27, .ref 27, .ref 0] (zqs 28 0 26) Q) (zr_dup rfl rfl) ?_
  refine (zc_spe (rest := [.ref 27, .ref 0]) rfl lm_9_21 m_21 kd_21 rfl rfl).trans ?_
  refine (i_2 _ _).trans ?_
  show zWp (d + 2) zi_72 none 34 [.ref 0, .retAddr 0] [.ref 27, .ref 0] (zqs 31 1 29) Q = _
  refine Eq.trans (b := zWp (d + 2) zi_72 none 37 [.ref 0, .retAddr 0] [] (zqs 31 1 30) Q) (zc_putQ rfl lf_9_22 rfl rfl rfl rfl rfl) ?_
  refine Eq.trans (b := zWp (d + 2) zi_72 none 38 [.ref 0, .retAddr 0] [.ref 0] (zqs 31 1 30) Q) (zr_aload_n rfl rfl) ?_
  refine Eq.trans (b := zWp (d + 2) zi_72 none 41 [.ref 0, .retAddr 0] [.ref 31, .ref 0] (zqs 32 1 30) Q) (zc_new rfl rfl rfl rfl rfl) ?_
  refine Eq.trans (b := zWp (d + 2) zi_72 none 42 [.ref 0, .retAddr 0] [.ref 31, .ref 31, .ref 0] (zqs 32 1 30) Q) (zr_dup rfl rfl) ?_
  refine (zc_spe (rest := [.ref 31, .ref 0]) rfl lm_9_28 m_32 kd_32 rfl rfl).trans ?_
  refine (i_3 _ _).trans ?_
  show zWp (d + 2) zi_72 none 45 [.ref 0, .retAddr 0] [.ref 31, .ref 0] (zqs 33 1 31) Q = _
  refine Eq.trans (b := zWp (d + 2) zi_72 none 48 [.ref 0, .retAddr 0] [] (zqs 33 1 32) Q) (zc_putQ rfl lf_9_29 rfl rfl rfl rfl rfl) ?_
  refine Eq.trans (b := zWp (d + 2) zi_72 none 49 [.ref 0, .retAddr 0] [.ref 0] (zqs 33 1 32) Q) (zr_aload_n rfl rfl) ?_
  refine Eq.trans (b := zWp (d + 2) zi_72 none 52 [.ref 0, .retAddr 0] [.ref 33, .ref 0] (zqs 34 1 32) Q) (zc_new rfl rfl rfl rfl rfl) ?_
  refine Eq.trans (b := zWp (d + 2) zi_72 none 53 [.ref 0, .retAddr 0] [.ref 33, .ref 33, .ref 0] (zqs 34 1 32) Q) (zr_dup rfl rfl) ?_
  refine (zc_spe (rest := [.ref 33, .ref 0]) rfl lm_9_35 m_12 kd_12 rfl rfl).trans ?_
  refine (i_5 _ _).trans ?_
  show zWp (d + 2) zi_72 none 56 [.ref 0, .retAddr 0] [.ref 33, .ref 0] (zqs 51 1 49) Q = _
  refine Eq.trans (b := zWp (d + 2) zi_72 none 59 [.ref 0, .retAddr 0] [] (zqs 51 1 50) Q) (zc_putQ rfl lf_9_36 rfl rfl rfl rfl rfl) ?_
  refine Eq.trans (b := zWp (d + 2) zi_72 none 60 [.ref 0, .retAddr 0] [.ref 0] (zqs 51 1 50) Q) (zr_aload_n rfl rfl) ?_
  refine Eq.trans (b := zWp (d + 2) zi_72 none 63 [.ref 0, .retAddr 0] [.ref 51, .ref 0] (zqs 52 1 50) Q) (zc_new rfl rfl rfl rfl rfl) ?_
  refine Eq.trans (b := zWp (d + 2) zi_72 none 64 [.ref 0, .retAddr 0] [.ref 51, .ref 51, .ref 0] (zqs 52 1 50) Q) (zr_dup rfl rfl) ?_
  refine (zc_spe (rest := [.ref 51, .ref 0]) rfl lm_9_42 m_52 kd_52 rfl rfl).trans ?_
  refine (i_6 _ _).trans ?_
  show zWp (d + 2) zi_72 none 67 [.ref 0, .retAddr 0] [.ref 51, .ref 0] (zqs 52 4 50) Q = _
  refine Eq.trans (b := zWp (d + 2) zi_72 none 70 [.ref 0, .retAddr 0] [] (zqs 52 4 51) Q) (zc_putQ rfl lf_9_43 rfl rfl rfl rfl rfl) ?_
  refine Eq.trans (b := zWp (d + 2) zi_72 none 71 [.ref 0, .retAddr 0] [.ref 0] (zqs 52 4 51) Q) (zr_aload_n rfl rfl) ?_
  refine Eq.trans (b := zWp (d + 2) zi_72 none 74 [.ref 0, .retAddr 0] [.ref 52, .ref 0] (zqs 53 4 51) Q) (zc_new rfl rfl rfl rfl rfl) ?_
  refine Eq.trans (b := zWp (d + 2) zi_72 none 75 [.ref 0, .retAddr 0] [.ref 52, .ref 52, .ref 0] (zqs 53 4 51) Q) (zr_dup rfl rfl) ?_
  refine (zc_spe (rest := [.ref 52, .ref 0]) rfl lm_9_42 m_52 kd_52 rfl rfl).trans ?_
  refine (i_7 _ _).trans ?_
  show zWp (d + 2) zi_72 none 78 [.ref 0, .retAddr 0] [.ref 52, .ref 0] (zqs 53 7 51) Q = _
  refine Eq.trans (b := zWp (d + 2) zi_72 none 81 [.ref 0, .retAddr 0] [] (zqs 53 7 52) Q) (zc_putQ rfl lf_9_47 rfl rfl rfl rfl rfl) ?_
  refine Eq.trans (b := zWp (d + 2) zi_72 none 82 [.ref 0, .retAddr 0] [.ref 0] (zqs 53 7 52) Q) (zr_aload_n rfl rfl) ?_
  refine Eq.trans (b := zWp (d + 2) zi_72 none 85 [.ref 0, .retAddr 0] [.ref 53, .ref 0] (zqs 54 7 52) Q) (zc_new rfl rfl rfl rfl rfl) ?_
  refine Eq.trans (b := zWp (d + 2) zi_72 none 86 [.ref 0, .retAddr 0] [.ref 53, .ref 53, .ref 0] (zqs 54 7 52) Q) (zr_dup rfl rfl) ?_
  refine (zc_spe (rest := [.ref 53, .ref 0]) rfl lm_9_42 m_52 kd_52 rfl rfl).trans ?_
  refine (i_8 _ _).trans ?_
  show zWp (d + 2) zi_72 none 89 [.ref 0, .retAddr 0] [.ref 53, .ref 0] (zqs 54 10 52) Q = _
  refine Eq.trans (b := zWp (d + 2) zi_72 none 92 [.ref 0, .retAddr 0] [] (zqs 54 10 53) Q) (zc_putQ rfl lf_9_50 rfl rfl rfl rfl rfl) ?_
  refine Eq.trans (b := zWp (d + 2) zi_72 none 93 [.ref 0, .retAddr 0] [.ref 0] (zqs 54 10 53) Q) (zr_aload_n rfl rfl) ?_
  refine Eq.trans (b := zWp (d + 2) zi_72 none 96 [.ref 0, .retAddr 0] [.ref 54, .ref 0] (zqs 55 10 53) Q) (zc_new rfl rfl rfl rfl rfl) ?_
  refine Eq.trans (b := zWp (d + 2) zi_72 none 97 [.ref 0, .retAddr 0] [.ref 54, .ref 54, .ref 0] (zqs 55 10 53) Q) (zr_dup rfl rfl) ?_
  refine (zc_spe (rest := [.ref 54, .ref 0]) rfl lm_9_55 m_6 kd_6 rfl rfl).trans ?_
  refine (i_9 _ _).trans ?_
  show zWp (d + 2) zi_72 none 100 [.ref 0, .retAddr 0] [.ref 54, .ref 0] (zqs 56 10 54) Q = _
  refine Eq.trans (b := zWp (d + 2) zi_72 none 103 [.ref 0, .retAddr 0] [] (zqs 56 10 55) Q) (zc_putQ rfl lf_9_56 rfl rfl rfl rfl rfl) ?_
  refine Eq.trans (b := zWp (d + 2) zi_72 none 104 [.ref 0, .retAddr 0] [.ref 0] (zqs 56 10 55) Q) (zr_aload_n rfl rfl) ?_
  refine Eq.trans (b := zWp (d + 2) zi_72 none 107 [.ref 0, .retAddr 0] [.ref 56, .ref 0] (zqs 57 10 55) Q) (zc_new rfl rfl rfl rfl rfl) ?_
  refine Eq.trans (b := zWp (d + 2) zi_72 none 108 [.ref 0, .retAddr 0] [.ref 56, .ref 56, .ref 0] (zqs 57 10 55) Q) (zr_dup rfl rfl) ?_
  refine (zc_spe (rest := [.ref 56, .ref 0]) rfl lm_9_62 m_0 kd_0 rfl rfl).trans ?_
  refine (i_10 _ _).trans ?_
  show zWp (d + 2) zi_72 none 111 [.ref 0, .retAddr 0] [.ref 56, .ref 0] (zqs 59 10 57) Q = _
  refine Eq.trans (b := zWp (d + 2) zi_72 none 114 [.ref 0, .retAddr 0] [] (zqs 59 10 58) Q) (zc_putQ rfl lf_9_63 rfl rfl rfl rfl rfl) ?_
  refine Eq.trans (b := zWp (d + 2) zi_72 none 115 [.ref 0, .retAddr 0] [.ref 0] (zqs 59 10 58) Q) (zr_aload_n rfl rfl) ?_
  refine Eq.trans (b := zWp (d + 2) zi_72 none 117 [.ref 0, .retAddr 0] [.int 6, .ref 0] (zqs 59 10 58) Q) (zr_bipush rfl (by decide)) ?_
  refine Eq.trans (b := zWp (d + 2) zi_72 none 120 [.ref 0, .retAddr 0] [.ref 59, .ref 0] (zqs 60 10 58) Q) (zc_newq rfl rfl (by decide) rfl rfl rfl) ?_
  refine Eq.trans (b := zWp (d + 2) zi_72 none 123 [.ref 0, .retAddr 0] [] (zqs 60 10 59) Q) (zc_putQ rfl lf_9_69 rfl rfl rfl rfl rfl) ?_
  refine Eq.trans (b := zWp (d + 2) zi_72 none 124 [.ref 0, .retAddr 0] [.ref 0] (zqs 60 10 59) Q) (zr_aload_n rfl rfl) ?_
  refine Eq.trans (b := zWp (d + 2) zi_72 none 127 [.ref 0, .retAddr 0] [.ref 60, .ref 0] (zqs 61 10 59) Q) (zc_new rfl rfl rfl rfl rfl) ?_
  refine Eq.trans (b := zWp (d + 2) zi_72 none 128 [.ref 0, .retAddr 0] [.ref 60, .ref 60, .ref 0] (zqs 61 10 59) Q) (zr_dup rfl rfl) ?_
  refine (zc_spe (rest := [.ref 60, .ref 0]) rfl lm_9_75 m_42 kd_42 rfl rfl).trans ?_
  refine (i_11 _ _).trans ?_
  show zWp (d + 2) zi_72 none 131 [.ref 0, .retAddr 0] [.ref 60, .ref 0] (zqs 64 10 62) Q = _
  refine Eq.trans (b := zWp (d + 2) zi_72 none 134 [.ref 0, .retAddr 0] [] (zqs 64 10 63) Q) (zc_putQ rfl lf_9_76 rfl rfl rfl rfl rfl) ?_
  refine Eq.trans (b := zWp (d + 2) zi_72 none 135 [.ref 0, .retAddr 0] [.ref 0] (zqs 64 10 63) Q) (zr_aload_n rfl rfl) ?_
  refine Eq.trans (b := zWp (d + 2) zi_72 none 138 [.ref 0, .retAddr 0] [.ref 64, .ref 0] (zqs 65 10 63) Q) (zc_new rfl rfl rfl rfl rfl) ?_
  refine Eq.trans (b := zWp (d + 2) zi_72 none 139 [.ref 0, .retAddr 0] [.ref 64, .ref 64, .ref 0] (zqs 65 10 63) Q) (zr_dup rfl rfl) ?_
  refine (zc_spe (rest := [.ref 64, .ref 0]) rfl lm_9_75 m_42 kd_42 rfl rfl).trans ?_
  refine (i_12 _ _).trans ?_
  show zWp (d + 2) zi_72 none 142 [.ref 0, .retAddr 0] [.ref 64, .ref 0] (zqs 68 10 66) Q = _
  refine Eq.trans (b := zWp (d + 2) zi_72 none 145 [.ref 0, .retAddr 0] [] (zqs 68 10 67) Q) (zc_putQ rfl lf_9_80 rfl rfl rfl rfl rfl) ?_
  refine Eq.trans (b := zWp (d + 2) zi_72 none 146 [.ref 0, .retAddr 0] [.ref 0] (zqs 68 10 67) Q) (zr_aload_n rfl rfl) ?_
  refine Eq.trans (b := zWp (d + 2) zi_72 none 147 [.ref 0, .retAddr 0] [.int 3, .ref 0] (zqs 68 10 67) Q) (zr_iconst rfl (by decide)) ?_
  refine Eq.trans (b := zWp (d + 2) zi_72 none 150 [.ref 0, .retAddr 0] [] (zqs 68 11 67) Q) (zc_putI rfl lf_9_83 rfl rfl rfl rfl rfl) ?_
  refine Eq.trans (b := zWp (d + 2) zi_72 none 151 [.ref 0, .retAddr 0] [.int 0] (zqs 68 11 67) Q) (zr_iconst rfl (by decide)) ?_
  refine Eq.trans (b := zWp (d + 2) zi_72 none 152 [.ref 0, .int 0] [] (zqs 68 11 67) Q) (zr_istore_n (n := 1) rfl (Nat.le_of_ble_eq_true rfl) rfl) ?_
  refine Eq.trans (b := zWp (d + 2) zi_72 none 153 [.ref 0, .int 0] [.int 0] (zqs 68 11 67) Q) (zr_iload_n rfl rfl) ?_
  refine Eq.trans (b := zWp (d + 2) zi_72 none 155 [.ref 0, .int 0] [.int 6, .int 0] (zqs 68 11 67) Q) (zr_bipush rfl (by decide)) ?_
  refine Eq.trans (b := zWp (d + 2) zi_72 none 158 [.ref 0, .int 0] [] (zqs 68 11 67) Q) ((zr_ic_ge (tgt := 177) rfl (by decide)).trans (if_neg (by decide))) ?_
  refine Eq.trans (b := zWp (d + 2) zi_72 none 159 [.ref 0, .int 0] [.ref 0] (zqs 68 11 67) Q) (zr_aload_n rfl rfl) ?_
  refine Eq.trans (b := zWp (d + 2) zi_72 none 162 [.ref 0, .int 0] [.ref 59] (zqs 68 11 67) Q) (zc_getQ rfl lf_9_69 (fun _ _ _ => rfl) rfl rfl) ?_
  refine Eq.trans (b := zWp (d + 2) zi_72 none 163 [.ref 0, .int 0] [.int 0, .ref 59] (zqs 68 11 67) Q) (zr_iload_n rfl rfl) ?_
  refine Eq.trans (b := zWp (d + 2) zi_72 none 166 [.ref 0, .int 0] [.ref 68, .int 0, .ref 59] (zqs 69 11 67) Q) (zc_new rfl rfl rfl rfl rfl) ?_
  refine Eq.trans (b := zWp (d + 2) zi_72 none 167 [.ref 0, .int 0] [.ref 68, .ref 68, .int 0, .ref 59] (zqs 69 11 67) Q) (zr_dup rfl rfl) ?_
  refine (zc_spe (rest := [.ref 68, .int 0, .ref 59]) rfl lm_9_87 m_47 kd_47 rfl rfl).trans ?_
  refine (i_13 _ _).trans ?_
  show zWp (d + 2) zi_72 none 170 [.ref 0, .int 0] [.ref 68, .int 0, .ref 59] (zqs 70 13 68) Q = _
  refine Eq.trans (b := zWp (d + 2) zi_72 none 171 [.ref 0, .int 0] [] (zqs 70 13 69) Q) (zc_qst rfl rfl rfl (by decide) rfl (by decide) rfl rfl) ?_
  refine Eq.trans (b := zWp (d + 2) zi_72 none 174 [.ref 0, .int 1] [] (zqs 70 13 69) Q) (zc_iinc (n := 1) (kc := 1) rfl rfl (Nat.le_of_ble_eq_true rfl) rfl (by decide)) ?_
  refine Eq.trans (b := zWp (d + 2) zi_72 none 152 [.ref 0, .int 1] [] (zqs 70 13 69) Q) (zr_goto rfl (by decide)) ?_
  refine Eq.trans (b := zWp (d + 2) zi_72 none 153 [.ref 0, .int 1] [.int 1] (zqs 70 13 69) Q) (zr_iload_n rfl rfl) ?_
  refine Eq.trans (b := zWp (d + 2) zi_72 none 155 [.ref 0, .int 1] [.int 6, .int 1] (zqs 70 13 69) Q) (zr_bipush rfl (by decide)) ?_
  refine Eq.trans (b := zWp (d + 2) zi_72 none 158 [.ref 0, .int 1] [] (zqs 70 13 69) Q) ((zr_ic_ge (tgt := 177) rfl (by decide)).trans (if_neg (by decide))) ?_
  refine Eq.trans (b := zWp (d + 2) zi_72 none 159 [.ref 0, .int 1] [.ref 0] (zqs 70 13 69) Q) (zr_aload_n rfl rfl) ?_
  refine Eq.trans (b := zWp (d + 2) zi_72 none 162 [.ref 0, .int 1] [.ref 59] (zqs 70 13 69) Q) (zc_getQ rfl lf_9_69 (fun _ _ _ => rfl) rfl rfl) ?_
  refine Eq.trans (b := zWp (d + 2) zi_72 none 163 [.ref 0, .int 1] [.int 1, .ref 59] (zqs 70 13 69) Q) (zr_iload_n rfl rfl) ?_
  refine Eq.trans (b := zWp (d + 2) zi_72 none 166 [.ref 0, .int 1] [.ref 70, .int 1, .ref 59] (zqs 71 13 69) Q) (zc_new rfl rfl rfl rfl rfl) ?_
  refine Eq.trans (b := zWp (d + 2) zi_72 none 167 [.ref 0, .int 1] [.ref 70, .ref 70, .int 1, .ref 59] (zqs 71 13 69) Q) (zr_dup rfl rfl) ?_
  refine (zc_spe (rest := [.ref 70, .int 1, .ref 59]) rfl lm_9_87 m_47 kd_47 rfl rfl).trans ?_
  refine (i_14 _ _).trans ?_
  show zWp (d + 2) zi_72 none 170 [.ref 0, .int 1] [.ref 70, .int 1, .ref 59] (zqs 72 15 70) Q = _
  refine Eq.trans (b := zWp (d + 2) zi_72 none 171 [.ref 0, .int 1] [] (zqs 72 15 71) Q) (zc_qst rfl rfl rfl (by decide) rfl (by decide) rfl rfl) ?_
  refine Eq.trans (b := zWp (d + 2) zi_72 none 174 [.ref 0, .int 2] [] (zqs 72 15 71) Q) (zc_iinc (n := 1) (kc := 1) rfl rfl (Nat.le_of_ble_eq_true rfl) rfl (by decide)) ?_
  refine Eq.trans (b := zWp (d + 2) zi_72 none 152 [.ref 0, .int 2] [] (zqs 72 15 71) Q) (zr_goto rfl (by decide)) ?_
  refine Eq.trans (b := zWp (d + 2) zi_72 none 153 [.ref 0, .int 2] [.int 2] (zqs 72 15 71) Q) (zr_iload_n rfl rfl) ?_
  refine Eq.trans (b := zWp (d + 2) zi_72 none 155 [.ref 0, .int 2] [.int 6, .int 2] (zqs 72 15 71) Q) (zr_bipush rfl (by decide)) ?_
  refine Eq.trans (b := zWp (d + 2) zi_72 none 158 [.ref 0, .int 2] [] (zqs 72 15 71) Q) ((zr_ic_ge (tgt := 177) rfl (by decide)).trans (if_neg (by decide))) ?_
  refine Eq.trans (b := zWp (d + 2) zi_72 none 159 [.ref 0, .int 2] [.ref 0] (zqs 72 15 71) Q) (zr_aload_n rfl rfl) ?_
  refine Eq.trans (b := zWp (d + 2) zi_72 none 162 [.ref 0, .int 2] [.ref 59] (zqs 72 15 71) Q) (zc_getQ rfl lf_9_69 (fun _ _ _ => rfl) rfl rfl) ?_
  refine Eq.trans (b := zWp (d + 2) zi_72 none 163 [.ref 0, .int 2] [.int 2, .ref 59] (zqs 72 15 71) Q) (zr_iload_n rfl rfl) ?_
  refine Eq.trans (b := zWp (d + 2) zi_72 none 166 [.ref 0, .int 2] [.ref 72, .int 2, .ref 59] (zqs 73 15 71) Q) (zc_new rfl rfl rfl rfl rfl) ?_
  refine Eq.trans (b := zWp (d + 2) zi_72 none 167 [.ref 0, .int 2] [.ref 72, .ref 72, .int 2, .ref 59] (zqs 73 15 71) Q) (zr_dup rfl rfl) ?_
  refine (zc_spe (rest := [.ref 72, .int 2, .ref 59]) rfl lm_9_87 m_47 kd_47 rfl rfl).trans ?_
  refine (i_15 _ _).trans ?_
  show zWp (d + 2) zi_72 none 170 [.ref 0, .int 2] [.ref 72, .int 2, .ref 59] (zqs 74 17 72) Q = _
  refine Eq.trans (b := zWp (d + 2) zi_72 none 171 [.ref 0, .int 2] [] (zqs 74 17 73) Q) (zc_qst rfl rfl rfl (by decide) rfl (by decide) rfl rfl) ?_
  refine Eq.trans (b := zWp (d + 2) zi_72 none 174 [.ref 0, .int 3] [] (zqs 74 17 73) Q) (zc_iinc (n := 1) (kc := 1) rfl rfl (Nat.le_of_ble_eq_true rfl) rfl (by decide)) ?_
  refine Eq.trans (b := zWp (d + 2) zi_72 none 152 [.ref 0, .int 3] [] (zqs 74 17 73) Q) (zr_goto rfl (by decide)) ?_
  refine Eq.trans (b := zWp (d + 2) zi_72 none 153 [.ref 0, .int 3] [.int 3] (zqs 74 17 73) Q) (zr_iload_n rfl rfl) ?_
  refine Eq.trans (b := zWp (d + 2) zi_72 none 155 [.ref 0, .int 3] [.int 6, .int 3] (zqs 74 17 73) Q) (zr_bipush rfl (by decide)) ?_
  refine Eq.trans (b := zWp (d + 2) zi_72 none 158 [.ref 0, .int 3] [] (zqs 74 17 73) Q) ((zr_ic_ge (tgt := 177) rfl (by decide)).trans (if_neg (by decide))) ?_
  refine Eq.trans (b := zWp (d + 2) zi_72 none 159 [.ref 0, .int 3] [.ref 0] (zqs 74 17 73) Q) (zr_aload_n rfl rfl) ?_
  refine Eq.trans (b := zWp (d + 2) zi_72 none 162 [.ref 0, .int 3] [.ref 59] (zqs 74 17 73) Q) (zc_getQ rfl lf_9_69 (fun _ _ _ => rfl) rfl rfl) ?_
  refine Eq.trans (b := zWp (d + 2) zi_72 none 163 [.ref 0, .int 3] [.int 3, .ref 59] (zqs 74 17 73) Q) (zr_iload_n rfl rfl) ?_
  refine Eq.trans (b := zWp (d + 2) zi_72 none 166 [.ref 0, .int 3] [.ref 74, .int 3, .ref 59] (zqs 75 17 73) Q) (zc_new rfl rfl rfl rfl rfl) ?_
  refine Eq.trans (b := zWp (d + 2) zi_72 none 167 [.ref 0, .int 3] [.ref 74, .ref 74, .int 3, .ref 59] (zqs 75 17 73) Q) (zr_dup rfl rfl) ?_
  refine (zc_spe (rest := [.ref 74, .int 3, .ref 59]) rfl lm_9_87 m_47 kd_47 rfl rfl).trans ?_
  refine (i_16 _ _).trans ?_
  show zWp (d + 2) zi_72 none 170 [.ref 0, .int 3] [.ref 74, .int 3, .ref 59] (zqs 76 19 74) Q = _
  refine Eq.trans (b := zWp (d + 2) zi_72 none 171 [.ref 0, .int 3] [] (zqs 76 19 75) Q) (zc_qst rfl rfl rfl (by decide) rfl (by decide) rfl rfl) ?_
  refine Eq.trans (b := zWp (d + 2) zi_72 none 174 [.ref 0, .int 4] [] (zqs 76 19 75) Q) (zc_iinc (n := 1) (kc := 1) rfl rfl (Nat.le_of_ble_eq_true rfl) rfl (by decide)) ?_
  refine Eq.trans (b := zWp (d + 2) zi_72 none 152 [.ref 0, .int 4] [] (zqs 76 19 75) Q) (zr_goto rfl (by decide)) ?_
  refine Eq.trans (b := zWp (d + 2) zi_72 none 153 [.ref 0, .int 4] [.int 4] (zqs 76 19 75) Q) (zr_iload_n rfl rfl) ?_
  refine Eq.trans (b := zWp (d + 2) zi_72 none 155 [.ref 0, .int 4] [.int 6, .int 4] (zqs 76 19 75) Q) (zr_bipush rfl (by decide)) ?_
  refine Eq.trans (b := zWp (d + 2) zi_72 none 158 [.ref 0, .int 4] [] (zqs 76 19 75) Q) ((zr_ic_ge (tgt := 177) rfl (by decide)).trans (if_neg (by decide))) ?_
  refine Eq.trans (b := zWp (d + 2) zi_72 none 159 [.ref 0, .int 4] [.ref 0] (zqs 76 19 75) Q) (zr_aload_n rfl rfl) ?_
  refine Eq.trans (b := zWp (d + 2) zi_72 none 162 [.ref 0, .int 4] [.ref 59] (zqs 76 19 75) Q) (zc_getQ rfl lf_9_69 (fun _ _ _ => rfl) rfl rfl) ?_
  refine Eq.trans (b := zWp (d + 2) zi_72 none 163 [.ref 0, .int 4] [.int 4, .ref 59] (zqs 76 19 75) Q) (zr_iload_n rfl rfl) ?_
  refine Eq.trans (b := zWp (d + 2) zi_72 none 166 [.ref 0, .int 4] [.ref 76, .int 4, .ref 59] (zqs 77 19 75) Q) (zc_new rfl rfl rfl rfl rfl) ?_
  refine Eq.trans (b := zWp (d + 2) zi_72 none 167 [.ref 0, .int 4] [.ref 76, .ref 76, .int 4, .ref 59] (zqs 77 19 75) Q) (zr_dup rfl rfl) ?_
  refine (zc_spe (rest := [.ref 76, .int 4, .ref 59]) rfl lm_9_87 m_47 kd_47 rfl rfl).trans ?_
  refine (i_17 _ _).trans ?_
  show zWp (d + 2) zi_72 none 170 [.ref 0, .int 4] [.ref 76, .int 4, .ref 59] (zqs 78 21 76) Q = _
  refine Eq.trans (b := zWp (d + 2) zi_72 none 171 [.ref 0, .int 4] [] (zqs 78 21 77) Q) (zc_qst rfl rfl rfl (by decide) rfl (by decide) rfl rfl) ?_
  refine Eq.trans (b := zWp (d + 2) zi_72 none 174 [.ref 0, .int 5] [] (zqs 78 21 77) Q) (zc_iinc (n := 1) (kc := 1) rfl rfl (Nat.le_of_ble_eq_true rfl) rfl (by decide)) ?_
  refine Eq.trans (b := zWp (d + 2) zi_72 none 152 [.ref 0, .int 5] [] (zqs 78 21 77) Q) (zr_goto rfl (by decide)) ?_
  refine Eq.trans (b := zWp (d + 2) zi_72 none 153 [.ref 0, .int 5] [.int 5] (zqs 78 21 77) Q) (zr_iload_n rfl rfl) ?_
  refine Eq.trans (b := zWp (d + 2) zi_72 none 155 [.ref 0, .int 5] [.int 6, .int 5] (zqs 78 21 77) Q) (zr_bipush rfl (by decide)) ?_
  refine Eq.trans (b := zWp (d + 2) zi_72 none 158 [.ref 0, .int 5] [] (zqs 78 21 77) Q) ((zr_ic_ge (tgt := 177) rfl (by decide)).trans (if_neg (by decide))) ?_
  refine Eq.trans (b := zWp (d + 2) zi_72 none 159 [.ref 0, .int 5] [.ref 0] (zqs 78 21 77) Q) (zr_aload_n rfl rfl) ?_
  refine Eq.trans (b := zWp (d + 2) zi_72 none 162 [.ref 0, .int 5] [.ref 59] (zqs 78 21 77) Q) (zc_getQ rfl lf_9_69 (fun _ _ _ => rfl) rfl rfl) ?_
  refine Eq.trans (b := zWp (d + 2) zi_72 none 163 [.ref 0, .int 5] [.int 5, .ref 59] (zqs 78 21 77) Q) (zr_iload_n rfl rfl) ?_
  refine Eq.trans (b := zWp (d + 2) zi_72 none 166 [.ref 0, .int 5] [.ref 78, .int 5, .ref 59] (zqs 79 21 77) Q) (zc_new rfl rfl rfl rfl rfl) ?_
  refine Eq.trans (b := zWp (d + 2) zi_72 none 167 [.ref 0, .int 5] [.ref 78, .ref 78, .int 5, .ref 59] (zqs 79 21 77) Q) (zr_dup rfl rfl) ?_
  refine (zc_spe (rest := [.ref 78, .int 5, .ref 59]) rfl lm_9_87 m_47 kd_47 rfl rfl).trans ?_
  refine (i_18 _ _).trans ?_
  show zWp (d + 2) zi_72 none 170 [.ref 0, .int 5] [.ref 78, .int 5, .ref 59] (zqs 80 23 78) Q = _
  refine Eq.trans (b := zWp (d + 2) zi_72 none 171 [.ref 0, .int 5] [] (zqs 80 23 79) Q) (zc_qst rfl rfl rfl (by decide) rfl (by decide) rfl rfl) ?_
  refine Eq.trans (b := zWp (d + 2) zi_72 none 174 [.ref 0, .int 6] [] (zqs 80 23 79) Q) (zc_iinc (n := 1) (kc := 1) rfl rfl (Nat.le_of_ble_eq_true rfl) rfl (by decide)) ?_
  refine Eq.trans (b := zWp (d + 2) zi_72 none 152 [.ref 0, .int 6] [] (zqs 80 23 79) Q) (zr_goto rfl (by decide)) ?_
  refine Eq.trans (b := zWp (d + 2) zi_72 none 153 [.ref 0, .int 6] [.int 6] (zqs 80 23 79) Q) (zr_iload_n rfl rfl) ?_
  refine Eq.trans (b := zWp (d + 2) zi_72 none 155 [.ref 0, .int 6] [.int 6, .int 6] (zqs 80 23 79) Q) (zr_bipush rfl (by decide)) ?_
  refine Eq.trans (b := zWp (d + 2) zi_72 none 177 [.ref 0, .int 6] [] (zqs 80 23 79) Q) ((zr_ic_ge rfl (by decide)).trans (if_pos (by decide))) ?_
  exact zr_vret rfl rfl
theorem i_20 (d : Nat) (Q : Option Value → zMm → Prop) : zWM (d + 1) 124 [.ref 80] (zqs 81 23 79) Q = Q none (zqs 104 35 102) := by
  refine (zW_M m_124 (Nat.le_of_ble_eq_true rfl) rfl).trans ?_
  show zWp d zi_124 none 0 [.ref 80, .retAddr 0] [] (zqs 81 23 79) Q = _
  refine Eq.trans (b := zWp d zi_124 none 1 [.ref 80, .retAddr 0] [.ref 80] (zqs 81 23 79) Q) (zr_aload_n rfl rfl) ?_
  refine Eq.trans (b := zWp d zi_124 none 4 [.ref 80, .retAddr 0] [] (zqs 81 23 79) Q) (zc_spe0 rfl lm_10_3 rfl) ?_
  refine Eq.trans (b := zWp d zi_124 none 5 [.ref 80, .retAddr 0] [.ref 80] (zqs 81 23 79) Q) (zr_aload_n rfl rfl) ?_
  refine Eq.trans (b := zWp d zi_124 none 7 [.ref 80, .retAddr 0] [.int 84, .ref 80] (zqs 81 23 79) Q) (zr_bipush rfl (by decide)) ?_
  refine Eq.trans (b := zWp d zi_124 none 9 [.ref 80, .retAddr 0] [.ref 81, .ref 80] (zqs 82 23 79) Q) (zc_newI rfl (by decide) rfl rfl rfl) ?_
  refine Eq.trans (b := zWp d zi_124 none 12 [.ref 80, .retAddr 0] [] (zqs 82 23 80) Q) (zc_putQ rfl lf_10_9 rfl rfl rfl rfl rfl) ?_
  refine Eq.trans (b := zWp d zi_124 none 13 [.ref 80, .retAddr 0] [.ref 80] (zqs 82 23 80) Q) (zr_aload_n rfl rfl) ?_
  refine Eq.trans (b := zWp d zi_124 none 15 [.ref 80, .retAddr 0] [.int 40, .ref 80] (zqs 82 23 80) Q) (zr_bipush rfl (by decide)) ?_
  refine Eq.trans (b := zWp d zi_124 none 17 [.ref 80, .retAddr 0] [.ref 82, .ref 80] (zqs 83 23 80) Q) (zc_newI rfl (by decide) rfl rfl rfl) ?_
  refine Eq.trans (b := zWp d zi_124 none 20 [.ref 80, .retAddr 0] [] (zqs 83 23 81) Q) (zc_putQ rfl lf_10_13 rfl rfl rfl rfl rfl) ?_
  refine Eq.trans (b := zWp d zi_124 none 21 [.ref 80, .retAddr 0] [.ref 80] (zqs 83 23 81) Q) (zr_aload_n rfl rfl) ?_
  refine Eq.trans (b := zWp d zi_124 none 23 [.ref 80, .retAddr 0] [.int 40, .ref 80] (zqs 83 23 81) Q) (zr_bipush rfl (by decide)) ?_
  refine Eq.trans (b := zWp d zi_124 none 25 [.ref 80, .retAddr 0] [.ref 83, .ref 80] (zqs 84 23 81) Q) (zc_newI rfl (by decide) rfl rfl rfl) ?_
  refine Eq.trans (b := zWp d zi_124 none 28 [.ref 80, .retAddr 0] [] (zqs 84 23 82) Q) (zc_putQ rfl lf_10_16 rfl rfl rfl rfl rfl) ?_
  refine Eq.trans (b := zWp d zi_124 none 29 [.ref 80, .retAddr 0] [.ref 80] (zqs 84 23 82) Q) (zr_aload_n rfl rfl) ?_
  refine Eq.trans (b := zWp d zi_124 none 31 [.ref 80, .retAddr 0] [.int 40, .ref 80] (zqs 84 23 82) Q) (zr_bipush rfl (by decide)) ?_
  refine Eq.trans (b := zWp d zi_124 none 33 [.ref 80, .retAddr 0] [.ref 84, .ref 80] (zqs 85 23 82) Q) (zc_newI rfl (by decide) rfl rfl rfl) ?_
  refine Eq.trans (b := zWp d zi_124 none 36 [.ref 80, .retAddr 0] [] (zqs 85 23 83) Q) (zc_putQ rfl lf_10_19 rfl rfl rfl rfl rfl) ?_
  refine Eq.trans (b := zWp d zi_124 none 37 [.ref 80, .retAddr 0] [.ref 80] (zqs 85 23 83) Q) (zr_aload_n rfl rfl) ?_
  refine Eq.trans (b := zWp d zi_124 none 39 [.ref 80, .retAddr 0] [.int 24, .ref 80] (zqs 85 23 83) Q) (zr_bipush rfl (by decide)) ?_
  refine Eq.trans (b := zWp d zi_124 none 41 [.ref 80, .retAddr 0] [.ref 85, .ref 80] (zqs 86 23 83) Q) (zc_newI rfl (by decide) rfl rfl rfl) ?_
  refine Eq.trans (b := zWp d zi_124 none 44 [.ref 80, .retAddr 0] [] (zqs 86 23 84) Q) (zc_putQ rfl lf_10_22 rfl rfl rfl rfl rfl) ?_
  refine Eq.trans (b := zWp d zi_124 none 45 [.ref 80, .retAddr 0] [.ref 80] (zqs 86 23 84) Q) (zr_aload_n rfl rfl) ?_
  refine Eq.trans (b := zWp d zi_124 none 47 [.ref 80, .retAddr 0] [.int 8, .ref 80] (zqs 86 23 84) Q) (zr_bipush rfl (by decide)) ?_
  refine Eq.trans (b := zWp d zi_124 none 49 [.ref 80, .retAddr 0] [.ref 86, .ref 80] (zqs 87 23 84) Q) (zc_newI rfl (by decide) rfl rfl rfl) ?_
  refine Eq.trans (b := zWp d zi_124 none 52 [.ref 80, .retAddr 0] [] (zqs 87 23 85) Q) (zc_putQ rfl lf_10_25 rfl rfl rfl rfl rfl) ?_
  refine Eq.trans (b := zWp d zi_124 none 53 [.ref 80, .retAddr 0] [.ref 80] (zqs 87 23 85) Q) (zr_aload_n rfl rfl) ?_
  refine Eq.trans (b := zWp d zi_124 none 55 [.ref 80, .retAddr 0] [.int 8, .ref 80] (zqs 87 23 85) Q) (zr_bipush rfl (by decide)) ?_
  refine Eq.trans (b := zWp d zi_124 none 57 [.ref 80, .retAddr 0] [.ref 87, .ref 80] (zqs 88 23 85) Q) (zc_newI rfl (by decide) rfl rfl rfl) ?_
  refine Eq.trans (b := zWp d zi_124 none 60 [.ref 80, .retAddr 0] [] (zqs 88 23 86) Q) (zc_putQ rfl lf_10_28 rfl rfl rfl rfl rfl) ?_
  refine Eq.trans (b := zWp d zi_124 none 61 [.ref 80, .retAddr 0] [.ref 80] (zqs 88 23 86) Q) (zr_aload_n rfl rfl) ?_
  refine Eq.trans (b := zWp d zi_124 none 63 [.ref 80, .retAddr 0] [.int 120, .ref 80] (zqs 88 23 86) Q) (zr_bipush rfl (by decide)) ?_
  refine Eq.trans (b := zWp d zi_124 none 65 [.ref 80, .retAddr 0] [.ref 88, .ref 80] (zqs 89 23 86) Q) (zc_newI rfl (by decide) rfl rfl rfl) ?_
  refine Eq.trans (b := zWp d zi_124 none 68 [.ref 80, .retAddr 0] [] (zqs 89 23 87) Q) (zc_putQ rfl lf_10_31 rfl rfl rfl rfl rfl) ?_
  refine Eq.trans (b := zWp d zi_124 none 69 [.ref 80, .retAddr 0] [.ref 80] (zqs 89 23 87) Q) (zr_aload_n rfl rfl) ?_
  refine Eq.trans (b := zWp d zi_124 none 71 [.ref 80, .retAddr 0] [.int 120, .ref 80] (zqs 89 23 87) Q) (zr_bipush rfl (by decide)) ?_
  refine Eq.trans (b := zWp d zi_124 none 73 [.ref 80, .retAddr 0] [.ref 89, .ref 80] (zqs 90 23 87) Q) (zc_newI rfl (by decide) rfl rfl rfl) ?_
  refine Eq.trans (b := zWp d zi_124 none 76 [.ref 80, .retAddr 0] [] (zqs 90 23 88) Q) (zc_putQ rfl lf_10_34 rfl rfl rfl rfl rfl) ?_
  refine Eq.trans (b := zWp d zi_124 none 77 [.ref 80, .retAddr 0] [.ref 80] (zqs 90 23 88) Q) (zr_aload_n rfl rfl) ?_
  refine Eq.trans (b := zWp d zi_124 none 79 [.ref 80, .retAddr 0] [.int 6, .ref 80] (zqs 90 23 88) Q) (zr_bipush rfl (by decide)) ?_
  refine Eq.trans (b := zWp d zi_124 none 81 [.ref 80, .retAddr 0] [.ref 90, .ref 80] (zqs 91 23 88) Q) (zc_newI rfl (by decide) rfl rfl rfl) ?_
  refine Eq.trans (b := zWp d zi_124 none 84 [.ref 80, .retAddr 0] [] (zqs 91 23 89) Q) (zc_putQ rfl lf_10_37 rfl rfl rfl rfl rfl) ?_
  refine Eq.trans (b := zWp d zi_124 none 85 [.ref 80, .retAddr 0] [.ref 80] (zqs 91 23 89) Q) (zr_aload_n rfl rfl) ?_
  refine Eq.trans (b := zWp d zi_124 none 87 [.ref 80, .retAddr 0] [.int 25, .ref 80] (zqs 91 23 89) Q) (zr_bipush rfl (by decide)) ?_
  refine Eq.trans (b := zWp d zi_124 none 89 [.ref 80, .retAddr 0] [.ref 91, .ref 80] (zqs 92 23 89) Q) (zc_newI rfl (by decide) rfl rfl rfl) ?_
  refine Eq.trans (b := zWp d zi_124 none 92 [.ref 80, .retAddr 0] [] (zqs 92 23 90) Q) (zc_putQ rfl lf_10_40 rfl rfl rfl rfl rfl) ?_
  refine Eq.trans (b := zWp d zi_124 none 93 [.ref 80, .retAddr 0] [.ref 80] (zqs 92 23 90) Q) (zr_aload_n rfl rfl) ?_
  refine Eq.trans (b := zWp d zi_124 none 95 [.ref 80, .retAddr 0] [.int 48, .ref 80] (zqs 92 23 90) Q) (zr_bipush rfl (by decide)) ?_
  refine Eq.trans (b := zWp d zi_124 none 97 [.ref 80, .retAddr 0] [.ref 92, .ref 80] (zqs 93 23 90) Q) (zc_newI rfl (by decide) rfl rfl rfl) ?_
  refine Eq.trans (b := zWp d zi_124 none 100 [.ref 80, .retAddr 0] [] (zqs 93 23 91) Q) (zc_putQ rfl lf_10_43 rfl rfl rfl rfl rfl) ?_
  refine Eq.trans (b := zWp d zi_124 none 101 [.ref 80, .retAddr 0] [.ref 80] (zqs 93 23 91) Q) (zr_aload_n rfl rfl) ?_
  refine Eq.trans (b := zWp d zi_124 none 103 [.ref 80, .retAddr 0] [.int 24, .ref 80] (zqs 93 23 91) Q) (zr_bipush rfl (by decide)) ?_
  refine Eq.trans (b := zWp d zi_124 none 105 [.ref 80, .retAddr 0] [.ref 93, .ref 80] (zqs 94 23 91) Q) (zc_newI rfl (by decide) rfl rfl rfl) ?_
  refine Eq.trans (b := zWp d zi_124 none 108 [.ref 80, .retAddr 0] [] (zqs 94 23 92) Q) (zc_putQ rfl lf_10_46 rfl rfl rfl rfl rfl) ?_
  refine Eq.trans (b := zWp d zi_124 none 109 [.ref 80, .retAddr 0] [.ref 80] (zqs 94 23 92) Q) (zr_aload_n rfl rfl) ?_
  refine Eq.trans (b := zWp d zi_124 none 111 [.ref 80, .retAddr 0] [.int 24, .ref 80] (zqs 94 23 92) Q) (zr_bipush rfl (by decide)) ?_
  refine Eq.trans (b := zWp d zi_124 none 113 [.ref 80, .retAddr 0] [.ref 94, .ref 80] (zqs 95 23 92) Q) (zc_newI rfl (by decide) rfl rfl rfl) ?_
  refine Eq.trans (b := zWp d zi_124 none 116 [.ref 80, .retAddr 0] [] (zqs 95 23 93) Q) (zc_putQ rfl lf_10_49 rfl rfl rfl rfl rfl) ?_
  refine Eq.trans (b := zWp d zi_124 none 117 [.ref 80, .retAddr 0] [.ref 80] (zqs 95 23 93) Q) (zr_aload_n rfl rfl) ?_
  refine Eq.trans (b := zWp d zi_124 none 120 [.ref 80, .retAddr 0] [.int 1464, .ref 80] (zqs 95 23 93) Q) (zr_sipush rfl (by decide)) ?_
  refine Eq.trans (b := zWp d zi_124 none 122 [.ref 80, .retAddr 0] [.ref 95, .ref 80] (zqs 96 23 93) Q) (zc_newI rfl (by decide) rfl rfl rfl) ?_
  refine Eq.trans (b := zWp d zi_124 none 125 [.ref 80, .retAddr 0] [] (zqs 96 23 94) Q) (zc_putQ rfl lf_10_52 rfl rfl rfl rfl rfl) ?_
  refine Eq.trans (b := zWp d zi_124 none 126 [.ref 80, .retAddr 0] [.ref 80] (zqs 96 23 94) Q) (zr_aload_n rfl rfl) ?_
  refine Eq.trans (b := zWp d zi_124 none 129 [.ref 80, .retAddr 0] [.int 1464, .ref 80] (zqs 96 23 94) Q) (zr_sipush rfl (by decide)) ?_
  refine Eq.trans (b := zWp d zi_124 none 131 [.ref 80, .retAddr 0] [.ref 96, .ref 80] (zqs 97 23 94) Q) (zc_newI rfl (by decide) rfl rfl rfl) ?_
  refine Eq.trans (b := zWp d zi_124 none 134 [.ref 80, .retAddr 0] [] (zqs 97 23 95) Q) (zc_putQ rfl lf_10_55 rfl rfl rfl rfl rfl) ?_
  refine Eq.trans (b := zWp d zi_124 none 135 [.ref 80, .retAddr 0] [.ref 80] (zqs 97 23 95) Q) (zr_aload_n rfl rfl) ?_
  refine Eq.trans (b := zWp d zi_124 none 137 [.ref 80, .retAddr 0] [.int 6, .ref 80] (zqs 97 23 95) Q) (zr_bipush rfl (by decide)) ?_
  refine Eq.trans (b := zWp d zi_124 none 139 [.ref 80, .retAddr 0] [.ref 97, .ref 80] (zqs 98 23 95) Q) (zc_newI rfl (by decide) rfl rfl rfl) ?_
  refine Eq.trans (b := zWp d zi_124 none 142 [.ref 80, .retAddr 0] [] (zqs 98 23 96) Q) (zc_putQ rfl lf_10_58 rfl rfl rfl rfl rfl) ?_
  refine Eq.trans (b := zWp d zi_124 none 143 [.ref 80, .retAddr 0] [.ref 80] (zqs 98 23 96) Q) (zr_aload_n rfl rfl) ?_
  refine Eq.trans (b := zWp d zi_124 none 145 [.ref 80, .retAddr 0] [.int 50, .ref 80] (zqs 98 23 96) Q) (zr_bipush rfl (by decide)) ?_
  refine Eq.trans (b := zWp d zi_124 none 147 [.ref 80, .retAddr 0] [.ref 98, .ref 80] (zqs 99 23 96) Q) (zc_newI rfl (by decide) rfl rfl rfl) ?_
  refine Eq.trans (b := zWp d zi_124 none 150 [.ref 80, .retAddr 0] [] (zqs 99 23 97) Q) (zc_putQ rfl lf_10_61 rfl rfl rfl rfl rfl) ?_
  refine Eq.trans (b := zWp d zi_124 none 151 [.ref 80, .retAddr 0] [.ref 80] (zqs 99 23 97) Q) (zr_aload_n rfl rfl) ?_
  refine Eq.trans (b := zWp d zi_124 none 153 [.ref 80, .retAddr 0] [.int 24, .ref 80] (zqs 99 23 97) Q) (zr_bipush rfl (by decide)) ?_
  refine Eq.trans (b := zWp d zi_124 none 155 [.ref 80, .retAddr 0] [.ref 99, .ref 80] (zqs 100 23 97) Q) (zc_newI rfl (by decide) rfl rfl rfl) ?_
  refine Eq.trans (b := zWp d zi_124 none 158 [.ref 80, .retAddr 0] [] (zqs 100 23 98) Q) (zc_putQ rfl lf_10_64 rfl rfl rfl rfl rfl) ?_
  refine Eq.trans (b := zWp d zi_124 none 159 [.ref 80, .retAddr 0] [.ref 80] (zqs 100 23 98) Q) (zr_aload_n rfl rfl) ?_
  refine Eq.trans (b := zWp d zi_124 none 161 [.ref 80, .retAddr 0] [.int 6, .ref 80] (zqs 100 23 98) Q) (zr_bipush rfl (by decide)) ?_
  refine Eq.trans (b := zWp d zi_124 none 163 [.ref 80, .retAddr 0] [.ref 100, .ref 80] (zqs 101 23 98) Q) (zc_newI rfl (by decide) rfl rfl rfl) ?_
  refine Eq.trans (b := zWp d zi_124 none 166 [.ref 80, .retAddr 0] [] (zqs 101 23 99) Q) (zc_putQ rfl lf_10_67 rfl rfl rfl rfl rfl) ?_
  refine Eq.trans (b := zWp d zi_124 none 167 [.ref 80, .retAddr 0] [.ref 80] (zqs 101 23 99) Q) (zr_aload_n rfl rfl) ?_
  refine Eq.trans (b := zWp d zi_124 none 169 [.ref 80, .retAddr 0] [.int 6, .ref 80] (zqs 101 23 99) Q) (zr_bipush rfl (by decide)) ?_
  refine Eq.trans (b := zWp d zi_124 none 171 [.ref 80, .retAddr 0] [.ref 101, .ref 80] (zqs 102 23 99) Q) (zc_newI rfl (by decide) rfl rfl rfl) ?_
  refine Eq.trans (b := zWp d zi_124 none 174 [.ref 80, .retAddr 0] [] (zqs 102 23 100) Q) (zc_putQ rfl lf_10_70 rfl rfl rfl rfl rfl) ?_
  refine Eq.trans (b := zWp d zi_124 none 175 [.ref 80, .retAddr 0] [.ref 80] (zqs 102 23 100) Q) (zr_aload_n rfl rfl) ?_
  refine Eq.trans (b := zWp d zi_124 none 178 [.ref 80, .retAddr 0] [.int 360, .ref 80] (zqs 102 23 100) Q) (zr_sipush rfl (by decide)) ?_
  refine Eq.trans (b := zWp d zi_124 none 180 [.ref 80, .retAddr 0] [.ref 102, .ref 80] (zqs 103 23 100) Q) (zc_newJ rfl (by decide) rfl rfl rfl) ?_
  refine Eq.trans (b := zWp d zi_124 none 183 [.ref 80, .retAddr 0] [] (zqs 103 23 101) Q) (zc_putQ rfl lf_10_73 rfl rfl rfl rfl rfl) ?_
  refine Eq.trans (b := zWp d zi_124 none 184 [.ref 80, .retAddr 0] [.ref 80] (zqs 103 23 101) Q) (zr_aload_n rfl rfl) ?_
  refine Eq.trans (b := zWp d zi_124 none 186 [.ref 80, .retAddr 0] [.int 60, .ref 80] (zqs 103 23 101) Q) (zr_bipush rfl (by decide)) ?_
  refine Eq.trans (b := zWp d zi_124 none 188 [.ref 80, .retAddr 0] [.ref 103, .ref 80] (zqs 104 23 101) Q) (zc_newJ rfl (by decide) rfl rfl rfl) ?_
  refine Eq.trans (b := zWp d zi_124 none 191 [.ref 80, .retAddr 0] [] (zqs 104 23 102) Q) (zc_putQ rfl lf_10_77 rfl rfl rfl rfl rfl) ?_
  refine Eq.trans (b := zWp d zi_124 none 192 [.ref 80, .retAddr 0] [.int 0] (zqs 104 23 102) Q) (zr_iconst rfl (by decide)) ?_
  refine Eq.trans (b := zWp d zi_124 none 193 [.ref 80, .int 0] [] (zqs 104 23 102) Q) (zr_istore_n (n := 1) rfl (Nat.le_of_ble_eq_true rfl) rfl) ?_
  refine Eq.trans (b := zWp d zi_124 none 194 [.ref 80, .int 0] [.int 0] (zqs 104 23 102) Q) (zr_iload_n rfl rfl) ?_
  refine Eq.trans (b := zWp d zi_124 none 196 [.ref 80, .int 0] [.int 6, .int 0] (zqs 104 23 102) Q) (zr_bipush rfl (by decide)) ?_
  refine Eq.trans (b := zWp d zi_124 none 199 [.ref 80, .int 0] [] (zqs 104 23 102) Q) ((zr_ic_ge (tgt := 212) rfl (by decide)).trans (if_neg (by decide))) ?_
  refine Eq.trans (b := zWp d zi_124 none 200 [.ref 80, .int 0] [.ref 80] (zqs 104 23 102) Q) (zr_aload_n rfl rfl) ?_
  refine Eq.trans (b := zWp d zi_124 none 203 [.ref 80, .int 0] [.ref 100] (zqs 104 23 102) Q) (zc_getQ rfl lf_10_67 (fun _ _ _ => rfl) rfl rfl) ?_
  refine Eq.trans (b := zWp d zi_124 none 204 [.ref 80, .int 0] [.int 0, .ref 100] (zqs 104 23 102) Q) (zr_iload_n rfl rfl) ?_
  refine Eq.trans (b := zWp d zi_124 none 205 [.ref 80, .int 0] [.int (-1), .int 0, .ref 100] (zqs 104 23 102) Q) (zr_iconst rfl (by decide)) ?_
  refine Eq.trans (b := zWp d zi_124 none 206 [.ref 80, .int 0] [] (zqs 104 24 102) Q) (zc_ast rfl rfl (by decide) rfl rfl) ?_
  refine Eq.trans (b := zWp d zi_124 none 209 [.ref 80, .int 1] [] (zqs 104 24 102) Q) (zc_iinc (n := 1) (kc := 1) rfl rfl (Nat.le_of_ble_eq_true rfl) rfl (by decide)) ?_
  refine Eq.trans (b := zWp d zi_124 none 193 [.ref 80, .int 1] [] (zqs 104 24 102) Q) (zr_goto rfl (by decide)) ?_
  refine Eq.trans (b := zWp d zi_124 none 194 [.ref 80, .int 1] [.int 1] (zqs 104 24 102) Q) (zr_iload_n rfl rfl) ?_
  refine Eq.trans (b := zWp d zi_124 none 196 [.ref 80, .int 1] [.int 6, .int 1] (zqs 104 24 102) Q) (zr_bipush rfl (by decide)) ?_
  refine Eq.trans (b := zWp d zi_124 none 199 [.ref 80, .int 1] [] (zqs 104 24 102) Q) ((zr_ic_ge (tgt := 212) rfl (by decide)).trans (if_neg (by decide))) ?_
  refine Eq.trans (b := zWp d zi_124 none 200 [.ref 80, .int 1] [.ref 80] (zqs 104 24 102) Q) (zr_aload_n rfl rfl) ?_
  refine Eq.trans (b := zWp d zi_124 none 203 [.ref 80, .int 1] [.ref 100] (zqs 104 24 102) Q) (zc_getQ rfl lf_10_67 (fun _ _ _ => rfl) rfl rfl) ?_
  refine Eq.trans (b := zWp d zi_124 none 204 [.ref 80, .int 1] [.int 1, .ref 100] (zqs 104 24 102) Q) (zr_iload_n rfl rfl) ?_
  refine Eq.trans (b := zWp d zi_124 none 205 [.ref 80, .int 1] [.int (-1), .int 1, .ref 100] (zqs 104 24 102) Q) (zr_iconst rfl (by decide)) ?_
  refine Eq.trans (b := zWp d zi_124 none 206 [.ref 80, .int 1] [] (zqs 104 25 102) Q) (zc_ast rfl rfl (by decide) rfl rfl) ?_
  refine Eq.trans (b := zWp d zi_124 none 209 [.ref 80, .int 2] [] (zqs 104 25 102) Q) (zc_iinc (n := 1) (kc := 1) rfl rfl (Nat.le_of_ble_eq_true rfl) rfl (by decide)) ?_
  refine Eq.trans (b := zWp d zi_124 none 193 [.ref 80, .int 2] [] (zqs 104 25 102) Q) (zr_goto rfl (by decide)) ?_
  refine Eq.trans (b := zWp d zi_124 none 194 [.ref 80, .int 2] [.int 2] (zqs 104 25 102) Q) (zr_iload_n rfl rfl) ?_
  refine Eq.trans (b := zWp d zi_124 none 196 [.ref 80, .int 2] [.int 6, .int 2] (zqs 104 25 102) Q) (zr_bipush rfl (by decide)) ?_
  refine Eq.trans (b := zWp d zi_124 none 199 [.ref 80, .int 2] [] (zqs 104 25 102) Q) ((zr_ic_ge (tgt := 212) rfl (by decide)).trans (if_neg (by decide))) ?_
  refine Eq.trans (b := zWp d zi_124 none 200 [.ref 80, .int 2] [.ref 80] (zqs 104 25 102) Q) (zr_aload_n rfl rfl) ?_
  refine Eq.trans (b := zWp d zi_124 none 203 [.ref 80, .int 2] [.ref 100] (zqs 104 25 102) Q) (zc_getQ rfl lf_10_67 (fun _ _ _ => rfl) rfl rfl) ?_
  refine Eq.trans (b := zWp d zi_124 none 204 [.ref 80, .int 2] [.int 2, .ref 100] (zqs 104 25 102) Q) (zr_iload_n rfl rfl) ?_
  refine Eq.trans (b := zWp d zi_124 none 205 [.ref 80, .int 2] [.int (-1), .int 2, .ref 100] (zqs 104 25 102) Q) (zr_iconst rfl (by decide)) ?_
  refine Eq.trans (b := zWp d zi_124 none 206 [.ref 80, .int 2] [] (zqs 104 26 102) Q) (zc_ast rfl rfl (by decide) rfl rfl) ?_
  refine Eq.trans (b := zWp d zi_124 none 209 [.ref 80, .int 3] [] (zqs 104 26 102) Q) (zc_iinc (n := 1) (kc := 1) rfl rfl (Nat.le_of_ble_eq_true rfl) rfl (by decide)) ?_
  refine Eq.trans (b := zWp d zi_124 none 193 [.ref 80, .int 3] [] (zqs 104 26 102) Q) (zr_goto rfl (by decide)) ?_
  refine Eq.trans (b := zWp d zi_124 none 194 [.ref 80, .int 3] [.int 3] (zqs 104 26 102) Q) (zr_iload_n rfl rfl) ?_
  refine Eq.trans (b := zWp d zi_124 none 196 [.ref 80, .int 3] [.int 6, .int 3] (zqs 104 26 102) Q) (zr_bipush rfl (by decide)) ?_
  refine Eq.trans (b := zWp d zi_124 none 199 [.ref 80, .int 3] [] (zqs 104 26 102) Q) ((zr_ic_ge (tgt := 212) rfl (by decide)).trans (if_neg (by decide))) ?_
  refine Eq.trans (b := zWp d zi_124 none 200 [.ref 80, .int 3] [.ref 80] (zqs 104 26 102) Q) (zr_aload_n rfl rfl) ?_
  refine Eq.trans (b := zWp d zi_124 none 203 [.ref 80, .int 3] [.ref 100] (zqs 104 26 102) Q) (zc_getQ rfl lf_10_67 (fun _ _ _ => rfl) rfl rfl) ?_
  refine Eq.trans (b := zWp d zi_124 none 204 [.ref 80, .int 3] [.int 3, .ref 100] (zqs 104 26 102) Q) (zr_iload_n rfl rfl) ?_
  refine Eq.trans (b := zWp d zi_124 none 205 [.ref 80, .int 3] [.int (-1), .int 3, .ref 100] (zqs 104 26 102) Q) (zr_iconst rfl (by decide)) ?_
  refine Eq.trans (b := zWp d zi_124 none 206 [.ref 80, .int 3] [] (zqs 104 27 102) Q) (zc_ast rfl rfl (by decide) rfl rfl) ?_
  refine Eq.trans (b := zWp d zi_124 none 209 [.ref 80, .int 4] [] (zqs 104 27 102) Q) (zc_iinc (n := 1) (kc := 1) rfl rfl (Nat.le_of_ble_eq_true rfl) rfl (by decide)) ?_
  refine Eq.trans (b := zWp d zi_124 none 193 [.ref 80, .int 4] [] (zqs 104 27 102) Q) (zr_goto rfl (by decide)) ?_
  refine Eq.trans (b := zWp d zi_124 none 194 [.ref 80, .int 4] [.int 4] (zqs 104 27 102) Q) (zr_iload_n rfl rfl) ?_
  refine Eq.trans (b := zWp d zi_124 none 196 [.ref 80, .int 4] [.int 6, .int 4] (zqs 104 27 102) Q) (zr_bipush rfl (by decide)) ?_
  refine Eq.trans (b := zWp d zi_124 none 199 [.ref 80, .int 4] [] (zqs 104 27 102) Q) ((zr_ic_ge (tgt := 212) rfl (by decide)).trans (if_neg (by decide))) ?_
  refine Eq.trans (b := zWp d zi_124 none 200 [.ref 80, .int 4] [.ref 80] (zqs 104 27 102) Q) (zr_aload_n rfl rfl) ?_
  refine Eq.trans (b := zWp d zi_124 none 203 [.ref 80, .int 4] [.ref 100] (zqs 104 27 102) Q) (zc_getQ rfl lf_10_67 (fun _ _ _ => rfl) rfl rfl) ?_
  refine Eq.trans (b := zWp d zi_124 none 204 [.ref 80, .int 4] [.int 4, .ref 100] (zqs 104 27 102) Q) (zr_iload_n rfl rfl) ?_
  refine Eq.trans (b := zWp d zi_124 none 205 [.ref 80, .int 4] [.int (-1), .int 4, .ref 100] (zqs 104 27 102) Q) (zr_iconst rfl (by decide)) ?_
  refine Eq.trans (b := zWp d zi_124 none 206 [.ref 80, .int 4] [] (zqs 104 28 102) Q) (zc_ast rfl rfl (by decide) rfl rfl) ?_
  refine Eq.trans (b := zWp d zi_124 none 209 [.ref 80, .int 5] [] (zqs 104 28 102) Q) (zc_iinc (n := 1) (kc := 1) rfl rfl (Nat.le_of_ble_eq_true rfl) rfl (by decide)) ?_
  refine Eq.trans (b := zWp d zi_124 none 193 [.ref 80, .int 5] [] (zqs 104 28 102) Q) (zr_goto rfl (by decide)) ?_
  refine Eq.trans (b := zWp d zi_124 none 194 [.ref 80, .int 5] [.int 5] (zqs 104 28 102) Q) (zr_iload_n rfl rfl) ?_
  refine Eq.trans (b := zWp d zi_124 none 196 [.ref 80, .int 5] [.int 6, .int 5] (zqs 104 28 102) Q) (zr_bipush rfl (by decide)) ?_
  refine Eq.trans (b := zWp d zi_124 none 199 [.ref 80, .int 5] [] (zqs 104 28 102) Q) ((zr_ic_ge (tgt := 212) rfl (by decide)).trans (if_neg (by decide))) ?_
  refine Eq.trans (b := zWp d zi_124 none 200 [.ref 80, .int 5] [.ref 80] (zqs 104 28 102) Q) (zr_aload_n rfl rfl) ?_
  refine Eq.trans (b := zWp d zi_124 none 203 [.ref 80, .int 5] [.ref 100] (zqs 104 28 102) Q) (zc_getQ rfl lf_10_67 (fun _ _ _ => rfl) rfl rfl) ?_
  refine Eq.trans (b := zWp d zi_124 none 204 [.ref 80, .int 5] [.int 5, .ref 100] (zqs 104 28 102) Q) (zr_iload_n rfl rfl) ?_
  refine Eq.trans (b := zWp d zi_124 none 205 [.ref 80, .int 5] [.int (-1), .int 5, .ref 100] (zqs 104 28 102) Q) (zr_iconst rfl (by decide)) ?_
  refine Eq.trans (b := zWp d zi_124 none 206 [.ref 80, .int 5] [] (zqs 104 29 102) Q) (zc_ast rfl rfl (by decide) rfl rfl) ?_
  refine Eq.trans (b := zWp d zi_124 none 209 [.ref 80, .int 6] [] (zqs 104 29 102) Q) (zc_iinc (n := 1) (kc := 1) rfl rfl (Nat.le_of_ble_eq_true rfl) rfl (by decide)) ?_
  refine Eq.trans (b := zWp d zi_124 none 193 [.ref 80, .int 6] [] (zqs 104 29 102) Q) (zr_goto rfl (by decide)) ?_
  refine Eq.trans (b := zWp d zi_124 none 194 [.ref 80, .int 6] [.int 6] (zqs 104 29 102) Q) (zr_iload_n rfl rfl) ?_
  refine Eq.trans (b := zWp d zi_124 none 196 [.ref 80, .int 6] [.int 6, .int 6] (zqs 104 29 102) Q) (zr_bipush rfl (by decide)) ?_
  refine Eq.trans (b := zWp d zi_124 none 212 [.ref 80, .int 6] [] (zqs 104 29 102) Q) ((zr_ic_ge rfl (by decide)).trans (if_pos (by decide))) ?_
  refine Eq.trans (b := zWp d zi_124 none 213 [.ref 80, .int 6] [.ref 80] (zqs 104 29 102) Q) (zr_aload_n rfl rfl) ?_
  refine Eq.trans (b := zWp d zi_124 none 214 [.ref 80, .int 6] [.int (-1), .ref 80] (zqs 104 29 102) Q) (zr_iconst rfl (by decide)) ?_
  refine Eq.trans (b := zWp d zi_124 none 217 [.ref 80, .int 6] [] (zqs 104 30 102) Q) (zc_putI rfl lf_10_80 rfl rfl rfl rfl rfl) ?_
  refine Eq.trans (b := zWp d zi_124 none 218 [.ref 80, .int 6] [.ref 80] (zqs 104 30 102) Q) (zr_aload_n rfl rfl) ?_
  refine Eq.trans (b := zWp d zi_124 none 221 [.ref 80, .int 6] [.ref 81] (zqs 104 30 102) Q) (zc_getQ rfl lf_10_9 (fun _ _ _ => rfl) rfl rfl) ?_
  refine Eq.trans (b := zWp d zi_124 none 223 [.ref 80, .int 6] [.int 82, .ref 81] (zqs 104 30 102) Q) (zr_bipush rfl (by decide)) ?_
  refine Eq.trans (b := zWp d zi_124 none 226 [.ref 80, .int 6] [.int 200, .int 82, .ref 81] (zqs 104 30 102) Q) (zr_sipush rfl (by decide)) ?_
  refine Eq.trans (b := zWp d zi_124 none 227 [.ref 80, .int 6] [] (zqs 104 31 102) Q) (zc_ast rfl rfl (by decide) rfl rfl) ?_
  refine Eq.trans (b := zWp d zi_124 none 228 [.ref 80, .int 6] [.ref 80] (zqs 104 31 102) Q) (zr_aload_n rfl rfl) ?_
  refine Eq.trans (b := zWp d zi_124 none 231 [.ref 80, .int 6] [.ref 81] (zqs 104 31 102) Q) (zc_getQ rfl lf_10_9 (fun _ _ _ => rfl) rfl rfl) ?_
  refine Eq.trans (b := zWp d zi_124 none 233 [.ref 80, .int 6] [.int 83, .ref 81] (zqs 104 31 102) Q) (zr_bipush rfl (by decide)) ?_
  refine Eq.trans (b := zWp d zi_124 none 234 [.ref 80, .int 6] [.int 3, .int 83, .ref 81] (zqs 104 31 102) Q) (zr_iconst rfl (by decide)) ?_
  refine Eq.trans (b := zWp d zi_124 none 235 [.ref 80, .int 6] [] (zqs 104 32 102) Q) (zc_ast rfl rfl (by decide) rfl rfl) ?_
  refine Eq.trans (b := zWp d zi_124 none 236 [.ref 80, .int 6] [.ref 80] (zqs 104 32 102) Q) (zr_aload_n rfl rfl) ?_
  refine Eq.trans (b := zWp d zi_124 none 238 [.ref 80, .int 6] [.int 20, .ref 80] (zqs 104 32 102) Q) (zr_bipush rfl (by decide)) ?_
  refine Eq.trans (b := zWp d zi_124 none 241 [.ref 80, .int 6] [] (zqs 104 33 102) Q) (zc_putI rfl lf_10_84 rfl rfl rfl rfl rfl) ?_
  refine Eq.trans (b := zWp d zi_124 none 242 [.ref 80, .int 6] [.ref 80] (zqs 104 33 102) Q) (zr_aload_n rfl rfl) ?_
  refine Eq.trans (b := zWp d zi_124 none 244 [.ref 80, .int 6] [.int 10, .ref 80] (zqs 104 33 102) Q) (zr_bipush rfl (by decide)) ?_
  refine Eq.trans (b := zWp d zi_124 none 247 [.ref 80, .int 6] [] (zqs 104 34 102) Q) (zc_putI rfl lf_10_87 rfl rfl rfl rfl rfl) ?_
  refine Eq.trans (b := zWp d zi_124 none 248 [.ref 80, .int 6] [.ref 80] (zqs 104 34 102) Q) (zr_aload_n rfl rfl) ?_
  refine Eq.trans (b := zWp d zi_124 none 250 [.ref 80, .int 6] [.int (-2), .ref 80] (zqs 104 34 102) Q) (zr_bipush rfl (by decide)) ?_
  refine Eq.trans (b := zWp d zi_124 none 253 [.ref 80, .int 6] [] (zqs 104 35 102) Q) (zc_putI rfl lf_10_90 rfl rfl rfl rfl rfl) ?_
  exact zr_vret rfl rfl
set_option maxRecDepth 100000 in
theorem i_law (d : Nat) (scr : Option (Nat × (Nat → Int32))) (Q : Option Value → zMm → Prop) : zWp (d + 3) zi_217 scr 0 [.ref 1000000, .retAddr 0, .retAddr 0, .retAddr 0] [] (zqs 0 0 0) Q = zWp (d + 3) zi_217 scr 16 [.ref 1000000, .ref 0, .ref 80, .retAddr 0] [] (zqs 104 35 102) Q := by
  refine Eq.trans (b := zWp (d + 3) zi_217 scr 3 [.ref 1000000, .retAddr 0, .retAddr 0, .retAddr 0] [.ref 0] (zqs 1 0 0) Q) (zc_new rfl rfl rfl rfl rfl) ?_
  refine Eq.trans (b := zWp (d + 3) zi_217 scr 4 [.ref 1000000, .retAddr 0, .retAddr 0, .retAddr 0] [.ref 0, .ref 0] (zqs 1 0 0) Q) (zr_dup rfl rfl) ?_
  refine (zc_spe (rest := [.ref 0]) rfl lm_12_9 m_72 kd_72 rfl rfl).trans ?_
  refine (i_19 _ _).trans ?_
  show zWp (d + 3) zi_217 scr 7 [.ref 1000000, .retAddr 0, .retAddr 0, .retAddr 0] [.ref 0] (zqs 80 23 79) Q = _
  refine Eq.trans (b := zWp (d + 3) zi_217 scr 8 [.ref 1000000, .ref 0, .retAddr 0, .retAddr 0] [] (zqs 80 23 79) Q) (zr_astore_n (n := 1) rfl (Nat.le_of_ble_eq_true rfl) rfl) ?_
  refine Eq.trans (b := zWp (d + 3) zi_217 scr 11 [.ref 1000000, .ref 0, .retAddr 0, .retAddr 0] [.ref 80] (zqs 81 23 79) Q) (zc_new rfl rfl rfl rfl rfl) ?_
  refine Eq.trans (b := zWp (d + 3) zi_217 scr 12 [.ref 1000000, .ref 0, .retAddr 0, .retAddr 0] [.ref 80, .ref 80] (zqs 81 23 79) Q) (zr_dup rfl rfl) ?_
  refine (zc_spe (rest := [.ref 80]) rfl lm_12_12 m_124 kd_124 rfl rfl).trans ?_
  refine (i_20 _ _).trans ?_
  show zWp (d + 3) zi_217 scr 15 [.ref 1000000, .ref 0, .retAddr 0, .retAddr 0] [.ref 80] (zqs 104 35 102) Q = _
  refine Eq.trans (b := zWp (d + 3) zi_217 scr 16 [.ref 1000000, .ref 0, .ref 80, .retAddr 0] [] (zqs 104 35 102) Q) (zr_astore_n (n := 2) rfl (Nat.le_of_ble_eq_true rfl) rfl) ?_
  rfl
