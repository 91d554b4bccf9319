/-! arrays of arrays -/
theorem zal2_len {h : zMm} {n k : Nat} : (zal2 h n k).1.length = h.1.length + 1 + n := by
  show ((h.1 ++ [_]) ++ List.replicate n _).length = _
  simp
  omega
theorem zal2_lo {h : zMm} {n k j : Nat} (hj : j < h.1.length) : (zal2 h n k).1[j]? = h.1[j]? := by
  show ((h.1 ++ [_]) ++ List.replicate n _)[j]? = _
  rw [List.getElem?_append_left (by simp; omega), List.getElem?_append_left hj]
theorem zal2_at {h : zMm} {n k : Nat} : (zal2 h n k).1[h.1.length]? = some (.inr (.array .int, n)) := by
  show ((h.1 ++ [_]) ++ List.replicate n _)[h.1.length]? = _
  rw [List.getElem?_append_left (by simp), List.getElem?_append_right (Nat.le_refl _), Nat.sub_self]
  rfl
theorem zal2_hi {h : zMm} {n k i : Nat} (hi : i < n) : (zal2 h n k).1[h.1.length + 1 + i]? = some (.inr (.int, k)) := by
  show ((h.1 ++ [_]) ++ List.replicate n _)[h.1.length + 1 + i]? = _
  rw [List.getElem?_append_right (by simp <;> omega)]
  rw [List.getElem?_replicate, if_pos (by simp <;> omega)]
def zad2 {α : Type} (f : Nat → α) (b n : Nat) (x : α) (r : Nat → α) : Nat → α := fun k => if k = b then x else if b < k ∧ k < b + 1 + n then r (k - b - 1) else f k
theorem zad2_ag {b n q : Nat} {ad : Nat → Nat} {r : Nat → Nat} {ac : Nat → ClassId} {cA : ClassId} {rc : Nat → ClassId} (hb : b + 1 + n < 1000000) : zag b ad (zad2 ad b n q r) ac (zad2 ac b n cA rc) :=
  ⟨fun k hk => by unfold zad2; rw [if_neg (by omega), if_neg (by omega)], fun k hk => by unfold zad2; rw [if_neg (by omega), if_neg (by omega)]⟩
theorem zwf_al2 {h : zMm} {n k : Nat} (w : zwf h) (hl : ¬ 500 < h.1.length) (hn : ¬ 50 < n) : zwf (zal2 h n k) := by
  refine ⟨by rw [zal2_len]; omega, fun a j r hr => ?_⟩
  rw [zal2_len]
  by_cases c : a = h.1.length
  · subst c
    simp only [zal2, if_pos] at hr
    split at hr
    · cases hr; omega
    · cases hr
  · simp only [zal2, if_neg c] at hr
    split at hr
    · cases hr
    · have := w.2 a j r hr
      omega
theorem zws_al2 {ad : Nat → Nat} {ac : Nat → ClassId} {h : zMm} {n k q : Nat} {r : Nat → Nat} {cA cy : ClassId} {g : Nat → va_E} (w : zwf h) (hl : ¬ 500 < h.1.length) (hn : ¬ 50 < n) (hg : ∀ i, i < n → g (r i) = .inl (cy, k, .inl (fun _ => 0))) :
    zws (zad2 ad h.1.length n q r) (zad2 ac h.1.length n cA (fun _ => cy)) (zal2 h n k) = (zws ad ac h ++ [(q, .inl (cA, n, .inr (.inr (.inr (.inr (fun i => if i < n then some (r i) else none))))))]) ++ va_pl ((List.range n).map r) g := by
  have ga := zad2_ag (b := h.1.length) (n := n) (q := q) (ad := ad) (r := r) (ac := ac) (cA := cA) (rc := fun _ => cy) (by omega)
  have h2 : zws (zad2 ad h.1.length n q r) (zad2 ac h.1.length n cA (fun _ => cy)) h = zws ad ac h := zws_ext rfl (fun k hk => ga.1 k (Or.inl hk)) (fun k hk => zce_ag w.2 ga hk)
  rw [← h2]
  apply List.ext_getElem?
  intro j
  have hL : (zal2 h n k).1.length = h.1.length + 1 + n := zal2_len
  by_cases h1 : j < h.1.length
  · rw [zws_get (by omega), List.getElem?_append_left (by simp [zws_len]; omega), List.getElem?_append_left (by rw [zws_len]; exact h1), zws_get h1]
    congr 2
    unfold zce
    rw [zal2_lo h1]
    have e1 : ¬ h.1.length ≤ j := by omega
    have e2 : j ≠ h.1.length := by omega
    simp only [zal2, if_neg e1, if_neg e2]
  · by_cases h3 : j = h.1.length
    · subst h3
      rw [zws_get (by omega), List.getElem?_append_left (by simp [zws_len]), List.getElem?_append_right (by rw [zws_len]; exact Nat.le_refl _), zws_len, Nat.sub_self]
      have e1 : zad2 ad h.1.length n q r h.1.length = q := if_pos rfl
      have e2 : zad2 ac h.1.length n cA (fun _ => cy) h.1.length = cA := if_pos rfl
      rw [zce_arr zal2_at, e1, e2]
      show some _ = some _
      congr 9
      funext i
      simp only [zal2, if_pos]
      by_cases hi : i < n
      · rw [if_pos hi, if_pos hi]
        show some (zad2 ad h.1.length n q r (h.1.length + 1 + i)) = some (r i)
        unfold zad2
        rw [if_neg (by omega), if_pos (by omega), show h.1.length + 1 + i - h.1.length - 1 = i by omega]
      · rw [if_neg hi, if_neg hi]; rfl
    · by_cases h4 : j < h.1.length + 1 + n
      · obtain ⟨i, rfl⟩ : ∃ i, j = h.1.length + 1 + i := ⟨j - h.1.length - 1, by omega⟩
        have hi : i < n := by omega
        rw [zws_get (by omega), List.getElem?_append_right (by simp [zws_len] <;> omega)]
        simp only [List.length_append, zws_len, List.length_cons, List.length_nil]
        rw [show h.1.length + 1 + i - (h.1.length + (0 + 1)) = i by omega]
        have e1 : zad2 ad h.1.length n q r (h.1.length + 1 + i) = r i := by unfold zad2; rw [if_neg (by omega), if_pos (by omega), show h.1.length + 1 + i - h.1.length - 1 = i by omega]
        have e2 : zad2 ac h.1.length n cA (fun _ => cy) (h.1.length + 1 + i) = cy := by unfold zad2; rw [if_neg (by omega), if_pos (by omega)]
        rw [zce_int (zal2_hi hi), e1, e2]
        unfold va_pl
        rw [List.getElem?_map, List.getElem?_map, List.getElem?_range hi]
        show some _ = some (r i, g (r i))
        rw [hg i hi]
        have e3 : h.1.length ≤ h.1.length + 1 + i := by omega
        simp only [zal2, if_pos e3]
      · rw [List.getElem?_eq_none (by rw [zws_len]; omega), List.getElem?_eq_none (by simp [zws_len, va_pl]; omega)]
theorem zK_al2 {D : va_G} {ad : Nat → Nat} {ac : Nat → ClassId} {h : zMm} {s : State} {cA cy : ClassId} {n k : Nat} {tys : List (ClassId × FieldType)} (h2 : ∀ k t n, h.1[k]? = some (.inr (t, n)) → ∃ t0 : Nat, tys[t0]? = some (ac k, t)) (hK : va_K D zCl (tys ++ [(cA, .array .int)]) s) (hy : ArrOfT s cy .int ∧ va_RA s cy .int) : zK D (zad2 ac h.1.length n cA (fun _ => cy)) (zal2 h n k) s := by
  refine ⟨(tys ++ [(cA, .array .int)]) ++ [(cy, .int)], ⟨hK.1, fun j x hx => ?_⟩, fun j t' n' hk => ?_⟩
  · by_cases hl : j < (tys ++ [(cA, FieldType.array .int)]).length
    · rw [List.getElem?_append_left hl] at hx
      exact hK.2 j x hx
    · rw [List.getElem?_append_right (by omega)] at hx
      have hz := (List.getElem?_eq_some_iff.mp hx).1
      have hz : j - (tys ++ [(cA, FieldType.array .int)]).length < 1 := hz
      rw [show j - (tys ++ [(cA, FieldType.array .int)]).length = 0 by omega] at hx
      cases hx
      exact hy
  · have hl := (List.getElem?_eq_some_iff.mp hk).1
    rw [zal2_len] at hl
    by_cases h1 : j < h.1.length
    · rw [zal2_lo h1] at hk
      obtain ⟨t0, ht0⟩ := h2 j t' n' hk
      refine ⟨t0, ?_⟩
      have hl0 := (List.getElem?_eq_some_iff.mp ht0).1
      rw [List.getElem?_append_left (by simp; omega), List.getElem?_append_left hl0, ht0]
      unfold zad2
      rw [if_neg (by omega), if_neg (by omega)]
    · by_cases h3 : j = h.1.length
      · subst h3
        rw [zal2_at] at hk
        cases hk
        refine ⟨tys.length, ?_⟩
        rw [List.getElem?_append_left (by simp), List.getElem?_append_right (Nat.le_refl _), Nat.sub_self]
        unfold zad2
        rw [if_pos rfl]
        rfl
      · obtain ⟨i, rfl⟩ : ∃ i, j = h.1.length + 1 + i := ⟨j - h.1.length - 1, by omega⟩
        rw [zal2_hi (by omega)] at hk
        cases hk
        refine ⟨(tys ++ [(cA, FieldType.array .int)]).length, ?_⟩
        rw [List.getElem?_append_right (Nat.le_refl _), Nat.sub_self]
        unfold zad2
        rw [if_neg (by omega), if_pos (by omega)]
        rfl
def zsz (x : zSh) : Nat := match x with
  | .inl ci => zN ci
  | .inr (_, n) => n
theorem zsl_al {h : zMm} {x : zSh} : zsl (zal h x).1 = zsl h.1 + zsz x := by
  show zsl (h.1 ++ [x]) = _
  rw [zsl_app]
  congr 1
theorem zsl_al2 {h : zMm} {n k : Nat} : zsl (zal2 h n k).1 = zsl h.1 + n + n * k := by
  show zsl ((h.1 ++ [_]) ++ List.replicate n _) = _
  rw [zsl_app, zsl_app]
  congr 1
  unfold zsl
  simp
theorem zlook {L : List (Nat × Instr)} {k : Nat} {i : Instr} (h : L.lookup k = some i) : (k, i) ∈ L := by
  induction L with
  | nil => cases h
  | cons x r ih =>
    obtain ⟨a, b⟩ := x
    rw [List.lookup_cons] at h
    split at h
    · rename_i e
      have e2 : k = a := by simpa using e
      cases h
      rw [e2]
      exact List.mem_cons_self
    · exact List.mem_cons_of_mem _ (ih h)
theorem zdec {q : zInfo} (hg : zgoodb q = true) {pc : Nat} {i : Instr} (hl : q.2.2.2.2.2.2.lookup pc = some i) : ∃ k, decode q.2.1 pc = .ok (i, k) ∧ (zisw i = false → k = zlen i) := by
  have h := List.all_eq_true.mp hg _ (zlook hl)
  dsimp only at h
  split at h
  · rename_i i' k e
    simp only [Bool.and_eq_true, Bool.or_eq_true, decide_eq_true_eq, beq_iff_eq] at h
    obtain ⟨rfl, h2⟩ := h
    refine ⟨k, e, fun h3 => ?_⟩
    rcases h2 with h2 | h2
    · exact h2
    · rw [h3] at h2; cases h2
  · cases h
