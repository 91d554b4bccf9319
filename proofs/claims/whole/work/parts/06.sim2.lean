/-! cells behind a write; calls; new cells -/
section CE
variable {ad : Nat → Nat} {ac : Nat → ClassId} {h : zMm} {a j k n ci : Nat}
theorem zce_int (e : h.1[a]? = some (.inr (.int, n))) : zce ad ac h a = .inl (ac a, n, .inl (h.2.1 a)) := by unfold zce; rw [e]
theorem zce_long (e : h.1[a]? = some (.inr (.long, n))) : zce ad ac h a = .inl (ac a, n, .inr (.inl (h.2.2.1 a))) := by unfold zce; rw [e]
theorem zce_obj {C : String} (e : h.1[a]? = some (.inr (.object C, n))) : zce ad ac h a = .inl (ac a, n, .inr (.inr (.inr (.inr fun j => (h.2.2.2 a j).map ad)))) := by unfold zce; rw [e]
theorem zce_arr {t : FieldType} (e : h.1[a]? = some (.inr (.array t, n))) : zce ad ac h a = .inl (ac a, n, .inr (.inr (.inr (.inr fun j => (h.2.2.2 a j).map ad)))) := by unfold zce; rw [e]
theorem zce_cls (e : h.1[a]? = some (.inl ci)) : zce ad ac h a = .inr (ci, (List.range (zN ci)).map fun j => zfv ad (zFt ci j) (h.2.1 a j) (h.2.2.1 a j) (h.2.2.2 a j)) := by unfold zce; rw [e]
theorem zce_any {t : FieldType} (e : h.1[a]? = some (.inr (t, n))) : ∃ x : vp_A, x.1 = n ∧ zce ad ac h a = .inl (ac a, x) := by unfold zce; rw [e]; exact ⟨_, rfl, rfl⟩
theorem zce_eqI {g : Nat → Int32} (hj : j ≠ a) : zce ad ac (h.1, zw h.2.1 a g, h.2.2.1, h.2.2.2) j = zce ad ac h j := by
  unfold zce
  simp only [zw_n hj]
theorem zce_eqL {g : Nat → Int64} (hj : j ≠ a) : zce ad ac (h.1, h.2.1, zw h.2.2.1 a g, h.2.2.2) j = zce ad ac h j := by
  unfold zce
  simp only [zw_n hj]
theorem zce_eqP {g : Nat → Option Nat} (hj : j ≠ a) : zce ad ac (h.1, h.2.1, h.2.2.1, zw h.2.2.2 a g) j = zce ad ac h j := by
  unfold zce
  simp only [zw_n hj]
theorem zfs_get {f : Nat → Value} {N : Nat} (hk : k < N) : ((List.range N).map f)[k]? = some (f k) := by
  rw [List.getElem?_map, List.getElem?_range hk]; rfl
theorem zfs_set {f g : Nat → Value} {N : Nat} (hk : k < N) (hg : ∀ j, j ≠ k → g j = f j) : ((List.range N).map f).set k (g k) = (List.range N).map g := by
  apply List.ext_getElem?
  intro i
  by_cases hi : i < N
  · rw [zfs_get hi]
    by_cases e : i = k
    · subst e
      rw [List.getElem?_set_self (by simp; exact hi)]
    · rw [List.getElem?_set_ne (Ne.symm e), zfs_get hi, hg i e]
  · rw [List.getElem?_eq_none (by simp; omega), List.getElem?_eq_none (by simp; omega)]
end CE
theorem zwf_I {h : zMm} {I : Nat → Nat → Int32} (w : zwf h) : zwf (h.1, I, h.2.2.1, h.2.2.2) := w
theorem zwf_L {h : zMm} {L : Nat → Nat → Int64} (w : zwf h) : zwf (h.1, h.2.1, L, h.2.2.2) := w
theorem zwf_P {h : zMm} {a k v : Nat} (hv : v < h.1.length ∨ 1000000 ≤ v) (w : zwf h) : zwf (h.1, h.2.1, h.2.2.1, zw h.2.2.2 a (va_up (h.2.2.2 a) k (some v))) := by
  refine ⟨w.1, fun b j r hr => ?_⟩
  by_cases e : b = a
  · subst e
    simp only [zw_s, va_up] at hr
    split at hr
    · cases hr; exact hv
    · exact w.2 b j r hr
  · simp only [zw_n e] at hr
    exact w.2 b j r hr
/-- a method's words, its room, its start and its end -/
def zwd (y : zInfo) : List Cond := .code y.1 y.2.1 y.2.2.1 y.2.2.2.1 :: zTB
def zrm (d mc ms : Nat) : Room := { frames := d, cells := mc, slots := ms, locals := 64 * d }
def zPc (D : va_G) (ad : Nat → Nat) (ac : Nat → ClassId) (sz : Nat) (vs : List Value) (h : zMm) : Array Value → State → Prop :=
  va_Pc (vs.map (zcv ad)) (fun U => U.heap.size = sz ∧ va_P D zCl (zws ad ac h) U.heap ∧ zK D ac h U ∧ va_D (fun _ => True) (zws ad ac h) ∧ zStat ad (va_A (zws ad ac h) sz) U U.heap)
def zQc (D : va_G) (ad : Nat → Nat) (ac : Nat → ClassId) (sz : Nat) (h : zMm) (v : Option Value) (h1 : zMm) : Array Value → State → Outcome → State → Prop := fun _ st oc t =>
  (∃ (ad' : Nat → Nat) (ac' : Nat → ClassId), oc = .returned (v.map (zcv ad')) ∧ zag h.1.length ad ad' ac ac' ∧ va_P D zCl (zws ad' ac' h1) t.heap ∧ zK D ac' h1 t ∧ va_D (va_A (zws ad ac h) sz) (zws ad' ac' h1)) ∧ va_F (va_A (zws ad ac h) sz) st t
def zCTX : Prop := ∃ (p : Program) (_ : Env) (s : State) (args : Array Value) (A : Nat → Prop) (ad0 : Nat → Nat), p.tables.exec = Jvm.exec ∧ (∀ w ∈ zTB, w.before args s = true) ∧ (∀ x, s.heap.size ≤ x → A x) ∧ zStat ad0 A s s.heap
def zCAL (l : Launch) (d : Nat) (cal : Nat → List Value → zMm → zRes) : Prop := ∀ M vs h v h1, M < 217 → cal M vs h = some (v, h1) → zwf h → (∀ x ∈ vs, zvk h.1.length x) →
  (zCTX → h.1.length ≤ h1.1.length ∧ zsl h.1 ≤ zsl h1.1 ∧ zwf h1 ∧ ∀ x, v = some x → zvk h1.1.length x) ∧
  ∀ y, zM M = some y → ∀ D ad ac sz, Met l y.1 (zwd y) (zrm d (h1.1.length - h.1.length) (zsl h1.1 - zsl h.1)) (zPc D ad ac sz vs h) (zQc D ad ac sz h v h1) (h1.1.length - h.1.length) (zsl h1.1 - zsl h.1) (va_A (zws ad ac h) sz)
theorem zcall {p : Program} {l : Launch} {e : Env} {R : Room} {s : State} {m : MethodId} {args : Array Value} {below : List Frame} {meth : Method} {c : Code} {H : Heap} {locs : List Loc} {cells slots : Nat} {Q : State → Prop} {pc : Nat} {ls : Array Slot} {rest st0 : List Value} {a : Array Value} {A : Nat → Prop} {mc ms : Nat} {D : va_G} {ad : Nat → Nat} {ac : Nat → ClassId} {h h1 : zMm} {v : Option Value}
    (hr : va_Run p l e R s m args below meth c H locs cells slots mc ms (F0 m pc ls st0) rest (zQc D ad ac H.size h v h1 a) (va_A (zws ad ac h) H.size)) (hS : va_S A s.heap H locs) (hAf : ∀ x, va_A (zws ad ac h) H.size x → A x)
    (kk : ∀ (ad' : Nat → Nat) (ac' : Nat → ClassId) (H1 : Heap) (locs1 : List Loc), zag h.1.length ad ad' ac ac' → va_P D zCl (zws ad' ac' h1) H1 → va_D A (zws ad' ac' h1) → va_S A s.heap H1 locs1 → zK D ac' h1 s → W p l e R s m args below meth c H1 locs1 (cells + mc) (slots + ms) Q (F0 m (pc + 3) ls ((v.map (zcv ad')).toList ++ rest))) : W p l e R s m args below meth c H locs cells slots Q (F0 m pc ls st0) := by
  intro T hT X
  obtain ⟨v', st₀, t, T', L, h0, X', hL, e1, e2, ⟨⟨ad', ac', hv, hag, hp, hk', hd⟩, hz, hkp⟩, st⟩ := hr T hT X
  cases hv
  rw [h0] at hz hkp
  have hal : s.vm.Alike t.vm := by rw [← e2]; exact X'.warmed.alike
  obtain ⟨t2, a1, b1⟩ := kk ad' ac' T'.heap (locs ++ L) hag (by rw [e1]; exact hp) (hd.weaken (fun _ x _ hx => hAf x.1 hx))
    ⟨Nat.le_trans hS.1 (by rw [e1]; exact hz), fun q h1 h2 => by rw [e1, hkp q (Nat.lt_of_lt_of_le h1 hS.1) (fun z => h2 (hAf q z))]; exact hS.2.1 q h1 h2, fun q hq => by
      rcases List.mem_append.mp hq with h | h
      · exact hS.2.2 q h
      · exact hAf _ (hL q h)⟩ (hk'.moved hal.symm) T' rfl X'
  exact ⟨t2, st t2 a1, b1⟩
theorem zfree {s : State} {A : Nat → Prop} {D : va_G} {ad : Nat → Nat} {ac : Nat → ClassId} {h : zMm} {H : Heap} {locs : List Loc} (g : zinv s A D ad ac h H locs) (hA : ∀ x, s.heap.size ≤ x → A x) : ∀ x, va_A (zws ad ac h) H.size x → A x := by
  intro x hx
  rcases hx with ⟨k, e, hk⟩ | hx
  · exact g.2.1.2 k _ hk
  · exact hA x (Nat.le_trans g.2.2.1.1 hx)
theorem zpre {s : State} {A : Nat → Prop} {D : va_G} {ad ad0 : Nat → Nat} {ac ac0 : Nat → ClassId} {n0 : Nat} {h : zMm} {H : Heap} {locs : List Loc} {vs : List Value} (g : zinv s A D ad ac h H locs) (hA : ∀ x, s.heap.size ≤ x → A x) (ga : zag n0 ad0 ad ac0 ac) (hSt : zStat ad0 A s s.heap) :
    ∀ U : State, U.heap = H → s.WarmedH U.vm → zPc D ad ac H.size vs h (vs.map (zcv ad)).toArray U := by
  intro U hU hW
  refine ⟨rfl, by rw [hU], by rw [hU]; exact g.1, g.2.2.2.moved hW.alike, g.2.1.weaken (fun _ _ _ _ => trivial), ?_⟩
  rw [hU]
  exact (((hSt.ag ga).kept (fun a h1 h2 => g.2.2.1.2.1 a h1 h2)).narrow (zfree g hA)).moved hW.alike
theorem zblind {D : va_G} {ad : Nat → Nat} {ac : Nat → ClassId} {sz : Nat} {vs : List Value} {h : zMm} : FrameBlind (zPc D ad ac sz vs h) := fun a U g mk q => by
  obtain ⟨q0, q1, qP, qK, qD, qS⟩ := q
  exact ⟨q0, q1, qP, qK.moved (u := U) (U := U.calling g mk a) (Vm.Alike.refl U.vm), qD, qS.moved (u := U) (U := U.calling g mk a) (Vm.Alike.refl U.vm)⟩
/-! new cells -/
theorem zf_nf : ∀ ci, ci < 11 → ∀ k, k < zN ci → (match zFt ci k with | .float => false | .double => false | _ => true) = true := by decide +kernel
def zup {α : Type} (f : Nat → α) (k : Nat) (x : α) : Nat → α := fun j => if j = k then x else f j
theorem zup_ag {n q : Nat} {ad : Nat → Nat} {ac : Nat → ClassId} {cA : ClassId} (hn : n < 1000000) : zag n ad (zup ad n q) ac (zup ac n cA) :=
  ⟨fun k hk => if_neg (by omega), fun k hk => if_neg (by omega)⟩
theorem zal_get {h : zMm} {x : zSh} {k : Nat} (hk : k < h.1.length) : (zal h x).1[k]? = h.1[k]? := by
  show (h.1 ++ [x])[k]? = _
  rw [List.getElem?_append_left hk]
theorem zal_last {h : zMm} {x : zSh} : (zal h x).1[h.1.length]? = some x := by
  show (h.1 ++ [x])[h.1.length]? = _
  rw [List.getElem?_append_right (Nat.le_refl _), Nat.sub_self]
  rfl
theorem zce_al {ad : Nat → Nat} {ac : Nat → ClassId} {h : zMm} {x : zSh} {k : Nat} (hk : k < h.1.length) : zce ad ac (zal h x) k = zce ad ac h k := by
  unfold zce
  rw [zal_get hk]
  have hne : k ≠ h.1.length := by omega
  simp only [zal, zw_n hne]
theorem zws_al {ad : Nat → Nat} {ac : Nat → ClassId} {h : zMm} {x : zSh} {q : Nat} {cA : ClassId} {e : va_E} (w : zwf h) (he : zce (zup ad h.1.length q) (zup ac h.1.length cA) (zal h x) h.1.length = e) : zws (zup ad h.1.length q) (zup ac h.1.length cA) (zal h x) = zws ad ac h ++ [(q, e)] := by
  have hl : (zal h x).1.length = h.1.length + 1 := by show (h.1 ++ [x]).length = _; simp
  have g := zup_ag (n := h.1.length) (q := q) (ad := ad) (ac := ac) (cA := cA) (Nat.lt_of_le_of_lt w.1 (by decide))
  have h2 : zws (zup ad h.1.length q) (zup ac h.1.length cA) h = zws ad ac h := zws_ext rfl (fun k hk => g.1 k (Or.inl hk)) (fun k hk => zce_ag w.2 g hk)
  rw [← h2]
  unfold zws
  rw [hl, List.range_succ, List.map_append]
  congr 1
  · apply List.map_congr_left
    intro k hk
    rw [zce_al (List.mem_range.mp hk)]
  · show [(zup ad h.1.length q h.1.length, _)] = _
    rw [he]
    unfold zup
    rw [if_pos rfl]
theorem zwf_al {h : zMm} {x : zSh} (w : zwf h) (hl : ¬ 500 < h.1.length) : zwf (zal h x) := by
  have e : (zal h x).1.length = h.1.length + 1 := by show (h.1 ++ [x]).length = _; simp
  refine ⟨by omega, fun a j r hr => ?_⟩
  rw [e]
  by_cases c : a = h.1.length
  · subst c
    simp only [zal, zw_s] at hr
    cases hr
  · simp only [zal, zw_n c] at hr
    have := w.2 a j r hr
    omega
theorem zK_al {D : va_G} {ad : Nat → Nat} {ac : Nat → ClassId} {h : zMm} {s : State} {q : Nat} {cA : ClassId} {t : FieldType} {n : Nat} {tys : List (ClassId × FieldType)} (h2 : ∀ k t n, h.1[k]? = some (.inr (t, n)) → ∃ t0 : Nat, tys[t0]? = some (ac k, t)) (hK : va_K D zCl (tys ++ [(cA, t)]) s) : zK D (zup ac h.1.length cA) (zal h (.inr (t, n))) s := by
  refine ⟨_, hK, fun k t' n' hk => ?_⟩
  by_cases e : k < h.1.length
  · rw [zal_get e] at hk
    obtain ⟨t0, ht0⟩ := h2 k t' n' hk
    refine ⟨t0, ?_⟩
    rw [List.getElem?_append_left (List.getElem?_eq_some_iff.mp ht0).1, ht0]
    unfold zup
    rw [if_neg (by omega)]
  · have hl := (List.getElem?_eq_some_iff.mp hk).1
    have e2 : (zal h (.inr (t, n))).1.length = h.1.length + 1 := by show (h.1 ++ [_]).length = _; simp
    have e3 : k = h.1.length := by omega
    subst e3
    rw [zal_last] at hk
    cases hk
    refine ⟨tys.length, ?_⟩
    rw [List.getElem?_append_right (Nat.le_refl _), Nat.sub_self]
    unfold zup
    rw [if_pos rfl]
    rfl
theorem zK_alo {D : va_G} {ac : Nat → ClassId} {h : zMm} {s : State} {cA : ClassId} {ci : Nat} (g : zK D ac h s) : zK D (zup ac h.1.length cA) (zal h (.inl ci)) s := by
  obtain ⟨tys, h1, h2⟩ := g
  refine ⟨tys, h1, fun k t' n' hk => ?_⟩
  by_cases e : k < h.1.length
  · rw [zal_get e] at hk
    obtain ⟨t0, ht0⟩ := h2 k t' n' hk
    refine ⟨t0, ?_⟩
    rw [ht0]
    unfold zup
    rw [if_neg (by omega)]
  · have hl := (List.getElem?_eq_some_iff.mp hk).1
    have e2 : (zal h (.inl ci)).1.length = h.1.length + 1 := by show (h.1 ++ [_]).length = _; simp
    have e3 : k = h.1.length := by omega
    subst e3
    rw [zal_last] at hk
    cases hk
