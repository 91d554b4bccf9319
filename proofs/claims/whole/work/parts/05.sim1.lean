/-! THE MACHINE DOES WHAT THE ABSTRACT MACHINE ANSWERS: values, cells, worlds, and what a state must be -/
def zcv (ad : Nat → Nat) (v : Value) : Value := match v with
  | .ref a => .ref (ad a)
  | v => v
theorem zcv_cat {ad : Nat → Nat} {v : Value} : (zcv ad v).category = v.category := by cases v <;> rfl
theorem zcv_rf {ad : Nat → Nat} {r : Option Nat} : zcv ad (va_rf r) = va_rf (r.map ad) := by cases r <;> rfl
theorem zcv_fv {ad : Nat → Nat} {t : FieldType} {x : Int32} {y : Int64} {z : Option Nat} : zcv ad (zfv id t x y z) = zfv ad t x y z := by
  cases t <;> first | rfl | (show zcv ad (va_rf (z.map id)) = va_rf (z.map ad); rw [zcv_rf, Option.map_id]; rfl)
theorem zcat_cv {ad : Nat → Nat} {st : List Value} : ((st.map (zcv ad)).map fun v => v.category).sum = zcat st := by
  unfold zcat
  rw [List.map_map]
  congr 1
  apply List.map_congr_left
  intro v _
  exact zcv_cat
def zvk (n : Nat) (v : Value) : Prop := ∀ a, v = .ref a → a < n ∨ 1000000 ≤ a
theorem zvk_int {n : Nat} {x : Int32} : zvk n (.int x) := fun _ h => by cases h
theorem zvk_long {n : Nat} {x : Int64} : zvk n (.long x) := fun _ h => by cases h
theorem zvk_ret {n k : Nat} : zvk n (.retAddr k) := fun _ h => by cases h
theorem zvk_mono {n k : Nat} {v : Value} (h : zvk n v) (hk : n ≤ k) : zvk k v := fun a e => (h a e).imp (fun x => Nat.lt_of_lt_of_le x hk) id
def zwf (h : zMm) : Prop := h.1.length ≤ 1000 ∧ ∀ a j r, h.2.2.2 a j = some r → r < h.1.length ∨ 1000000 ≤ r
def zce (ad : Nat → Nat) (ac : Nat → ClassId) (h : zMm) (k : Nat) : va_E := match h.1[k]? with
  | some (.inl ci) => .inr (ci, (List.range (zN ci)).map fun j => zfv ad (zFt ci j) (h.2.1 k j) (h.2.2.1 k j) (h.2.2.2 k j))
  | some (.inr (t, n)) => .inl (ac k, n, match t with
    | .long => .inr (.inl (h.2.2.1 k))
    | .object _ => .inr (.inr (.inr (.inr fun j => (h.2.2.2 k j).map ad)))
    | .array _ => .inr (.inr (.inr (.inr fun j => (h.2.2.2 k j).map ad)))
    | _ => .inl (h.2.1 k))
  | none => .inr (0, [])
def zws (ad : Nat → Nat) (ac : Nat → ClassId) (h : zMm) : va_W := (List.range h.1.length).map fun k => (ad k, zce ad ac h k)
theorem zws_len {ad : Nat → Nat} {ac : Nat → ClassId} {h : zMm} : (zws ad ac h).length = h.1.length := by simp [zws]
theorem zws_get {ad : Nat → Nat} {ac : Nat → ClassId} {h : zMm} {k : Nat} (hk : k < h.1.length) : (zws ad ac h)[k]? = some (ad k, zce ad ac h k) := by
  unfold zws
  rw [List.getElem?_map, List.getElem?_range hk]
  rfl
theorem zws_ext {ad ad' : Nat → Nat} {ac ac' : Nat → ClassId} {h h' : zMm} (hl : h'.1.length = h.1.length) (ha : ∀ k, k < h.1.length → ad' k = ad k) (hc : ∀ k, k < h.1.length → zce ad' ac' h' k = zce ad ac h k) : zws ad' ac' h' = zws ad ac h := by
  unfold zws
  rw [hl]
  apply List.map_congr_left
  intro k hk
  have := List.mem_range.mp hk
  rw [ha k this, hc k this]
theorem zws_set {ad : Nat → Nat} {ac : Nat → ClassId} {h h' : zMm} {k : Nat} {e : va_E} (hl : h'.1 = h.1) (he : zce ad ac h' k = e) (ho : ∀ j, j ≠ k → zce ad ac h' j = zce ad ac h j) : (zws ad ac h).set k (ad k, e) = zws ad ac h' := by
  apply List.ext_getElem?
  intro j
  by_cases hj : j < h.1.length
  · rw [zws_get (h := h') (by rw [hl]; exact hj)]
    by_cases hk : j = k
    · subst hk
      rw [List.getElem?_set_self (by rw [zws_len]; exact hj), he]
    · rw [List.getElem?_set_ne (Ne.symm hk), zws_get hj, ho j hk]
  · rw [List.getElem?_eq_none (by rw [List.length_set, zws_len]; omega), List.getElem?_eq_none (by rw [zws_len, hl]; omega)]
/-- two readings of the numbers agree on the first n cells -/
def zag (n : Nat) (ad ad' : Nat → Nat) (ac ac' : Nat → ClassId) : Prop := (∀ k, k < n ∨ 1000000 ≤ k → ad' k = ad k) ∧ ∀ k, k < n → ac' k = ac k
theorem zag_rf {n : Nat} {ad : Nat → Nat} {ac : Nat → ClassId} : zag n ad ad ac ac := ⟨fun _ _ => rfl, fun _ _ => rfl⟩
theorem zag_tr {n k : Nat} {a1 a2 a3 : Nat → Nat} {c1 c2 c3 : Nat → ClassId} (h1 : zag n a1 a2 c1 c2) (h2 : zag k a2 a3 c2 c3) (hk : n ≤ k) : zag n a1 a3 c1 c3 :=
  ⟨fun j hj => (h2.1 j (hj.imp (fun x => Nat.lt_of_lt_of_le x hk) id)).trans (h1.1 j hj), fun j hj => (h2.2 j (Nat.lt_of_lt_of_le hj hk)).trans (h1.2 j hj)⟩
theorem zcv_ag {n : Nat} {ad ad' : Nat → Nat} {ac ac' : Nat → ClassId} {v : Value} (h : zag n ad ad' ac ac') (hv : zvk n v) : zcv ad' v = zcv ad v := by
  cases v <;> try rfl
  rename_i a
  show Value.ref (ad' a) = Value.ref (ad a)
  rw [h.1 a (hv a rfl)]
theorem zcvs_ag {n : Nat} {ad ad' : Nat → Nat} {ac ac' : Nat → ClassId} {st : List Value} (h : zag n ad ad' ac ac') (hv : ∀ v ∈ st, zvk n v) : st.map (zcv ad') = st.map (zcv ad) :=
  List.map_congr_left fun v hm => zcv_ag h (hv v hm)
theorem zmap_ag {n : Nat} {ad ad' : Nat → Nat} {ac ac' : Nat → ClassId} {z : Option Nat} (h : zag n ad ad' ac ac') (hv : ∀ r, z = some r → r < n ∨ 1000000 ≤ r) : z.map ad' = z.map ad := by
  cases z with
  | none => rfl
  | some r => show some (ad' r) = some (ad r); rw [h.1 r (hv r rfl)]
theorem zfv_ag {n : Nat} {ad ad' : Nat → Nat} {ac ac' : Nat → ClassId} {t : FieldType} {x : Int32} {y : Int64} {z : Option Nat} (h : zag n ad ad' ac ac') (hv : ∀ r, z = some r → r < n ∨ 1000000 ≤ r) : zfv ad' t x y z = zfv ad t x y z := by
  cases t <;> first | rfl | (show va_rf (z.map ad') = va_rf (z.map ad); rw [zmap_ag h hv])
theorem zce_ag {ad ad' : Nat → Nat} {ac ac' : Nat → ClassId} {h : zMm} {n : Nat} (hw : ∀ a j r, h.2.2.2 a j = some r → r < n ∨ 1000000 ≤ r) (g : zag n ad ad' ac ac') {k : Nat} (hk : k < n) : zce ad' ac' h k = zce ad ac h k := by
  unfold zce
  split
  · congr 2
    apply List.map_congr_left
    intro j _
    exact zfv_ag g (fun r => hw k j r)
  · rename_i t m _
    rw [g.2 k hk]
    have e : (fun j => (h.2.2.2 k j).map ad') = fun j => (h.2.2.2 k j).map ad := funext fun j => zmap_ag g (fun r => hw k j r)
    cases t <;> simp only [e]
  · rfl
def zsl (sh : List zSh) : Nat := (sh.map fun x => match x with
  | .inl ci => zN ci
  | .inr (_, n) => n).sum
theorem zsl_app {a b : List zSh} : zsl (a ++ b) = zsl a + zsl b := by unfold zsl; rw [List.map_append, List.sum_append]
def zK (D : va_G) (ac : Nat → ClassId) (h : zMm) (U : State) : Prop := ∃ tys, va_K D zCl tys U ∧ ∀ k t n, h.1[k]? = some (.inr (t, n)) → ∃ t0 : Nat, tys[t0]? = some (ac k, t)
theorem zK.moved {D : va_G} {ac : Nat → ClassId} {h : zMm} {u U : State} (hvm : u.vm.Alike U.vm) (g : zK D ac h u) : zK D ac h U := by
  obtain ⟨tys, h1, h2⟩ := g
  exact ⟨tys, h1.moved hvm, h2⟩
def zinv (s : State) (A : Nat → Prop) (D : va_G) (ad : Nat → Nat) (ac : Nat → ClassId) (h : zMm) (H : Heap) (locs : List Loc) : Prop :=
  va_P D zCl (zws ad ac h) H ∧ va_D A (zws ad ac h) ∧ va_S A s.heap H locs ∧ zK D ac h s
def zlo (ad : Nat → Nat) (ls : Array Slot) (nL : Nat) (la : List Value) : Prop := ls.size = nL ∧ lv_wf ls ∧ la.length = nL ∧ ∀ (i : Nat) (v : Value), la[i]? = some v → (∀ k, v ≠ .retAddr k) → ls[i]? = some (.val (zcv ad v))
theorem zlo_at {ad : Nat → Nat} {ls : Array Slot} {nL : Nat} {la : List Value} {i : Nat} {v : Value} (h : zlo ad ls nL la) (hv : zlc la i = v) (hn : ∀ k, v ≠ .retAddr k) : ls[i]? = some (.val (zcv ad v)) := by
  unfold zlc at hv
  rw [List.getD_eq_getElem?_getD] at hv
  cases hi : la[i]? with
  | none => rw [hi] at hv; exact absurd hv.symm (hn 0)
  | some w =>
    rw [hi] at hv
    have hv : w = v := hv
    exact h.2.2.2 i v (by rw [hi, hv]) hn
/-- the list of locals as the kit has it -/
def zll (ad : Nat → Nat) (la : List Value) : List (Nat × Value) := (List.range la.length).filterMap fun i => match (la[i]? : Option Value) with
  | some (.retAddr _) => none
  | some v => some (i, zcv ad v)
  | none => none
theorem zll_mem {ad : Nat → Nat} {la : List Value} {i : Nat} {v : Value} (h : la[i]? = some v) (hn : ∀ k, v ≠ .retAddr k) : (i, zcv ad v) ∈ zll ad la := by
  unfold zll
  refine List.mem_filterMap.mpr ⟨i, List.mem_range.mpr (List.getElem?_eq_some_iff.mp h).1, ?_⟩
  rw [h]
  cases v <;> first | rfl | exact absurd rfl (hn _)
theorem zll_has {ad : Nat → Nat} {ls : Array Slot} {nL : Nat} {la : List Value} (h : zlo ad ls nL la) : lv_has ls nL (zll ad la) := by
  refine ⟨h.1, h.2.1, fun x hx => ?_⟩
  obtain ⟨i, -, hi⟩ := List.mem_filterMap.mp hx
  cases hv : la[i]? with
  | none => rw [hv] at hi; cases hi
  | some v =>
    rw [hv] at hi
    cases v <;> first | (simp at hi; done) | (have hi := Option.some.inj hi; subst hi; exact h.2.2.2 i _ hv (fun k q => by cases q))
/-- behind a store of one word -/
theorem zlo_set {ad : Nat → Nat} {ls ls' : Array Slot} {nL : Nat} {la : List Value} {i : Nat} {v w : Value} (h : zlo ad ls nL la) (hi : i < la.length) (h2 : zok2 la i = true) (hw : zcv ad v = w)
    (h' : lv_has ls' nL ((i, w) :: (zll ad la).filter (fun q => !(q.1 == i) && !(q.1 + 1 == i && q.2.category == 2)))) : zlo ad ls' nL (la.set i v) := by
  refine ⟨h'.1, h'.2.1, by rw [List.length_set]; exact h.2.2.1, fun j x hj hn => ?_⟩
  by_cases e : j = i
  · subst e
    rw [List.getElem?_set_self hi] at hj
    cases hj
    rw [hw]
    exact h'.2.2 (j, w) List.mem_cons_self
  · rw [List.getElem?_set_ne (Ne.symm e)] at hj
    refine h'.2.2 (j, zcv ad x) (List.mem_cons_of_mem _ (List.mem_filter.mpr ⟨zll_mem hj hn, ?_⟩))
    have h3 : ¬ (j + 1 = i ∧ (zcv ad x).category = 2) := by
      rintro ⟨rfl, hc⟩
      rw [zcv_cat] at hc
      have h2 : ((la.getD j (.retAddr 0)).category != 2) = true := h2
      rw [List.getD_eq_getElem?_getD, hj] at h2
      simp [hc] at h2
    simp only [Bool.and_eq_true, Bool.not_eq_true', beq_eq_false_iff_ne, Bool.and_eq_false_iff, ne_eq]
    refine ⟨e, ?_⟩
    rcases Nat.decEq (j + 1) i with h4 | h4
    · exact Or.inl h4
    · exact Or.inr (fun h5 => h3 ⟨h4, h5⟩)
theorem zlo_ag {n : Nat} {ad ad' : Nat → Nat} {ac ac' : Nat → ClassId} {ls : Array Slot} {nL : Nat} {la : List Value} (g : zag n ad ad' ac ac') (hv : ∀ v ∈ la, zvk n v) (h : zlo ad ls nL la) : zlo ad' ls nL la :=
  ⟨h.1, h.2.1, h.2.2.1, fun i v hi hn => by rw [zcv_ag g (hv v (List.mem_of_getElem? hi))]; exact h.2.2.2 i v hi hn⟩
/-! the two tables, and what arrays of arrays and of shelves are -/
theorem zfindIdx {vm vm' : Vm} (h : vm.Alike vm') (f : Class → Bool) (hf : ∀ k : Class, f k.bare = f k) : vm'.classes.findIdx? f = vm.classes.findIdx? f := by
  have e : ∀ v : Vm, v.bare.classes.findIdx? f = v.classes.findIdx? f := fun v => by
    simp only [Vm.bare, Array.findIdx?_map]
    congr 1; funext k; exact hf k
  rw [← e vm', ← e vm, h.bare_eq]
theorem va_AOA.moved {ty : FieldType} {u U : State} (hvm : u.vm.Alike U.vm) (h : va_AOA ty u) : va_AOA ty U := by
  have e : (Cond.arrayOver (.array ty)).before #[] U = (Cond.arrayOver (.array ty)).before #[] u := by
    simp only [Cond.before, Cond.holds, Cond.value, hvm.findClass]
    congr 1
    congr 1
    funext comp
    rw [zfindIdx hvm _ (fun k => rfl)]
    congr 1
    funext c
    exact hvm.class_map _ (fun k r _ _ => rfl) c
  unfold va_AOA at *
  rw [e]
  exact h
def zStat (ad : Nat → Nat) (A : Nat → Prop) (U : State) (H : Heap) : Prop :=
  va_Z "PalletSky$Bodies" "OWN" "[I" (.ref (ad 1000001)) A U H ∧ va_T .int (ad 1000001) 32 (fun j => .int (zOWN j)) A U H ∧ va_Z "PalletSky$Bodies" "ABOVE" "[I" (.ref (ad 1000002)) A U H ∧ va_T .int (ad 1000002) 8 (fun j => .int (zABOVE j)) A U H ∧ va_AOA .int U ∧ va_AO "PalletSky$Shelf" U
theorem zStat.moved {ad : Nat → Nat} {A : Nat → Prop} {u U : State} {H : Heap} (hvm : u.vm.Alike U.vm) (h : zStat ad A u H) : zStat ad A U H :=
  ⟨h.1.moved hvm, h.2.1.moved hvm, h.2.2.1.moved hvm, h.2.2.2.1.moved hvm, h.2.2.2.2.1.moved hvm, h.2.2.2.2.2.moved hvm⟩
theorem zStat.kept {ad : Nat → Nat} {A : Nat → Prop} {U : State} {H H1 : Heap} (h : zStat ad A U H) (hq : ∀ a : Nat, a < H.size → ¬ A a → H1[a]? = H[a]?) : zStat ad A U H1 :=
  ⟨h.1.kept hq, h.2.1.kept hq, h.2.2.1.kept hq, h.2.2.2.1.kept hq, h.2.2.2.2⟩
theorem zStat.narrow {ad : Nat → Nat} {A B : Nat → Prop} {U : State} {H : Heap} (h : zStat ad A U H) (hAB : ∀ q, B q → A q) : zStat ad B U H :=
  ⟨h.1.narrow hAB, h.2.1.narrow hAB, h.2.2.1.narrow hAB, h.2.2.2.1.narrow hAB, h.2.2.2.2⟩
theorem zStat.ag {n : Nat} {ad ad' : Nat → Nat} {ac ac' : Nat → ClassId} {A : Nat → Prop} {U : State} {H : Heap} (g : zag n ad ad' ac ac') (h : zStat ad A U H) : zStat ad' A U H := by
  unfold zStat at *
  rw [g.1 1000001 (Or.inr (by decide)), g.1 1000002 (Or.inr (by decide))]
  exact h
def zScr (ad : Nat → Nat) (scr : Option (Nat × (Nat → Int32))) (A : Nat → Prop) (s : State) : Prop := ∀ L xs, scr = some (L, xs) → va_X (ad 1000000) L xs s s.heap ∧ ad 1000000 < s.heap.size ∧ ¬ A (ad 1000000)
def zSIM (K : Heap → List Loc → Nat → Nat → JFrame → Prop) (m : MethodId) (s : State) (A : Nat → Prop) (D : va_G) (nL n0 : Nat) (ad0 : Nat → Nat) (ac0 : Nat → ClassId) (CT ST : Nat) (r : Option Value) (h' : zMm) (pc : Nat) (la st : List Value) (h : zMm) : Prop :=
  zwf h → (∀ v ∈ la, zvk h.1.length v) → (∀ v ∈ st, zvk h.1.length v) → n0 ≤ h.1.length →
  (h.1.length ≤ h'.1.length ∧ zsl h.1 ≤ zsl h'.1 ∧ zwf h' ∧ ∀ v, r = some v → zvk h'.1.length v) ∧
  ∀ ad ac H locs cells slots ls, zag n0 ad0 ad ac0 ac → zinv s A D ad ac h H locs → zlo ad ls nL la → cells + h'.1.length = CT + h.1.length → slots + zsl h'.1 = ST + zsl h.1 → K H locs cells slots (F0 m pc ls (st.map (zcv ad)))
section SIM
variable {K : Heap → List Loc → Nat → Nat → JFrame → Prop} {m : MethodId} {s : State} {A : Nat → Prop} {D : va_G} {nL n0 : Nat} {ad0 : Nat → Nat} {ac0 : Nat → ClassId} {CT ST : Nat} {r : Option Value} {h' : zMm} {pc pc' : Nat} {la la' st st' : List Value} {h h1 : zMm}
/-- a step that touches the stack alone -/
theorem zs_pure (S : zSIM K m s A D nL n0 ad0 ac0 CT ST r h' pc' la st' h) (hok : (∀ v ∈ st, zvk h.1.length v) → ∀ v ∈ st', zvk h.1.length v)
    (hw : ∀ ad ac H locs cells slots ls, zag n0 ad0 ad ac0 ac → zinv s A D ad ac h H locs → zlo ad ls nL la → K H locs cells slots (F0 m pc' ls (st'.map (zcv ad))) → K H locs cells slots (F0 m pc ls (st.map (zcv ad)))) : zSIM K m s A D nL n0 ad0 ac0 CT ST r h' pc la st h := by
  intro w1 w2 w3 w4
  obtain ⟨a, b⟩ := S w1 w2 (hok w3) w4
  exact ⟨a, fun ad ac H locs cells slots ls g1 g2 g3 g4 g5 => hw ad ac H locs cells slots ls g1 g2 g3 (b ad ac H locs cells slots ls g1 g2 g3 g4 g5)⟩
/-- a step that touches stack and locals -/
theorem zs_loc (S : zSIM K m s A D nL n0 ad0 ac0 CT ST r h' pc' la' st' h) (hok : (∀ v ∈ la, zvk h.1.length v) → (∀ v ∈ st, zvk h.1.length v) → (∀ v ∈ la', zvk h.1.length v) ∧ ∀ v ∈ st', zvk h.1.length v)
    (hw : ∀ ad ac H locs cells slots ls, zag n0 ad0 ad ac0 ac → zinv s A D ad ac h H locs → zlo ad ls nL la → (∀ ls', zlo ad ls' nL la' → K H locs cells slots (F0 m pc' ls' (st'.map (zcv ad)))) → K H locs cells slots (F0 m pc ls (st.map (zcv ad)))) : zSIM K m s A D nL n0 ad0 ac0 CT ST r h' pc la st h := by
  intro w1 w2 w3 w4
  obtain ⟨k1, k2⟩ := hok w2 w3
  obtain ⟨a, b⟩ := S w1 k1 k2 w4
  exact ⟨a, fun ad ac H locs cells slots ls g1 g2 g3 g4 g5 => hw ad ac H locs cells slots ls g1 g2 g3 (fun ls' g6 => b ad ac H locs cells slots ls' g1 g2 g6 g4 g5)⟩
/-- a step that writes into a cell: h1 has the same shapes -/
theorem zs_wr (S : zSIM K m s A D nL n0 ad0 ac0 CT ST r h' pc' la st' h1) (hsh : h1.1 = h.1) (hok : (∀ v ∈ st, zvk h.1.length v) → (∀ v ∈ st', zvk h.1.length v) ∧ (zwf h → zwf h1))
    (hw : ∀ ad ac H locs cells slots ls, (∀ v ∈ st, zvk h.1.length v) → zag n0 ad0 ad ac0 ac → zinv s A D ad ac h H locs → zlo ad ls nL la → (∀ H1 locs1, va_P D zCl (zws ad ac h1) H1 → va_D A (zws ad ac h1) → va_S A s.heap H1 locs1 → K H1 locs1 cells slots (F0 m pc' ls (st'.map (zcv ad)))) → K H locs cells slots (F0 m pc ls (st.map (zcv ad)))) : zSIM K m s A D nL n0 ad0 ac0 CT ST r h' pc la st h := by
  intro w1 w2 w3 w4
  obtain ⟨k1, k2⟩ := hok w3
  obtain ⟨a, b⟩ := S (k2 w1) (by rw [hsh]; exact w2) (by rw [hsh]; exact k1) (by rw [hsh]; exact w4)
  refine ⟨by rw [hsh] at a; exact a, fun ad ac H locs cells slots ls g1 g2 g3 g4 g5 => hw ad ac H locs cells slots ls w3 g1 g2 g3 (fun H1 locs1 q1 q2 q3 => b ad ac H1 locs1 cells slots ls g1 ⟨q1, q2, q3, ?_⟩ g3 (by rw [hsh]; exact g4) (by rw [hsh]; exact g5))⟩
  obtain ⟨tys, t1, t2⟩ := g2.2.2.2
  exact ⟨tys, t1, fun k t n hk => t2 k t n (by rw [← hsh]; exact hk)⟩
end SIM
