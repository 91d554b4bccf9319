/-! one step of the abstract machine is one step of the machine -/
theorem zmc {P : Value → Prop} {a : Value} {l : List Value} (h1 : P a) (h2 : ∀ v ∈ l, P v) : ∀ v ∈ a :: l, P v := List.forall_mem_cons.mpr ⟨h1, h2⟩
theorem zm1 {P : Value → Prop} {a : Value} {l : List Value} (h : ∀ v ∈ a :: l, P v) : ∀ v ∈ l, P v := (List.forall_mem_cons.mp h).2
theorem zmh {P : Value → Prop} {a : Value} {l : List Value} (h : ∀ v ∈ a :: l, P v) : P a := (List.forall_mem_cons.mp h).1
def zrk (q : zInfo) (pc : Nat) (r : Option Value) : Prop := match r with
  | some (.int v) => decode q.2.1 pc = .ok (.ireturn, 1) ∧ (q.2.2.2.1 = some .int ∨ (q.2.2.2.1 = some .boolean ∧ (v = 0 ∨ v = 1)))
  | some (.long _) => decode q.2.1 pc = .ok (.lreturn, 1) ∧ q.2.2.2.1 = some .long
  | some (.ref _) => decode q.2.1 pc = .ok (.areturn, 1) ∧ ∃ n, q.2.2.2.1 = some (.object n)
  | none => decode q.2.1 pc = .ok (.return_, 1) ∧ q.2.2.2.1 = none
  | _ => False
def zRET (K : Heap → List Loc → Nat → Nat → JFrame → Prop) (m : MethodId) (s : State) (A : Nat → Prop) (D : va_G) (q : zInfo) (n0 : Nat) (ad0 : Nat → Nat) (ac0 : Nat → ClassId) (CT ST : Nat) (r : Option Value) (h' : zMm) : Prop :=
  ∀ pc ad ac H locs ls, zag n0 ad0 ad ac0 ac → zinv s A D ad ac h' H locs → (∀ v, r = some v → zvk h'.1.length v) → zrk q pc r → K H locs CT ST (F0 m pc ls ((r.map (zcv ad)).toList))
theorem zIfT {α : Type} {c : Prop} {a : Option α} {b : α} [Decidable c] (h : (if c then none else a) = some b) : ¬ c ∧ a = some b := by
  split at h
  · cases h
  · exact ⟨by assumption, h⟩
theorem zIfE {α : Type} {c : Prop} {a : Option α} {b : α} [Decidable c] (h : (if c then a else none) = some b) : c ∧ a = some b := by
  split at h
  · exact ⟨by assumption, h⟩
  · cases h
section ST
variable {p : Program} {l : Launch} {e : Env} {R : Room} {s : State} {m : MethodId} {args : Array Value} {below : List Frame} {meth : Method} {c : Code} {Q : State → Prop} {A : Nat → Prop} {D : va_G} {q : zInfo} {d n0 : Nat} {ad0 : Nat → Nat} {ac0 : Nat → ClassId} {CT ST : Nat} {r : Option Value} {h' : zMm} {scr : Option (Nat × (Nat → Int32))} {cal : Nat → List Value → zMm → zRes} {ih : Nat → List Value → List Value → zMm → zRes} {pc : Nat} {la st : List Value} {h : zMm}
theorem zs_go {off : Int} {r0 : List Value} (IH : ∀ pc la st h, ih pc la st h = some (r, h') → zSIM (fun H locs cells slots g => W p l e R s m args below meth c H locs cells slots Q g) m s A D q.2.2.1 n0 ad0 ac0 CT ST r h' pc la st h)
    (hs : zgo ih pc off la r0 h = some (r, h')) : ∃ tgt : Nat, (pc : Int) + off = (tgt : Int) ∧ zSIM (fun H locs cells slots g => W p l e R s m args below meth c H locs cells slots Q g) m s A D q.2.2.1 n0 ad0 ac0 CT ST r h' tgt la r0 h := by
  unfold zgo at hs
  obtain ⟨h1, h2⟩ := zIfT hs
  exact ⟨_, by omega, IH _ _ _ _ h2⟩
theorem zs_load {k n pc' : Nat} (IH : ∀ pc la st h, ih pc la st h = some (r, h') → zSIM (fun H locs cells slots g => W p l e R s m args below meth c H locs cells slots Q g) m s A D q.2.2.1 n0 ad0 ac0 CT ST r h' pc la st h)
    (hs : zdoLoad ih k n pc' la st h = some (r, h'))
    (w0 : k = 0 → ∀ (x : Int32) (H : Heap) (locs : List Loc) (cells slots : Nat) (ls : Array Slot) (rest : List Value), ls[n]? = some (.val (.int x)) → W p l e R s m args below meth c H locs cells slots Q (F0 m pc' ls (.int x :: rest)) → W p l e R s m args below meth c H locs cells slots Q (F0 m pc ls rest))
    (w1 : k = 1 → ∀ (x : Int64) (H : Heap) (locs : List Loc) (cells slots : Nat) (ls : Array Slot) (rest : List Value), ls[n]? = some (.val (.long x)) → W p l e R s m args below meth c H locs cells slots Q (F0 m pc' ls (.long x :: rest)) → W p l e R s m args below meth c H locs cells slots Q (F0 m pc ls rest))
    (w2 : k = 2 → ∀ (x : Nat) (H : Heap) (locs : List Loc) (cells slots : Nat) (ls : Array Slot) (rest : List Value), ls[n]? = some (.val (.ref x)) → W p l e R s m args below meth c H locs cells slots Q (F0 m pc' ls (.ref x :: rest)) → W p l e R s m args below meth c H locs cells slots Q (F0 m pc ls rest)) :
    zSIM (fun H locs cells slots g => W p l e R s m args below meth c H locs cells slots Q g) m s A D q.2.2.1 n0 ad0 ac0 CT ST r h' pc la st h := by
  unfold zdoLoad at hs
  split at hs
  · rename_i x hz
    exact zs_pure (IH _ _ _ _ hs) (fun hv => zmc zvk_int hv) (fun ad ac H locs cells slots ls _ _ g k => w0 rfl x H locs cells slots ls _ (zlo_at g hz (fun _ h => by cases h)) k)
  · rename_i x hz
    exact zs_pure (IH _ _ _ _ hs) (fun hv => zmc zvk_long hv) (fun ad ac H locs cells slots ls _ _ g k => w1 rfl x H locs cells slots ls _ (zlo_at g hz (fun _ h => by cases h)) k)
  · rename_i x hz
    intro y1 y2 y3 y4
    refine zs_pure (IH _ _ _ _ hs) (fun hv => zmc ?_ hv) (fun ad ac H locs cells slots ls _ _ g k => w2 rfl (ad x) H locs cells slots ls _ (zlo_at g hz (fun _ h => by cases h)) k) y1 y2 y3 y4
    unfold zlc at hz
    rw [List.getD_eq_getElem?_getD] at hz
    cases hi : la[n]? with
    | none => rw [hi] at hz; cases hz
    | some w => rw [hi] at hz; have hz : w = .ref x := hz; rw [← hz]; exact y2 w (List.mem_of_getElem? hi)
  · cases hs
theorem zs_store {k n pc' : Nat} (IH : ∀ pc la st h, ih pc la st h = some (r, h') → zSIM (fun H locs cells slots g => W p l e R s m args below meth c H locs cells slots Q g) m s A D q.2.2.1 n0 ad0 ac0 CT ST r h' pc la st h)
    (hs : zdoStore ih k n pc' la st h = some (r, h'))
    (w0 : k = 0 → ∀ (x : Int32) (H : Heap) (locs : List Loc) (cells slots : Nat) (ls : Array Slot) (rest : List Value) (lv : List (Nat × Value)), lv_has ls q.2.2.1 lv → n < q.2.2.1 → (∀ ls', lv_has ls' q.2.2.1 ((n, .int x) :: lv.filter (fun q => !(q.1 == n) && !(q.1 + 1 == n && q.2.category == 2))) → W p l e R s m args below meth c H locs cells slots Q (F0 m pc' ls' rest)) → W p l e R s m args below meth c H locs cells slots Q (F0 m pc ls (.int x :: rest)))
    (w2 : k = 2 → ∀ (x : Nat) (H : Heap) (locs : List Loc) (cells slots : Nat) (ls : Array Slot) (rest : List Value) (lv : List (Nat × Value)), lv_has ls q.2.2.1 lv → n < q.2.2.1 → (∀ ls', lv_has ls' q.2.2.1 ((n, .ref x) :: lv.filter (fun q => !(q.1 == n) && !(q.1 + 1 == n && q.2.category == 2))) → W p l e R s m args below meth c H locs cells slots Q (F0 m pc' ls' rest)) → W p l e R s m args below meth c H locs cells slots Q (F0 m pc ls (.ref x :: rest))) :
    zSIM (fun H locs cells slots g => W p l e R s m args below meth c H locs cells slots Q g) m s A D q.2.2.1 n0 ad0 ac0 CT ST r h' pc la st h := by
  have key : ∀ {v : Value}, zvk h.1.length v → (∀ x ∈ la, zvk h.1.length x) → ∀ x ∈ la.set n v, zvk h.1.length x := by
    intro v hv hl x hx
    rcases List.mem_or_eq_of_mem_set hx with h1 | h1
    · exact hl x h1
    · rw [h1]; exact hv
  unfold zdoStore at hs
  split at hs
  · obtain ⟨⟨h1, h2⟩, h3⟩ := zIfE hs
    exact zs_loc (IH _ _ _ _ h3) (fun hl hv => ⟨key (zmh hv) hl, zm1 hv⟩) (fun ad ac H locs cells slots ls _ _ g k => w0 rfl _ H locs cells slots ls _ _ (zll_has g) (by rw [← g.2.2.1]; exact h1) (fun ls' hl => k ls' (zlo_set g h1 h2 rfl hl)))
  · obtain ⟨⟨h1, h2⟩, h3⟩ := zIfE hs
    exact zs_loc (IH _ _ _ _ h3) (fun hl hv => ⟨key (zmh hv) hl, zm1 hv⟩) (fun ad ac H locs cells slots ls _ _ g k => w2 rfl _ H locs cells slots ls _ _ (zll_has g) (by rw [← g.2.2.1]; exact h1) (fun ls' hl => k ls' (zlo_set g h1 h2 rfl hl)))
  · cases hs
theorem zs_bin {i : Instr} (IH : ∀ pc la st h, ih pc la st h = some (r, h') → zSIM (fun H locs cells slots g => W p l e R s m args below meth c H locs cells slots Q g) m s A D q.2.2.1 n0 ad0 ac0 CT ST r h' pc la st h)
    (hs : zdoBin ih i pc la st h = some (r, h'))
    (w : ∀ (x y v : Int32) (H : Heap) (locs : List Loc) (cells slots : Nat) (ls : Array Slot) (rest : List Value), zbin i x y = some v → W p l e R s m args below meth c H locs cells slots Q (F0 m (pc + 1) ls (.int v :: rest)) → W p l e R s m args below meth c H locs cells slots Q (F0 m pc ls (.int y :: .int x :: rest))) :
    zSIM (fun H locs cells slots g => W p l e R s m args below meth c H locs cells slots Q g) m s A D q.2.2.1 n0 ad0 ac0 CT ST r h' pc la st h := by
  unfold zdoBin at hs
  split at hs
  · split at hs
    · rename_i hz
      exact zs_pure (IH _ _ _ _ hs) (fun hv => zmc zvk_int (zm1 (zm1 hv))) (fun ad ac H locs cells slots ls _ _ _ k => w _ _ _ H locs cells slots ls _ hz k)
    · cases hs
  · cases hs
theorem zs_get (hx : p.tables.exec = Jvm.exec) (hb : c.code = q.2.1) (hown : s.vm.findClass (zNm q.2.2.2.2.1) = some m.cls) (hts : ∀ w ∈ zTB, w.before args s = true) {idx : Nat} (hd : decode q.2.1 pc = .ok (.getfield idx, 3)) (IH : ∀ pc la st h, ih pc la st h = some (r, h') → zSIM (fun H locs cells slots g => W p l e R s m args below meth c H locs cells slots Q g) m s A D q.2.2.1 n0 ad0 ac0 CT ST r h' pc la st h)
    (hs : zdoGet q ih idx pc la st h = some (r, h')) : zSIM (fun H locs cells slots g => W p l e R s m args below meth c H locs cells slots Q g) m s A D q.2.2.1 n0 ad0 ac0 CT ST r h' pc la st h := by
  unfold zdoGet at hs
  split at hs
  · rename_i ci k a r0 hl
    obtain ⟨h1, h2⟩ := zIfE hs
    have hF : zLFok _ := zLFc_ok _ (by rw [zLFs_eq]; exact zlk_mem hl)
    obtain ⟨f1, f2, f3⟩ := hF
    have hlt := (List.getElem?_eq_some_iff.mp h1).1
    intro y1 y2 y3 y4
    refine zs_pure (IH _ _ _ _ h2) (fun hv => zmc ?_ (zm1 hv)) (fun ad ac H locs cells slots ls _ g _ kk => ?_) y1 y2 y3 y4
    · intro b hb2
      have := y1.2 a k
      cases hf : zFt ci k <;> rw [hf] at hb2 <;> first | (cases hb2; done) | (
        have hb2 : va_rf ((h.2.2.2 a k).map id) = .ref b := hb2
        rw [Option.map_id] at hb2
        cases hz : h.2.2.2 a k with
        | none => rw [hz] at hb2; cases hb2
        | some b' => rw [hz] at hb2; cases hb2; exact this _ hz)
    · obtain ⟨tys, hK, -⟩ := g.2.2.2
      have hw := zws_get (ad := ad) (ac := ac) hlt
      rw [zce_cls h1] at hw
      refine va_get hx hb hts (zf_ws ci f3) hown hK g.1 a hw (zf_cl ci f3) k f2 (hts _ f1) (fun x hxx => by rw [zf_dc ci f3 k f2] at hxx; exact hxx) (zfs_get f2) hd ?_
      rw [← zcv_fv]
      exact kk
  · cases hs
end ST
