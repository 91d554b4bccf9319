/-! new cells, calls, copies -/
section ST3
variable {p : Program} {l : Launch} {e : Env} {R : Room} {s : State} {m : MethodId} {args : Array Value} {below : List Frame} {meth : Method} {c : Code} {Q : State → Prop} {A : Nat → Prop} {D : va_G} {q : zInfo} {d n0 : Nat} {ad0 : Nat → Nat} {ac0 : Nat → ClassId} {CT ST : Nat} {r : Option Value} {h' : zMm} {scr : Option (Nat × (Nat → Int32))} {cal : Nat → List Value → zMm → zRes} {ih : Nat → List Value → List Value → zMm → zRes} {pc : Nat} {la st : List Value} {h : zMm}
/-- a step that makes one cell -/
theorem zs_al {pc' : Nat} {x : zSh} {r0 : List Value} (hl : ¬ 500 < h.1.length) (hRc : CT ≤ R.cells) (hRs : ST ≤ R.slots) (S : zSIM (fun H locs cells slots g => W p l e R s m args below meth c H locs cells slots Q g) m s A D q.2.2.1 n0 ad0 ac0 CT ST r h' pc' la (.ref h.1.length :: r0) (zal h x)) (hok : (∀ v ∈ st, zvk h.1.length v) → ∀ v ∈ r0, zvk h.1.length v)
    (hw : ∀ (ad : Nat → Nat) (ac : Nat → ClassId) (H : Heap) (locs : List Loc) (cells slots : Nat) (ls : Array Slot), zinv s A D ad ac h H locs → cells + 1 ≤ R.cells → slots + zsz x ≤ R.slots →
      (∀ (qa : Nat) (cA : ClassId) (en : va_E) (H1 : Heap), zce (zup ad h.1.length qa) (zup ac h.1.length cA) (zal h x) h.1.length = en → va_P D zCl (zws ad ac h ++ [(qa, en)]) H1 → va_D A (zws ad ac h ++ [(qa, en)]) → va_S A s.heap H1 locs → zK D (zup ac h.1.length cA) (zal h x) s → W p l e R s m args below meth c H1 locs (cells + 1) (slots + zsz x) Q (F0 m pc' ls (.ref qa :: r0.map (zcv ad)))) →
      W p l e R s m args below meth c H locs cells slots Q (F0 m pc ls (st.map (zcv ad)))) : zSIM (fun H locs cells slots g => W p l e R s m args below meth c H locs cells slots Q g) m s A D q.2.2.1 n0 ad0 ac0 CT ST r h' pc la st h := by
  intro y1 y2 y3 y4
  have el : (zal h x).1.length = h.1.length + 1 := by show (h.1 ++ [x]).length = _; simp
  have es : zsl (zal h x).1 = zsl h.1 + zsz x := zsl_al
  have up : ∀ v, zvk h.1.length v → zvk (zal h x).1.length v := fun v hv => zvk_mono hv (by omega)
  have hv0 : zvk (zal h x).1.length (.ref h.1.length) := fun a ha => by
    cases ha
    left
    rw [el]
    exact Nat.lt_succ_self _
  obtain ⟨⟨b1, b2, b3, b4⟩, b5⟩ := S (zwf_al y1 hl) (fun v hv => up v (y2 v hv)) (zmc hv0 (fun v hv => up v (hok y3 v hv))) (by rw [el]; omega)
  refine ⟨⟨by omega, by omega, b3, b4⟩, fun ad ac H locs cells slots ls g1 g2 g3 g4 g5 => ?_⟩
  refine hw ad ac H locs cells slots ls g2 (by omega) (by omega) (fun qa cA en H1 z0 z1 z2 z3 z4 => ?_)
  have hag := zup_ag (n := h.1.length) (q := qa) (ad := ad) (ac := ac) (cA := cA) (by omega)
  rw [← zws_al y1 z0] at z1 z2
  have k := b5 (zup ad h.1.length qa) (zup ac h.1.length cA) H1 locs (cells + 1) (slots + zsz x) ls (zag_tr g1 hag y4) ⟨z1, z2, z3, z4⟩ (zlo_ag hag y2 g3) (by omega) (by omega)
  have e1 : (Value.ref h.1.length :: r0).map (zcv (zup ad h.1.length qa)) = .ref qa :: r0.map (zcv ad) := by
    rw [List.map_cons, zcvs_ag hag (hok y3)]
    show Value.ref (zup ad h.1.length qa h.1.length) :: _ = _
    unfold zup
    rw [if_pos rfl]
  rw [e1] at k
  exact k
theorem zs_new (hx : p.tables.exec = Jvm.exec) (hb : c.code = q.2.1) (hown : s.vm.findClass (zNm q.2.2.2.2.1) = some m.cls) (hts : ∀ w ∈ zTB, w.before args s = true) (hRc : CT ≤ R.cells) (hRs : ST ≤ R.slots) (hA : ∀ x, s.heap.size ≤ x → A x) {idx : Nat} (hd : decode q.2.1 pc = .ok (.new idx, 3)) (IH : ∀ pc la st h, ih pc la st h = some (r, h') → zSIM (fun H locs cells slots g => W p l e R s m args below meth c H locs cells slots Q g) m s A D q.2.2.1 n0 ad0 ac0 CT ST r h' pc la st h)
    (hs : zdoNew q ih idx pc la st h = some (r, h')) : zSIM (fun H locs cells slots g => W p l e R s m args below meth c H locs cells slots Q g) m s A D q.2.2.1 n0 ad0 ac0 CT ST r h' pc la st h := by
  unfold zdoNew at hs
  split at hs
  · rename_i ci hl
    obtain ⟨h1, h2⟩ := zIfT hs
    have hF : zLNok _ := zLNc_ok _ (by rw [zLNs_eq]; exact zlk_mem hl)
    obtain ⟨f1, f2, f3, f4⟩ := hF
    refine zs_al h1 hRc hRs (IH _ _ _ _ h2) (fun hv => hv) (fun ad ac H locs cells slots ls g hc hsl kk => ?_)
    refine va_new (fs := (List.range (zN ci)).map fun j => zfv ad (zFt ci j) 0 0 none) hx hb hts (zf_ws ci f4) (zFt ci) (zf_ty ci f4) hown (hts _ f1) (hts _ f2) (hts _ f3) g.2.2.2.choose_spec.1 g.1 g.2.1 g.2.2.1 hA (zf_cl ci f4) (fun j hj => ?_) hc hsl hd (fun qa H1 z1 z2 z3 => ?_)
    · show _ = ((List.range (zN ci)).map fun j => zfv ad (zFt ci j) 0 0 none).getD j .null
      rw [List.getD_eq_getElem?_getD, zfs_get hj]
      have h5 := zf_nf ci f4 j hj
      show defaultValue (zFt ci j) = zfv ad (zFt ci j) 0 0 none
      revert h5
      cases zFt ci j <;> intro h5 <;> first | rfl | cases h5
    · refine kk qa 0 _ H1 ?_ z1 z2 z3 (zK_alo g.2.2.2)
      rw [zce_cls zal_last]
      congr 2
      apply List.map_congr_left
      intro j _
      show zfv _ _ (zw h.2.1 h.1.length (fun _ => 0) h.1.length j) (zw h.2.2.1 h.1.length (fun _ => 0) h.1.length j) (zw h.2.2.2 h.1.length (fun _ => none) h.1.length j) = _
      rw [zw_s, zw_s, zw_s]
      cases zFt ci j <;> rfl
  · cases hs
theorem zs_newa (hx : p.tables.exec = Jvm.exec) (hb : c.code = q.2.1) (hts : ∀ w ∈ zTB, w.before args s = true) (hRc : CT ≤ R.cells) (hRs : ST ≤ R.slots) (hA : ∀ x, s.heap.size ≤ x → A x) {t : ArrayType} (hd : decode q.2.1 pc = .ok (.newarray t, 2)) (IH : ∀ pc la st h, ih pc la st h = some (r, h') → zSIM (fun H locs cells slots g => W p l e R s m args below meth c H locs cells slots Q g) m s A D q.2.2.1 n0 ad0 ac0 CT ST r h' pc la st h)
    (hs : zdoNewa ih t pc la st h = some (r, h')) : zSIM (fun H locs cells slots g => W p l e R s m args below meth c H locs cells slots Q g) m s A D q.2.2.1 n0 ad0 ac0 CT ST r h' pc la st h := by
  unfold zdoNewa at hs
  split at hs
  · rename_i n r0
    obtain ⟨h1, h2⟩ := zIfT hs
    refine zs_al (fun z => h1 (Or.inr (Or.inr z))) hRc hRs (IH _ _ _ _ h2) (fun hv => zm1 hv) (fun ad ac H locs cells slots ls g hc hsl kk => ?_)
    obtain ⟨tys, hK, ht⟩ := g.2.2.2
    have hn : n.toNatClampNeg ≤ 10000 := Nat.not_lt.mp fun z => h1 (Or.inr (Or.inl z))
    refine va_newa (atype := .int) (ty := .int) (a0 := (n.toNatClampNeg, .inl fun _ => 0)) hx hb (hts _ zf_ai) rfl hK g.1 g.2.1 g.2.2.1 hA (fun _ => rfl) (fun z => h1 (Or.inl z)) rfl (by show n.toNatClampNeg * 4 ≤ _; omega) hc hsl hd (fun qa cA H1 z0 z1 z2 z3 => kk qa cA _ H1 ?_ z1 z2 z3 (zK_al (ad := ad) (q := qa) ht z0))
    rw [zce_int zal_last]
    show Sum.inl (zup ac h.1.length cA h.1.length, _, Sum.inl (zw h.2.1 h.1.length (fun _ => 0) h.1.length)) = _
    rw [zw_s]
    unfold zup
    rw [if_pos rfl]
  · rename_i n r0
    obtain ⟨h1, h2⟩ := zIfT hs
    refine zs_al (fun z => h1 (Or.inr (Or.inr z))) hRc hRs (IH _ _ _ _ h2) (fun hv => zm1 hv) (fun ad ac H locs cells slots ls g hc hsl kk => ?_)
    obtain ⟨tys, hK, ht⟩ := g.2.2.2
    have hn : n.toNatClampNeg ≤ 10000 := Nat.not_lt.mp fun z => h1 (Or.inr (Or.inl z))
    refine va_newa (atype := .long) (ty := .long) (a0 := (n.toNatClampNeg, .inr (.inl fun _ => 0))) hx hb (hts _ zf_al) rfl hK g.1 g.2.1 g.2.2.1 hA (fun _ => rfl) (fun z => h1 (Or.inl z)) rfl (by show n.toNatClampNeg * 8 ≤ _; omega) hc hsl hd (fun qa cA H1 z0 z1 z2 z3 => kk qa cA _ H1 ?_ z1 z2 z3 (zK_al (ad := ad) (q := qa) ht z0))
    rw [zce_long zal_last]
    show Sum.inl (zup ac h.1.length cA h.1.length, _, Sum.inr (Sum.inl (zw h.2.2.1 h.1.length (fun _ => 0) h.1.length))) = _
    rw [zw_s]
    unfold zup
    rw [if_pos rfl]
  · cases hs
theorem zs_newq (hx : p.tables.exec = Jvm.exec) (hb : c.code = q.2.1) (hown : s.vm.findClass (zNm q.2.2.2.2.1) = some m.cls) (hts : ∀ w ∈ zTB, w.before args s = true) (hSt : zStat ad0 A s s.heap) (hRc : CT ≤ R.cells) (hRs : ST ≤ R.slots) (hA : ∀ x, s.heap.size ≤ x → A x) {idx : Nat} (hd : decode q.2.1 pc = .ok (.anewarray idx, 3)) (IH : ∀ pc la st h, ih pc la st h = some (r, h') → zSIM (fun H locs cells slots g => W p l e R s m args below meth c H locs cells slots Q g) m s A D q.2.2.1 n0 ad0 ac0 CT ST r h' pc la st h)
    (hs : zdoNewq q ih idx pc la st h = some (r, h')) : zSIM (fun H locs cells slots g => W p l e R s m args below meth c H locs cells slots Q g) m s A D q.2.2.1 n0 ad0 ac0 CT ST r h' pc la st h := by
  unfold zdoNewq at hs
  split at hs
  · rename_i ci n r0 hl
    obtain ⟨h1, h2⟩ := zIfT hs
    have hF : zLNok _ := zLNc_ok _ (by rw [zLNs_eq]; exact zlk_mem hl)
    obtain ⟨f1, f2, f3, f4⟩ := hF
    have h6 : ci = 6 := Classical.byContradiction fun z => h1 (Or.inr (Or.inr (Or.inr z)))
    subst h6
    refine zs_al (fun z => h1 (Or.inr (Or.inr (Or.inl z)))) hRc hRs (IH _ _ _ _ h2) (fun hv => zm1 hv) (fun ad ac H locs cells slots ls g hc hsl kk => ?_)
    obtain ⟨tys, hK, ht⟩ := g.2.2.2
    have hn : n.toNatClampNeg ≤ 10000 := Nat.not_lt.mp fun z => h1 (Or.inr (Or.inl z))
    refine va_newq (C := zNm 6) hx hb hown (hts _ f1) hSt.2.2.2.2.2 hK g.1 g.2.1 g.2.2.1 hA (fun z => h1 (Or.inl z)) rfl (by omega) hc hsl hd (fun qa cA H1 z0 z1 z2 z3 => kk qa cA _ H1 ?_ z1 z2 z3 (zK_al (ad := ad) (q := qa) ht z0))
    rw [zce_obj zal_last]
    show Sum.inl (zup ac h.1.length cA h.1.length, _, Sum.inr (Sum.inr (Sum.inr (Sum.inr fun j => (zw h.2.2.2 h.1.length (fun _ => none) h.1.length j).map (zup ad h.1.length qa))))) = _
    rw [zw_s]
    unfold zup
    rw [if_pos rfl]
    rfl
  · cases hs
theorem zs_new2 (hx : p.tables.exec = Jvm.exec) (hb : c.code = q.2.1) (hown : s.vm.findClass (zNm q.2.2.2.2.1) = some m.cls) (hts : ∀ w ∈ zTB, w.before args s = true) (hSt : zStat ad0 A s s.heap) (hRc : CT ≤ R.cells) (hRs : ST ≤ R.slots) (hA : ∀ x, s.heap.size ≤ x → A x) {idx : Nat} (hd : decode q.2.1 pc = .ok (.multianewarray idx 2, 4)) (IH : ∀ pc la st h, ih pc la st h = some (r, h') → zSIM (fun H locs cells slots g => W p l e R s m args below meth c H locs cells slots Q g) m s A D q.2.2.1 n0 ad0 ac0 CT ST r h' pc la st h)
    (hs : zdoNew2 q ih idx pc la st h = some (r, h')) : zSIM (fun H locs cells slots g => W p l e R s m args below meth c H locs cells slots Q g) m s A D q.2.2.1 n0 ad0 ac0 CT ST r h' pc la st h := by
  unfold zdoNew2 at hs
  split at hs
  · rename_i z k n r0 hl
    obtain ⟨h1, h2⟩ := zIfT hs
    have f1 := zf_L2 _ (zlk_mem hl)
    have hn : ¬ 50 < n.toNatClampNeg := fun z => h1 (Or.inr (Or.inr (Or.inl z)))
    have hk : ¬ 10000 < k.toNatClampNeg := fun z => h1 (Or.inr (Or.inr (Or.inr (Or.inl z))))
    have h5 : ¬ 500 < h.1.length := fun z => h1 (Or.inr (Or.inr (Or.inr (Or.inr z))))
    intro y1 y2 y3 y4
    have el : (zal2 h n.toNatClampNeg k.toNatClampNeg).1.length = h.1.length + 1 + n.toNatClampNeg := zal2_len
    have es : zsl (zal2 h n.toNatClampNeg k.toNatClampNeg).1 = zsl h.1 + n.toNatClampNeg + n.toNatClampNeg * k.toNatClampNeg := zsl_al2
    have up : ∀ v, zvk h.1.length v → zvk (zal2 h n.toNatClampNeg k.toNatClampNeg).1.length v := fun v hv => zvk_mono hv (by omega)
    have hS := IH _ _ _ _ h2
    have hv0 : zvk (zal2 h n.toNatClampNeg k.toNatClampNeg).1.length (.ref h.1.length) := fun a ha => by
      cases ha
      left
      rw [el]
      exact Nat.lt_of_lt_of_le (Nat.lt_succ_self _) (Nat.le_add_right _ _)
    obtain ⟨⟨b1, b2, b3, b4⟩, b5⟩ := hS (zwf_al2 y1 h5 hn) (fun v hv => up v (y2 v hv)) (zmc hv0 (fun v hv => up v (zm1 (zm1 y3) v hv))) (by rw [el]; omega)
    refine ⟨⟨by omega, by omega, b3, b4⟩, fun ad ac H locs cells slots ls g1 g g3 g4 g5 => ?_⟩
    obtain ⟨tys, hK, ht⟩ := g.2.2.2
    obtain ⟨cy, ky, comp, hcy, hky, hkind⟩ := Cond.arrayClass_spec (hts _ zf_ai)
    have hP : va_P D zCl (zws ad ac h ++ va_pl [] (fun _ => .inr (0, []))) H := by rw [show va_pl [] (fun _ => .inr (0, [])) = [] from rfl, List.append_nil]; exact g.1
    have hD : va_D A (zws ad ac h ++ va_pl [] (fun _ => .inr (0, []))) := by rw [show va_pl [] (fun _ => .inr (0, [])) = [] from rfl, List.append_nil]; exact g.2.1
    refine va_mna (ty := .int) (cy := cy) (z := (k.toNatClampNeg, .inl fun _ => 0)) hx hb hown (hts _ f1) hSt.2.2.2.2.1 (hts _ zf_ai) hcy hK hP hD g.2.2.1 hA (fun z => h1 (Or.inl z)) (fun z => h1 (Or.inr (Or.inl z))) rfl rfl (by omega) (by show k.toNatClampNeg * 4 ≤ _; omega) (by omega) rfl rfl (by omega) (by omega) (fun _ => by rw [vp_cell_i, ← arrV_new]; rfl) hd (fun qa ra cA H1 z0 z1 z2 z3 z4 z5 => ?_)
    rw [List.nil_append] at z3 z4
    have hgg : ∀ i, i < n.toNatClampNeg → vr_up (fun _ => (.inr (0, []) : va_E)) ((List.range n.toNatClampNeg).map ra) (.inl (cy, (k.toNatClampNeg, .inl fun _ => 0))) (ra i) = .inl (cy, k.toNatClampNeg, .inl fun _ => 0) := fun i hi => vr_up_in (List.mem_map.mpr ⟨i, List.mem_range.mpr hi, rfl⟩)
    rw [← zws_al2 y1 h5 hn hgg] at z3 z4
    have hag := zad2_ag (b := h.1.length) (n := n.toNatClampNeg) (q := qa) (ad := ad) (r := ra) (ac := ac) (cA := cA) (rc := fun _ => cy) (by omega)
    have kf := b5 _ _ H1 locs (cells + 1 + n.toNatClampNeg) (slots + n.toNatClampNeg + n.toNatClampNeg * k.toNatClampNeg) ls (zag_tr g1 hag y4) ⟨z3, z4, z5, zK_al2 (ad := ad) (k := k.toNatClampNeg) ht z2 ⟨fun N9 z9 => ⟨(fun q hq => by cases hq), ky, hky, comp, hkind⟩, hcy⟩⟩ (zlo_ag hag y2 g3) (by omega) (by omega)
    have e1 : (Value.ref h.1.length :: r0).map (zcv (zad2 ad h.1.length n.toNatClampNeg qa ra)) = .ref qa :: r0.map (zcv ad) := by
      rw [List.map_cons, zcvs_ag hag (zm1 (zm1 y3))]
      show Value.ref (zad2 ad h.1.length n.toNatClampNeg qa ra h.1.length) :: _ = _
      unfold zad2
      rw [if_pos rfl]
    rw [e1] at kf
    exact kf
  · cases hs
end ST3
