theorem zcall_some {cal : Nat → List Value → zMm → zRes} {ih : Nat → List Value → List Value → zMm → zRes} {kind M pc : Nat} {la st : List Value} {h : zMm} {x : Option Value × zMm} (hs : zdoCall cal ih kind M pc la st h = some x) : ∃ y, zM M = some y := by
  unfold zdoCall at hs
  split at hs
  · cases hs
  · rename_i y hy
    exact ⟨y, hy⟩
theorem zLM_own {cl idx M : Nat} (hF : zLMok (cl, idx, M)) (hy : ∃ y, zM M = some y) : M < 217 ∧ .methodLink (zNm cl) idx ((zM M).getD zi_217).1 ∈ zTB := by
  have n1 : zM 900 = none := rfl
  have n2 : zM 901 = none := rfl
  have n3 : zM 902 = none := rfl
  have n4 : zM 903 = none := rfl
  have n5 : zM 999 = none := rfl
  obtain ⟨y, hy⟩ := hy
  unfold zLMok at hF
  split at hF
  · rename_i e1; dsimp only at e1; subst e1; rw [n1] at hy; cases hy
  · rename_i e1; dsimp only at e1; subst e1; rw [n2] at hy; cases hy
  · rename_i e1; dsimp only at e1; subst e1; rw [n3] at hy; cases hy
  · rename_i e1; dsimp only at e1; subst e1; rw [n4] at hy; cases hy
  · rename_i e1; dsimp only at e1; subst e1; rw [n5] at hy; cases hy
  · obtain ⟨hM2, y2, hM, hlk⟩ := hF
    dsimp only at hM2 hM hlk
    refine ⟨hM2, ?_⟩
    rw [hM]
    exact hlk
section ST5
variable {p : Program} {l : Launch} {e : Env} {R : Room} {s : State} {m : MethodId} {args : Array Value} {below : List Frame} {meth : Method} {c : Code} {Q : State → Prop} {A : Nat → Prop} {D : va_G} {q : zInfo} {d n0 : Nat} {ad0 : Nat → Nat} {ac0 : Nat → ClassId} {CT ST : Nat} {r : Option Value} {h' : zMm} {scr : Option (Nat × (Nat → Int32))} {cal : Nat → List Value → zMm → zRes} {ih : Nat → List Value → List Value → zMm → zRes} {pc : Nat} {la st : List Value} {h : zMm}
theorem zs_sta (hx : p.tables.exec = Jvm.exec) (hb : c.code = q.2.1) (hml : c.maxLocals = q.2.2.1) (hown : s.vm.findClass (zNm q.2.2.2.2.1) = some m.cls) (hts : ∀ w ∈ zTB, w.before args s = true) (hRf : d + 1 ≤ R.frames) (hRl : 64 * (d + 1) ≤ R.locals) (hRc : CT ≤ R.cells) (hRs : ST ≤ R.slots) (hA : ∀ x, s.heap.size ≤ x → A x) (hSt : zStat ad0 A s s.heap) (hcal : zCAL l d cal) {idx : Nat} (hd : decode q.2.1 pc = .ok (.invokestatic idx, 3))
    (IH : ∀ pc la st h, ih pc la st h = some (r, h') → zSIM (fun H locs cells slots g => W p l e R s m args below meth c H locs cells slots Q g) m s A D q.2.2.1 n0 ad0 ac0 CT ST r h' pc la st h)
    (hs : zdoSta cal q ih idx pc la st h = some (r, h')) : zSIM (fun H locs cells slots g => W p l e R s m args below meth c H locs cells slots Q g) m s A D q.2.2.1 n0 ad0 ac0 CT ST r h' pc la st h := by
  unfold zdoSta at hs
  split at hs
  · cases hs
  · rename_i M hl
    have hF : zLMok _ := zLMc_ok _ (by rw [zLMs_eq]; exact zlk_mem hl)
    split at hs
    · rename_i y x r0
      obtain ⟨hcat, h2⟩ := zIfT hs
      intro y1 y2 y3 y4
      obtain ⟨⟨b1, b2, b3, b4⟩, b5⟩ := IH _ _ _ _ h2 y1 y2 (zmc zvk_int (zm1 (zm1 y3))) y4
      refine ⟨⟨b1, b2, b3, b4⟩, fun ad ac H locs cells slots ls g1 g2 g3 g4 g5 => ?_⟩
      exact va_mmax hx hb (hml.trans g3.1.symm) hown (hts _ hF) (hts _ zf_ms_max) (hts _ zf_mi) (hts _ zf_mc_max) (by omega) (by rw [zcat_cv]; omega) (by omega) (by omega) hd (b5 ad ac H locs cells slots ls g1 g2 g3 g4 g5)
    · rename_i y x r0
      obtain ⟨hcat, h2⟩ := zIfT hs
      intro y1 y2 y3 y4
      obtain ⟨⟨b1, b2, b3, b4⟩, b5⟩ := IH _ _ _ _ h2 y1 y2 (zmc zvk_int (zm1 (zm1 y3))) y4
      refine ⟨⟨b1, b2, b3, b4⟩, fun ad ac H locs cells slots ls g1 g2 g3 g4 g5 => ?_⟩
      exact va_mmin hx hb (hml.trans g3.1.symm) hown (hts _ hF) (hts _ zf_ms_min) (hts _ zf_mi) (hts _ zf_mc_min) (by omega) (by rw [zcat_cv]; omega) (by omega) (by omega) hd (b5 ad ac H locs cells slots ls g1 g2 g3 g4 g5)
    · rename_i x r0
      obtain ⟨hcat, h2⟩ := zIfT hs
      intro y1 y2 y3 y4
      obtain ⟨⟨b1, b2, b3, b4⟩, b5⟩ := IH _ _ _ _ h2 y1 y2 (zmc zvk_int (zm1 y3)) y4
      refine ⟨⟨b1, b2, b3, b4⟩, fun ad ac H locs cells slots ls g1 g2 g3 g4 g5 => ?_⟩
      exact va_mabs hx hb (hml.trans g3.1.symm) hown (hts _ hF) (hts _ zf_ms_abs) (hts _ zf_mi) (hts _ zf_mc_abs) (by omega) (by rw [zcat_cv]; omega) (by omega) (by omega) hd (b5 ad ac H locs cells slots ls g1 g2 g3 g4 g5)
    · exact zs_cpy hx hb hml hown hts hRf hRl hF hd IH hs
    · rename_i hn1 hn2 hn3 hn4
      obtain ⟨hM2, hlk2⟩ := zLM_own hF (zcall_some hs)
      exact zs_docall hx hb hml hown hts hRf hRl hRc hRs hA hSt hcal hM2 hlk2 (Or.inl ⟨rfl, hd⟩) IH hs
theorem zs_vir (hx : p.tables.exec = Jvm.exec) (hb : c.code = q.2.1) (hml : c.maxLocals = q.2.2.1) (hown : s.vm.findClass (zNm q.2.2.2.2.1) = some m.cls) (hts : ∀ w ∈ zTB, w.before args s = true) (hRf : d + 1 ≤ R.frames) (hRl : 64 * (d + 1) ≤ R.locals) (hRc : CT ≤ R.cells) (hRs : ST ≤ R.slots) (hA : ∀ x, s.heap.size ≤ x → A x) (hSt : zStat ad0 A s s.heap) (hcal : zCAL l d cal) {idx : Nat} (hd : decode q.2.1 pc = .ok (.invokevirtual idx, 3))
    (IH : ∀ pc la st h, ih pc la st h = some (r, h') → zSIM (fun H locs cells slots g => W p l e R s m args below meth c H locs cells slots Q g) m s A D q.2.2.1 n0 ad0 ac0 CT ST r h' pc la st h)
    (hs : zdoVir cal q ih idx pc la st h = some (r, h')) : zSIM (fun H locs cells slots g => W p l e R s m args below meth c H locs cells slots Q g) m s A D q.2.2.1 n0 ad0 ac0 CT ST r h' pc la st h := by
  unfold zdoVir at hs
  split at hs
  · cases hs
  · rename_i M hl
    have hF : zLMok _ := zLMc_ok _ (by rw [zLMs_eq]; exact zlk_mem hl)
    obtain ⟨hM2, hlk2⟩ := zLM_own hF (zcall_some hs)
    exact zs_docall hx hb hml hown hts hRf hRl hRc hRs hA hSt hcal hM2 hlk2 (Or.inr (Or.inl ⟨rfl, hd⟩)) IH hs
theorem zs_spe (hx : p.tables.exec = Jvm.exec) (hb : c.code = q.2.1) (hml : c.maxLocals = q.2.2.1) (hown : s.vm.findClass (zNm q.2.2.2.2.1) = some m.cls) (hts : ∀ w ∈ zTB, w.before args s = true) (hRf : d + 1 ≤ R.frames) (hRl : 64 * (d + 1) ≤ R.locals) (hRc : CT ≤ R.cells) (hRs : ST ≤ R.slots) (hA : ∀ x, s.heap.size ≤ x → A x) (hSt : zStat ad0 A s s.heap) (hcal : zCAL l d cal) {idx : Nat} (hd : decode q.2.1 pc = .ok (.invokespecial idx, 3))
    (IH : ∀ pc la st h, ih pc la st h = some (r, h') → zSIM (fun H locs cells slots g => W p l e R s m args below meth c H locs cells slots Q g) m s A D q.2.2.1 n0 ad0 ac0 CT ST r h' pc la st h)
    (hs : zdoSpe cal q ih idx pc la st h = some (r, h')) : zSIM (fun H locs cells slots g => W p l e R s m args below meth c H locs cells slots Q g) m s A D q.2.2.1 n0 ad0 ac0 CT ST r h' pc la st h := by
  unfold zdoSpe at hs
  split at hs
  · cases hs
  · rename_i M hl
    have hF : zLMok _ := zLMc_ok _ (by rw [zLMs_eq]; exact zlk_mem hl)
    split at hs
    · rename_i h999
      subst h999
      have hF : .methodLink (zNm q.2.2.2.2.1) idx objectInit ∈ zTB := hF
      split at hs
      · rename_i a r0
        obtain ⟨hcat, h2⟩ := zIfT hs
        refine zs_pure (IH _ _ _ _ h2) (fun hv => zm1 hv) (fun ad ac H locs cells slots ls _ _ g3 kk => ?_)
        exact W.objInit hx hb hown (hts _ hF) (hts _ zf_oi) (hts _ zf_oc) rfl (by rw [hml]; exact g3.1) (rest := r0.map (zcv ad)) (a := ad a) rfl hd (by omega) (by
          have h9 := lv_room (m := m) (pc := pc) (ls := ls) (rest := (Value.ref a :: r0).map (zcv ad)) (st := r0.map (zcv ad)) (by rw [zcat_cv]; omega)
          omega) kk
      · cases hs
    · obtain ⟨hM2, hlk2⟩ := zLM_own hF (zcall_some hs)
      exact zs_docall hx hb hml hown hts hRf hRl hRc hRs hA hSt hcal hM2 hlk2 (Or.inr (Or.inr ⟨rfl, hd⟩)) IH hs
end ST5
