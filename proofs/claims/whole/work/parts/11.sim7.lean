/-! calls, copies, switches; a step; a run; the contracts -/
theorem zzip {k : Nat} {y : zInfo} {kd : Nat} (h1 : zM k = some y) (h2 : zkds[k]? = some kd) (hk : k < 217) : zmP y ∧ zkP y kd ∧ zgoodb y = true := by
  have hl : zMK.length = 217 := rfl
  have hkl : k < zMK.length := by rw [hl]; exact hk
  have e1 : zM k = zML[k]? := rfl
  rw [e1, ← zMK_zip.1, List.getElem?_append_left (by rw [List.length_map]; exact hkl), List.getElem?_map] at h1
  rw [← zMK_zip.2, List.getElem?_append_left (by rw [List.length_map]; exact hkl), List.getElem?_map] at h2
  obtain ⟨x, hx1, hx2⟩ := Option.map_eq_some_iff.mp h1
  obtain ⟨x', hx3, hx4⟩ := Option.map_eq_some_iff.mp h2
  have e2 : x = x' := Option.some.inj (hx1.symm.trans hx3)
  subst e2
  subst hx2
  subst hx4
  exact zMK_ok x (List.mem_of_getElem? hx1)
theorem zrev {l : List Value} {n : Nat} (h : ¬ l.length < n) : ((l.take n).reverse.length = n) := by
  rw [List.length_reverse, List.length_take]
  omega
section ST4
variable {p : Program} {l : Launch} {e : Env} {R : Room} {s : State} {m : MethodId} {args : Array Value} {below : List Frame} {meth : Method} {c : Code} {Q : State → Prop} {A : Nat → Prop} {D : va_G} {q : zInfo} {d n0 : Nat} {ad0 : Nat → Nat} {ac0 : Nat → ClassId} {CT ST : Nat} {r : Option Value} {h' : zMm} {scr : Option (Nat × (Nat → Int32))} {cal : Nat → List Value → zMm → zRes} {ih : Nat → List Value → List Value → zMm → zRes} {pc : Nat} {la st : List Value} {h : zMm}
/-- what is common to the calls: behind the run of the callee -/
theorem zs_call {M : Nat} {vs rest : List Value} {v : Option Value} {h1 : zMm} (hX : zCTX) (hcal : zCAL l d cal) (hA : ∀ x, s.heap.size ≤ x → A x) (hSt : zStat ad0 A s s.heap) (hRc : CT ≤ R.cells) (hRs : ST ≤ R.slots)
    (hc : cal M vs h = some (v, h1)) (S : zSIM (fun H locs cells slots g => W p l e R s m args below meth c H locs cells slots Q g) m s A D q.2.2.1 n0 ad0 ac0 CT ST r h' (pc + 3) la (v.toList ++ rest) h1)
    (hok : (∀ x ∈ st, zvk h.1.length x) → (∀ x ∈ vs, zvk h.1.length x) ∧ ∀ x ∈ rest, zvk h.1.length x)
    {y : zInfo} (hM : zM M = some y) (hM2 : M < 217)
    (hw : ∀ (ad : Nat → Nat) (ac : Nat → ClassId) (H : Heap) (locs : List Loc) (cells slots mc ms : Nat) (ls : Array Slot), zag n0 ad0 ad ac0 ac → zinv s A D ad ac h H locs → zlo ad ls q.2.2.1 la → cells + mc ≤ R.cells → slots + ms ≤ R.slots → Met l y.1 (zwd y) (zrm d mc ms) (zPc D ad ac H.size vs h) (zQc D ad ac H.size h v h1) mc ms (va_A (zws ad ac h) H.size) → (∀ U : State, U.heap = H → s.WarmedH U.vm → zPc D ad ac H.size vs h (vs.map (zcv ad)).toArray U) →
      va_Run p l e R s m args below meth c H locs cells slots mc ms (F0 m pc ls (st.map (zcv ad))) (rest.map (zcv ad)) (zQc D ad ac H.size h v h1 (vs.map (zcv ad)).toArray) (va_A (zws ad ac h) H.size)) :
    zSIM (fun H locs cells slots g => W p l e R s m args below meth c H locs cells slots Q g) m s A D q.2.2.1 n0 ad0 ac0 CT ST r h' pc la st h := by
  intro y1 y2 y3 y4
  obtain ⟨k1, k2⟩ := hok y3
  obtain ⟨c0, c5⟩ := hcal M vs h v h1 hM2 hc y1 k1
  obtain ⟨c1, c2, c3, c4⟩ := c0 hX
  have up : ∀ x, zvk h.1.length x → zvk h1.1.length x := fun x hx => zvk_mono hx c1
  have kst : ∀ x ∈ v.toList ++ rest, zvk h1.1.length x := by
    intro x hx
    rcases List.mem_append.mp hx with h2 | h2
    · cases v with
      | none => cases h2
      | some w => simp at h2; subst h2; exact c4 _ rfl
    · exact up x (k2 x h2)
  obtain ⟨⟨b1, b2, b3, b4⟩, b5⟩ := S c3 (fun x hx => up x (y2 x hx)) kst (by omega)
  refine ⟨⟨by omega, by omega, b3, b4⟩, fun ad ac H locs cells slots ls g1 g2 g3 g4 g5 => ?_⟩
  have hMet := c5 y hM D ad ac H.size
  refine zcall (hw ad ac H locs cells slots _ _ ls g1 g2 g3 (by omega) (by omega) hMet (zpre g2 hA g1 hSt)) g2.2.2.1 (zfree g2 hA) (fun ad' ac' H1 locs1 z1 z2 z3 z4 z5 => ?_)
  have kf := b5 ad' ac' H1 locs1 (cells + (h1.1.length - h.1.length)) (slots + (zsl h1.1 - zsl h.1)) ls (zag_tr g1 z1 y4) ⟨z2, z3, z4, z5⟩ (zlo_ag z1 y2 g3) (by omega) (by omega)
  have e1 : (v.toList ++ rest).map (zcv ad') = (v.map (zcv ad')).toList ++ rest.map (zcv ad) := by
    rw [List.map_append, zcvs_ag z1 k2]
    cases v <;> rfl
  rw [e1] at kf
  exact kf
theorem zs_docall (hx : p.tables.exec = Jvm.exec) (hb : c.code = q.2.1) (hml : c.maxLocals = q.2.2.1) (hown : s.vm.findClass (zNm q.2.2.2.2.1) = some m.cls) (hts : ∀ w ∈ zTB, w.before args s = true) (hRf : d + 1 ≤ R.frames) (hRl : 64 * (d + 1) ≤ R.locals) (hRc : CT ≤ R.cells) (hRs : ST ≤ R.slots) (hA : ∀ x, s.heap.size ≤ x → A x) (hSt : zStat ad0 A s s.heap) (hcal : zCAL l d cal) {idx kind M : Nat}
    (hM2 : M < 217) (hlk : .methodLink (zNm q.2.2.2.2.1) idx ((zM M).getD zi_217).1 ∈ zTB)
    (hd : (kind = 0 ∧ decode q.2.1 pc = .ok (.invokestatic idx, 3)) ∨ (kind = 1 ∧ decode q.2.1 pc = .ok (.invokevirtual idx, 3)) ∨ (kind = 2 ∧ decode q.2.1 pc = .ok (.invokespecial idx, 3)))
    (IH : ∀ pc la st h, ih pc la st h = some (r, h') → zSIM (fun H locs cells slots g => W p l e R s m args below meth c H locs cells slots Q g) m s A D q.2.2.1 n0 ad0 ac0 CT ST r h' pc la st h)
    (hs : zdoCall cal ih kind M pc la st h = some (r, h')) : zSIM (fun H locs cells slots g => W p l e R s m args below meth c H locs cells slots Q g) m s A D q.2.2.1 n0 ad0 ac0 CT ST r h' pc la st h := by
  unfold zdoCall at hs
  split at hs
  · cases hs
  · rename_i y hM
    rw [hM] at hlk
    have hlk : .methodLink (zNm q.2.2.2.2.1) idx y.1 ∈ zTB := hlk
    have hz := (zIfT hs).1
    replace hs := (zIfT hs).2
    have hlen : ¬ st.length < y.2.2.2.2.2.1 := fun z => hz (Or.inl z)
    have hkd : zkds[M]? = some kind := Classical.byContradiction fun z => hz (Or.inr z)
    obtain ⟨⟨p1, p2, p3, p4, p5, p6, p7⟩, p8, -⟩ := zzip hM hkd hM2
    have hG : GoodIn zTB (zwd y) := fun w hw => by
      rcases List.mem_cons.mp hw with rfl | hw
      · exact zTB_good _ p1
      · exact zTB_good _ hw
    have hB : ∀ mc ms, CallB R s args (zNm q.2.2.2.2.1) idx y.1 y.2.1 y.2.2.1 y.2.2.2.1 (zwd y) (zrm d mc ms) mc ms y.2.2.2.2.2.1 := fun mc ms =>
      callB_of _ hts hG rfl rfl rfl (hts _ p2) (hts _ hlk) ⟨p7.1, p7.2, p4⟩ ⟨hRf, by show 8 + (y.2.2.1 + 11) + 64 * d ≤ _; omega⟩
    have hsplit : st = st.take y.2.2.2.2.2.1 ++ st.drop y.2.2.2.2.2.1 := (List.take_append_drop _ _).symm
    split at hs
    · rename_i hk0
      subst hk0
      obtain ⟨hcat, hs2⟩ := zIfT hs
      split at hs2
      · rename_i v h1 hc
        have hd0 : decode q.2.1 pc = .ok (.invokestatic idx, 3) := by
          rcases hd with ⟨-, h⟩ | ⟨h, -⟩ | ⟨h, -⟩
          · exact h
          · cases h
          · cases h
        refine zs_call ⟨p, e, s, args, A, ad0, hx, hts, hA, hSt⟩ hcal hA hSt hRc hRs hc (IH _ _ _ _ hs2) (fun hv => ⟨fun x hx => hv x (List.mem_of_mem_take (List.mem_reverse.mp hx)), fun x hx => hv x (List.mem_of_mem_drop hx)⟩) hM hM2 (fun ad ac H locs cells slots mc ms ls g1 g2 g3 gc gs hMet hPre => ?_)
        refine va_runS (As := ((st.take y.2.2.2.2.2.1).reverse.map (zcv ad))) ⟨hx, hb, hml, hown, hts⟩ hMet ⟨hB mc ms, hts _ p8⟩ ⟨zblind, hPre⟩ rfl (by rw [List.length_map]; exact zrev hlen) g3.1 ?_ (lv_room (by rw [zcat_cv]; omega)) hd0 ⟨gc, gs⟩
        show st.map (zcv ad) = _
        rw [← List.map_reverse, List.reverse_reverse, ← List.map_append, List.take_append_drop]
      · cases hs2
    · rename_i hk0
      split at hs
      · rename_i b rest hdr
        obtain ⟨hcat, hs2⟩ := zIfT hs
        have hcat8 : zcat rest ≤ 8 := Nat.not_lt.mp fun z => hcat (Or.inl z)
        split at hs2
        · rename_i v h1 hc
          have hstk : st = st.take y.2.2.2.2.2.1 ++ .ref b :: rest := by rw [← hdr]; exact hsplit
          have hall : (∀ x ∈ st, zvk h.1.length x) → (∀ x ∈ (Value.ref b :: (st.take y.2.2.2.2.2.1).reverse), zvk h.1.length x) ∧ ∀ x ∈ rest, zvk h.1.length x := fun hv => by
            have hb1 : ∀ x ∈ Value.ref b :: rest, zvk h.1.length x := fun x hx => hv x (by rw [← hdr] at hx; exact List.mem_of_mem_drop hx)
            exact ⟨zmc (zmh hb1) (fun x hx => hv x (List.mem_of_mem_take (List.mem_reverse.mp hx))), zm1 hb1⟩
          have hstk2 : ∀ ad, st.map (zcv ad) = ((st.take y.2.2.2.2.2.1).reverse.map (zcv ad)).reverse ++ .ref (ad b) :: rest.map (zcv ad) := fun ad => by
            rw [← List.map_reverse, List.reverse_reverse]
            have := congrArg (List.map (zcv ad)) hstk
            rw [List.map_append] at this
            exact this
          rcases hd with ⟨h, -⟩ | ⟨hk1, hd1⟩ | ⟨hk2, hd2⟩
          · exact absurd h hk0
          · subst hk1
            have hcls : h.1[b]? = some (.inl y.2.2.2.2.1) := Classical.byContradiction fun z => hcat (Or.inr ⟨rfl, z⟩)
            have hblt := (List.getElem?_eq_some_iff.mp hcls).1
            refine zs_call ⟨p, e, s, args, A, ad0, hx, hts, hA, hSt⟩ hcal hA hSt hRc hRs hc (IH _ _ _ _ hs2) hall hM hM2 (fun ad ac H locs cells slots mc ms ls g1 g2 g3 gc gs hMet hPre => ?_)
            have hw := zws_get (ad := ad) (ac := ac) hblt
            rw [zce_cls hcls] at hw
            obtain ⟨tys, hK, -⟩ := g2.2.2.2
            have hrc : ∃ cell : Cell, H[ad b]? = some cell ∧ cell.vm.isStatics = false ∧ s.vm.findClass y.1.cls = some cell.cls := by
              obtain ⟨rr, r1, cell, r2, r3, r4, -⟩ := g2.1 b _ hw
              refine ⟨cell, r2, by rw [r4]; rfl, ?_⟩
              by_cases hci : y.2.2.2.2.1 < 11
              · rw [p3, r3]
                exact (hK.1 _ _ (zf_cl _ hci)).2.1
              · have hlz : zCl.length = 11 := rfl
                rw [List.getElem?_eq_none (by rw [hlz]; omega)] at r1
                cases r1
            exact va_runV (As := ((st.take y.2.2.2.2.2.1).reverse.map (zcv ad))) ⟨hx, hb, hml, hown, hts⟩ hMet ⟨hB mc ms, hts _ p8.1, hts _ p8.2⟩ ⟨zblind, hrc, hPre⟩ rfl (by rw [List.length_map]; exact zrev hlen) g3.1 (hstk2 ad) (lv_room (by rw [zcat_cv]; omega)) hd1 ⟨gc, gs⟩
          · subst hk2
            refine zs_call ⟨p, e, s, args, A, ad0, hx, hts, hA, hSt⟩ hcal hA hSt hRc hRs hc (IH _ _ _ _ hs2) hall hM hM2 (fun ad ac H locs cells slots mc ms ls g1 g2 g3 gc gs hMet hPre => ?_)
            have hB2 := hB mc ms
            rw [p8.2.2] at hB2
            exact va_runI (As := ((st.take y.2.2.2.2.2.1).reverse.map (zcv ad))) ⟨hx, hb, hml, hown, hts⟩ hMet ⟨hB2, p8.2.1, hts _ p8.1⟩ ⟨zblind, hPre⟩ rfl (by rw [List.length_map]; exact zrev hlen) g3.1 (hstk2 ad) (lv_room (by rw [zcat_cv]; omega)) hd2 ⟨gc, gs⟩
        · cases hs2
      · cases hs
theorem zs_cpy (hx : p.tables.exec = Jvm.exec) (hb : c.code = q.2.1) (hml : c.maxLocals = q.2.2.1) (hown : s.vm.findClass (zNm q.2.2.2.2.1) = some m.cls) (hts : ∀ w ∈ zTB, w.before args s = true) (hRf : d + 1 ≤ R.frames) (hRl : 64 * (d + 1) ≤ R.locals) {idx : Nat} (hlk : .methodLink (zNm q.2.2.2.2.1) idx arraycopyName ∈ zTB) (hd : decode q.2.1 pc = .ok (.invokestatic idx, 3)) (IH : ∀ pc la st h, ih pc la st h = some (r, h') → zSIM (fun H locs cells slots g => W p l e R s m args below meth c H locs cells slots Q g) m s A D q.2.2.1 n0 ad0 ac0 CT ST r h' pc la st h)
    (hs : zdoCpy ih pc la st h = some (r, h')) : zSIM (fun H locs cells slots g => W p l e R s m args below meth c H locs cells slots Q g) m s A D q.2.2.1 n0 ad0 ac0 CT ST r h' pc la st h := by
  have hnf : nativeFrameWords "java/lang/System" "arraycopy" 5 ≤ 10 := by decide
  unfold zdoCpy at hs
  split at hs
  · rename_i n dp b sp a r0
    have hz := (zIfT hs).1
    replace hs := (zIfT hs).2
    have hcat : zcat r0 ≤ 8 := Nat.not_lt.mp fun z => hz (Or.inr (Or.inr (Or.inr z)))
    split at hs
    · rename_i n0 n1 hk0 hk1
      obtain ⟨⟨h4, h5⟩, h2⟩ := zIfE hs
      have hlt0 := (List.getElem?_eq_some_iff.mp hk0).1
      have hlt1 := (List.getElem?_eq_some_iff.mp hk1).1
      refine zs_wr (IH _ _ _ _ h2) rfl (fun hv => ⟨zm1 (zm1 (zm1 (zm1 (zm1 hv)))), zwf_I⟩) (fun ad ac H locs cells slots ls _ _ g gl kk => ?_)
      obtain ⟨tys, hK, ht⟩ := g.2.2.2
      obtain ⟨t0, ht0⟩ := ht a _ _ hk0
      obtain ⟨t1, ht1⟩ := ht b _ _ hk1
      have hw0 := zws_get (ad := ad) (ac := ac) hlt0
      rw [zce_int hk0] at hw0
      have hw1 := zws_get (ad := ad) (ac := ac) hlt1
      rw [zce_int hk1] at hw1
      refine va_copyi hx hb (hml.trans gl.1.symm) hown (hts _ hlk) (hts _ zf_cn) (hts _ zf_cs) (hts _ zf_ci) hK g.1 g.2.1 g.2.2.1 a b t0 t1 hw0 hw1 ht0 ht1 rfl (fun z => hz (Or.inl z)) (fun z => hz (Or.inr (Or.inl z))) (fun z => hz (Or.inr (Or.inr (Or.inl z)))) h4 h5 (fun _ _ => rfl) (by omega) (by rw [zcat_cv]; omega) hd (fun H1 locs1 z1 z2 z3 => ?_)
      have hset : (zws ad ac h).set b (ad b, .inl (ac b, n1, .inl (va_cpy (h.2.1 a) (h.2.1 b) sp.toNatClampNeg dp.toNatClampNeg n.toNatClampNeg))) = zws ad ac (h.1, zw h.2.1 b (va_cpy (h.2.1 a) (h.2.1 b) sp.toNatClampNeg dp.toNatClampNeg n.toNatClampNeg), h.2.2.1, h.2.2.2) := by
        refine zws_set rfl ?_ (fun j hj => zce_eqI hj)
        have hk' : (h.1, zw h.2.1 b (va_cpy (h.2.1 a) (h.2.1 b) sp.toNatClampNeg dp.toNatClampNeg n.toNatClampNeg), h.2.2.1, h.2.2.2).1[b]? = some (.inr (.int, n1)) := hk1
        rw [zce_int hk']
        simp only [zw_s]
      rw [hset] at z1 z2
      exact kk H1 locs1 z1 z2 z3
    · rename_i n0 n1 hk0 hk1
      obtain ⟨⟨h4, h5⟩, h2⟩ := zIfE hs
      have hlt0 := (List.getElem?_eq_some_iff.mp hk0).1
      have hlt1 := (List.getElem?_eq_some_iff.mp hk1).1
      refine zs_wr (IH _ _ _ _ h2) rfl (fun hv => ⟨zm1 (zm1 (zm1 (zm1 (zm1 hv)))), zwf_L⟩) (fun ad ac H locs cells slots ls _ _ g gl kk => ?_)
      obtain ⟨tys, hK, ht⟩ := g.2.2.2
      obtain ⟨t0, ht0⟩ := ht a _ _ hk0
      obtain ⟨t1, ht1⟩ := ht b _ _ hk1
      have hw0 := zws_get (ad := ad) (ac := ac) hlt0
      rw [zce_long hk0] at hw0
      have hw1 := zws_get (ad := ad) (ac := ac) hlt1
      rw [zce_long hk1] at hw1
      refine va_copyl hx hb (hml.trans gl.1.symm) hown (hts _ hlk) (hts _ zf_cn) (hts _ zf_cs) (hts _ zf_ci) hK g.1 g.2.1 g.2.2.1 a b t0 t1 hw0 hw1 ht0 ht1 rfl (fun z => hz (Or.inl z)) (fun z => hz (Or.inr (Or.inl z))) (fun z => hz (Or.inr (Or.inr (Or.inl z)))) h4 h5 (fun _ _ => rfl) (by omega) (by rw [zcat_cv]; omega) hd (fun H1 locs1 z1 z2 z3 => ?_)
      have hset : (zws ad ac h).set b (ad b, .inl (ac b, n1, .inr (.inl (va_cpy (h.2.2.1 a) (h.2.2.1 b) sp.toNatClampNeg dp.toNatClampNeg n.toNatClampNeg)))) = zws ad ac (h.1, h.2.1, zw h.2.2.1 b (va_cpy (h.2.2.1 a) (h.2.2.1 b) sp.toNatClampNeg dp.toNatClampNeg n.toNatClampNeg), h.2.2.2) := by
        refine zws_set rfl ?_ (fun j hj => zce_eqL hj)
        have hk' : (h.1, h.2.1, zw h.2.2.1 b (va_cpy (h.2.2.1 a) (h.2.2.1 b) sp.toNatClampNeg dp.toNatClampNeg n.toNatClampNeg), h.2.2.2).1[b]? = some (.inr (.long, n1)) := hk1
        rw [zce_long hk']
        simp only [zw_s]
      rw [hset] at z1 z2
      exact kk H1 locs1 z1 z2 z3
    · cases hs
  · cases hs
theorem zs_tab (hx : p.tables.exec = Jvm.exec) (hb : c.code = q.2.1) {dflt lo hi : Int} {offs : Array Int} {len : Nat} (hd : decode q.2.1 pc = .ok (.tableswitch dflt lo hi offs, len)) (IH : ∀ pc la st h, ih pc la st h = some (r, h') → zSIM (fun H locs cells slots g => W p l e R s m args below meth c H locs cells slots Q g) m s A D q.2.2.1 n0 ad0 ac0 CT ST r h' pc la st h)
    (hs : zdoTab ih dflt lo hi offs pc la st h = some (r, h')) : zSIM (fun H locs cells slots g => W p l e R s m args below meth c H locs cells slots Q g) m s A D q.2.2.1 n0 ad0 ac0 CT ST r h' pc la st h := by
  unfold zdoTab at hs
  split at hs
  · rename_i x r0
    split at hs
    · rename_i hout
      obtain ⟨tgt, ht, S⟩ := zs_go IH hs
      exact zs_pure S (fun hv => zm1 hv) (fun ad ac H locs cells slots ls _ _ _ kk => lv_tableOut hx hb hd hout ht kk)
    · rename_i hin
      split at hs
      · rename_i off ho
        obtain ⟨tgt, ht, S⟩ := zs_go IH hs
        exact zs_pure S (fun hv => zm1 hv) (fun ad ac H locs cells slots ls _ _ _ kk => lv_tableIn hx hb hd (fun z => hin (Or.inl z)) (fun z => hin (Or.inr z)) ho ht kk)
      · cases hs
  · cases hs
end ST4
