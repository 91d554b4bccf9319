/-! fields and elements written, elements read -/
section ST2
variable {p : Program} {l : Launch} {e : Env} {R : Room} {s : State} {m : MethodId} {args : Array Value} {below : List Frame} {meth : Method} {c : Code} {Q : State → Prop} {A : Nat → Prop} {D : va_G} {q : zInfo} {d n0 : Nat} {ad0 : Nat → Nat} {ac0 : Nat → ClassId} {CT ST : Nat} {r : Option Value} {h' : zMm} {scr : Option (Nat × (Nat → Int32))} {cal : Nat → List Value → zMm → zRes} {ih : Nat → List Value → List Value → zMm → zRes} {pc : Nat} {la st : List Value} {h : zMm}
/-- one field of one cell is written -/
theorem zs_put1 (hx : p.tables.exec = Jvm.exec) (hb : c.code = q.2.1) (hown : s.vm.findClass (zNm q.2.2.2.2.1) = some m.cls) (hts : ∀ w ∈ zTB, w.before args s = true) (hin : zini q = true → meth.name = "<init>") {idx ci k a : Nat} {v : Value} {r0 : List Value} (hd : decode q.2.1 pc = .ok (.putfield idx, 3))
    (hl : zlk zLFs q.2.2.2.2.1 idx = some (ci, k)) (hfi : ¬ ((zTf ci k).2.2.2 = true ∧ ¬ (zini q = true ∧ ci = q.2.2.2.2.1))) (h1 : h.1[a]? = some (.inl ci)) {hn : zMm} (hsh : hn.1 = h.1) (hwf : (zvk h.1.length v) → zwf h → zwf hn)
    (hce : ∀ ad ac j, j ≠ a → zce ad ac hn j = zce ad ac h j) (hfs : ∀ (ad : Nat → Nat) (ac : Nat → ClassId), ∃ g : Nat → Value, zce ad ac hn a = .inr (ci, (List.range (zN ci)).map g) ∧ g k = zcv ad v ∧ ∀ j, j ≠ k → g j = zfv ad (zFt ci j) (h.2.1 a j) (h.2.2.1 a j) (h.2.2.2 a j))
    (hn1 : ∀ ad, narrow (zFt ci k) (zcv ad v) = zcv ad v) (hf1 : ∀ ad, fits (zFt ci k) (zcv ad v) = true)
    (S : zSIM (fun H locs cells slots g => W p l e R s m args below meth c H locs cells slots Q g) m s A D q.2.2.1 n0 ad0 ac0 CT ST r h' (pc + 3) la r0 hn) : zSIM (fun H locs cells slots g => W p l e R s m args below meth c H locs cells slots Q g) m s A D q.2.2.1 n0 ad0 ac0 CT ST r h' pc la (v :: .ref a :: r0) h := by
  have hF : zLFok _ := zLFc_ok _ (by rw [zLFs_eq]; exact zlk_mem hl)
  obtain ⟨f1, f2, f3⟩ := hF
  have hlt := (List.getElem?_eq_some_iff.mp h1).1
  intro y1 y2 y3 y4
  refine zs_wr S hsh (fun hv => ⟨zm1 (zm1 hv), hwf (zmh hv)⟩) (fun ad ac H locs cells slots ls _ _ g _ kk => ?_) y1 y2 y3 y4
  obtain ⟨tys, hK, -⟩ := g.2.2.2
  have hw := zws_get (ad := ad) (ac := ac) hlt
  rw [zce_cls h1] at hw
  obtain ⟨gf, g1, g2, g3⟩ := hfs ad ac
  have hset : ((List.range (zN ci)).map fun j => zfv ad (zFt ci j) (h.2.1 a j) (h.2.2.1 a j) (h.2.2.2 a j)).set k (zcv ad v) = (List.range (zN ci)).map gf := by
    rw [← g2]; exact zfs_set f2 g3
  have hset2 : (zws ad ac h).set a (ad a, .inr (ci, ((List.range (zN ci)).map fun j => zfv ad (zFt ci j) (h.2.1 a j) (h.2.2.1 a j) (h.2.2.2 a j)).set k (zcv ad v))) = zws ad ac hn := by
    rw [hset]; exact zws_set hsh g1 (hce ad ac)
  by_cases hf : (zTf ci k).2.2.2 = true
  · have h2 : zini q = true ∧ ci = q.2.2.2.2.1 := Classical.byContradiction fun z => hfi ⟨hf, z⟩
    refine va_putF hx hb hts (zf_ws ci f3) (zFt ci) (zf_ty ci f3) (zf_nm ci f3) hown hK g.1 g.2.1 g.2.2.1 a hw (zf_cl ci f3) k f2 (hts _ f1) (fun x hxx => by rw [zf_dc ci f3 k f2] at hxx; exact hxx) hf (hin h2.1) (by rw [zf_dc ci f3 k f2, h2.2]) (zf_ty ci f3 k f2) (hn1 ad) (hf1 ad) (by simp; exact f2) hd (fun H1 locs1 z1 z2 z3 => ?_)
    rw [hset2] at z1 z2
    exact kk H1 locs1 z1 z2 z3
  · refine va_put hx hb hts (zf_ws ci f3) (zFt ci) (zf_ty ci f3) (zf_nm ci f3) hown hK g.1 g.2.1 g.2.2.1 a hw (zf_cl ci f3) k f2 (hts _ f1) (fun x hxx => by rw [zf_dc ci f3 k f2] at hxx; exact hxx) (by simpa using hf) (zf_ty ci f3 k f2) (hn1 ad) (hf1 ad) (by simp; exact f2) hd (fun H1 locs1 z1 z2 z3 => ?_)
    rw [hset2] at z1 z2
    exact kk H1 locs1 z1 z2 z3
theorem zs_put (hx : p.tables.exec = Jvm.exec) (hb : c.code = q.2.1) (hown : s.vm.findClass (zNm q.2.2.2.2.1) = some m.cls) (hts : ∀ w ∈ zTB, w.before args s = true) (hin : zini q = true → meth.name = "<init>") {idx : Nat} (hd : decode q.2.1 pc = .ok (.putfield idx, 3)) (IH : ∀ pc la st h, ih pc la st h = some (r, h') → zSIM (fun H locs cells slots g => W p l e R s m args below meth c H locs cells slots Q g) m s A D q.2.2.1 n0 ad0 ac0 CT ST r h' pc la st h)
    (hs : zdoPut q ih idx pc la st h = some (r, h')) : zSIM (fun H locs cells slots g => W p l e R s m args below meth c H locs cells slots Q g) m s A D q.2.2.1 n0 ad0 ac0 CT ST r h' pc la st h := by
  unfold zdoPut at hs
  split at hs
  · rename_i ci k hl
    have hfi := (zIfT hs).1
    replace hs := (zIfT hs).2
    split at hs
    · rename_i v a r0 ht
      obtain ⟨h1, h2⟩ := zIfE hs
      refine zs_put1 (hn := (h.1, zw h.2.1 a (upd (h.2.1 a) k v), h.2.2.1, h.2.2.2)) hx hb hown hts hin hd hl hfi h1 rfl (fun _ => zwf_I) (fun _ _ _ hj => zce_eqI hj) (fun ad ac => ⟨fun j => zfv ad (zFt ci j) (upd (h.2.1 a) k v j) (h.2.2.1 a j) (h.2.2.2 a j), ?_, ?_, ?_⟩) (fun ad => ?_) (fun ad => ?_) (IH _ _ _ _ h2)
      · have h1' : (h.1, zw h.2.1 a (upd (h.2.1 a) k v), h.2.2.1, h.2.2.2).1[a]? = some (.inl ci) := h1
        rw [zce_cls h1']
        simp only [zw_s]
      · dsimp only; rw [ht]; simp [zfv, upd, zcv]
      · intro j hj; simp [upd, hj]
      · rw [ht]; rfl
      · rw [ht]; rfl
    · rename_i v a r0 ht
      obtain ⟨⟨h1, hv01⟩, h2⟩ := zIfE hs
      refine zs_put1 (hn := (h.1, zw h.2.1 a (upd (h.2.1 a) k v), h.2.2.1, h.2.2.2)) hx hb hown hts hin hd hl hfi h1 rfl (fun _ => zwf_I) (fun _ _ _ hj => zce_eqI hj) (fun ad ac => ⟨fun j => zfv ad (zFt ci j) (upd (h.2.1 a) k v j) (h.2.2.1 a j) (h.2.2.2 a j), ?_, ?_, ?_⟩) (fun ad => ?_) (fun ad => ?_) (IH _ _ _ _ h2)
      · have h1' : (h.1, zw h.2.1 a (upd (h.2.1 a) k v), h.2.2.1, h.2.2.2).1[a]? = some (.inl ci) := h1
        rw [zce_cls h1']
        simp only [zw_s]
      · dsimp only; rw [ht]; simp [zfv, upd, zcv]
      · intro j hj; simp [upd, hj]
      · rw [ht]; rcases hv01 with rfl | rfl <;> rfl
      · rw [ht]; rcases hv01 with rfl | rfl <;> rfl
    · rename_i C v a r0 ht
      obtain ⟨h1, h2⟩ := zIfE hs
      refine zs_put1 (hn := (h.1, h.2.1, h.2.2.1, zw h.2.2.2 a (va_up (h.2.2.2 a) k (some v)))) hx hb hown hts hin hd hl hfi h1 rfl (fun hv => zwf_P (hv v rfl)) (fun _ _ _ hj => zce_eqP hj) (fun ad ac => ⟨fun j => zfv ad (zFt ci j) (h.2.1 a j) (h.2.2.1 a j) (va_up (h.2.2.2 a) k (some v) j), ?_, ?_, ?_⟩) (fun ad => ?_) (fun ad => ?_) (IH _ _ _ _ h2)
      · have h1' : (h.1, h.2.1, h.2.2.1, zw h.2.2.2 a (va_up (h.2.2.2 a) k (some v))).1[a]? = some (.inl ci) := h1
        rw [zce_cls h1']
        simp only [zw_s]
      · dsimp only; rw [ht]; simp [zfv, va_up, zcv, va_rf]
      · intro j hj; simp [va_up, hj]
      · rw [ht]; rfl
      · rw [ht]; rfl
    · rename_i C v a r0 ht
      obtain ⟨h1, h2⟩ := zIfE hs
      refine zs_put1 (hn := (h.1, h.2.1, h.2.2.1, zw h.2.2.2 a (va_up (h.2.2.2 a) k (some v)))) hx hb hown hts hin hd hl hfi h1 rfl (fun hv => zwf_P (hv v rfl)) (fun _ _ _ hj => zce_eqP hj) (fun ad ac => ⟨fun j => zfv ad (zFt ci j) (h.2.1 a j) (h.2.2.1 a j) (va_up (h.2.2.2 a) k (some v) j), ?_, ?_, ?_⟩) (fun ad => ?_) (fun ad => ?_) (IH _ _ _ _ h2)
      · have h1' : (h.1, h.2.1, h.2.2.1, zw h.2.2.2 a (va_up (h.2.2.2 a) k (some v))).1[a]? = some (.inl ci) := h1
        rw [zce_cls h1']
        simp only [zw_s]
      · dsimp only; rw [ht]; simp [zfv, va_up, zcv, va_rf]
      · intro j hj; simp [va_up, hj]
      · rw [ht]; rfl
      · rw [ht]; rfl
    · cases hs
  · cases hs
theorem zxt {a n : Nat} {f : Nat → Int32} (hz : zex scr a = some (n, f)) : (a = 1000000 ∧ scr = some (n, f)) ∨ (a = 1000001 ∧ n = 32 ∧ f = zOWN) ∨ (a = 1000002 ∧ n = 8 ∧ f = zABOVE) := by
  unfold zex at hz
  split at hz
  · exact Or.inl ⟨by assumption, hz⟩
  · split at hz
    · cases hz; exact Or.inr (Or.inl ⟨by assumption, rfl, rfl⟩)
    · split at hz
      · cases hz; exact Or.inr (Or.inr ⟨by assumption, rfl, rfl⟩)
      · cases hz
theorem zs_ald (hx : p.tables.exec = Jvm.exec) (hb : c.code = q.2.1) (hSt : zStat ad0 A s s.heap) (hSc : zScr ad0 scr A s) (hd : decode q.2.1 pc = .ok (.iaload, 1)) (IH : ∀ pc la st h, ih pc la st h = some (r, h') → zSIM (fun H locs cells slots g => W p l e R s m args below meth c H locs cells slots Q g) m s A D q.2.2.1 n0 ad0 ac0 CT ST r h' pc la st h)
    (hs : zdoAld scr ih pc la st h = some (r, h')) : zSIM (fun H locs cells slots g => W p l e R s m args below meth c H locs cells slots Q g) m s A D q.2.2.1 n0 ad0 ac0 CT ST r h' pc la st h := by
  unfold zdoAld at hs
  split at hs
  · rename_i i a r0
    split at hs
    · rename_i n hk
      obtain ⟨h1, h2⟩ := zIfT hs
      have hlt := (List.getElem?_eq_some_iff.mp hk).1
      refine zs_pure (IH _ _ _ _ h2) (fun hv => zmc zvk_int (zm1 (zm1 hv))) (fun ad ac H locs cells slots ls _ g _ kk => ?_)
      obtain ⟨tys, hK, ht⟩ := g.2.2.2
      obtain ⟨t0, ht0⟩ := ht a _ _ hk
      have hw := zws_get (ad := ad) (ac := ac) hlt
      rw [zce_int hk] at hw
      exact va_iald hx hb hK g.1 a t0 hw ht0 h1 hd kk
    · cases hs
    · split at hs
      · rename_i n f hz
        obtain ⟨h1, h2⟩ := zIfT hs
        refine zs_pure (IH _ _ _ _ h2) (fun hv => zmc zvk_int (zm1 (zm1 hv))) (fun ad ac H locs cells slots ls ga g _ kk => ?_)
        show W p l e R s m args below meth c H locs cells slots Q (F0 m pc ls (.int i :: .ref (ad a) :: r0.map (zcv ad)))
        rcases zxt hz with ⟨rfl, h3⟩ | ⟨rfl, rfl, rfl⟩ | ⟨rfl, rfl, rfl⟩
        · rw [ga.1 1000000 (Or.inr (by decide))]
          obtain ⟨x1, x2, x3⟩ := hSc _ _ h3
          exact va_sld hx hb x1 x2 x3 g.2.2.1 h1 hd kk
        · rw [ga.1 1000001 (Or.inr (by decide))]
          exact va_ti hx hb hSt.2.1 g.2.2.1 h1 rfl hd kk
        · rw [ga.1 1000002 (Or.inr (by decide))]
          exact va_ti hx hb hSt.2.2.2.1 g.2.2.1 h1 rfl hd kk
      · cases hs
  · cases hs
theorem zs_lld (hx : p.tables.exec = Jvm.exec) (hb : c.code = q.2.1) (hd : decode q.2.1 pc = .ok (.laload, 1)) (IH : ∀ pc la st h, ih pc la st h = some (r, h') → zSIM (fun H locs cells slots g => W p l e R s m args below meth c H locs cells slots Q g) m s A D q.2.2.1 n0 ad0 ac0 CT ST r h' pc la st h)
    (hs : zdoLld ih pc la st h = some (r, h')) : zSIM (fun H locs cells slots g => W p l e R s m args below meth c H locs cells slots Q g) m s A D q.2.2.1 n0 ad0 ac0 CT ST r h' pc la st h := by
  unfold zdoLld at hs
  split at hs
  · rename_i i a r0
    split at hs
    · rename_i n hk
      obtain ⟨h1, h2⟩ := zIfT hs
      have hlt := (List.getElem?_eq_some_iff.mp hk).1
      refine zs_pure (IH _ _ _ _ h2) (fun hv => zmc zvk_long (zm1 (zm1 hv))) (fun ad ac H locs cells slots ls _ g _ kk => ?_)
      obtain ⟨tys, hK, ht⟩ := g.2.2.2
      obtain ⟨t0, ht0⟩ := ht a _ _ hk
      have hw := zws_get (ad := ad) (ac := ac) hlt
      rw [zce_long hk] at hw
      exact va_lald hx hb hK g.1 a t0 hw ht0 h1 hd kk
    · cases hs
  · cases hs
theorem zaald (hx : p.tables.exec = Jvm.exec) (hb : c.code = q.2.1) {H : Heap} {locs : List Loc} {cells slots : Nat} {ls : Array Slot} {rest : List Value} {ws : va_W} {tys : List (ClassId × FieldType)} {a q0 t0 : Nat} (hK : va_K D zCl tys s) (hP : va_P D zCl ws H) {cA : ClassId} {t : FieldType} {n : Nat} {f : Nat → Option Nat} (ha : ws[q0]? = some (a, .inl (cA, n, .inr (.inr (.inr (.inr f)))))) (ht : tys[t0]? = some (cA, t)) (hr : t.isReference = true) {i : Int32} (hin : vp_in i n) (hdg : decode q.2.1 pc = .ok (.aaload, 1))
    (kk : W p l e R s m args below meth c H locs cells slots Q (F0 m (pc + 1) ls (va_rf (f i.toNatClampNeg) :: rest))) : W p l e R s m args below meth c H locs cells slots Q (F0 m pc ls (.int i :: .ref a :: rest)) := by
  have hlt : i.toNatClampNeg < n := Nat.not_le.mp fun q => hin (Or.inr q)
  exact W.aald (v := va_rf (f i.toNatClampNeg)) (ty := t) hx hb (hP q0 _ ha) ((hK.2 t0 _ ht).1 n (fun j => va_rf (f j))) hr (fun q => by cases q) (by show ¬ (i < 0 ∨ (arrV _ _ _).slots.size ≤ _); rw [arrV_size]; exact hin) (by show (arrV _ _ _).slots[_]? = _; rw [arrV_read _ _ hlt]) rfl rfl hdg kk
theorem zs_qld (hx : p.tables.exec = Jvm.exec) (hb : c.code = q.2.1) (hd : decode q.2.1 pc = .ok (.aaload, 1)) (IH : ∀ pc la st h, ih pc la st h = some (r, h') → zSIM (fun H locs cells slots g => W p l e R s m args below meth c H locs cells slots Q g) m s A D q.2.2.1 n0 ad0 ac0 CT ST r h' pc la st h)
    (hs : zdoQld ih pc la st h = some (r, h')) : zSIM (fun H locs cells slots g => W p l e R s m args below meth c H locs cells slots Q g) m s A D q.2.2.1 n0 ad0 ac0 CT ST r h' pc la st h := by
  unfold zdoQld at hs
  have key : zwf h → ∀ a j, zvk h.1.length (va_rf (h.2.2.2 a j)) := by
    intro w a j b hb2
    cases hz : h.2.2.2 a j with
    | none => rw [hz] at hb2; cases hb2
    | some b' => rw [hz] at hb2; cases hb2; exact w.2 _ _ _ hz
  split at hs
  · rename_i i a r0
    split at hs
    · rename_i C n hk
      obtain ⟨h1, h2⟩ := zIfT hs
      have hlt := (List.getElem?_eq_some_iff.mp hk).1
      intro y1
      refine zs_pure (IH _ _ _ _ h2) (fun hv => zmc (key y1 a _) (zm1 (zm1 hv))) (fun ad ac H locs cells slots ls _ g _ kk => ?_) y1
      obtain ⟨tys, hK, ht⟩ := g.2.2.2
      obtain ⟨t0, ht0⟩ := ht a _ _ hk
      have hw := zws_get (ad := ad) (ac := ac) hlt
      rw [zce_obj hk] at hw
      refine zaald hx hb hK g.1 hw ht0 rfl h1 hd ?_
      rw [← zcv_rf]
      exact kk
    · rename_i C n hk
      obtain ⟨h1, h2⟩ := zIfT hs
      have hlt := (List.getElem?_eq_some_iff.mp hk).1
      intro y1
      refine zs_pure (IH _ _ _ _ h2) (fun hv => zmc (key y1 a _) (zm1 (zm1 hv))) (fun ad ac H locs cells slots ls _ g _ kk => ?_) y1
      obtain ⟨tys, hK, ht⟩ := g.2.2.2
      obtain ⟨t0, ht0⟩ := ht a _ _ hk
      have hw := zws_get (ad := ad) (ac := ac) hlt
      rw [zce_arr hk] at hw
      refine zaald hx hb hK g.1 hw ht0 rfl h1 hd ?_
      rw [← zcv_rf]
      exact kk
    · cases hs
  · cases hs
theorem zs_ast (hx : p.tables.exec = Jvm.exec) (hb : c.code = q.2.1) (hd : decode q.2.1 pc = .ok (.iastore, 1)) (IH : ∀ pc la st h, ih pc la st h = some (r, h') → zSIM (fun H locs cells slots g => W p l e R s m args below meth c H locs cells slots Q g) m s A D q.2.2.1 n0 ad0 ac0 CT ST r h' pc la st h)
    (hs : zdoAst ih pc la st h = some (r, h')) : zSIM (fun H locs cells slots g => W p l e R s m args below meth c H locs cells slots Q g) m s A D q.2.2.1 n0 ad0 ac0 CT ST r h' pc la st h := by
  unfold zdoAst at hs
  split at hs
  · rename_i v i a r0
    split at hs
    · rename_i n hk
      obtain ⟨h1, h2⟩ := zIfT hs
      have hlt := (List.getElem?_eq_some_iff.mp hk).1
      refine zs_wr (IH _ _ _ _ h2) rfl (fun hv => ⟨zm1 (zm1 (zm1 hv)), zwf_I⟩) (fun ad ac H locs cells slots ls _ _ g _ kk => ?_)
      obtain ⟨tys, hK, ht⟩ := g.2.2.2
      obtain ⟨t0, ht0⟩ := ht a _ _ hk
      have hw := zws_get (ad := ad) (ac := ac) hlt
      rw [zce_int hk] at hw
      refine va_iast hx hb hK g.1 g.2.1 g.2.2.1 a t0 hw ht0 h1 hd (fun H1 locs1 z1 z2 z3 => ?_)
      have hset : (zws ad ac h).set a (ad a, .inl (ac a, n, .inl (upd (h.2.1 a) i.toNatClampNeg v))) = zws ad ac (h.1, zw h.2.1 a (upd (h.2.1 a) i.toNatClampNeg v), h.2.2.1, h.2.2.2) := by
        refine zws_set rfl ?_ (fun j hj => zce_eqI hj)
        have hk' : (h.1, zw h.2.1 a (upd (h.2.1 a) i.toNatClampNeg v), h.2.2.1, h.2.2.2).1[a]? = some (.inr (.int, n)) := hk
        rw [zce_int hk']
        simp only [zw_s]
      rw [hset] at z1 z2
      exact kk H1 locs1 z1 z2 z3
    · cases hs
  · cases hs
theorem zs_lst (hx : p.tables.exec = Jvm.exec) (hb : c.code = q.2.1) (hd : decode q.2.1 pc = .ok (.lastore, 1)) (IH : ∀ pc la st h, ih pc la st h = some (r, h') → zSIM (fun H locs cells slots g => W p l e R s m args below meth c H locs cells slots Q g) m s A D q.2.2.1 n0 ad0 ac0 CT ST r h' pc la st h)
    (hs : zdoLst ih pc la st h = some (r, h')) : zSIM (fun H locs cells slots g => W p l e R s m args below meth c H locs cells slots Q g) m s A D q.2.2.1 n0 ad0 ac0 CT ST r h' pc la st h := by
  unfold zdoLst at hs
  split at hs
  · rename_i v i a r0
    split at hs
    · rename_i n hk
      obtain ⟨h1, h2⟩ := zIfT hs
      have hlt := (List.getElem?_eq_some_iff.mp hk).1
      refine zs_wr (IH _ _ _ _ h2) rfl (fun hv => ⟨zm1 (zm1 (zm1 hv)), zwf_L⟩) (fun ad ac H locs cells slots ls _ _ g _ kk => ?_)
      obtain ⟨tys, hK, ht⟩ := g.2.2.2
      obtain ⟨t0, ht0⟩ := ht a _ _ hk
      have hw := zws_get (ad := ad) (ac := ac) hlt
      rw [zce_long hk] at hw
      refine va_last hx hb hK g.1 g.2.1 g.2.2.1 a t0 hw ht0 h1 hd (fun H1 locs1 z1 z2 z3 => ?_)
      have hset : (zws ad ac h).set a (ad a, .inl (ac a, n, .inr (.inl (vp_updL (h.2.2.1 a) i.toNatClampNeg v)))) = zws ad ac (h.1, h.2.1, zw h.2.2.1 a (vp_updL (h.2.2.1 a) i.toNatClampNeg v), h.2.2.2) := by
        refine zws_set rfl ?_ (fun j hj => zce_eqL hj)
        have hk' : (h.1, h.2.1, zw h.2.2.1 a (vp_updL (h.2.2.1 a) i.toNatClampNeg v), h.2.2.2).1[a]? = some (.inr (.long, n)) := hk
        rw [zce_long hk']
        simp only [zw_s]
      rw [hset] at z1 z2
      exact kk H1 locs1 z1 z2 z3
    · cases hs
  · cases hs
theorem zs_qst (hx : p.tables.exec = Jvm.exec) (hb : c.code = q.2.1) (hd : decode q.2.1 pc = .ok (.aastore, 1)) (IH : ∀ pc la st h, ih pc la st h = some (r, h') → zSIM (fun H locs cells slots g => W p l e R s m args below meth c H locs cells slots Q g) m s A D q.2.2.1 n0 ad0 ac0 CT ST r h' pc la st h)
    (hs : zdoQst ih pc la st h = some (r, h')) : zSIM (fun H locs cells slots g => W p l e R s m args below meth c H locs cells slots Q g) m s A D q.2.2.1 n0 ad0 ac0 CT ST r h' pc la st h := by
  unfold zdoQst at hs
  split at hs
  · rename_i v i a r0
    split at hs
    · rename_i C n ci hk hv
      obtain ⟨h1, h2⟩ := zIfT hs
      have hC : C = zNm ci := Classical.byContradiction fun z => h1 (Or.inr (Or.inr (Or.inl z)))
      have hci : ci < 11 := Nat.not_le.mp fun z => h1 (Or.inr (Or.inr (Or.inr z)))
      have h1' : vp_in i n := fun z => h1 (z.imp id Or.inl)
      subst hC
      have hlt := (List.getElem?_eq_some_iff.mp hk).1
      have hlv := (List.getElem?_eq_some_iff.mp hv).1
      refine zs_wr (IH _ _ _ _ h2) rfl (fun hv => ⟨zm1 (zm1 (zm1 hv)), zwf_P (Or.inl hlv)⟩) (fun ad ac H locs cells slots ls _ _ g _ kk => ?_)
      obtain ⟨tys, hK, ht⟩ := g.2.2.2
      obtain ⟨t0, ht0⟩ := ht a _ _ hk
      have hw := zws_get (ad := ad) (ac := ac) hlt
      rw [zce_obj hk] at hw
      have hwv := zws_get (ad := ad) (ac := ac) hlv
      rw [zce_cls hv] at hwv
      refine va_astq (r := (zNm ci, zTf ci, zN ci)) hx hb hK g.1 g.2.1 g.2.2.1 a t0 v ci hw ht0 hwv (zf_cl ci hci) h1' hd (fun H1 locs1 z1 z2 z3 => ?_)
      have hset : (zws ad ac h).set a (ad a, .inl (ac a, n, .inr (.inr (.inr (.inr (va_up (fun j => (h.2.2.2 a j).map ad) i.toNatClampNeg (some (ad v)))))))) = zws ad ac (h.1, h.2.1, h.2.2.1, zw h.2.2.2 a (va_up (h.2.2.2 a) i.toNatClampNeg (some v))) := by
        refine zws_set rfl ?_ (fun j hj => zce_eqP hj)
        have hk' : (h.1, h.2.1, h.2.2.1, zw h.2.2.2 a (va_up (h.2.2.2 a) i.toNatClampNeg (some v))).1[a]? = some (.inr (.object (zNm ci), n)) := hk
        rw [zce_obj hk']
        simp only [zw_s]
        congr 9
        funext j
        unfold va_up
        split <;> rfl
      rw [hset] at z1 z2
      exact kk H1 locs1 z1 z2 z3
    · cases hs
  · cases hs
theorem zs_len (hx : p.tables.exec = Jvm.exec) (hb : c.code = q.2.1) (hSt : zStat ad0 A s s.heap) (hSc : zScr ad0 scr A s) (hd : decode q.2.1 pc = .ok (.arraylength, 1)) (IH : ∀ pc la st h, ih pc la st h = some (r, h') → zSIM (fun H locs cells slots g => W p l e R s m args below meth c H locs cells slots Q g) m s A D q.2.2.1 n0 ad0 ac0 CT ST r h' pc la st h)
    (hs : zdoLen scr ih pc la st h = some (r, h')) : zSIM (fun H locs cells slots g => W p l e R s m args below meth c H locs cells slots Q g) m s A D q.2.2.1 n0 ad0 ac0 CT ST r h' pc la st h := by
  unfold zdoLen at hs
  split at hs
  · rename_i a r0
    split at hs
    · rename_i t n hk
      have hlt := (List.getElem?_eq_some_iff.mp hk).1
      refine zs_pure (IH _ _ _ _ hs) (fun hv => zmc zvk_int (zm1 hv)) (fun ad ac H locs cells slots ls _ g _ kk => ?_)
      obtain ⟨tys, hK, ht⟩ := g.2.2.2
      obtain ⟨t0, ht0⟩ := ht a _ _ hk
      have hw := zws_get (ad := ad) (ac := ac) hlt
      obtain ⟨x, hx1, hx2⟩ := zce_any (ad := ad) (ac := ac) hk
      rw [hx2] at hw
      exact va_alen hx hb hK g.1 a t0 hw ht0 (by rw [hx1]) hd kk
    · cases hs
    · split at hs
      · rename_i n f hz
        refine zs_pure (IH _ _ _ _ hs) (fun hv => zmc zvk_int (zm1 hv)) (fun ad ac H locs cells slots ls ga g _ kk => ?_)
        show W p l e R s m args below meth c H locs cells slots Q (F0 m pc ls (.ref (ad a) :: r0.map (zcv ad)))
        rcases zxt hz with ⟨rfl, h3⟩ | ⟨rfl, rfl, rfl⟩ | ⟨rfl, rfl, rfl⟩
        · rw [ga.1 1000000 (Or.inr (by decide))]
          obtain ⟨x1, x2, x3⟩ := hSc _ _ h3
          exact va_slen hx hb x1 x2 x3 g.2.2.1 hd kk
        · rw [ga.1 1000001 (Or.inr (by decide))]
          obtain ⟨cell, z1, z2, z3, z4, z5, z6, z7⟩ := hSt.2.1
          exact W.alen hx hb (by rw [g.2.2.1.2.1 _ (Array.getElem?_eq_some_iff.mp z1).1 z7]; exact z1) z2 z5 rfl rfl hd kk
        · rw [ga.1 1000002 (Or.inr (by decide))]
          obtain ⟨cell, z1, z2, z3, z4, z5, z6, z7⟩ := hSt.2.2.2.1
          exact W.alen hx hb (by rw [g.2.2.1.2.1 _ (Array.getElem?_eq_some_iff.mp z1).1 z7]; exact z1) z2 z5 rfl rfl hd kk
      · cases hs
  · cases hs
end ST2
