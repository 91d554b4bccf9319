section ST6
variable {p : Program} {l : Launch} {e : Env} {R : Room} {s : State} {m : MethodId} {args : Array Value} {below : List Frame} {meth : Method} {c : Code} {Q : State → Prop} {A : Nat → Prop} {D : va_G} {q : zInfo} {d n0 : Nat} {ad0 : Nat → Nat} {ac0 : Nat → ClassId} {CT ST : Nat} {r : Option Value} {h' : zMm} {scr : Option (Nat × (Nat → Int32))} {cal : Nat → List Value → zMm → zRes} {ih : Nat → List Value → List Value → zMm → zRes} {pc : Nat} {la st : List Value} {h : zMm}
/-- all that a body's walk rests on -/
def zCX (p : Program) (l : Launch) (R : Room) (s : State) (m : MethodId) (args : Array Value) (meth : Method) (c : Code) (q : zInfo) (d : Nat) (A : Nat → Prop) (ad0 : Nat → Nat) (CT ST : Nat) (scr : Option (Nat × (Nat → Int32))) (cal : Nat → List Value → zMm → zRes) : Prop :=
  p.tables.exec = Jvm.exec ∧ c.code = q.2.1 ∧ c.maxLocals = q.2.2.1 ∧ s.vm.findClass (zNm q.2.2.2.2.1) = some m.cls ∧ (∀ w ∈ zTB, w.before args s = true) ∧ (zini q = true → meth.name = "<init>") ∧ zgoodb q = true ∧ d + 1 ≤ R.frames ∧ 64 * (d + 1) ≤ R.locals ∧ CT ≤ R.cells ∧ ST ≤ R.slots ∧ (∀ x, s.heap.size ≤ x → A x) ∧ zStat ad0 A s s.heap ∧ zScr ad0 scr A s ∧ zCAL l d cal
theorem zs_ret {v : Option Value} (hr : zRET (fun H locs cells slots g => W p l e R s m args below meth c H locs cells slots Q g) m s A D q n0 ad0 ac0 CT ST r h') (e1 : some (v, h) = some (r, h')) (hst : st = v.toList) (hk : zrk q pc v) : zSIM (fun H locs cells slots g => W p l e R s m args below meth c H locs cells slots Q g) m s A D q.2.2.1 n0 ad0 ac0 CT ST r h' pc la st h := by
  cases e1
  subst hst
  intro y1 y2 y3 y4
  have hv : ∀ x, r = some x → zvk h'.1.length x := fun x hx => by
    subst hx
    exact y3 x (by simp)
  refine ⟨⟨Nat.le_refl _, Nat.le_refl _, y1, hv⟩, fun ad ac H locs cells slots ls g1 g2 g3 g4 g5 => ?_⟩
  have hc : cells = CT := by omega
  have hs : slots = ST := by omega
  subst hc
  subst hs
  have k := hr pc ad ac H locs ls g1 g2 hv hk
  have e2 : r.toList.map (zcv ad) = (r.map (zcv ad)).toList := by cases r <;> rfl
  rw [e2]
  exact k
theorem zif {x y : Int32} {cd : Jvm.ClassFile.Cond} : zcond cd x y = true ↔ (match cd with | .eq => x = y | .ne => ¬ x = y | .lt => x < y | .ge => y ≤ x | .gt => y < x | .le => x ≤ y) := by
  unfold zcond
  cases cd <;> simp
set_option maxHeartbeats 4000000 in
theorem zsim_step (C : zCX p l R s m args meth c q d A ad0 CT ST scr cal) (hr : zRET (fun H locs cells slots g => W p l e R s m args below meth c H locs cells slots Q g) m s A D q n0 ad0 ac0 CT ST r h')
    (IH : ∀ pc la st h, ih pc la st h = some (r, h') → zSIM (fun H locs cells slots g => W p l e R s m args below meth c H locs cells slots Q g) m s A D q.2.2.1 n0 ad0 ac0 CT ST r h' pc la st h)
    (hs : zstep cal q scr ih pc la st h = some (r, h')) : zSIM (fun H locs cells slots g => W p l e R s m args below meth c H locs cells slots Q g) m s A D q.2.2.1 n0 ad0 ac0 CT ST r h' pc la st h := by
  obtain ⟨hx, hb, hml, hown, hts, hini, hg, hRf, hRl, hRc, hRs, hA, hSt, hSc, hcal⟩ := C
  unfold zstep at hs
  split at hs
  · cases hs
  · rename_i i hlk
    obtain ⟨k, hd, hk⟩ := zdec hg hlk
    split at hs
    · -- aload
      have hk := hk rfl; subst hk
      exact zs_load IH hs (fun h => by cases h) (fun h => by cases h) (fun _ x H locs cells slots ls rest hl kk => lv_aload hx hb hd hl kk)
    · have hk := hk rfl; subst hk
      exact zs_load IH hs (fun h => by cases h) (fun h => by cases h) (fun _ x H locs cells slots ls rest hl kk => lv_aload_n hx hb hd rfl hl kk)
    · have hk := hk rfl; subst hk
      exact zs_load IH hs (fun _ x H locs cells slots ls rest hl kk => lv_iload hx hb hd hl kk) (fun h => by cases h) (fun h => by cases h)
    · have hk := hk rfl; subst hk
      exact zs_load IH hs (fun _ x H locs cells slots ls rest hl kk => lv_iload_n hx hb hd rfl hl kk) (fun h => by cases h) (fun h => by cases h)
    · have hk := hk rfl; subst hk
      exact zs_load IH hs (fun h => by cases h) (fun _ x H locs cells slots ls rest hl kk => lv_lload hx hb hd hl kk) (fun h => by cases h)
    · have hk := hk rfl; subst hk
      exact zs_load IH hs (fun h => by cases h) (fun _ x H locs cells slots ls rest hl kk => lv_lload_n hx hb hd rfl hl kk) (fun h => by cases h)
    · have hk := hk rfl; subst hk
      exact zs_store IH hs (fun _ x H locs cells slots ls rest lv hl hn kk => lv_istore hx hb hd hl hn rfl kk) (fun h => by cases h)
    · have hk := hk rfl; subst hk
      exact zs_store IH hs (fun _ x H locs cells slots ls rest lv hl hn kk => lv_istore_n hx hb hd rfl hl hn rfl kk) (fun h => by cases h)
    · have hk := hk rfl; subst hk
      exact zs_store IH hs (fun h => by cases h) (fun _ x H locs cells slots ls rest lv hl hn kk => lv_astore hx hb hd hl hn rfl kk)
    · have hk := hk rfl; subst hk
      exact zs_store IH hs (fun h => by cases h) (fun _ x H locs cells slots ls rest lv hl hn kk => lv_astore_n hx hb hd rfl hl hn rfl kk)
    · -- iinc
      rename_i n kc
      have hk := hk rfl; subst hk
      split at hs
      · rename_i x hz
        obtain ⟨⟨h1, h2⟩, h3⟩ := zIfE hs
        refine zs_loc (IH _ _ _ _ h3) (fun hl hv => ⟨fun y hy => ?_, hv⟩) (fun ad ac H locs cells slots ls _ _ g kk => ?_)
        · rcases List.mem_or_eq_of_mem_set hy with h4 | h4
          · exact hl y h4
          · rw [h4]; exact zvk_int
        · have hz2 : la[n]? = some (.int x) := by
            unfold zlc at hz
            rw [List.getD_eq_getElem?_getD] at hz
            cases hi : la[n]? with
            | none => rw [hi] at hz; cases hz
            | some w => rw [hi] at hz; have hz : w = .int x := hz; rw [hz]
          have hmem := zll_mem (ad := ad) hz2 (fun _ h => by cases h)
          obtain ⟨kk0, hkk⟩ := List.getElem?_of_mem hmem
          exact lv_iinc hx hb hd (zll_has g) hkk rfl (by rw [← g.2.2.1]; exact h1) rfl (fun ls' hl => kk ls' (zlo_set g h1 h2 rfl hl))
      · cases hs
    · have hk := hk rfl; subst hk
      exact zs_pure (IH _ _ _ _ hs) (fun hv => zmc zvk_int hv) (fun ad ac H locs cells slots ls _ _ _ kk => lv_iconst hx hb hd rfl kk)
    · have hk := hk rfl; subst hk
      exact zs_pure (IH _ _ _ _ hs) (fun hv => zmc zvk_int hv) (fun ad ac H locs cells slots ls _ _ _ kk => lv_bipush hx hb hd rfl kk)
    · have hk := hk rfl; subst hk
      exact zs_pure (IH _ _ _ _ hs) (fun hv => zmc zvk_int hv) (fun ad ac H locs cells slots ls _ _ _ kk => lv_sipush hx hb hd rfl kk)
    · have hk := hk rfl; subst hk
      exact zs_pure (IH _ _ _ _ hs) (fun hv => zmc zvk_long hv) (fun ad ac H locs cells slots ls _ _ _ kk => lv_lconst hx hb hd rfl kk)
    · have hk := hk rfl; subst hk
      split at hs
      · rename_i v hl
        have hF : zLKok _ := zLKc_ok _ (by rw [zLKs_eq]; exact zlk_mem hl)
        exact zs_pure (IH _ _ _ _ hs) (fun hv => zmc zvk_int hv) (fun ad ac H locs cells slots ls _ _ _ kk => lv_ldc hx hb hown (hts _ hF) hd kk)
      · cases hs
    · have hk := hk rfl; subst hk
      split at hs
      · rename_i v hl
        have hF : zLKok _ := zLKc_ok _ (by rw [zLKs_eq]; exact zlk_mem hl)
        exact zs_pure (IH _ _ _ _ hs) (fun hv => zmc zvk_int hv) (fun ad ac H locs cells slots ls _ _ _ kk => lv_ldcw hx hb hown (hts _ hF) hd kk)
      · cases hs
    · have hk := hk rfl; subst hk
      split at hs
      · rename_i v hl
        have hF : zLJok _ := zLJc_ok _ (by rw [zLJs_eq]; exact zlk_mem hl)
        exact zs_pure (IH _ _ _ _ hs) (fun hv => zmc zvk_long hv) (fun ad ac H locs cells slots ls _ _ _ kk => lv_ldc2 hx hb hown (hts _ hF) hd kk)
      · cases hs
    · have hk := hk rfl; subst hk
      exact zs_bin IH hs (fun x y v H locs cells slots ls rest hz kk => by cases hz; exact lv_iadd hx hb hd kk)
    · have hk := hk rfl; subst hk
      exact zs_bin IH hs (fun x y v H locs cells slots ls rest hz kk => by cases hz; exact lv_isub hx hb hd kk)
    · have hk := hk rfl; subst hk
      exact zs_bin IH hs (fun x y v H locs cells slots ls rest hz kk => by cases hz; exact lv_imul hx hb hd kk)
    · have hk := hk rfl; subst hk
      exact zs_bin IH hs (fun x y v H locs cells slots ls rest hz kk => by
        obtain ⟨h1, h2⟩ := zIfT (show (if y = 0 then none else some (x / y)) = some v from hz)
        cases h2; exact lv_idiv hx hb hd h1 kk)
    · have hk := hk rfl; subst hk
      exact zs_bin IH hs (fun x y v H locs cells slots ls rest hz kk => by
        obtain ⟨h1, h2⟩ := zIfT (show (if y = 0 then none else some (x - x / y * y)) = some v from hz)
        cases h2; exact lv_irem hx hb hd h1 kk)
    · have hk := hk rfl; subst hk
      exact zs_bin IH hs (fun x y v H locs cells slots ls rest hz kk => by cases hz; exact lv_iand hx hb hd kk)
    · have hk := hk rfl; subst hk
      exact zs_bin IH hs (fun x y v H locs cells slots ls rest hz kk => by cases hz; exact lv_ior hx hb hd kk)
    · have hk := hk rfl; subst hk
      exact zs_bin IH hs (fun x y v H locs cells slots ls rest hz kk => by cases hz; exact lv_ixor hx hb hd kk)
    · have hk := hk rfl; subst hk
      exact zs_bin IH hs (fun x y v H locs cells slots ls rest hz kk => by cases hz; exact lv_ishl hx hb hd kk)
    · have hk := hk rfl; subst hk
      exact zs_bin IH hs (fun x y v H locs cells slots ls rest hz kk => by cases hz; exact lv_ishr hx hb hd kk)
    · have hk := hk rfl; subst hk
      exact zs_bin IH hs (fun x y v H locs cells slots ls rest hz kk => by cases hz; exact lv_iushr hx hb hd rfl kk)
    · -- ineg
      have hk := hk rfl; subst hk
      split at hs
      · exact zs_pure (IH _ _ _ _ hs) (fun hv => zmc zvk_int (zm1 hv)) (fun ad ac H locs cells slots ls _ _ _ kk => lv_ineg hx hb hd kk)
      · cases hs
    · have hk := hk rfl; subst hk
      split at hs
      · exact zs_pure (IH _ _ _ _ hs) (fun hv => zmc zvk_long (zm1 hv)) (fun ad ac H locs cells slots ls _ _ _ kk => lv_i2l hx hb hd rfl kk)
      · cases hs
    · have hk := hk rfl; subst hk
      split at hs
      · exact zs_pure (IH _ _ _ _ hs) (fun hv => zmc zvk_int (zm1 hv)) (fun ad ac H locs cells slots ls _ _ _ kk => lv_l2i hx hb hd rfl kk)
      · cases hs
    · have hk := hk rfl; subst hk
      split at hs
      · exact zs_pure (IH _ _ _ _ hs) (fun hv => zmc zvk_int (zm1 hv)) (fun ad ac H locs cells slots ls _ _ _ kk => lv_i2b hx hb hd rfl kk)
      · cases hs
    · have hk := hk rfl; subst hk
      split at hs
      · exact zs_pure (IH _ _ _ _ hs) (fun hv => zmc zvk_int (zm1 hv)) (fun ad ac H locs cells slots ls _ _ _ kk => lv_i2s hx hb hd rfl kk)
      · cases hs
    · have hk := hk rfl; subst hk
      split at hs
      · exact zs_pure (IH _ _ _ _ hs) (fun hv => zmc zvk_long (zm1 (zm1 hv))) (fun ad ac H locs cells slots ls _ _ _ kk => lv_land hx hb hd kk)
      · cases hs
    · have hk := hk rfl; subst hk
      split at hs
      · exact zs_pure (IH _ _ _ _ hs) (fun hv => zmc zvk_long (zm1 (zm1 hv))) (fun ad ac H locs cells slots ls _ _ _ kk => lv_lor hx hb hd kk)
      · cases hs
    · have hk := hk rfl; subst hk
      split at hs
      · exact zs_pure (IH _ _ _ _ hs) (fun hv => zmc zvk_long (zm1 (zm1 hv))) (fun ad ac H locs cells slots ls _ _ _ kk => lv_lshl hx hb hd rfl kk)
      · cases hs
    · have hk := hk rfl; subst hk
      split at hs
      · exact zs_pure (IH _ _ _ _ hs) (fun hv => zmc zvk_int (zm1 (zm1 hv))) (fun ad ac H locs cells slots ls _ _ _ kk => W.lcmp hx hb hd kk)
      · cases hs
    · -- dup
      have hk := hk rfl; subst hk
      split at hs
      · obtain ⟨h1, h2⟩ := zIfE hs
        exact zs_pure (IH _ _ _ _ h2) (fun hv => zmc (zmh hv) hv) (fun ad ac H locs cells slots ls _ _ _ kk => lv_dup hx hb hd (zcv_cat.trans h1) kk)
      · cases hs
    · have hk := hk rfl; subst hk
      split at hs
      · obtain ⟨⟨h1, h3⟩, h2⟩ := zIfE hs
        exact zs_pure (IH _ _ _ _ h2) (fun hv => zmc (zmh hv) (zmc (zmh (zm1 hv)) (zmc (zmh hv) (zm1 (zm1 hv))))) (fun ad ac H locs cells slots ls _ _ _ kk => lv_dup_x1 hx hb hd (zcv_cat.trans h1) (zcv_cat.trans h3) kk)
      · cases hs
    · have hk := hk rfl; subst hk
      split at hs
      · obtain ⟨⟨h1, h3⟩, h2⟩ := zIfE hs
        exact zs_pure (IH _ _ _ _ h2) (fun hv => zmc (zmh hv) (zmc (zmh (zm1 hv)) hv)) (fun ad ac H locs cells slots ls _ _ _ kk => lv_dup2_11 hx hb hd (zcv_cat.trans h1) (zcv_cat.trans h3) kk)
      · cases hs
    · -- goto
      have hk := hk rfl; subst hk
      obtain ⟨tgt, ht, S⟩ := zs_go IH hs
      exact zs_pure S (fun hv => hv) (fun ad ac H locs cells slots ls _ _ _ kk => lv_goto hx hb hd ht kk)
    · -- ifCond
      rename_i cd off
      have hk := hk rfl; subst hk
      split at hs
      · rename_i x r0
        obtain ⟨h1, h2⟩ := zIfT hs
        have ht : (pc : Int) + off = ((((pc : Int) + off).toNat : Nat) : Int) := by omega
        split at h2
        · rename_i hc
          rw [zif] at hc
          refine zs_pure (IH _ _ _ _ h2) (fun hv => zm1 hv) (fun ad ac H locs cells slots ls _ _ _ kk => ?_)
          cases cd
          · exact lv_if_eq hx hb hd ht (fun _ => kk) (fun z => absurd hc z)
          · exact lv_if_ne hx hb hd ht (fun _ => kk) (fun z => absurd z hc)
          · exact lv_if_lt hx hb hd ht (fun _ => kk) (fun z => absurd hc z)
          · exact lv_if_ge hx hb hd ht (fun _ => kk) (fun z => absurd hc z)
          · exact lv_if_gt hx hb hd ht (fun _ => kk) (fun z => absurd hc z)
          · exact lv_if_le hx hb hd ht (fun _ => kk) (fun z => absurd hc z)
        · rename_i hc
          rw [zif] at hc
          refine zs_pure (IH _ _ _ _ h2) (fun hv => zm1 hv) (fun ad ac H locs cells slots ls _ _ _ kk => ?_)
          cases cd
          · exact lv_if_eq hx hb hd ht (fun z => absurd z hc) (fun _ => kk)
          · exact lv_if_ne hx hb hd ht (fun z => absurd z hc) (fun _ => kk)
          · exact lv_if_lt hx hb hd ht (fun z => absurd z hc) (fun _ => kk)
          · exact lv_if_ge hx hb hd ht (fun z => absurd z hc) (fun _ => kk)
          · exact lv_if_gt hx hb hd ht (fun z => absurd z hc) (fun _ => kk)
          · exact lv_if_le hx hb hd ht (fun z => absurd z hc) (fun _ => kk)
      · cases hs
    · -- if_icmp
      rename_i cd off
      have hk := hk rfl; subst hk
      split at hs
      · rename_i y x r0
        obtain ⟨h1, h2⟩ := zIfT hs
        have ht : (pc : Int) + off = ((((pc : Int) + off).toNat : Nat) : Int) := by omega
        split at h2
        · rename_i hc
          rw [zif] at hc
          refine zs_pure (IH _ _ _ _ h2) (fun hv => zm1 (zm1 hv)) (fun ad ac H locs cells slots ls _ _ _ kk => ?_)
          cases cd
          · exact lv_icmp_eq hx hb hd ht (fun _ => kk) (fun z => absurd hc z)
          · exact lv_icmp_ne hx hb hd ht (fun _ => kk) (fun z => absurd z hc)
          · exact lv_icmp_lt hx hb hd ht (fun _ => kk) (fun z => absurd hc z)
          · exact lv_icmp_ge hx hb hd ht (fun _ => kk) (fun z => absurd hc z)
          · exact lv_icmp_gt hx hb hd ht (fun _ => kk) (fun z => absurd hc z)
          · exact lv_icmp_le hx hb hd ht (fun _ => kk) (fun z => absurd hc z)
        · rename_i hc
          rw [zif] at hc
          refine zs_pure (IH _ _ _ _ h2) (fun hv => zm1 (zm1 hv)) (fun ad ac H locs cells slots ls _ _ _ kk => ?_)
          cases cd
          · exact lv_icmp_eq hx hb hd ht (fun z => absurd z hc) (fun _ => kk)
          · exact lv_icmp_ne hx hb hd ht (fun z => absurd z hc) (fun _ => kk)
          · exact lv_icmp_lt hx hb hd ht (fun z => absurd z hc) (fun _ => kk)
          · exact lv_icmp_ge hx hb hd ht (fun z => absurd z hc) (fun _ => kk)
          · exact lv_icmp_gt hx hb hd ht (fun z => absurd z hc) (fun _ => kk)
          · exact lv_icmp_le hx hb hd ht (fun z => absurd z hc) (fun _ => kk)
      · cases hs
    · exact zs_tab hx hb hd IH hs
    · -- lookupswitch
      split at hs
      · obtain ⟨h1, h2⟩ := zIfE hs
        obtain ⟨tgt, ht, S⟩ := zs_go IH h2
        exact zs_pure S (fun hv => zm1 hv) (fun ad ac H locs cells slots ls _ _ _ kk => lv_lookup hx hb hd h1 rfl ht kk)
      · cases hs
    · have hk := hk rfl; subst hk
      exact zs_get hx hb hown hts hd IH hs
    · have hk := hk rfl; subst hk
      exact zs_put hx hb hown hts hini hd IH hs
    · -- getstatic
      have hk := hk rfl; subst hk
      split at hs
      · rename_i a hl
        have hF : zLGok _ := zLGc_ok _ (by rw [zLGs_eq]; exact zlk_mem hl)
        rcases hF with ⟨ha, hF⟩ | ⟨ha, hF⟩
        · dsimp only at ha; subst ha
          refine zs_pure (IH _ _ _ _ hs) (fun hv => zmc (fun a h => by cases h; exact Or.inr (by decide)) hv) (fun ad ac H locs cells slots ls ga g _ kk => ?_)
          have kk : W p l e R s m args below meth c H locs cells slots Q (F0 m (pc + 3) ls (.ref (ad 1000001) :: st.map (zcv ad))) := kk
          rw [ga.1 1000001 (Or.inr (by decide))] at kk
          exact va_gets hx hb hSt.1 g.2.2.1 hown (hts _ hF) (fun _ h => h) hd kk
        · dsimp only at ha; subst ha
          refine zs_pure (IH _ _ _ _ hs) (fun hv => zmc (fun a h => by cases h; exact Or.inr (by decide)) hv) (fun ad ac H locs cells slots ls ga g _ kk => ?_)
          have kk : W p l e R s m args below meth c H locs cells slots Q (F0 m (pc + 3) ls (.ref (ad 1000002) :: st.map (zcv ad))) := kk
          rw [ga.1 1000002 (Or.inr (by decide))] at kk
          exact va_gets hx hb hSt.2.2.1 g.2.2.1 hown (hts _ hF) (fun _ h => h) hd kk
      · cases hs
    · have hk := hk rfl; subst hk
      exact zs_ald hx hb hSt hSc hd IH hs
    · have hk := hk rfl; subst hk
      exact zs_lld hx hb hd IH hs
    · have hk := hk rfl; subst hk
      exact zs_qld hx hb hd IH hs
    · have hk := hk rfl; subst hk
      exact zs_ast hx hb hd IH hs
    · have hk := hk rfl; subst hk
      exact zs_lst hx hb hd IH hs
    · have hk := hk rfl; subst hk
      exact zs_qst hx hb hd IH hs
    · have hk := hk rfl; subst hk
      exact zs_len hx hb hSt hSc hd IH hs
    · have hk := hk rfl; subst hk
      exact zs_newa hx hb hts hRc hRs hA hd IH hs
    · have hk := hk rfl; subst hk
      exact zs_newq hx hb hown hts hSt hRc hRs hA hd IH hs
    · have hk := hk rfl; subst hk
      obtain ⟨h2, hs⟩ := zIfE hs
      subst h2
      exact zs_new2 hx hb hown hts hSt hRc hRs hA hd IH hs
    · have hk := hk rfl; subst hk
      exact zs_new hx hb hown hts hRc hRs hA hd IH hs
    · have hk := hk rfl; subst hk
      exact zs_spe hx hb hml hown hts hRf hRl hRc hRs hA hSt hcal hd IH hs
    · have hk := hk rfl; subst hk
      exact zs_sta hx hb hml hown hts hRf hRl hRc hRs hA hSt hcal hd IH hs
    · have hk := hk rfl; subst hk
      exact zs_vir hx hb hml hown hts hRf hRl hRc hRs hA hSt hcal hd IH hs
    · have hk := hk rfl; subst hk
      split at hs
      · obtain ⟨h1, h2⟩ := zIfE hs
        exact zs_ret hr h2 rfl ⟨hd, h1⟩
      · cases hs
    · have hk := hk rfl; subst hk
      split at hs
      · obtain ⟨h1, h2⟩ := zIfE hs
        exact zs_ret hr h2 rfl ⟨hd, h1⟩
      · cases hs
    · have hk := hk rfl; subst hk
      split at hs
      · obtain ⟨h1, h2⟩ := zIfE hs
        refine zs_ret hr h2 rfl ⟨hd, ?_⟩
        split at h1
        · rename_i n hn
          exact ⟨n, hn⟩
        · cases h1
      · cases hs
    · have hk := hk rfl; subst hk
      split at hs
      · obtain ⟨h1, h2⟩ := zIfE hs
        exact zs_ret hr h2 rfl ⟨hd, h1⟩
      · cases hs
    · cases hs
end ST6
