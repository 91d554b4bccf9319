theorem zsim_run {p : Program} {l : Launch} {e : Env} {R : Room} {s : State} {m : MethodId} {args : Array Value} {below : List Frame} {meth : Method} {c : Code} {Q : State → Prop} {A : Nat → Prop} {D : va_G} {q : zInfo} {d n0 : Nat} {ad0 : Nat → Nat} {ac0 : Nat → ClassId} {CT ST : Nat} {r : Option Value} {h' : zMm} {scr : Option (Nat × (Nat → Int32))} {cal : Nat → List Value → zMm → zRes}
    (C : zCX p l R s m args meth c q d A ad0 CT ST scr cal) (hr : zRET (fun H locs cells slots g => W p l e R s m args below meth c H locs cells slots Q g) m s A D q n0 ad0 ac0 CT ST r h') :
    ∀ n pc la st h, zrun cal q scr n pc la st h = some (r, h') → zSIM (fun H locs cells slots g => W p l e R s m args below meth c H locs cells slots Q g) m s A D q.2.2.1 n0 ad0 ac0 CT ST r h' pc la st h := by
  intro n
  induction n with
  | zero => intro pc la st h hs; cases hs
  | succ n ih => intro pc la st h hs; exact zsim_step C hr ih hs
def zlen2 (vs : List Value) : List Value := vs.flatMap fun v => if v.category = 2 then [v, .retAddr 0] else [v]
theorem zarg_at (ad : Nat → Nat) : ∀ (vs : List Value) (n i : Nat) (v : Value), (zlen2 vs)[i]? = some v → (∀ k, v ≠ .retAddr k) → (n + i, zcv ad v) ∈ lv_args n (vs.map (zcv ad))
  | [], n, i, v, h, hn => by simp [zlen2] at h
  | x :: vs, n, i, v, h, hn => by
    have e0 : zlen2 (x :: vs) = (if x.category = 2 then [x, .retAddr 0] else [x]) ++ zlen2 vs := rfl
    rw [e0] at h
    by_cases hc : x.category = 2
    · rw [if_pos hc] at h
      match i, h with
      | 0, h =>
        have h : some x = some v := h
        cases h
        simp [lv_args]
      | 1, h =>
        have h : some (Value.retAddr 0) = some v := h
        cases h
        exact absurd rfl (hn 0)
      | i + 2, h =>
        have h : (zlen2 vs)[i]? = some v := h
        have k := zarg_at ad vs (n + 2) i v h hn
        simp only [List.map_cons, lv_args, zcv_cat, hc]
        refine List.mem_cons_of_mem _ ?_
        rw [show n + (i + 2) = n + 2 + i by omega]
        exact k
    · rw [if_neg hc] at h
      have hc1 : x.category = 1 := by rcases lv_cat x with h1 | h1; exact h1; exact absurd h1 hc
      match i, h with
      | 0, h =>
        have h : some x = some v := h
        cases h
        simp [lv_args]
      | i + 1, h =>
        have h : (zlen2 vs)[i]? = some v := h
        have k := zarg_at ad vs (n + 1) i v h hn
        simp only [List.map_cons, lv_args, zcv_cat, hc1]
        refine List.mem_cons_of_mem _ ?_
        rw [show n + (i + 1) = n + 1 + i by omega]
        exact k
theorem zlen2_len (ad : Nat → Nat) (vs : List Value) : (lg_sl (vs.map (zcv ad))).length = (zlen2 vs).length := by
  induction vs with
  | nil => rfl
  | cons x vs ih =>
    have e0 : zlen2 (x :: vs) = (if x.category = 2 then [x, .retAddr 0] else [x]) ++ zlen2 vs := rfl
    have e1 : lg_sl ((x :: vs).map (zcv ad)) = (if (zcv ad x).category = 2 then [.val (zcv ad x), .second] else [.val (zcv ad x)]) ++ lg_sl (vs.map (zcv ad)) := rfl
    rw [e0, e1, List.length_append, List.length_append, ih, zcv_cat]
    split <;> rfl
theorem zent_lo {q : zInfo} {vs : List Value} {ad : Nat → Nat} {m : MethodId} (hl : (zlen2 vs).length ≤ q.2.2.1) : zlo ad ((lg_sl (vs.map (zcv ad)) ++ List.replicate (q.2.2.1 - (lg_sl (vs.map (zcv ad))).length) Slot.unset).toArray) q.2.2.1 (zent q vs) := by
  have h0 := lv_entry (vs.map (zcv ad)) (n := q.2.2.1) (by rw [zlen2_len]; exact hl)
  have e0 : zent q vs = zlen2 vs ++ List.replicate (q.2.2.1 - (zlen2 vs).length) (.retAddr 0) := rfl
  refine ⟨h0.1, h0.2.1, by rw [e0, List.length_append, List.length_replicate]; omega, fun i v hi hn => ?_⟩
  rw [e0] at hi
  by_cases h1 : i < (zlen2 vs).length
  · rw [List.getElem?_append_left h1] at hi
    have k := zarg_at ad vs 0 i v hi hn
    rw [Nat.zero_add] at k
    exact h0.2.2 _ k
  · rw [List.getElem?_append_right (by omega), List.getElem?_replicate] at hi
    split at hi
    · cases hi; exact absurd rfl (hn 0)
    · cases hi
theorem zent_ok {q : zInfo} {vs : List Value} {n : Nat} (hv : ∀ x ∈ vs, zvk n x) : ∀ x ∈ zent q vs, zvk n x := by
  intro x hx
  rcases List.mem_append.mp hx with h1 | h1
  · obtain ⟨y, hy, h2⟩ := List.mem_flatMap.mp h1
    split at h2
    · rcases List.mem_cons.mp h2 with h3 | h3
      · rw [h3]; exact hv y hy
      · rw [List.mem_singleton.mp h3]; exact zvk_ret
    · rw [List.mem_singleton.mp h2]; exact hv y hy
  · rw [List.eq_of_mem_replicate h1]; exact zvk_ret
theorem zrunM_s {f d M : Nat} {vs : List Value} {h : zMm} : zrunM f (d + 1) M vs h = match zM M with
    | none => none
    | some q => if (zlen2 vs).length ≤ q.2.2.1 then zrun (zrunM f d) q none f 0 (zent q vs) [] h else none := rfl
set_option maxHeartbeats 4000000 in
theorem zmet (l : Launch) (f : Nat) : ∀ d, zCAL l d (zrunM f d) := by
  intro d
  induction d with
  | zero => intro M vs h v h1 hM hc; cases hc
  | succ d ihd =>
    intro M vs h v h1 hM hc hw hv
    rw [zrunM_s] at hc
    split at hc
    · cases hc
    · rename_i q hq
      obtain ⟨hlen, hrun⟩ := zIfE hc
      have hkl : ∃ kd, zkds[M]? = some kd := by
        have e : zkds.length = 218 := rfl
        exact ⟨_, List.getElem?_eq_getElem (by rw [e]; omega)⟩
      obtain ⟨kd, hkd⟩ := hkl
      obtain ⟨⟨p1, p2, p3, p4, p5, p6, p7⟩, -, p9⟩ := zzip hq hkd hM
      refine ⟨fun hX => ?_, fun y hy D ad ac sz => ?_⟩
      · obtain ⟨p, e, s, args, A, ad0, hx, hts, hA, hSt⟩ := hX
        have hcode := hts _ p1
        cases hn : s.methodNamed? q.1 with
        | none => simp [Cond.before, Cond.holds, Cond.value, hn] at hcode
        | some m =>
          obtain ⟨meth, c, hm1, hm2, hm3, hm4, hm5, hm6, -, -⟩ := Cond.code_spec hn hcode
          have hown := findClass_of_methodNamed hn
          rw [p3] at hown
          have C : zCX p l (zrm (d + 1) 0 0) s m args meth c q d A ad0 0 0 none (zrunM f d) := ⟨hx, by assumption, by assumption, hown, hts, fun hi => by
            have := (name_of_methodNamed hn hm1).1
            rw [this]
            simpa [zini] using hi, p9, Nat.le_refl _, Nat.le_refl _, Nat.le_refl _, Nat.le_refl _, hA, hSt, (fun L xs hh => by cases hh), ihd⟩
          have hS := zsim_run (e := e) (below := []) (Q := fun _ => True) (D := (fun _ => 0, fun _ _ => 0)) (n0 := 0) (ac0 := fun _ => 0) C (fun pc ad ac H locs ls _ _ _ _ T hT X => ⟨_, Steps.refl _, trivial⟩) f 0 (zent q vs) [] h hrun hw (zent_ok hv) (fun _ hh => by cases hh) (Nat.zero_le _)
          exact hS.1
      · have hy2 : q = y := Option.some.inj (hq.symm.trans hy)
        subst hy2
        refine Met.ofW (cc := q.2.1) (maxL := q.2.2.1) (ret := q.2.2.2.1) p6 rfl ?_
        intro p e s m args below meth c s₁ B hml hvP
        obtain ⟨hargs, hsz, hP, hK, hD0, hSt⟩ := hvP
        subst hargs
        have hx := B.exec
        have hb := B.bytes
        have hr := B.returns
        have hts0 := atoms_spec (ws := zwd q) B.pre
        have hts : ∀ w ∈ zTB, w.before (vs.map (zcv ad)).toArray s = true := fun w hw => hts0 w (List.mem_cons_of_mem _ hw)
        have hown : s.vm.findClass q.1.cls = some m.cls := findClass_of_methodNamed B.named
        rw [p3] at hown
        have hlocks := B.notSynchronized
        have hname := (name_of_methodNamed B.named B.method).1
        subst hsz
        have C : zCX p l (zrm (d + 1) (h1.1.length - h.1.length) (zsl h1.1 - zsl h.1)) s m (vs.map (zcv ad)).toArray meth c q d (va_A (zws ad ac h) s.heap.size) ad (h1.1.length - h.1.length) (zsl h1.1 - zsl h.1) none (zrunM f d) := ⟨hx, hb, hml, hown, hts, fun hi => by
          rw [hname]
          simpa [zini] using hi, p9, Nat.le_refl _, Nat.le_refl _, Nat.le_refl _, Nat.le_refl _, fun x hx => Or.inr hx, hSt, (fun L xs hh => by cases hh), ihd⟩
        have hret : zRET (fun H locs cells slots g => W p l e (zrm (d + 1) (h1.1.length - h.1.length) (zsl h1.1 - zsl h.1)) s m (vs.map (zcv ad)).toArray below meth c H locs cells slots (MQ below (zQc D ad ac s.heap.size h v h1) (vs.map (zcv ad)).toArray s (h1.1.length - h.1.length) (zsl h1.1 - zsl h.1) (va_A (zws ad ac h) s.heap.size)) g) m s (va_A (zws ad ac h) s.heap.size) D q h.1.length ad ac (h1.1.length - h.1.length) (zsl h1.1 - zsl h.1) v h1 := by
          intro pc ad' ac' H locs ls hag hinv hrok hrk
          have post : ∀ t : State, t.heap = H → s.WarmedH t.vm → zQc D ad ac s.heap.size h v h1 (vs.map (zcv ad)).toArray s (.returned (v.map (zcv ad'))) t := fun t ht hW =>
            ⟨⟨ad', ac', rfl, hag, by rw [ht]; exact hinv.1, hinv.2.2.2.moved hW.alike, hinv.2.1⟩, hinv.2.2.1.F ht⟩
          cases v with
          | none => exact W.vret hx hb (hr.trans hrk.2) post hinv.2.2.1.2.2 hrk.1
          | some x =>
            cases x with
            | int y =>
              rcases hrk.2 with h2 | ⟨h2, h3⟩
              · exact W.iret hx hb (hr.trans h2) post hinv.2.2.1.2.2 hrk.1
              · exact W.zret (ty := .boolean) hx hb (hr.trans h2) (by rcases h3 with rfl | rfl <;> rfl) post hinv.2.2.1.2.2 hrk.1
            | long y => exact W.lret hx hb (hr.trans hrk.2) post hinv.2.2.1.2.2 hrk.1
            | ref a =>
              obtain ⟨n, hn⟩ := hrk.2
              exact W.aret hx hb (hr.trans hn) (Or.inl ⟨n, rfl⟩) (Or.inr ⟨_, rfl⟩) post hinv.2.2.1.2.2 hrk.1
            | float _ => exact hrk.elim
            | double _ => exact hrk.elim
            | null => exact hrk.elim
            | retAddr _ => exact hrk.elim
        have hS := zsim_run C hret f 0 (zent q vs) [] h hrun hw (zent_ok hv) (fun _ hh => by cases hh) (Nat.le_refl _)
        have hm := hS.1
        rw [lg_entry_eq]
        exact hS.2 ad ac s.heap [] 0 0 _ zag_rf ⟨hP, hD0.self, va_S.rf, hK⟩ (zent_lo (m := m) hlen) (by omega) (by omega)
