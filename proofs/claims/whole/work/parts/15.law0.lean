-- ===== end of PART A; then your names; then what follows =====
/-! THE CLAIM OUT OF ONE WALK OF THE LAW'S BODY. Your part is whole_start (and what it stands on); all else here is the same for every law, but numbers. -/
def R_law : String := "PalletSkyLaw"
def lw_P (b : Addr) (xs : List Int32) (args : Array Value) (s : State) : Prop := args = #[.ref b] ∧ s.IntsAt b xs ∧ xs.length ≤ 3072 ∧ (Jvm.Cond.and given_1 narrow_1).before args s = true
def lw_Q (_ : Array Value) (s : State) (o : Outcome) (t : State) : Prop := o = .returned (some (.int 1)) ∧ Framed s o t [] 600000 7302250
def lw_Z (below : List Frame) (a : Array Value) (s : State) : State → Prop := fun t => ∃ o, t.status = .running ∧ Ended t below o ∧ lw_Q a s o t
/-- the law's own end, with 1 on the stack, nothing written that was there before, its room as the claim has it -/
theorem lw_ret {p : Program} {l : Launch} {e : Env} {s : State} {m : MethodId} {below : List Frame} {meth : Method} {c : Code} {b : Nat} (hx : p.tables.exec = Jvm.exec) (hb : c.code = code) (hr : meth.sig.returnType = ret) (hlocks : meth.locks = false) {pc : Nat} {H : Heap} {ls : Array Slot} (hdg : decode code pc = .ok (.ireturn, 1)) : W p l e room_1 s m #[Value.ref b] below meth c H [] 600000 7302250 (lw_Z below #[Value.ref b] s) (F0 m pc ls [.int 1]) := by
  intro T hT X
  obtain ⟨fs, hret, hrun, hended, hW, hframe⟩ := X.leave (v := some (.int 1)) (hlocks := hlocks) (fun h => by rw [hr] at h; cases h)
  have hmeth' : T.vm.method? m = some meth := X.method'
  refine ⟨T.setFrames fs, ?_, .returned (some (.int 1)), hrun, hended, rfl, ⟨_, rfl⟩, hW, hframe⟩
  jvm_step X.here [X.here.top, hx, hb, hdg, hmeth', hr, ret, narrow_b1]
  (try refine ⟨rfl, ?_⟩); (try refine ⟨rfl, ?_⟩)
  first | (intro acts; rw [hret _ acts rfl rfl rfl]) | rw [hret _ _ rfl rfl rfl]
  exact Steps.refl _
/-- what holds at the law's entry: the machine, the code, the tables' words (any of lw_tbl by 'hts w (by decide +kernel)'), the script of L ints xs at the cell b, what the Statement gives of the start (any of its parts by flat_of_before) -/
def lw_At (p : Program) (s : State) (m : MethodId) (meth : Method) (c : Code) (b L : Nat) (xs : Nat → Int32) : Prop :=
  p.tables.exec = Jvm.exec ∧ c.code = code ∧ meth.sig.returnType = ret ∧ c.maxLocals = 4 ∧ s.vm.findClass R_law = some m.cls ∧ (∀ w ∈ lw_tbl, w.before #[Value.ref b] s = true) ∧ va_X b L xs s s.heap ∧ b < s.heap.size ∧ meth.locks = false ∧ (Jvm.Cond.and given_1 narrow_1).before #[Value.ref b] s = true

/-- the two tables at the law's start -/
theorem zst_own {args : Array Value} {s : State} (hgv : (Jvm.Cond.and given_1 narrow_1).before args s = true) : (∀ j : Nat, j < 32 → (Term.elem (.static "PalletSky$Bodies" "OWN" "[I") (.int (Int32.ofNat j))).eval args s none [] s = some (.int (zOWN j))) ∧ (Cond.arrayOf (.static "PalletSky$Bodies" "OWN" "[I") .int).before args s = true ∧ (Term.length (.static "PalletSky$Bodies" "OWN" "[I")).eval args s none [] s = some (.int (Int32.ofNat 32)) := by
  have hs := flat_of_before _ hgv
  refine ⟨fun j hj => ?_, hs _ (by decide +kernel), va_eqt (z := 32) (hs (Cond.eq (.length (.static "PalletSky$Bodies" "OWN" "[I")) (.int 32)) (by decide +kernel))⟩
  exact match j, hj with
      | 0, _ => va_eqt (z := 1) (hs (Cond.eq (.elem (.static "PalletSky$Bodies" "OWN" "[I") (.int 0)) (.int 1)) (by decide +kernel))
      | 1, _ => va_eqt (z := 10) (hs (Cond.eq (.elem (.static "PalletSky$Bodies" "OWN" "[I") (.int 1)) (.int 10)) (by decide +kernel))
      | 2, _ => va_eqt (z := 11) (hs (Cond.eq (.elem (.static "PalletSky$Bodies" "OWN" "[I") (.int 2)) (.int 11)) (by decide +kernel))
      | 3, _ => va_eqt (z := 2) (hs (Cond.eq (.elem (.static "PalletSky$Bodies" "OWN" "[I") (.int 3)) (.int 2)) (by decide +kernel))
      | 4, _ => va_eqt (z := 20) (hs (Cond.eq (.elem (.static "PalletSky$Bodies" "OWN" "[I") (.int 4)) (.int 20)) (by decide +kernel))
      | 5, _ => va_eqt (z := 0) (hs (Cond.eq (.elem (.static "PalletSky$Bodies" "OWN" "[I") (.int 5)) (.int 0)) (by decide +kernel))
      | 6, _ => va_eqt (z := 0) (hs (Cond.eq (.elem (.static "PalletSky$Bodies" "OWN" "[I") (.int 6)) (.int 0)) (by decide +kernel))
      | 7, _ => va_eqt (z := 0) (hs (Cond.eq (.elem (.static "PalletSky$Bodies" "OWN" "[I") (.int 7)) (.int 0)) (by decide +kernel))
      | 8, _ => va_eqt (z := 0) (hs (Cond.eq (.elem (.static "PalletSky$Bodies" "OWN" "[I") (.int 8)) (.int 0)) (by decide +kernel))
      | 9, _ => va_eqt (z := 30) (hs (Cond.eq (.elem (.static "PalletSky$Bodies" "OWN" "[I") (.int 9)) (.int 30)) (by decide +kernel))
      | 10, _ => va_eqt (z := 0) (hs (Cond.eq (.elem (.static "PalletSky$Bodies" "OWN" "[I") (.int 10)) (.int 0)) (by decide +kernel))
      | 11, _ => va_eqt (z := 0) (hs (Cond.eq (.elem (.static "PalletSky$Bodies" "OWN" "[I") (.int 11)) (.int 0)) (by decide +kernel))
      | 12, _ => va_eqt (z := 0) (hs (Cond.eq (.elem (.static "PalletSky$Bodies" "OWN" "[I") (.int 12)) (.int 0)) (by decide +kernel))
      | 13, _ => va_eqt (z := 41) (hs (Cond.eq (.elem (.static "PalletSky$Bodies" "OWN" "[I") (.int 13)) (.int 41)) (by decide +kernel))
      | 14, _ => va_eqt (z := 40) (hs (Cond.eq (.elem (.static "PalletSky$Bodies" "OWN" "[I") (.int 14)) (.int 40)) (by decide +kernel))
      | 15, _ => va_eqt (z := 0) (hs (Cond.eq (.elem (.static "PalletSky$Bodies" "OWN" "[I") (.int 15)) (.int 0)) (by decide +kernel))
      | 16, _ => va_eqt (z := 0) (hs (Cond.eq (.elem (.static "PalletSky$Bodies" "OWN" "[I") (.int 16)) (.int 0)) (by decide +kernel))
      | 17, _ => va_eqt (z := 0) (hs (Cond.eq (.elem (.static "PalletSky$Bodies" "OWN" "[I") (.int 17)) (.int 0)) (by decide +kernel))
      | 18, _ => va_eqt (z := 50) (hs (Cond.eq (.elem (.static "PalletSky$Bodies" "OWN" "[I") (.int 18)) (.int 50)) (by decide +kernel))
      | 19, _ => va_eqt (z := 0) (hs (Cond.eq (.elem (.static "PalletSky$Bodies" "OWN" "[I") (.int 19)) (.int 0)) (by decide +kernel))
      | 20, _ => va_eqt (z := 0) (hs (Cond.eq (.elem (.static "PalletSky$Bodies" "OWN" "[I") (.int 20)) (.int 0)) (by decide +kernel))
      | 21, _ => va_eqt (z := 0) (hs (Cond.eq (.elem (.static "PalletSky$Bodies" "OWN" "[I") (.int 21)) (.int 0)) (by decide +kernel))
      | 22, _ => va_eqt (z := 0) (hs (Cond.eq (.elem (.static "PalletSky$Bodies" "OWN" "[I") (.int 22)) (.int 0)) (by decide +kernel))
      | 23, _ => va_eqt (z := 60) (hs (Cond.eq (.elem (.static "PalletSky$Bodies" "OWN" "[I") (.int 23)) (.int 60)) (by decide +kernel))
      | 24, _ => va_eqt (z := 70) (hs (Cond.eq (.elem (.static "PalletSky$Bodies" "OWN" "[I") (.int 24)) (.int 70)) (by decide +kernel))
      | 25, _ => va_eqt (z := 0) (hs (Cond.eq (.elem (.static "PalletSky$Bodies" "OWN" "[I") (.int 25)) (.int 0)) (by decide +kernel))
      | 26, _ => va_eqt (z := 0) (hs (Cond.eq (.elem (.static "PalletSky$Bodies" "OWN" "[I") (.int 26)) (.int 0)) (by decide +kernel))
      | 27, _ => va_eqt (z := 0) (hs (Cond.eq (.elem (.static "PalletSky$Bodies" "OWN" "[I") (.int 27)) (.int 0)) (by decide +kernel))
      | 28, _ => va_eqt (z := 0) (hs (Cond.eq (.elem (.static "PalletSky$Bodies" "OWN" "[I") (.int 28)) (.int 0)) (by decide +kernel))
      | 29, _ => va_eqt (z := 80) (hs (Cond.eq (.elem (.static "PalletSky$Bodies" "OWN" "[I") (.int 29)) (.int 80)) (by decide +kernel))
      | 30, _ => va_eqt (z := 0) (hs (Cond.eq (.elem (.static "PalletSky$Bodies" "OWN" "[I") (.int 30)) (.int 0)) (by decide +kernel))
      | 31, _ => va_eqt (z := 81) (hs (Cond.eq (.elem (.static "PalletSky$Bodies" "OWN" "[I") (.int 31)) (.int 81)) (by decide +kernel))
      | k + 32, h => absurd h (by omega)
theorem zst_abv {args : Array Value} {s : State} (hgv : (Jvm.Cond.and given_1 narrow_1).before args s = true) : (∀ j : Nat, j < 8 → (Term.elem (.static "PalletSky$Bodies" "ABOVE" "[I") (.int (Int32.ofNat j))).eval args s none [] s = some (.int (zABOVE j))) ∧ (Cond.arrayOf (.static "PalletSky$Bodies" "ABOVE" "[I") .int).before args s = true ∧ (Term.length (.static "PalletSky$Bodies" "ABOVE" "[I")).eval args s none [] s = some (.int (Int32.ofNat 8)) := by
  have hs := flat_of_before _ hgv
  refine ⟨fun j hj => ?_, hs _ (by decide +kernel), va_eqt (z := 8) (hs (Cond.eq (.length (.static "PalletSky$Bodies" "ABOVE" "[I")) (.int 8)) (by decide +kernel))⟩
  exact match j, hj with
      | 0, _ => va_eqt (z := (-1)) (hs (Cond.eq (.elem (.static "PalletSky$Bodies" "ABOVE" "[I") (.int 0)) (.int (-1))) (by decide +kernel))
      | 1, _ => va_eqt (z := 0) (hs (Cond.eq (.elem (.static "PalletSky$Bodies" "ABOVE" "[I") (.int 1)) (.int 0)) (by decide +kernel))
      | 2, _ => va_eqt (z := 0) (hs (Cond.eq (.elem (.static "PalletSky$Bodies" "ABOVE" "[I") (.int 2)) (.int 0)) (by decide +kernel))
      | 3, _ => va_eqt (z := 2) (hs (Cond.eq (.elem (.static "PalletSky$Bodies" "ABOVE" "[I") (.int 3)) (.int 2)) (by decide +kernel))
      | 4, _ => va_eqt (z := 1) (hs (Cond.eq (.elem (.static "PalletSky$Bodies" "ABOVE" "[I") (.int 4)) (.int 1)) (by decide +kernel))
      | 5, _ => va_eqt (z := 3) (hs (Cond.eq (.elem (.static "PalletSky$Bodies" "ABOVE" "[I") (.int 5)) (.int 3)) (by decide +kernel))
      | 6, _ => va_eqt (z := 0) (hs (Cond.eq (.elem (.static "PalletSky$Bodies" "ABOVE" "[I") (.int 6)) (.int 0)) (by decide +kernel))
      | 7, _ => va_eqt (z := 4) (hs (Cond.eq (.elem (.static "PalletSky$Bodies" "ABOVE" "[I") (.int 7)) (.int 4)) (by decide +kernel))
      | k + 8, h => absurd h (by omega)
def zh0 : zMm := ([], fun _ _ => 0, fun _ _ => 0, fun _ _ => none)
/-- THE LAW out of a run of the abstract machine -/
theorem zlaw {p : Program} {e : Env} {s : State} {m : MethodId} {below : List Frame} {meth : Method} {c : Code} (l : Launch) {b L : Nat} {xs : Nat → Int32} (C0 : lw_At p s m meth c b L xs) {n f d : Nat} {h' : zMm}
    (hrun : zrun (zrunM f d) zi_217 (some (L, xs)) n 0 (zent zi_217 [.ref 1000000]) [] zh0 = some (some (.int 1), h')) (hd : d ≤ 1000) (hc : h'.1.length ≤ 600000) (hsl : zsl h'.1 ≤ 7302250) : W p l e room_1 s m #[Value.ref b] below meth c s.heap [] 0 0 (lw_Z below #[Value.ref b] s) (entryFrame m ([Value.ref b] : List Value).toArray 4) := by
  obtain ⟨hx, hb, hr, hml, hown, hts, hX, hbl, hlocks, hgv⟩ := id C0
  have htb : ∀ w ∈ zTB, w.before #[Value.ref b] s = true := fun w hw => hts w (zTB_in hw)
  have hno : ∀ a : Nat, a < s.heap.size → ¬ (fun q : Nat => s.heap.size ≤ q) a := fun a ha => Nat.not_le.mpr ha
  obtain ⟨o1, o2, o3⟩ := zst_own hgv
  obtain ⟨a1, a2, a3⟩ := zst_abv hgv
  obtain ⟨t1, ht1, hT1⟩ := va_Tof (A := fun q : Nat => s.heap.size ≤ q) (by decide) o2 o3 o1 hno
  obtain ⟨t2, ht2, hT2⟩ := va_Tof (A := fun q : Nat => s.heap.size ≤ q) (by decide) a2 a3 a1 hno
  have hini : (Cond.initialized "PalletSky$Bodies").before #[Value.ref b] s = true := hts _ (by decide +kernel)
  have hZ1 := va_Zref (A := fun q : Nat => s.heap.size ≤ q) (hts (.laysStatic "PalletSky$Bodies" "OWN" "[I") (by decide +kernel)) hini ht1 hno
  have hZ2 := va_Zref (A := fun q : Nat => s.heap.size ≤ q) (hts (.laysStatic "PalletSky$Bodies" "ABOVE" "[I") (by decide +kernel)) hini ht2 hno
  obtain ⟨ad0, e0, e1, e2⟩ : ∃ ad0 : Nat → Nat, ad0 1000000 = b ∧ ad0 1000001 = t1 ∧ ad0 1000002 = t2 := ⟨fun k => if k = 1000000 then b else if k = 1000001 then t1 else t2, rfl, rfl, rfl⟩
  have hSt : zStat ad0 (fun q : Nat => s.heap.size ≤ q) s s.heap := by
    unfold zStat
    rw [e1, e2]
    exact ⟨hZ1, hT1, hZ2, hT2, va_AOA.of (hts _ zf_aa), va_AO.of (hts _ zf_ao)⟩
  have hkn : ∀ ci, ∃ (cC : ClassId) (iS : Nat → Nat), ci < 11 → u_Kn s (zNm ci) (zTf ci) (zN ci) cC iS := fun ci => by
    by_cases hci : ci < 11
    · have hin : ∃ k : Nat, (Cond.instantiable (zNm ci) k).before #[Value.ref b] s = true := by
        refine ⟨zN ci, ?_⟩
        have hall : ∀ ci, ci < 11 → ∃ e, e ∈ zLNs ∧ e.2.2 = ci := by decide +kernel
        obtain ⟨en, hen, hci2⟩ := hall ci hci
        have hF : zLNok _ := zLNc_ok _ (by rw [zLNs_eq]; exact hen)
        have h2 := hF.2.1
        rw [hci2] at h2
        exact htb _ h2
      obtain ⟨k, hk⟩ := hin
      obtain ⟨cC, iS, h3⟩ := u_known htb (zf_ws ci hci) hk
      exact ⟨cC, iS, fun _ => h3⟩
    · exact ⟨0, fun _ => 0, fun h => absurd h hci⟩
  obtain ⟨dC, hkn⟩ := Classical.axiomOfChoice hkn
  obtain ⟨dI, hkn⟩ := Classical.axiomOfChoice hkn
  have hK : va_K (dC, dI) zCl [] s := by
    refine ⟨fun ci x hx => ?_, fun k q h => by simp at h⟩
    have hl : zCl.length = 11 := rfl
    have hci : ci < 11 := by rw [← hl]; exact (List.getElem?_eq_some_iff.mp hx).1
    rw [zf_cl ci hci] at hx
    cases hx
    exact hkn ci hci
  have hP : va_P (dC, dI) zCl (zws ad0 (fun _ => 0) zh0) s.heap := fun k q h => by simp [zws, zh0] at h
  have hD : va_D (fun q : Nat => s.heap.size ≤ q) (zws ad0 (fun _ => 0) zh0) := ⟨fun i j p q h => by simp [zws, zh0] at h, fun k q h => by simp [zws, zh0] at h⟩
  have C : zCX p l room_1 s m #[Value.ref b] meth c zi_217 d (fun q : Nat => s.heap.size ≤ q) ad0 h'.1.length (zsl h'.1) (some (L, xs)) (zrunM f d) := by
    refine ⟨hx, hb, hml, hown, htb, (fun h => absurd h (by decide)), zg_217, ?_, ?_, hc, hsl, fun x h => h, hSt, ?_, zmet l f d⟩
    · show d + 1 ≤ 2048; omega
    · show 64 * (d + 1) ≤ 84000; omega
    · intro L' xs' h
      cases h
      rw [e0]
      exact ⟨hX, hbl, Nat.not_le.mpr hbl⟩
  have hret : zRET (fun H locs cells slots g => W p l e room_1 s m #[Value.ref b] below meth c H locs cells slots (lw_Z below #[Value.ref b] s) g) m s (fun q : Nat => s.heap.size ≤ q) (dC, dI) zi_217 0 ad0 (fun _ => 0) h'.1.length (zsl h'.1) (some (.int 1)) h' := by
    intro pc ad ac H locs ls hag hinv hrok hrk
    refine va_forget (fun q hq => hinv.2.2.1.2.2 q hq) ?_
    refine W.widen hc hsl ?_
    exact lw_ret hx hb hr hlocks hrk.1
  have hw : zwf zh0 := ⟨by decide, fun a j r h => by cases h⟩
  have hS := zsim_run C hret n 0 (zent zi_217 [.ref 1000000]) [] zh0 hrun hw (zent_ok (fun x hx => by rw [List.mem_singleton.mp hx]; exact fun a h => by cases h; exact Or.inr (by decide))) (fun _ hh => by cases hh) (Nat.le_refl _)
  have hE : (lg_sl ([.ref b]) ++ List.replicate (4 - (lg_sl ([.ref b])).length) Slot.unset) = (lg_sl ([Value.ref 1000000].map (zcv ad0)) ++ List.replicate (zi_217.2.2.1 - (lg_sl ([Value.ref 1000000].map (zcv ad0))).length) Slot.unset) := by
    show (lg_sl ([.ref b]) ++ List.replicate (4 - (lg_sl ([.ref b])).length) Slot.unset) = (lg_sl ([.ref (ad0 1000000)]) ++ List.replicate (4 - (lg_sl ([.ref (ad0 1000000)])).length) Slot.unset)
    rw [e0]
  rw [lg_entry_eq, hE]
  exact hS.2 ad0 (fun _ => 0) s.heap [] 0 0 _ zag_rf ⟨hP, hD, va_S.rf, ⟨[], hK, fun k t n h => by simp [zh0] at h⟩⟩ (zent_lo (q := zi_217) (m := m) (Nat.le_of_ble_eq_true rfl)) (by show 0 + h'.1.length = h'.1.length + 0; omega) (by show 0 + zsl h'.1 = zsl h'.1 + 0; omega)
