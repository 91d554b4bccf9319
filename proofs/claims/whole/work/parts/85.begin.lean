/-! THE START stands in the relation; THE LAW as a whole -/
theorem zst_P : zQP 102 = zP 60 64 none := by
  have e1 : zQP 102 = zlk zWP := rfl
  have e2 : zP 60 64 none = zlk ((0, 11, 60) :: (0, 12, 64) :: zPl) := by
    funext a k
    show (if a = 0 ∧ k = 11 then some 60 else if a = 0 ∧ k = 12 then some 64 else if a = 31 ∧ k = 3 then none else zlk zPl a k) = (if 0 = a ∧ 11 = k then some 60 else if 0 = a ∧ 12 = k then some 64 else zlk zPl a k)
    by_cases h1 : a = 0 ∧ k = 11
    · rw [if_pos h1, if_pos ⟨h1.1.symm, h1.2.symm⟩]
    rw [if_neg h1, if_neg (c := 0 = a ∧ 11 = k) (fun z => h1 ⟨z.1.symm, z.2.symm⟩)]
    by_cases h2 : a = 0 ∧ k = 12
    · rw [if_pos h2, if_pos ⟨h2.1.symm, h2.2.symm⟩]
    rw [if_neg h2, if_neg (c := 0 = a ∧ 12 = k) (fun z => h2 ⟨z.1.symm, z.2.symm⟩)]
    by_cases h3 : a = 31 ∧ k = 3
    · rw [if_pos h3]
      obtain ⟨rfl, rfl⟩ := h3
      decide +kernel
    rw [if_neg h3]
  rw [e1, e2]
  exact zlk_eqv (by decide +kernel) (by decide +kernel)
theorem zst_q : zqs 104 35 102 = (zSH, zQI 35, fun _ _ => 0, zP 60 64 none) := by
  show (zSH.take 104, zQI 35, fun _ _ => 0, zQP 102) = _
  rw [zst_P, show zSH.take 104 = zSH from rfl]
theorem zst_R : zRel (zQI 35) (fun _ _ => 0) 60 64 := by
  refine ⟨none, 0, 0, 0, 0, 0, 0, Or.inl ⟨rfl, rfl⟩, ?_, ?_, ?_, ?_, ?_, ?_, ?_, ?_, ?_, ?_, ?_, ?_⟩
  · exact ⟨by decide +kernel, by decide +kernel, by decide, ⟨by decide +kernel, by decide, fun j h => absurd h (Nat.not_lt_zero j)⟩, fun j h => absurd h (Nat.not_lt_zero j)⟩
  · exact ⟨by decide +kernel, by decide +kernel, by decide +kernel, by decide +kernel, by decide +kernel⟩
  · exact ⟨by decide +kernel, by decide +kernel, by decide, fun j h => absurd h (Nat.not_lt_zero j), by decide +kernel⟩
  · exact ⟨by decide +kernel, by decide +kernel, by decide +kernel, by decide +kernel, by decide +kernel, by decide +kernel, by decide +kernel⟩
  · exact Or.inl (by decide +kernel)
  · exact ⟨by decide +kernel, by decide +kernel, by decide +kernel, by decide +kernel, by decide, by decide, fun j h => absurd h (Nat.not_lt_zero j)⟩
  · exact ⟨by decide +kernel, by decide +kernel, by decide, fun j h => absurd h (Nat.not_lt_zero j)⟩
  · exact ⟨show zQI 35 60 3 = 0 by decide +kernel, show zQI 35 80 16 = -1 by decide +kernel⟩
  · exact ⟨by decide +kernel, by decide +kernel, by decide, fun j h => absurd h (Nat.not_lt_zero j)⟩
  · exact ⟨0, by decide +kernel, by decide +kernel, by decide, fun j h => absurd h (Nat.not_lt_zero j)⟩
  · intro d hd
    refine Or.inl ?_
    revert d
    decide +kernel
  · exact Or.inl (by decide +kernel)
theorem zst_run {N : Nat} (X : Nat → Int32) (hN : N < 1000000) : ∃ f n h', zrun (zrunM f 200) zi_217 (some (N, X)) n 0 (zent zi_217 [.ref 1000000]) [] zh0 = some (some (.int 1), h') ∧ h'.1 = zSH := by
  obtain ⟨I2, L2, f2, g2, t2, e⟩ := law_loop (X := X) hN N 0 (zQI 35) (fun _ _ => 0) 60 64 none (by omega) (by decide) zst_R
  have h : zWp (100 + 100) zi_217 (some (N, X)) 0 (zent zi_217 [.ref 1000000]) [] zh0 (fun r h' => r = some (.int 1) ∧ h'.1 = zSH) := by
    have h0 : zh0 = zqs 0 0 0 := rfl
    have h1 : zent zi_217 [.ref 1000000] = [.ref 1000000, .retAddr 0, .retAddr 0, .retAddr 0] := rfl
    rw [h0, h1]
    obtain ⟨p1, p2, p3⟩ := R_law_16
    refine (i_law 197 _ _).mpr ?_
    rw [zst_q, p1, p2]
    exact (e 100 _).mpr ⟨rfl, rfl⟩
  obtain ⟨f, n, r, h', hr, hq, hs⟩ := h
  subst hq
  exact ⟨f, n, h', hr, hs⟩
theorem whole_start {p : Program} {e : Env} {s : State} {m : MethodId} {below : List Frame} {meth : Method} {c : Code} (l : Launch) (hflags : l.flags = flags0) {b L : Nat} {xs : Nat → Int32} (hN : L ≤ 3072) (C0 : lw_At p s m meth c b L xs) : W p l e room_1 s m #[Value.ref b] below meth c s.heap [] 0 0 (lw_Z below #[Value.ref b] s) (entryFrame m ([Value.ref b] : List Value).toArray 4) := by
  obtain ⟨f, n, h', hr, hs⟩ := zst_run xs (N := L) (by omega)
  exact zlaw l C0 hr (by decide) (by rw [hs]; decide +kernel) (by rw [hs]; decide +kernel)
