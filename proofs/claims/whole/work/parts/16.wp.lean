/-! FROM HERE ON NO MACHINE: runs of the abstract machine, asked what they answer -/
theorem zmo_go {ih ih' : Nat → List Value → List Value → zMm → zRes} (H : ∀ pc la st h x, ih pc la st h = some x → ih' pc la st h = some x) {pc : Nat} {off : Int} {la st : List Value} {h : zMm} {x : Option Value × zMm} : zgo ih pc off la st h = some x → zgo ih' pc off la st h = some x := by
  unfold zgo
  split
  · exact fun h => h
  · exact H _ _ _ _ _
theorem zmo_br {ih ih' : Nat → List Value → List Value → zMm → zRes} (H : ∀ pc la st h x, ih pc la st h = some x → ih' pc la st h = some x) {c : Bool} {pc : Nat} {off : Int} {la st : List Value} {h : zMm} {x : Option Value × zMm} : zbr ih c pc off la st h = some x → zbr ih' c pc off la st h = some x := by
  unfold zbr
  split
  · exact fun h => h
  · split
    · exact H _ _ _ _ _
    · exact H _ _ _ _ _
theorem zmo_call {cal cal' : Nat → List Value → zMm → zRes} {ih ih' : Nat → List Value → List Value → zMm → zRes} (HC : ∀ M vs h x, cal M vs h = some x → cal' M vs h = some x) (H : ∀ pc la st h x, ih pc la st h = some x → ih' pc la st h = some x) {kind M pc : Nat} {la st : List Value} {h : zMm} {x : Option Value × zMm} : zdoCall cal ih kind M pc la st h = some x → zdoCall cal' ih' kind M pc la st h = some x := by
  have key : ∀ {M vs h} {k k' : Option Value → zMm → zRes}, (∀ v h1, k v h1 = some x → k' v h1 = some x) → (match cal M vs h with | some (v, h1) => k v h1 | none => none) = some x → (match cal' M vs h with | some (v, h1) => k' v h1 | none => none) = some x := by
    intro M vs h k k' hk hh
    cases hc : cal M vs h with
    | none => rw [hc] at hh; cases hh
    | some y =>
      rw [hc] at hh
      rw [HC _ _ _ _ hc]
      exact hk _ _ hh
  unfold zdoCall
  split
  · exact fun h => h
  · split
    · exact fun h => h
    · split
      · split
        · exact fun h => h
        · exact key (fun v h1 => H _ _ _ _ _)
      · split
        · split
          · exact fun h => h
          · exact key (fun v h1 => H _ _ _ _ _)
        · exact fun h => h
set_option maxHeartbeats 4000000 in
theorem zmo_step {cal cal' : Nat → List Value → zMm → zRes} {ih ih' : Nat → List Value → List Value → zMm → zRes} {q : zInfo} {scr : Option (Nat × (Nat → Int32))} (HC : ∀ M vs h x, cal M vs h = some x → cal' M vs h = some x) (H : ∀ pc la st h x, ih pc la st h = some x → ih' pc la st h = some x) {pc : Nat} {la st : List Value} {h : zMm} {x : Option Value × zMm} : zstep cal q scr ih pc la st h = some x → zstep cal' q scr ih' pc la st h = some x := by
  unfold zstep
  split
  · exact fun h => h
  · split
    all_goals first
      | exact zmo_go H
      | exact H _ _ _ _ _
      | exact zmo_br H
      | exact fun h => h
      | (unfold zdoLoad; split <;> first | exact H _ _ _ _ _ | exact fun h => h)
      | (unfold zdoStore; split <;> first | (split <;> first | exact H _ _ _ _ _ | exact fun h => h) | exact fun h => h)
      | (unfold zdoBin; split <;> first | (split <;> first | exact H _ _ _ _ _ | exact fun h => h) | exact fun h => h)
      | (unfold zdoGet; split <;> first | (split <;> first | exact H _ _ _ _ _ | exact fun h => h) | exact fun h => h)
      | (unfold zdoPut; split <;> first | exact fun h => h | (split <;> first | exact fun h => h | (split <;> first | exact fun h => h | (split <;> first | exact H _ _ _ _ _ | exact fun h => h))))
      | (unfold zdoAld; split <;> first | exact fun h => h | (split <;> first | exact fun h => h | (split <;> first | exact fun h => h | exact H _ _ _ _ _ | (split <;> first | exact H _ _ _ _ _ | exact fun h => h))))
      | (unfold zdoLld; split <;> first | exact fun h => h | (split <;> first | exact fun h => h | (split <;> first | exact H _ _ _ _ _ | exact fun h => h)))
      | (unfold zdoQld; split <;> first | exact fun h => h | (split <;> first | exact fun h => h | (split <;> first | exact H _ _ _ _ _ | exact fun h => h)))
      | (unfold zdoAst; split <;> first | exact fun h => h | (split <;> first | exact fun h => h | (split <;> first | exact H _ _ _ _ _ | exact fun h => h)))
      | (unfold zdoLst; split <;> first | exact fun h => h | (split <;> first | exact fun h => h | (split <;> first | exact H _ _ _ _ _ | exact fun h => h)))
      | (unfold zdoQst; split <;> first | exact fun h => h | (split <;> first | exact fun h => h | (split <;> first | exact H _ _ _ _ _ | exact fun h => h)))
      | (unfold zdoLen; split <;> first | exact fun h => h | (split <;> first | exact H _ _ _ _ _ | exact fun h => h | (split <;> first | exact H _ _ _ _ _ | exact fun h => h)))
      | (unfold zdoNewa; split <;> first | exact fun h => h | (split <;> first | exact H _ _ _ _ _ | exact fun h => h))
      | (unfold zdoNewq; split <;> first | exact fun h => h | (split <;> first | exact H _ _ _ _ _ | exact fun h => h))
      | (unfold zdoNew; split <;> first | exact fun h => h | (split <;> first | exact H _ _ _ _ _ | exact fun h => h))
      | (unfold zdoTab; split <;> first | exact fun h => h | (split <;> first | exact zmo_go H | exact fun h => h | (split <;> first | exact zmo_go H | exact fun h => h)))
      | (unfold zdoVir; split <;> first | exact fun h => h | exact zmo_call HC H)
      | (unfold zdoSpe; split <;> first | exact fun h => h | (split <;> first | exact zmo_call HC H | (split <;> first | exact fun h => h | (split <;> first | exact H _ _ _ _ _ | exact fun h => h))))
      | (unfold zdoSta; split <;> first | exact fun h => h | (split <;> first | exact fun h => h | exact zmo_call HC H | (split <;> first | exact H _ _ _ _ _ | exact fun h => h) | (unfold zdoCpy; split <;> first | exact fun h => h | (split <;> first | exact fun h => h | (split <;> first | exact fun h => h | (split <;> first | exact H _ _ _ _ _ | exact fun h => h))))))
      | (split <;> first | exact H _ _ _ _ _ | exact fun h => h | exact zmo_go H | exact zmo_br H)
      | (split <;> first | exact fun h => h | (split <;> first | exact H _ _ _ _ _ | exact fun h => h | exact zmo_go H | exact zmo_br H))
      | (split <;> first | exact fun h => h | (unfold zdoNew2; split <;> first | exact fun h => h | (split <;> first | exact H _ _ _ _ _ | exact fun h => h)))
theorem zmo_run {cal cal' : Nat → List Value → zMm → zRes} {q : zInfo} {scr : Option (Nat × (Nat → Int32))} (HC : ∀ M vs h x, cal M vs h = some x → cal' M vs h = some x) : ∀ (n n' : Nat), n ≤ n' → ∀ (pc : Nat) (la st : List Value) (h : zMm) (x : Option Value × zMm), zrun cal q scr n pc la st h = some x → zrun cal' q scr n' pc la st h = some x := by
  intro n
  induction n with
  | zero => intro n' _ pc la st h x hh; cases hh
  | succ n ih =>
    intro n' hn pc la st h x hh
    obtain ⟨k, rfl⟩ : ∃ k, n' = k + 1 := ⟨n' - 1, by omega⟩
    exact zmo_step HC (fun pc la st h x => ih k (by omega) pc la st h x) hh
theorem zmo_M {f f' : Nat} (hf : f ≤ f') : ∀ (d M : Nat) (vs : List Value) (h : zMm) (x : Option Value × zMm), zrunM f d M vs h = some x → zrunM f' d M vs h = some x := by
  intro d
  induction d with
  | zero => intro M vs h x hh; cases hh
  | succ d ih =>
    intro M vs h x hh
    rw [zrunM_s] at hh ⊢
    split at hh
    · cases hh
    · split at hh
      · rename_i h1
        simp only [h1, if_true]
        exact zmo_run (fun M vs h x => ih M vs h x) f f' hf _ _ _ _ _ hh
      · cases hh
/-- from this frame on the run ends, and what it answers satisfies Q -/
def zWp (d : Nat) (q : zInfo) (scr : Option (Nat × (Nat → Int32))) (pc : Nat) (la st : List Value) (h : zMm) (Q : Option Value → zMm → Prop) : Prop := ∃ f n r h', zrun (zrunM f d) q scr n pc la st h = some (r, h') ∧ Q r h'
/-- method M, called with vs at depth d -/
def zWM (d M : Nat) (vs : List Value) (h : zMm) (Q : Option Value → zMm → Prop) : Prop := ∃ f r h', zrunM f d M vs h = some (r, h') ∧ Q r h'
section WP
variable {d : Nat} {q : zInfo} {scr : Option (Nat × (Nat → Int32))} {pc pc' : Nat} {la la' st st' : List Value} {h h1 : zMm} {Q : Option Value → zMm → Prop}
/-- a step that goes on -/
theorem zW_s (hs : ∀ cal ih, zstep cal q scr ih pc la st h = ih pc' la' st' h1) : zWp d q scr pc la st h Q = zWp d q scr pc' la' st' h1 Q := by
  refine propext ⟨fun ⟨f, n, r, h', hr, hq⟩ => ?_, fun ⟨f, n, r, h', hr, hq⟩ => ⟨f, n + 1, r, h', ?_, hq⟩⟩
  · cases n with
    | zero => cases hr
    | succ n => exact ⟨f, n, r, h', by rw [zrun_s, hs] at hr; exact hr, hq⟩
  · rw [zrun_s, hs]; exact hr
/-- a step that ends -/
theorem zW_r {v : Option Value} (hs : ∀ cal ih, zstep cal q scr ih pc la st h = some (v, h)) : zWp d q scr pc la st h Q = Q v h := by
  refine propext ⟨fun ⟨f, n, r, h', hr, hq⟩ => ?_, fun hq => ⟨0, 1, v, h, ?_, hq⟩⟩
  · cases n with
    | zero => cases hr
    | succ n =>
      rw [zrun_s, hs] at hr
      cases hr
      exact hq
  · rw [zrun_s, hs]
/-- a call -/
theorem zW_c {M : Nat} {vs rest : List Value} (hs : ∀ cal ih, zstep cal q scr ih pc la st h = match cal M vs h with | some (v, h1) => ih pc' la (v.toList ++ rest) h1 | none => none) : zWp d q scr pc la st h Q = zWM d M vs h (fun r h1 => zWp d q scr pc' la (r.toList ++ rest) h1 Q) := by
  refine propext ⟨fun ⟨f, n, r, h', hr, hq⟩ => ?_, fun ⟨f, v, h1, hr, f2, n, r, h', hr2, hq⟩ => ⟨max f f2, n + 1, r, h', ?_, hq⟩⟩
  · cases n with
    | zero => cases hr
    | succ n =>
      rw [zrun_s, hs] at hr
      cases hc : zrunM f d M vs h with
      | none => rw [hc] at hr; cases hr
      | some x =>
        obtain ⟨v, h1⟩ := x
        rw [hc] at hr
        exact ⟨f, v, h1, hc, f, n, r, h', hr, hq⟩
  · rw [zrun_s, hs, zmo_M (Nat.le_max_left f f2) d M vs h _ hr]
    exact zmo_run (fun M vs h x => zmo_M (Nat.le_max_right f f2) d M vs h x) n n (Nat.le_refl n) _ _ _ _ _ hr2
/-- a method's body -/
theorem zW_M {M : Nat} {vs la : List Value} (hM : zM M = some q) (hl : (zlen2 vs).length ≤ q.2.2.1) (he : zent q vs = la) : zWM (d + 1) M vs h Q = zWp d q none 0 la [] h Q := by
  subst he
  refine propext ⟨fun ⟨f, r, h', hr, hq⟩ => ?_, fun ⟨f, n, r, h', hr, hq⟩ => ⟨max f n, r, h', ?_, hq⟩⟩
  · rw [zrunM_s, hM] at hr
    have hr := (zIfE hr).2
    exact ⟨f, f, r, h', hr, hq⟩
  · rw [zrunM_s, hM]
    show (if (zlen2 vs).length ≤ q.2.2.1 then _ else _) = _
    rw [if_pos hl]
    exact zmo_run (fun M vs h x => zmo_M (Nat.le_max_left f n) d M vs h x) n (max f n) (Nat.le_max_right f n) _ _ _ _ _ hr
theorem zW_mono {Q' : Option Value → zMm → Prop} (hQ : ∀ r h, Q r h → Q' r h) (g : zWp d q scr pc la st h Q) : zWp d q scr pc la st h Q' := by
  obtain ⟨f, n, r, h', hr, hq⟩ := g
  exact ⟨f, n, r, h', hr, hQ _ _ hq⟩
theorem zWM_mono {M : Nat} {vs : List Value} {Q' : Option Value → zMm → Prop} (hQ : ∀ r h, Q r h → Q' r h) (g : zWM d M vs h Q) : zWM d M vs h Q' := by
  obtain ⟨f, r, h', hr, hq⟩ := g
  exact ⟨f, r, h', hr, hQ _ _ hq⟩
end WP
