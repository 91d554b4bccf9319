/-! what parts are worth is what reading them as they stand gives -/
section EVAL
variable {nm ah : Nat → Int32}
/-- parts that lay v onto the stack -/
def zIs (nm : Nat → Int32) (c : List (Int32 × Int32)) (v : Int32) : Prop := ∀ rest st cnt, zwo nm (c ++ rest) st cnt = zwo nm rest (v :: st) cnt
def zVl (nm : Nat → Int32) (X : Nat → zR) : Prop := ∀ p, (X p).1 = true → zIs nm (X p).2.2.1 (X p).2.2.2.1
theorem zlvl_ops {x : Int32} (h : ¬ zlvl x = -2) : ¬ x = 110 ∧ ¬ x = 118 ∧ ¬ x = 63 ∧ ¬ x = 59 ∧ ¬ x = 33 ∧ ¬ x = 126 := by
  refine ⟨?_, ?_, ?_, ?_, ?_, ?_⟩ <;> intro z <;> rw [z] at h <;> exact h (by decide)
theorem zIs_op {c1 c2 : List (Int32 × Int32)} {op v w : Int32} (h : ¬ zlvl op = -2) (h1 : zIs nm c1 v) (h2 : zIs nm c2 w) : zIs nm (c1 ++ c2 ++ [(op, 0)]) (zjn op v w) := by
  intro rest st cnt
  obtain ⟨n1, n2, n3, n4, n5, n6⟩ := zlvl_ops h
  rw [List.append_assoc, List.append_assoc, h1, h2, List.cons_append, List.nil_append, zwo]
  simp only [n1, n2, n3, n4, n5, n6, ↓reduceIte]
theorem zloop_vl {lev : Int32} (hl : ¬ lev = -2) {X : Nat → zR} (hX : zVl nm X) : ∀ k p c v o, zIs nm c v → (zloop ah lev X k p c v o).1 = true → zIs nm (zloop ah lev X k p c v o).2.2.1 (zloop ah lev X k p c v o).2.2.2.1
  | 0, p, c, v, o, h, _ => h
  | k + 1, p, c, v, o, h, h2 => by
    unfold zloop at h2 ⊢
    by_cases e : zlvl (ah p) = lev
    · rw [if_pos e] at h2 ⊢
      by_cases e2 : (X (p + 1)).1 = true
      · rw [if_pos e2] at h2 ⊢
        exact zloop_vl hl hX k _ _ _ _ (zIs_op (by rw [e]; exact hl) h (hX _ e2)) h2
      · rw [if_neg e2] at h2
        exact Bool.noConfusion h2
    · rw [if_neg e]
      exact h
theorem zlev_vl {lev : Int32} (hl : ¬ lev = -2) {k : Nat} {X : Nat → zR} (hX : zVl nm X) : zVl nm (zlev ah lev k X) := by
  intro p h
  unfold zlev at h ⊢
  by_cases e : (X p).1 = true
  · rw [if_pos e] at h ⊢
    exact zloop_vl hl hX k _ _ _ _ (hX _ e) h
  · rw [if_neg e] at h
    exact absurd h e
theorem zexp_vl {X : Nat → zR} (hX : zVl nm X) : zVl nm (zexp ah X) := zlev_vl (by decide) (zlev_vl (by decide) (zlev_vl (by decide) (zlev_vl (by decide) (zlev_vl (by decide) hX))))
theorem zIs_n (v : Int32) : zIs nm [(110, v)] v := by
  intro rest st cnt
  rw [List.cons_append, List.nil_append, zwo.eq_def]
  exact if_pos rfl
theorem zIs_v {x : Int32} (h : ¬ znm x = -2) : zIs nm [(118, znm x)] (nm (znm x).toNatClampNeg) := by
  intro rest st cnt
  rcases znm_6 x with h2 | ⟨j, hj, h2⟩
  · exact absurd h2 h
  · rw [List.cons_append, List.nil_append, zwo.eq_def]
    refine ((if_neg (show ¬ (118 : Int32) = 110 by decide)).trans (if_pos rfl)).trans ?_
    congr 2
    unfold zvo
    rw [h2, if_pos]
    constructor
    · exact nI_pos' (by omega)
    · have e := zi_ltO (n := j) (k := 6) (by omega) (by omega)
      exact e ▸ hj
theorem zone_vl : ∀ r, zVl nm (zone ah nm r)
  | 0 => by
    intro p h
    rw [zone] at h ⊢
    by_cases h1 : zdg (ah p)
    · rw [if_pos h1]
      exact zIs_n _
    rw [if_neg h1] at h ⊢
    by_cases h2 : znm (ah p) = -2
    · rw [if_neg (not_not_intro h2)] at h
      exact Bool.noConfusion h
    · rw [if_pos h2]
      exact zIs_v h2
  | r + 1 => by
    have ih := zone_vl r
    have ih2 := zexp_vl (ah := ah) ih
    intro p h
    rw [zone] at h ⊢
    by_cases h1 : zdg (ah p)
    · rw [if_pos h1]
      exact zIs_n _
    rw [if_neg h1] at h ⊢
    by_cases h2 : znm (ah p) = -2
    · rw [if_neg (not_not_intro h2)] at h ⊢
      by_cases h3 : ah p = 40
      · rw [if_pos h3] at h ⊢
        by_cases h4 : (zexp ah (zone ah nm r) (p + 1)).1 = true
        · rw [if_pos h4] at h ⊢
          by_cases h5 : ah (zexp ah (zone ah nm r) (p + 1)).2.1 = 41
          · rw [if_pos h5]
            exact ih2 _ h4
          · rw [if_neg h5] at h
            exact Bool.noConfusion h
        · rw [if_neg h4] at h
          exact Bool.noConfusion h
      rw [if_neg h3] at h ⊢
      by_cases h4 : ah p = 33
      · rw [if_pos h4] at h ⊢
        by_cases h5 : (zone ah nm r (p + 1)).1 = true
        · rw [if_pos h5]
          intro rest st cnt
          dsimp only
          rw [List.append_assoc, ih _ h5, List.cons_append, List.nil_append, zwo.eq_def]
          dsimp only
          rw [if_neg (by decide), if_neg (by decide)]
          rw [if_neg (by decide), if_neg (by decide), if_pos rfl]
        · rw [if_neg h5] at h
          exact Bool.noConfusion h
      rw [if_neg h4] at h ⊢
      by_cases h5 : ah p = 45
      · rw [if_pos h5] at h ⊢
        by_cases h6 : (zone ah nm r (p + 1)).1 = true
        · rw [if_pos h6]
          intro rest st cnt
          dsimp only
          rw [List.append_assoc, ih _ h6, List.cons_append, List.nil_append, zwo.eq_def]
          dsimp only
          rw [if_neg (by decide), if_neg (by decide)]
          rw [if_neg (by decide), if_neg (by decide), if_neg (by decide), if_pos rfl]
        · rw [if_neg h6] at h
          exact Bool.noConfusion h
      rw [if_neg h5] at h
      exact Bool.noConfusion h
    · rw [if_pos h2]
      exact zIs_v h2
theorem zall_vl : zVl nm (zall ah nm) := zexp_vl (zone_vl 6)
/-- LINES that give v if gv -/
def zLs (nm : Nat → Int32) (c : List (Int32 × Int32)) (gv : Bool) (v : Int32) : Prop := ∀ rest, zwo nm (c ++ rest) [] true = if gv = true then v else zwo nm rest [] true
theorem zwo_59 (a : Int32) (rest : List (Int32 × Int32)) (cnt : Bool) : zwo nm ((59, 0) :: rest) [a] cnt = if cnt = true then a else zwo nm rest [] true := by
  rw [zwo, if_neg (by decide), if_neg (by decide)]
  dsimp only
  rw [if_neg (by decide), if_pos rfl]
theorem zwo_63 (a : Int32) (rest : List (Int32 × Int32)) (cnt : Bool) : zwo nm ((63, 0) :: rest) [a] cnt = zwo nm rest [] (decide (¬ a = 0)) := by
  rw [zwo, if_neg (by decide), if_neg (by decide)]
  dsimp only
  rw [if_pos rfl]
theorem zline_vl (p : Nat) (h : (zline ah nm p).1 = true) : zLs nm (zline ah nm p).2.2.1 (zline ah nm p).2.2.2.1 (zline ah nm p).2.2.2.2 := by
  intro rest
  unfold zline at h ⊢
  by_cases h1 : (zall ah nm p).1 = true
  · rw [if_pos h1] at h ⊢
    by_cases h2 : ah (zall ah nm p).2.1 = 63
    · rw [if_pos h2] at h ⊢
      by_cases h3 : (zall ah nm ((zall ah nm p).2.1 + 1)).1 = true
      · rw [if_pos h3]
        dsimp only
        simp only [List.append_assoc]
        rw [zall_vl _ h1, List.cons_append, List.nil_append, zwo_63, zall_vl _ h3, List.cons_append, List.nil_append, zwo_59]
      · rw [if_neg h3] at h
        exact Bool.noConfusion h
    · rw [if_neg h2]
      dsimp only
      rw [List.append_assoc, zall_vl _ h1, List.cons_append, List.nil_append, zwo_59]
  · rw [if_neg h1] at h
    exact Bool.noConfusion h
theorem zlines_vl : ∀ k p c gv v, zLs nm c gv v → (gv = false → v = 0) → (zlines ah nm k p c gv v).1 = true → zLs nm (zlines ah nm k p c gv v).2.2.1 (zlines ah nm k p c gv v).2.2.2.1 (zlines ah nm k p c gv v).2.2.2.2 ∧ ((zlines ah nm k p c gv v).2.2.2.1 = false → (zlines ah nm k p c gv v).2.2.2.2 = 0)
  | 0, p, c, gv, v, h, h0, _ => ⟨h, h0⟩
  | k + 1, p, c, gv, v, h, h0, h2 => by
    unfold zlines at h2 ⊢
    by_cases e : ah p = 59
    · rw [if_pos e] at h2 ⊢
      by_cases e2 : (zline ah nm (p + 1)).1 = true
      · rw [if_pos e2] at h2 ⊢
        refine zlines_vl k _ _ _ _ ?_ ?_ h2
        · intro rest
          rw [List.append_assoc, h, zline_vl _ e2]
          cases gv <;> cases (zline ah nm (p + 1)).2.2.2.1 <;> rfl
        · intro z
          cases gv <;> cases e3 : (zline ah nm (p + 1)).2.2.2.1 <;> rw [e3] at z
          · rw [if_neg (fun y => Bool.noConfusion y.1)]
            exact h0 rfl
          · exact Bool.noConfusion z
          · exact Bool.noConfusion z
          · exact Bool.noConfusion z
      · rw [if_neg e2] at h2
        exact Bool.noConfusion h2
    · rw [if_neg e]
      exact ⟨h, h0⟩
theorem ztext_vl (h : (ztext ah nm).1 = true) : zwo nm (ztext ah nm).2.2.1 [] true = (ztext ah nm).2.2.2.2 := by
  unfold ztext at h ⊢
  by_cases e : (zline ah nm 0).1 = true
  · rw [if_pos e] at h ⊢
    have e2 := zlines_vl (ah := ah) (nm := nm) 120 (zline ah nm 0).2.1 (zline ah nm 0).2.2.1 (zline ah nm 0).2.2.2.1 (if (zline ah nm 0).2.2.2.1 = true then (zline ah nm 0).2.2.2.2 else 0) (fun rest => by
      rw [zline_vl _ e]
      cases (zline ah nm 0).2.2.2.1 <;> rfl) (fun z => by rw [z]; rfl) h
    have e3 := e2.1 []
    rw [List.append_nil] at e3
    rw [e3]
    cases e4 : (zlines ah nm 120 (zline ah nm 0).2.1 (zline ah nm 0).2.2.1 (zline ah nm 0).2.2.2.1 (if (zline ah nm 0).2.2.2.1 = true then (zline ah nm 0).2.2.2.2 else 0)).2.2.2.1
    · rw [if_neg (fun z => Bool.noConfusion z), e2.2 e4]
      rfl
    · rw [if_pos rfl]
  · rw [if_neg e] at h
    exact Bool.noConfusion h
/-! parts, places and faults don't hang on what the names are worth -/
def zSm (X Y : Nat → zR) : Prop := ∀ p, (X p).1 = (Y p).1 ∧ (X p).2.1 = (Y p).2.1 ∧ (X p).2.2.1 = (Y p).2.2.1
theorem zloop_sm {lev : Int32} {X Y : Nat → zR} (hX : zSm X Y) : ∀ k p c v o v' o', (zloop ah lev X k p c v o).1 = (zloop ah lev Y k p c v' o').1 ∧ (zloop ah lev X k p c v o).2.1 = (zloop ah lev Y k p c v' o').2.1 ∧ (zloop ah lev X k p c v o).2.2.1 = (zloop ah lev Y k p c v' o').2.2.1
  | 0, p, c, v, o, v', o' => ⟨rfl, rfl, rfl⟩
  | k + 1, p, c, v, o, v', o' => by
    obtain ⟨s1, s2, s3⟩ := hX (p + 1)
    unfold zloop
    by_cases e : zlvl (ah p) = lev
    · rw [if_pos e, if_pos e]
      rw [s1, s2, s3]
      by_cases e2 : (Y (p + 1)).1 = true
      · rw [if_pos e2, if_pos e2]
        exact zloop_sm hX k _ _ _ _ _ _
      · rw [if_neg e2, if_neg e2]
        exact ⟨rfl, rfl, rfl⟩
    · rw [if_neg e, if_neg e]
      exact ⟨rfl, rfl, rfl⟩
theorem zlev_sm {lev : Int32} {k : Nat} {X Y : Nat → zR} (hX : zSm X Y) : zSm (zlev ah lev k X) (zlev ah lev k Y) := by
  intro p
  obtain ⟨s1, s2, s3⟩ := hX p
  unfold zlev
  rw [s1]
  by_cases e : (Y p).1 = true
  · rw [if_pos e, if_pos e, s2, s3]
    exact zloop_sm hX k _ _ _ _ _ _
  · rw [if_neg e, if_neg e]
    exact hX p
theorem zexp_sm {X Y : Nat → zR} (hX : zSm X Y) : zSm (zexp ah X) (zexp ah Y) := zlev_sm (zlev_sm (zlev_sm (zlev_sm (zlev_sm hX))))
theorem zone_sm {nm' : Nat → Int32} : ∀ r, zSm (zone ah nm r) (zone ah nm' r)
  | 0 => by
    intro p
    unfold zone
    by_cases h1 : zdg (ah p)
    · rw [if_pos h1, if_pos h1]; exact ⟨rfl, rfl, rfl⟩
    rw [if_neg h1, if_neg h1]
    by_cases h2 : znm (ah p) = -2
    · rw [if_neg (not_not_intro h2), if_neg (not_not_intro h2)]; exact ⟨rfl, rfl, rfl⟩
    · rw [if_pos h2, if_pos h2]; exact ⟨rfl, rfl, rfl⟩
  | r + 1 => by
    have ih := zone_sm (nm' := nm') r
    have ih2 := zexp_sm (ah := ah) ih
    intro p
    rw [zone, zone]
    by_cases h1 : zdg (ah p)
    · rw [if_pos h1, if_pos h1]; exact ⟨rfl, rfl, rfl⟩
    rw [if_neg h1, if_neg h1]
    by_cases h2 : znm (ah p) = -2
    · rw [if_neg (not_not_intro h2), if_neg (not_not_intro h2)]
      by_cases h3 : ah p = 40
      · obtain ⟨s1, s2, s3⟩ := ih2 (p + 1)
        rw [if_pos h3, if_pos h3, s1, s2, s3]
        repeat' split
        all_goals exact ⟨rfl, rfl, rfl⟩
      rw [if_neg h3, if_neg h3]
      obtain ⟨s1, s2, s3⟩ := ih (p + 1)
      by_cases h4 : ah p = 33
      · rw [if_pos h4, if_pos h4, s1, s2, s3]
        by_cases h5 : (zone ah nm' r (p + 1)).1 = true
        · rw [if_pos h5, if_pos h5]; exact ⟨rfl, rfl, rfl⟩
        · rw [if_neg h5, if_neg h5]; exact ⟨rfl, rfl, rfl⟩
      rw [if_neg h4, if_neg h4]
      by_cases h4 : ah p = 45
      · rw [if_pos h4, if_pos h4, s1, s2, s3]
        by_cases h5 : (zone ah nm' r (p + 1)).1 = true
        · rw [if_pos h5, if_pos h5]; exact ⟨rfl, rfl, rfl⟩
        · rw [if_neg h5, if_neg h5]; exact ⟨rfl, rfl, rfl⟩
      rw [if_neg h4, if_neg h4]; exact ⟨rfl, rfl, rfl⟩
    · rw [if_pos h2, if_pos h2]; exact ⟨rfl, rfl, rfl⟩
theorem zall_sm {nm' : Nat → Int32} : zSm (zall ah nm) (zall ah nm') := zexp_sm (zone_sm 6)
theorem zline_sm {nm' : Nat → Int32} (p : Nat) : (zline ah nm p).1 = (zline ah nm' p).1 ∧ (zline ah nm p).2.1 = (zline ah nm' p).2.1 ∧ (zline ah nm p).2.2.1 = (zline ah nm' p).2.2.1 := by
  obtain ⟨s1, s2, s3⟩ := zall_sm (ah := ah) (nm := nm) (nm' := nm') p
  unfold zline
  rw [s1, s2, s3]
  by_cases h1 : (zall ah nm' p).1 = true
  · rw [if_pos h1, if_pos h1]
    by_cases h2 : ah (zall ah nm' p).2.1 = 63
    · obtain ⟨r1, r2, r3⟩ := zall_sm (ah := ah) (nm := nm) (nm' := nm') ((zall ah nm' p).2.1 + 1)
      rw [if_pos h2, if_pos h2, r1, r2, r3]
      by_cases h3 : (zall ah nm' ((zall ah nm' p).2.1 + 1)).1 = true
      · rw [if_pos h3, if_pos h3]; exact ⟨rfl, rfl, rfl⟩
      · rw [if_neg h3, if_neg h3]; exact ⟨rfl, rfl, rfl⟩
    · rw [if_neg h2, if_neg h2]; exact ⟨rfl, rfl, rfl⟩
  · rw [if_neg h1, if_neg h1]; exact ⟨rfl, rfl, rfl⟩
theorem zlines_sm {nm' : Nat → Int32} : ∀ k p c gv v gv' v', (zlines ah nm k p c gv v).1 = (zlines ah nm' k p c gv' v').1 ∧ (zlines ah nm k p c gv v).2.1 = (zlines ah nm' k p c gv' v').2.1 ∧ (zlines ah nm k p c gv v).2.2.1 = (zlines ah nm' k p c gv' v').2.2.1
  | 0, p, c, gv, v, gv', v' => ⟨rfl, rfl, rfl⟩
  | k + 1, p, c, gv, v, gv', v' => by
    obtain ⟨s1, s2, s3⟩ := zline_sm (ah := ah) (nm := nm) (nm' := nm') (p + 1)
    unfold zlines
    by_cases e : ah p = 59
    · rw [if_pos e, if_pos e, s1, s2, s3]
      by_cases e2 : (zline ah nm' (p + 1)).1 = true
      · rw [if_pos e2, if_pos e2]
        exact zlines_sm k _ _ _ _ _ _
      · rw [if_neg e2, if_neg e2]; exact ⟨rfl, rfl, rfl⟩
    · rw [if_neg e, if_neg e]; exact ⟨rfl, rfl, rfl⟩
theorem ztext_sm {nm' : Nat → Int32} : (ztext ah nm).1 = (ztext ah nm').1 ∧ (ztext ah nm).2.1 = (ztext ah nm').2.1 ∧ (ztext ah nm).2.2.1 = (ztext ah nm').2.2.1 := by
  obtain ⟨s1, s2, s3⟩ := zline_sm (ah := ah) (nm := nm) (nm' := nm') 0
  unfold ztext
  rw [s1, s2, s3]
  by_cases e : (zline ah nm' 0).1 = true
  · rw [if_pos e, if_pos e]
    exact zlines_sm 120 _ _ _ _ _ _
  · rw [if_neg e, if_neg e]; exact ⟨rfl, rfl, rfl⟩
end EVAL
