/-! what is not touched stands as it stood -/
section FRAME
variable {f g n k a b z bb : Nat} {I J : Nat → Nat → Int32} {L M : Nat → Nat → Int64} {law : zLawT}
theorem zRt_f (h1 : J 1 6 = I 1 6) (h80 : J 80 6 = I 80 6) (h2 : J 2 = I 2) (h3 : J 3 = I 3) (h5 : J 5 = I 5) (h6 : J 6 = I 6) (h8 : J 8 = I 8) (h9 : J 9 = I 9) (h10 : J 10 = I 10) (h12 : J 12 = I 12) (h13 : J 13 = I 13) (h81 : ∀ j, j < 72 → J 81 j = I 81 j) (h85 : J 85 = I 85) (h : zRt I n) : zRt J n := by
  obtain ⟨t1, t2, t3, t4, t5⟩ := h
  refine ⟨h1.trans t1, h80.trans t2, t3, ?_, fun j hj => ?_⟩
  · unfold tSet at *
    simp only [Nat.reduceAdd, h1, h2, h3, h5, h6, h8, h9, h10, h12, h13] at *
    exact t4
  · rw [h85, h81 _ (by omega), h81 _ (by omega), h81 _ (by omega), h2, h3, h5, h6]
    exact t5 j hj
theorem zRw_f (h72 : J 81 72 = I 81 72) (h73 : J 81 73 = I 81 73) (h82 : J 81 82 = I 81 82) (h83 : J 81 83 = I 81 83) (h14 : J 0 14 = I 0 14) (h15 : J 0 15 = I 0 15) (h16 : J 0 16 = I 0 16) (h27 : J 27 4 = I 27 4) (h : zRw I) : zRw J := by
  unfold zRw at *
  rw [h72, h73, h82, h83, h14, h15, h16, h27]
  exact h
theorem zRp_f (h1 : J 27 3 = I 27 3) (h10 : J 80 10 = I 80 10) (h28 : J 28 = I 28) (h29 : J 29 = I 29) (h30 : J 30 = I 30) (h86 : J 86 = I 86) (h87 : J 87 = I 87) (h81 : ∀ j, 74 ≤ j → j < 82 → J 81 j = I 81 j) (h : zRp I k) : zRp J k := by
  obtain ⟨t1, t2, t3, t4, t5⟩ := h
  refine ⟨h1.trans t1, h10.trans t2, t3, fun j hj => ?_, fun j hj => ?_⟩
  · rw [h86, h87, h28, h29]
    exact t4 j hj
  · rw [h81 _ (by omega) (by omega), h30]
    exact t5 j hj
theorem zRs_f (h1 : J 80 8 = I 80 8) (h2 : J 80 9 = I 80 9) (h3 : J 80 33 = I 80 33) (h4 : J 80 34 = I 80 34) (h5 : J 80 35 = I 80 35) (h6 : J 80 36 = I 80 36) (h51 : J 51 = I 51) (h : zRs I) : zRs J := by
  unfold zRs at *
  rw [h1, h2, h3, h4, h5, h6, h51]
  exact h
theorem zRi_f (h1 : J 0 13 = I 0 13) (h2 : J 80 38 = I 80 38) (h97 : J 97 = I 97) (h52 : J 52 = I 52) (h : zRi I) : zRi J := by
  unfold zRi at *
  rw [h1, h2, h97, h52]
  exact h
theorem zRc_f (h1 : J 54 1 = I 54 1) (h2 : J 54 2 = I 54 2) (h3 : J 80 5 = I 80 5) (h4 : J 80 4 = I 80 4) (h55 : J 55 = I 55) (h82 : J 82 = I 82) (h83 : J 83 = I 83) (h84 : J 84 = I 84) (h : zRc I a b k) : zRc J a b k := by
  unfold zRc at *
  rw [h1, h2, h3, h4, h55, h82, h83, h84]
  exact h
theorem zRy_f (h1 : J 31 1 = I 31 1) (h2 : J 80 14 = I 80 14) (h88 : J 88 = I 88) (h32 : J 32 = I 32) (h : zRy I z) : zRy J z := by
  unfold zRy at *
  rw [h1, h2, h88, h32]
  exact h
theorem zRl_f (hfg : (f = 60 ∧ g = 64) ∨ (f = 64 ∧ g = 60)) (h60 : J 60 3 = I 60 3) (h61 : J 61 = I 61) (h62 : J 62 = I 62) (h64 : J 64 3 = I 64 3) (h65 : J 65 = I 65) (h66 : J 66 = I 66) (h16 : J 80 16 = I 80 16) (h89 : J 89 = I 89) (h : zRl I f law) : zRl J f law := by
  obtain ⟨t1, t2⟩ := h
  refine ⟨?_, zLm_o h16 h89 t2⟩
  cases law with
  | none =>
    unfold zLc at *
    rcases hfg with ⟨rfl, rfl⟩ | ⟨rfl, rfl⟩
    · rw [h60]; exact t1
    · rw [h64]; exact t1
  | some c =>
    unfold zLc at *
    rcases hfg with ⟨rfl, rfl⟩ | ⟨rfl, rfl⟩
    · rw [h60, h61, h62]; exact t1
    · rw [h64, h65, h66]; exact t1
theorem zRb_f (h1 : J 56 2 = I 56 2) (h2 : J 80 40 = I 80 40) (h98 : J 98 = I 98) (h57 : J 57 = I 57) (h : zRb I bb) : zRb J bb := by
  unfold zRb at *
  rw [h1, h2, h98, h57]
  exact h
theorem zRr_f (h1 : J 56 3 = I 56 3) (h2 : J 80 43 = I 80 43) (h99 : J 99 = I 99) (h58 : J 58 = I 58) (h : zRr I) : zRr J := by
  unfold zRr at *
  rw [h1, h2, h99, h58]
  exact h
theorem zRh_f (h68 : J 68 = I 68) (h70 : J 70 = I 70) (h72 : J 72 = I 72) (h74 : J 74 = I 74) (h76 : J 76 = I 76) (h78 : J 78 = I 78) (h100 : J 100 = I 100) (h101 : J 101 = I 101) (h : zRh I L bb) : zRh J L bb := by
  intro d hd
  have hs : J (68 + 2 * d) = I (68 + 2 * d) := by
    match d, hd with
    | 0, _ => exact h68
    | 1, _ => exact h70
    | 2, _ => exact h72
    | 3, _ => exact h74
    | 4, _ => exact h76
    | 5, _ => exact h78
    | k + 6, h => exact absurd h (by omega)
  have t := h d hd
  unfold zRh1 at *
  rw [hs, h100, h101]
  exact t
theorem zRf_f (h33 : J 33 = I 33) (h34 : J 34 = I 34) (h36 : J 36 = I 36) (h2 : J 2 = I 2) (h3 : J 3 = I 3) (h5 : J 5 = I 5) (h6 : J 6 = I 6) (h14 : J 0 14 = I 0 14) (h15 : J 0 15 = I 0 15) (h : zRf I n law) : zRf J n law := by
  unfold zRf zFk at *
  rw [h33, h34, h36, h2, h3, h5, h6, h14, h15]
  exact h
theorem zRf_0 (h : J 33 6 = 0) : zRf J n law := Or.inl h
/-- cells that only a call uses -/
def zsc (a : Nat) : Prop := (14 ≤ a ∧ a ≤ 26) ∨ a = 35 ∨ (37 ≤ a ∧ a ≤ 50) ∨ a = 53 ∨ a = 63 ∨ a = 67 ∨ a = 80 ∨ (90 ≤ a ∧ a ≤ 96) ∨ 102 < a
def zsf (k : Nat) : Prop := (17 ≤ k ∧ k ≤ 32) ∨ k = 37 ∨ k = 44 ∨ k = 45
theorem zRel_s (hJ : ∀ a, ¬ zsc a → J a = I a) (h80 : ∀ k, ¬ zsf k → J 80 k = I 80 k) (h : zRel I L f g) : zRel J L f g := by
  obtain ⟨law, n, k, a, b, z, bb, hfg, ht, hw, hp, hs, hi, hc, hy, hl, hb, hr, hh, hf⟩ := h
  have e : ∀ a, ¬ zsc a → ∀ k, J a k = I a k := fun a ha k => by rw [hJ a ha]
  have d81 : J 81 = I 81 := hJ 81 (by unfold zsc; omega)
  refine ⟨law, n, k, a, b, z, bb, hfg, zRt_f ?_ ?_ ?_ ?_ ?_ ?_ ?_ ?_ ?_ ?_ ?_ (fun j _ => by rw [d81]) ?_ ht, zRw_f (by rw [d81]) (by rw [d81]) (by rw [d81]) (by rw [d81]) ?_ ?_ ?_ ?_ hw, zRp_f ?_ ?_ ?_ ?_ ?_ ?_ ?_ (fun j _ _ => by rw [d81]) hp, zRs_f ?_ ?_ ?_ ?_ ?_ ?_ ?_ hs, zRi_f ?_ ?_ ?_ ?_ hi, zRc_f ?_ ?_ ?_ ?_ ?_ ?_ ?_ ?_ hc, zRy_f ?_ ?_ ?_ ?_ hy, zRl_f hfg ?_ ?_ ?_ ?_ ?_ ?_ ?_ ?_ hl, zRb_f ?_ ?_ ?_ ?_ hb, zRr_f ?_ ?_ ?_ ?_ hr, zRh_f ?_ ?_ ?_ ?_ ?_ ?_ ?_ ?_ hh, zRf_f ?_ ?_ ?_ ?_ ?_ ?_ ?_ ?_ ?_ hf⟩
  all_goals first
    | exact hJ _ (by unfold zsc; omega)
    | exact e _ (by unfold zsc; omega) _
    | exact h80 _ (by unfold zsf; omega)
theorem zOp_m {mi mj : Nat} {as : List Value} {t : Option Nat} (r : Value) (I1 I2 : Nat → Nat → Int32) (h1 : ∀ d Q, zWM (d + 100) mi (.ref 0 :: as) (zSH, I, L, zP f g t) Q = Q (some r) (zSH, I1, L, zP f g t)) (h2 : ∀ d Q, zWM (d + 100) mj (.ref 80 :: as) (zSH, I1, L, zP f g t) Q = Q (some r) (zSH, I2, L, zP f g t)) (hR : zRel I2 L f g) (hv : (mi ≠ 116 → ∃ v : Int32, r = .int v) ∧ (mi = 116 → ∃ v : Int64, r = .long v) := by first | exact ⟨fun _ => ⟨_, rfl⟩, fun h => absurd h (by decide)⟩ | exact ⟨fun h => absurd rfl h, fun _ => ⟨_, rfl⟩⟩) : zOp mi mj as I L f g t := ⟨r, I1, L, f, g, t, I2, L, h1, h2, hR, hv⟩
end FRAME
