/-! rules, one a kind of instruction: h is (sh, I, L, P) -/
def zAn (sh : List zSh) (a : Nat) : Nat := match sh[a]? with
  | some (.inr (_, n)) => n
  | _ => 0
def zAk (sh : List zSh) (a : Nat) : Option FieldType := match sh[a]? with
  | some (.inr (t, _)) => some t
  | _ => none
theorem zAk_i {sh : List zSh} {a : Nat} {t : FieldType} (h : zAk sh a = some t) : sh[a]? = some (.inr (t, zAn sh a)) := by
  unfold zAk at h
  unfold zAn
  split at h
  · rename_i h2
    cases h
    rw [h2]
  · cases h
theorem zinv_in {i : Int32} {n : Nat} : vp_in i n ↔ ¬ (i < 0 ∨ n ≤ i.toNatClampNeg) := Iff.rfl
section RU
variable {d : Nat} {q : zInfo} {scr : Option (Nat × (Nat → Int32))} {pc tgt n k M ci idx a b v : Nat} {la st rest as : List Value} {h : zMm} {sh : List zSh} {I : Nat → Nat → Int32} {L : Nat → Nat → Int64} {P : Nat → Nat → Option Nat} {Q : Option Value → zMm → Prop} {x y w : Int32} {xl yl : Int64} {off : Int} {t : FieldType} {y0 : zInfo}
theorem zr_aload (hl : q.2.2.2.2.2.2.lookup pc = some (.aload n)) (hz : zlc la n = .ref a) : zWp d q scr pc la st h Q = zWp d q scr (pc + 2) la (.ref a :: st) h Q := zW_s fun cal ih => by unfold zstep; rw [hl]; show zdoLoad _ _ _ _ _ _ _ = _; unfold zdoLoad; rw [hz]; rfl
theorem zr_aload_n {n : Fin 4} (hl : q.2.2.2.2.2.2.lookup pc = some (.aload_n n)) (hz : zlc la n.val = .ref a) : zWp d q scr pc la st h Q = zWp d q scr (pc + 1) la (.ref a :: st) h Q := zW_s fun cal ih => by unfold zstep; rw [hl]; show zdoLoad _ _ _ _ _ _ _ = _; unfold zdoLoad; rw [hz]; rfl
theorem zr_iload (hl : q.2.2.2.2.2.2.lookup pc = some (.iload n)) (hz : zlc la n = .int x) : zWp d q scr pc la st h Q = zWp d q scr (pc + 2) la (.int x :: st) h Q := zW_s fun cal ih => by unfold zstep; rw [hl]; show zdoLoad _ _ _ _ _ _ _ = _; unfold zdoLoad; rw [hz]; rfl
theorem zr_iload_n {n : Fin 4} (hl : q.2.2.2.2.2.2.lookup pc = some (.iload_n n)) (hz : zlc la n.val = .int x) : zWp d q scr pc la st h Q = zWp d q scr (pc + 1) la (.int x :: st) h Q := zW_s fun cal ih => by unfold zstep; rw [hl]; show zdoLoad _ _ _ _ _ _ _ = _; unfold zdoLoad; rw [hz]; rfl
theorem zr_lload (hl : q.2.2.2.2.2.2.lookup pc = some (.lload n)) (hz : zlc la n = .long xl) : zWp d q scr pc la st h Q = zWp d q scr (pc + 2) la (.long xl :: st) h Q := zW_s fun cal ih => by unfold zstep; rw [hl]; show zdoLoad _ _ _ _ _ _ _ = _; unfold zdoLoad; rw [hz]; rfl
theorem zr_lload_n {n : Fin 4} (hl : q.2.2.2.2.2.2.lookup pc = some (.lload_n n)) (hz : zlc la n.val = .long xl) : zWp d q scr pc la st h Q = zWp d q scr (pc + 1) la (.long xl :: st) h Q := zW_s fun cal ih => by unfold zstep; rw [hl]; show zdoLoad _ _ _ _ _ _ _ = _; unfold zdoLoad; rw [hz]; rfl
theorem zr_istore (hl : q.2.2.2.2.2.2.lookup pc = some (.istore n)) (hn : n < la.length) (h2 : zok2 la n = true) : zWp d q scr pc la (.int x :: st) h Q = zWp d q scr (pc + 2) (la.set n (.int x)) st h Q := zW_s fun cal ih => by unfold zstep; rw [hl]; show zdoStore _ _ _ _ _ _ _ = _; unfold zdoStore; exact if_pos ⟨hn, h2⟩
theorem zr_istore_n {n : Fin 4} (hl : q.2.2.2.2.2.2.lookup pc = some (.istore_n n)) (hn : n.val < la.length) (h2 : zok2 la n.val = true) : zWp d q scr pc la (.int x :: st) h Q = zWp d q scr (pc + 1) (la.set n.val (.int x)) st h Q := zW_s fun cal ih => by unfold zstep; rw [hl]; show zdoStore _ _ _ _ _ _ _ = _; unfold zdoStore; exact if_pos ⟨hn, h2⟩
theorem zr_astore (hl : q.2.2.2.2.2.2.lookup pc = some (.astore n)) (hn : n < la.length) (h2 : zok2 la n = true) : zWp d q scr pc la (.ref a :: st) h Q = zWp d q scr (pc + 2) (la.set n (.ref a)) st h Q := zW_s fun cal ih => by unfold zstep; rw [hl]; show zdoStore _ _ _ _ _ _ _ = _; unfold zdoStore; exact if_pos ⟨hn, h2⟩
theorem zr_astore_n {n : Fin 4} (hl : q.2.2.2.2.2.2.lookup pc = some (.astore_n n)) (hn : n.val < la.length) (h2 : zok2 la n.val = true) : zWp d q scr pc la (.ref a :: st) h Q = zWp d q scr (pc + 1) (la.set n.val (.ref a)) st h Q := zW_s fun cal ih => by unfold zstep; rw [hl]; show zdoStore _ _ _ _ _ _ _ = _; unfold zdoStore; exact if_pos ⟨hn, h2⟩
theorem zr_iinc {kc : Int} (hl : q.2.2.2.2.2.2.lookup pc = some (.iinc n kc)) (hz : zlc la n = .int x) (hn : n < la.length) (h2 : zok2 la n = true) (hw : Int32.ofInt kc = w) : zWp d q scr pc la st h Q = zWp d q scr (pc + 3) (la.set n (.int (x + w))) st h Q := zW_s fun cal ih => by
  subst hw
  unfold zstep; rw [hl]; dsimp only; rw [hz]; exact if_pos ⟨hn, h2⟩
theorem zr_iconst {kc : Int} (hl : q.2.2.2.2.2.2.lookup pc = some (.iconst kc)) (hw : Int32.ofInt kc = w) : zWp d q scr pc la st h Q = zWp d q scr (pc + 1) la (.int w :: st) h Q := zW_s fun cal ih => by subst hw; unfold zstep; rw [hl]
theorem zr_bipush {kc : Int} (hl : q.2.2.2.2.2.2.lookup pc = some (.bipush kc)) (hw : (Int8.ofInt kc).toInt32 = w) : zWp d q scr pc la st h Q = zWp d q scr (pc + 2) la (.int w :: st) h Q := zW_s fun cal ih => by subst hw; unfold zstep; rw [hl]
theorem zr_sipush {kc : Int} (hl : q.2.2.2.2.2.2.lookup pc = some (.sipush kc)) (hw : (Int16.ofInt kc).toInt32 = w) : zWp d q scr pc la st h Q = zWp d q scr (pc + 3) la (.int w :: st) h Q := zW_s fun cal ih => by subst hw; unfold zstep; rw [hl]
theorem zr_lconst {kc : Fin 2} (hl : q.2.2.2.2.2.2.lookup pc = some (.lconst kc)) (hw : Int64.ofNat kc.val = xl) : zWp d q scr pc la st h Q = zWp d q scr (pc + 1) la (.long xl :: st) h Q := zW_s fun cal ih => by subst hw; unfold zstep; rw [hl]
theorem zr_ldc (hl : q.2.2.2.2.2.2.lookup pc = some (.ldc idx)) (hk : zlk zLKs q.2.2.2.2.1 idx = some w) : zWp d q scr pc la st h Q = zWp d q scr (pc + 2) la (.int w :: st) h Q := zW_s fun cal ih => by unfold zstep; rw [hl]; dsimp only; rw [hk]
theorem zr_ldc_w (hl : q.2.2.2.2.2.2.lookup pc = some (.ldc_w idx)) (hk : zlk zLKs q.2.2.2.2.1 idx = some w) : zWp d q scr pc la st h Q = zWp d q scr (pc + 3) la (.int w :: st) h Q := zW_s fun cal ih => by unfold zstep; rw [hl]; dsimp only; rw [hk]
theorem zr_ldc2_w (hl : q.2.2.2.2.2.2.lookup pc = some (.ldc2_w idx)) (hk : zlk zLJs q.2.2.2.2.1 idx = some xl) : zWp d q scr pc la st h Q = zWp d q scr (pc + 3) la (.long xl :: st) h Q := zW_s fun cal ih => by unfold zstep; rw [hl]; dsimp only; rw [hk]
theorem zr_iadd (hl : q.2.2.2.2.2.2.lookup pc = some .iadd) : zWp d q scr pc la (.int y :: .int x :: st) h Q = zWp d q scr (pc + 1) la (.int (x + y) :: st) h Q := zW_s fun cal ih => by unfold zstep; rw [hl]; rfl
theorem zr_isub (hl : q.2.2.2.2.2.2.lookup pc = some .isub) : zWp d q scr pc la (.int y :: .int x :: st) h Q = zWp d q scr (pc + 1) la (.int (x - y) :: st) h Q := zW_s fun cal ih => by unfold zstep; rw [hl]; rfl
theorem zr_imul (hl : q.2.2.2.2.2.2.lookup pc = some .imul) : zWp d q scr pc la (.int y :: .int x :: st) h Q = zWp d q scr (pc + 1) la (.int (x * y) :: st) h Q := zW_s fun cal ih => by unfold zstep; rw [hl]; rfl
theorem zr_iand (hl : q.2.2.2.2.2.2.lookup pc = some .iand) : zWp d q scr pc la (.int y :: .int x :: st) h Q = zWp d q scr (pc + 1) la (.int (x &&& y) :: st) h Q := zW_s fun cal ih => by unfold zstep; rw [hl]; rfl
theorem zr_ior (hl : q.2.2.2.2.2.2.lookup pc = some .ior) : zWp d q scr pc la (.int y :: .int x :: st) h Q = zWp d q scr (pc + 1) la (.int (x ||| y) :: st) h Q := zW_s fun cal ih => by unfold zstep; rw [hl]; rfl
theorem zr_ixor (hl : q.2.2.2.2.2.2.lookup pc = some .ixor) : zWp d q scr pc la (.int y :: .int x :: st) h Q = zWp d q scr (pc + 1) la (.int (x ^^^ y) :: st) h Q := zW_s fun cal ih => by unfold zstep; rw [hl]; rfl
theorem zr_ishl (hl : q.2.2.2.2.2.2.lookup pc = some .ishl) : zWp d q scr pc la (.int y :: .int x :: st) h Q = zWp d q scr (pc + 1) la (.int (x <<< (y &&& 31)) :: st) h Q := zW_s fun cal ih => by unfold zstep; rw [hl]; rfl
theorem zr_ishr (hl : q.2.2.2.2.2.2.lookup pc = some .ishr) : zWp d q scr pc la (.int y :: .int x :: st) h Q = zWp d q scr (pc + 1) la (.int (x >>> (y &&& 31)) :: st) h Q := zW_s fun cal ih => by unfold zstep; rw [hl]; rfl
theorem zr_iushr (hl : q.2.2.2.2.2.2.lookup pc = some .iushr) : zWp d q scr pc la (.int y :: .int x :: st) h Q = zWp d q scr (pc + 1) la (.int ((x.toUInt32 >>> (y.toUInt32 &&& Int32.toUInt32 31)).toInt32) :: st) h Q := zW_s fun cal ih => by unfold zstep; rw [hl]; rfl
/-- where a step can't go on, nothing is answered -/
theorem zW_n (hs : ∀ cal ih, zstep cal q scr ih pc la st h = none) : zWp d q scr pc la st h Q = False := by
  refine propext ⟨fun ⟨f, n, r, h', hr, hq⟩ => ?_, False.elim⟩
  cases n with
  | zero => cases hr
  | succ n => rw [zrun_s, hs] at hr; cases hr
theorem zr_idiv (hl : q.2.2.2.2.2.2.lookup pc = some .idiv) : zWp d q scr pc la (.int y :: .int x :: st) h Q = (¬ y = 0 ∧ zWp d q scr (pc + 1) la (.int (x / y) :: st) h Q) := by
  by_cases hy : y = 0
  · rw [zW_n (fun cal ih => by unfold zstep; rw [hl]; show zdoBin _ _ _ _ _ _ = _; unfold zdoBin; simp only [zbin, hy, if_true])]
    simp [hy]
  · rw [zW_s (fun cal ih => by unfold zstep; rw [hl]; show zdoBin _ _ _ _ _ _ = _; unfold zdoBin; simp only [zbin, hy, if_false]; rfl)]
    simp [hy]
theorem zr_irem (hl : q.2.2.2.2.2.2.lookup pc = some .irem) : zWp d q scr pc la (.int y :: .int x :: st) h Q = (¬ y = 0 ∧ zWp d q scr (pc + 1) la (.int (x - x / y * y) :: st) h Q) := by
  by_cases hy : y = 0
  · rw [zW_n (fun cal ih => by unfold zstep; rw [hl]; show zdoBin _ _ _ _ _ _ = _; unfold zdoBin; simp only [zbin, hy, if_true])]
    simp [hy]
  · rw [zW_s (fun cal ih => by unfold zstep; rw [hl]; show zdoBin _ _ _ _ _ _ = _; unfold zdoBin; simp only [zbin, hy, if_false]; rfl)]
    simp [hy]
theorem zr_ineg (hl : q.2.2.2.2.2.2.lookup pc = some .ineg) : zWp d q scr pc la (.int x :: st) h Q = zWp d q scr (pc + 1) la (.int (-x) :: st) h Q := zW_s fun cal ih => by unfold zstep; rw [hl]
theorem zr_i2l (hl : q.2.2.2.2.2.2.lookup pc = some .i2l) : zWp d q scr pc la (.int x :: st) h Q = zWp d q scr (pc + 1) la (.long x.toInt64 :: st) h Q := zW_s fun cal ih => by unfold zstep; rw [hl]
theorem zr_l2i (hl : q.2.2.2.2.2.2.lookup pc = some .l2i) : zWp d q scr pc la (.long xl :: st) h Q = zWp d q scr (pc + 1) la (.int xl.toInt32 :: st) h Q := zW_s fun cal ih => by unfold zstep; rw [hl]
theorem zr_i2b (hl : q.2.2.2.2.2.2.lookup pc = some .i2b) : zWp d q scr pc la (.int x :: st) h Q = zWp d q scr (pc + 1) la (.int x.toInt8.toInt32 :: st) h Q := zW_s fun cal ih => by unfold zstep; rw [hl]
theorem zr_i2s (hl : q.2.2.2.2.2.2.lookup pc = some .i2s) : zWp d q scr pc la (.int x :: st) h Q = zWp d q scr (pc + 1) la (.int x.toInt16.toInt32 :: st) h Q := zW_s fun cal ih => by unfold zstep; rw [hl]
theorem zr_land (hl : q.2.2.2.2.2.2.lookup pc = some .land) : zWp d q scr pc la (.long yl :: .long xl :: st) h Q = zWp d q scr (pc + 1) la (.long (xl &&& yl) :: st) h Q := zW_s fun cal ih => by unfold zstep; rw [hl]
theorem zr_lor (hl : q.2.2.2.2.2.2.lookup pc = some .lor) : zWp d q scr pc la (.long yl :: .long xl :: st) h Q = zWp d q scr (pc + 1) la (.long (xl ||| yl) :: st) h Q := zW_s fun cal ih => by unfold zstep; rw [hl]
theorem zr_lshl (hl : q.2.2.2.2.2.2.lookup pc = some .lshl) : zWp d q scr pc la (.int y :: .long xl :: st) h Q = zWp d q scr (pc + 1) la (.long (xl <<< (y.toInt64 &&& 63)) :: st) h Q := zW_s fun cal ih => by unfold zstep; rw [hl]
theorem zr_lcmp (hl : q.2.2.2.2.2.2.lookup pc = some .lcmp) : zWp d q scr pc la (.long yl :: .long xl :: st) h Q = zWp d q scr (pc + 1) la (.int (lg_cmp xl yl) :: st) h Q := zW_s fun cal ih => by unfold zstep; rw [hl]
theorem zr_dup {u : Value} (hl : q.2.2.2.2.2.2.lookup pc = some .dup) (h1 : u.category = 1) : zWp d q scr pc la (u :: st) h Q = zWp d q scr (pc + 1) la (u :: u :: st) h Q := zW_s fun cal ih => by unfold zstep; rw [hl]; exact if_pos h1
theorem zr_dup_x1 {u u2 : Value} (hl : q.2.2.2.2.2.2.lookup pc = some .dup_x1) (h1 : u.category = 1) (h2 : u2.category = 1) : zWp d q scr pc la (u :: u2 :: st) h Q = zWp d q scr (pc + 1) la (u :: u2 :: u :: st) h Q := zW_s fun cal ih => by unfold zstep; rw [hl]; exact if_pos ⟨h1, h2⟩
theorem zr_dup2 {u u2 : Value} (hl : q.2.2.2.2.2.2.lookup pc = some .dup2) (h1 : u.category = 1) (h2 : u2.category = 1) : zWp d q scr pc la (u :: u2 :: st) h Q = zWp d q scr (pc + 1) la (u :: u2 :: u :: u2 :: st) h Q := zW_s fun cal ih => by unfold zstep; rw [hl]; exact if_pos ⟨h1, h2⟩
theorem zgo_e {ih : Nat → List Value → List Value → zMm → zRes} (ht : (pc : Int) + off = (tgt : Int)) : zgo ih pc off la st h = ih tgt la st h := by
  unfold zgo
  rw [if_neg (by omega), ht]
  rfl
theorem zbr_e {ih : Nat → List Value → List Value → zMm → zRes} {c : Bool} (ht : (pc : Int) + off = (tgt : Int)) : zbr ih c pc off la st h = if c = true then ih tgt la st h else ih (pc + 3) la st h := by
  unfold zbr
  rw [if_neg (by omega), ht]
  rfl
theorem zr_goto (hl : q.2.2.2.2.2.2.lookup pc = some (.goto off)) (ht : (pc : Int) + off = (tgt : Int)) : zWp d q scr pc la st h Q = zWp d q scr tgt la st h Q := zW_s fun cal ih => by unfold zstep; rw [hl]; exact zgo_e ht
theorem zW_b {c : Prop} [Decidable c] {b : Bool} (hb : b = true ↔ c) (hs : ∀ cal ih, zstep cal q scr ih pc la st h = if b = true then ih tgt la rest h else ih (pc + 3) la rest h) : zWp d q scr pc la st h Q = if c then zWp d q scr tgt la rest h Q else zWp d q scr (pc + 3) la rest h Q := by
  by_cases hc : c
  · rw [if_pos hc]
    exact zW_s fun cal ih => by rw [hs, if_pos (hb.mpr hc)]
  · rw [if_neg hc]
    exact zW_s fun cal ih => by rw [hs, if_neg (fun z => hc (hb.mp z))]
theorem zW_bn {c : Prop} [Decidable c] {b : Bool} (hb : b = true ↔ ¬ c) (hs : ∀ cal ih, zstep cal q scr ih pc la st h = if b = true then ih tgt la rest h else ih (pc + 3) la rest h) : zWp d q scr pc la st h Q = if c then zWp d q scr (pc + 3) la rest h Q else zWp d q scr tgt la rest h Q := by
  by_cases hc : c
  · rw [if_pos hc]
    exact zW_s fun cal ih => by rw [hs, if_neg (fun z => hb.mp z hc)]
  · rw [if_neg hc]
    exact zW_s fun cal ih => by rw [hs, if_pos (hb.mpr hc)]
theorem zr_if_eq (hl : q.2.2.2.2.2.2.lookup pc = some (.ifCond .eq off)) (ht : (pc : Int) + off = (tgt : Int)) : zWp d q scr pc la (.int x :: st) h Q = if x = 0 then zWp d q scr tgt la st h Q else zWp d q scr (pc + 3) la st h Q := zW_b zif fun cal ih => by unfold zstep; rw [hl]; exact zbr_e ht
theorem zr_if_ne (hl : q.2.2.2.2.2.2.lookup pc = some (.ifCond .ne off)) (ht : (pc : Int) + off = (tgt : Int)) : zWp d q scr pc la (.int x :: st) h Q = if x = 0 then zWp d q scr (pc + 3) la st h Q else zWp d q scr tgt la st h Q := zW_bn zif fun cal ih => by unfold zstep; rw [hl]; exact zbr_e ht
theorem zr_if_lt (hl : q.2.2.2.2.2.2.lookup pc = some (.ifCond .lt off)) (ht : (pc : Int) + off = (tgt : Int)) : zWp d q scr pc la (.int x :: st) h Q = if x < 0 then zWp d q scr tgt la st h Q else zWp d q scr (pc + 3) la st h Q := zW_b zif fun cal ih => by unfold zstep; rw [hl]; exact zbr_e ht
theorem zr_if_ge (hl : q.2.2.2.2.2.2.lookup pc = some (.ifCond .ge off)) (ht : (pc : Int) + off = (tgt : Int)) : zWp d q scr pc la (.int x :: st) h Q = if 0 ≤ x then zWp d q scr tgt la st h Q else zWp d q scr (pc + 3) la st h Q := zW_b zif fun cal ih => by unfold zstep; rw [hl]; exact zbr_e ht
theorem zr_if_gt (hl : q.2.2.2.2.2.2.lookup pc = some (.ifCond .gt off)) (ht : (pc : Int) + off = (tgt : Int)) : zWp d q scr pc la (.int x :: st) h Q = if 0 < x then zWp d q scr tgt la st h Q else zWp d q scr (pc + 3) la st h Q := zW_b zif fun cal ih => by unfold zstep; rw [hl]; exact zbr_e ht
theorem zr_if_le (hl : q.2.2.2.2.2.2.lookup pc = some (.ifCond .le off)) (ht : (pc : Int) + off = (tgt : Int)) : zWp d q scr pc la (.int x :: st) h Q = if x ≤ 0 then zWp d q scr tgt la st h Q else zWp d q scr (pc + 3) la st h Q := zW_b zif fun cal ih => by unfold zstep; rw [hl]; exact zbr_e ht
theorem zr_ic_eq (hl : q.2.2.2.2.2.2.lookup pc = some (.if_icmp .eq off)) (ht : (pc : Int) + off = (tgt : Int)) : zWp d q scr pc la (.int y :: .int x :: st) h Q = if x = y then zWp d q scr tgt la st h Q else zWp d q scr (pc + 3) la st h Q := zW_b zif fun cal ih => by unfold zstep; rw [hl]; exact zbr_e ht
theorem zr_ic_ne (hl : q.2.2.2.2.2.2.lookup pc = some (.if_icmp .ne off)) (ht : (pc : Int) + off = (tgt : Int)) : zWp d q scr pc la (.int y :: .int x :: st) h Q = if x = y then zWp d q scr (pc + 3) la st h Q else zWp d q scr tgt la st h Q := zW_bn zif fun cal ih => by unfold zstep; rw [hl]; exact zbr_e ht
theorem zr_ic_lt (hl : q.2.2.2.2.2.2.lookup pc = some (.if_icmp .lt off)) (ht : (pc : Int) + off = (tgt : Int)) : zWp d q scr pc la (.int y :: .int x :: st) h Q = if x < y then zWp d q scr tgt la st h Q else zWp d q scr (pc + 3) la st h Q := zW_b zif fun cal ih => by unfold zstep; rw [hl]; exact zbr_e ht
theorem zr_ic_ge (hl : q.2.2.2.2.2.2.lookup pc = some (.if_icmp .ge off)) (ht : (pc : Int) + off = (tgt : Int)) : zWp d q scr pc la (.int y :: .int x :: st) h Q = if y ≤ x then zWp d q scr tgt la st h Q else zWp d q scr (pc + 3) la st h Q := zW_b zif fun cal ih => by unfold zstep; rw [hl]; exact zbr_e ht
theorem zr_ic_gt (hl : q.2.2.2.2.2.2.lookup pc = some (.if_icmp .gt off)) (ht : (pc : Int) + off = (tgt : Int)) : zWp d q scr pc la (.int y :: .int x :: st) h Q = if y < x then zWp d q scr tgt la st h Q else zWp d q scr (pc + 3) la st h Q := zW_b zif fun cal ih => by unfold zstep; rw [hl]; exact zbr_e ht
theorem zr_ic_le (hl : q.2.2.2.2.2.2.lookup pc = some (.if_icmp .le off)) (ht : (pc : Int) + off = (tgt : Int)) : zWp d q scr pc la (.int y :: .int x :: st) h Q = if x ≤ y then zWp d q scr tgt la st h Q else zWp d q scr (pc + 3) la st h Q := zW_b zif fun cal ih => by unfold zstep; rw [hl]; exact zbr_e ht
theorem zr_tabI {dflt lo hi : Int} {offs : Array Int} (hl : q.2.2.2.2.2.2.lookup pc = some (.tableswitch dflt lo hi offs)) (h1 : ¬ (x.toInt < lo ∨ hi < x.toInt)) (ho : offs[(x.toInt - lo).toNat]? = some off) (ht : (pc : Int) + off = (tgt : Int)) : zWp d q scr pc la (.int x :: st) h Q = zWp d q scr tgt la st h Q := zW_s fun cal ih => by unfold zstep; rw [hl]; show zdoTab _ _ _ _ _ _ _ _ _ = _; unfold zdoTab; dsimp only; rw [if_neg h1, ho]; exact zgo_e ht
theorem zr_tabD {dflt lo hi : Int} {offs : Array Int} (hl : q.2.2.2.2.2.2.lookup pc = some (.tableswitch dflt lo hi offs)) (h1 : x.toInt < lo ∨ hi < x.toInt) (ht : (pc : Int) + dflt = (tgt : Int)) : zWp d q scr pc la (.int x :: st) h Q = zWp d q scr tgt la st h Q := zW_s fun cal ih => by unfold zstep; rw [hl]; show zdoTab _ _ _ _ _ _ _ _ _ = _; unfold zdoTab; dsimp only; rw [if_pos h1]; exact zgo_e ht
theorem zr_look {dflt : Int} {ps : Array (Int × Int)} (hl : q.2.2.2.2.2.2.lookup pc = some (.lookupswitch dflt ps)) (hp : (ps.toList.zip (ps.toList.drop 1)).all (fun (a, next) => a.1 < next.1) = true) (ho : Op.lookupswitch.offset ps.toList dflt x.toInt = off) (ht : (pc : Int) + off = (tgt : Int)) : zWp d q scr pc la (.int x :: st) h Q = zWp d q scr tgt la st h Q := zW_s fun cal ih => by unfold zstep; rw [hl]; dsimp only; rw [if_pos hp, ho]; exact zgo_e ht
theorem zr_getI (hl : q.2.2.2.2.2.2.lookup pc = some (.getfield idx)) (hk : zlk zLFs q.2.2.2.2.1 idx = some (ci, k)) (ht : ∀ x y z, zfv id (zFt ci k) x y z = .int x) (hs : sh[a]? = some (.inl ci)) : zWp d q scr pc la (.ref a :: st) (sh, I, L, P) Q = zWp d q scr (pc + 3) la (.int (I a k) :: st) (sh, I, L, P) Q := zW_s fun cal ih => by unfold zstep; rw [hl]; show zdoGet _ _ _ _ _ _ _ = _; unfold zdoGet; rw [hk]; dsimp only; rw [if_pos hs, ht]
theorem zr_getQ (hl : q.2.2.2.2.2.2.lookup pc = some (.getfield idx)) (hk : zlk zLFs q.2.2.2.2.1 idx = some (ci, k)) (ht : ∀ x y z, zfv id (zFt ci k) x y z = va_rf (z.map id)) (hs : sh[a]? = some (.inl ci)) : zWp d q scr pc la (.ref a :: st) (sh, I, L, P) Q = zWp d q scr (pc + 3) la (va_rf (P a k) :: st) (sh, I, L, P) Q := zW_s fun cal ih => by unfold zstep; rw [hl]; show zdoGet _ _ _ _ _ _ _ = _; unfold zdoGet; rw [hk]; dsimp only; rw [if_pos hs, ht, Option.map_id]; rfl
theorem zr_putI (hl : q.2.2.2.2.2.2.lookup pc = some (.putfield idx)) (hk : zlk zLFs q.2.2.2.2.1 idx = some (ci, k)) (hf : ((zTf ci k).2.2.2 && !(zini q && ci == q.2.2.2.2.1)) = false) (ht : zFt ci k = .int) (hs : sh[a]? = some (.inl ci)) : zWp d q scr pc la (.int x :: .ref a :: st) (sh, I, L, P) Q = zWp d q scr (pc + 3) la st (sh, zw I a (upd (I a) k x), L, P) Q := zW_s fun cal ih => by unfold zstep; rw [hl]; show zdoPut _ _ _ _ _ _ _ = _; unfold zdoPut; rw [hk]; dsimp only; rw [if_neg (by rintro ⟨z1, z2⟩; rw [z1] at hf; simp at hf; exact z2 hf), ht]; exact if_pos hs
theorem zr_putZ (hl : q.2.2.2.2.2.2.lookup pc = some (.putfield idx)) (hk : zlk zLFs q.2.2.2.2.1 idx = some (ci, k)) (hf : ((zTf ci k).2.2.2 && !(zini q && ci == q.2.2.2.2.1)) = false) (ht : zFt ci k = .boolean) (hs : sh[a]? = some (.inl ci)) (hv : x = 0 ∨ x = 1) : zWp d q scr pc la (.int x :: .ref a :: st) (sh, I, L, P) Q = zWp d q scr (pc + 3) la st (sh, zw I a (upd (I a) k x), L, P) Q := zW_s fun cal ih => by unfold zstep; rw [hl]; show zdoPut _ _ _ _ _ _ _ = _; unfold zdoPut; rw [hk]; dsimp only; rw [if_neg (by rintro ⟨z1, z2⟩; rw [z1] at hf; simp at hf; exact z2 hf), ht]; exact if_pos ⟨hs, hv⟩
theorem zr_putO {C : String} (hl : q.2.2.2.2.2.2.lookup pc = some (.putfield idx)) (hk : zlk zLFs q.2.2.2.2.1 idx = some (ci, k)) (hf : ((zTf ci k).2.2.2 && !(zini q && ci == q.2.2.2.2.1)) = false) (ht : zFt ci k = .object C) (hs : sh[a]? = some (.inl ci)) : zWp d q scr pc la (.ref v :: .ref a :: st) (sh, I, L, P) Q = zWp d q scr (pc + 3) la st (sh, I, L, zw P a (va_up (P a) k (some v))) Q := zW_s fun cal ih => by unfold zstep; rw [hl]; show zdoPut _ _ _ _ _ _ _ = _; unfold zdoPut; rw [hk]; dsimp only; rw [if_neg (by rintro ⟨z1, z2⟩; rw [z1] at hf; simp at hf; exact z2 hf), ht]; exact if_pos hs
theorem zr_ald (hl : q.2.2.2.2.2.2.lookup pc = some .iaload) (hs : zAk sh a = some .int) : zWp d q scr pc la (.int x :: .ref a :: st) (sh, I, L, P) Q = (vp_in x (zAn sh a) ∧ zWp d q scr (pc + 1) la (.int (I a x.toNatClampNeg) :: st) (sh, I, L, P) Q) := by
  have hs := zAk_i hs
  by_cases hi : x < 0 ∨ zAn sh a ≤ x.toNatClampNeg
  · rw [zW_n (fun cal ih => by unfold zstep; rw [hl]; show zdoAld _ _ _ _ _ _ = _; unfold zdoAld; dsimp only; rw [hs]; exact if_pos hi)]
    exact (propext ⟨fun h => h.elim, fun h => h.1 hi⟩)
  · rw [zW_s (fun cal ih => by unfold zstep; rw [hl]; show zdoAld _ _ _ _ _ _ = _; unfold zdoAld; dsimp only; rw [hs]; exact if_neg hi)]
    exact (propext ⟨fun h => ⟨hi, h⟩, fun h => h.2⟩)
theorem zr_aldX {xf : Nat → Int32} {N : Nat} (hl : q.2.2.2.2.2.2.lookup pc = some .iaload) (hs : sh[a]? = none) (hx : zex scr a = some (N, xf)) : zWp d q scr pc la (.int x :: .ref a :: st) (sh, I, L, P) Q = (vp_in x N ∧ zWp d q scr (pc + 1) la (.int (xf x.toNatClampNeg) :: st) (sh, I, L, P) Q) := by
  by_cases hi : x < 0 ∨ N ≤ x.toNatClampNeg
  · rw [zW_n (fun cal ih => by unfold zstep; rw [hl]; show zdoAld _ _ _ _ _ _ = _; unfold zdoAld; dsimp only; rw [hs]; dsimp only; rw [hx]; exact if_pos hi)]
    exact (propext ⟨fun h => h.elim, fun h => h.1 hi⟩)
  · rw [zW_s (fun cal ih => by unfold zstep; rw [hl]; show zdoAld _ _ _ _ _ _ = _; unfold zdoAld; dsimp only; rw [hs]; dsimp only; rw [hx]; exact if_neg hi)]
    exact (propext ⟨fun h => ⟨hi, h⟩, fun h => h.2⟩)
theorem zr_lld (hl : q.2.2.2.2.2.2.lookup pc = some .laload) (hs : zAk sh a = some .long) : zWp d q scr pc la (.int x :: .ref a :: st) (sh, I, L, P) Q = (vp_in x (zAn sh a) ∧ zWp d q scr (pc + 1) la (.long (L a x.toNatClampNeg) :: st) (sh, I, L, P) Q) := by
  have hs := zAk_i hs
  by_cases hi : x < 0 ∨ zAn sh a ≤ x.toNatClampNeg
  · rw [zW_n (fun cal ih => by unfold zstep; rw [hl]; show zdoLld _ _ _ _ _ = _; unfold zdoLld; dsimp only; rw [hs]; exact if_pos hi)]
    exact (propext ⟨fun h => h.elim, fun h => h.1 hi⟩)
  · rw [zW_s (fun cal ih => by unfold zstep; rw [hl]; show zdoLld _ _ _ _ _ = _; unfold zdoLld; dsimp only; rw [hs]; exact if_neg hi)]
    exact (propext ⟨fun h => ⟨hi, h⟩, fun h => h.2⟩)
theorem zr_qldA (hl : q.2.2.2.2.2.2.lookup pc = some .aaload) (hs : zAk sh a = some (.array t)) : zWp d q scr pc la (.int x :: .ref a :: st) (sh, I, L, P) Q = (vp_in x (zAn sh a) ∧ zWp d q scr (pc + 1) la (va_rf (P a x.toNatClampNeg) :: st) (sh, I, L, P) Q) := by
  have hs := zAk_i hs
  by_cases hi : x < 0 ∨ zAn sh a ≤ x.toNatClampNeg
  · rw [zW_n (fun cal ih => by unfold zstep; rw [hl]; show zdoQld _ _ _ _ _ = _; unfold zdoQld; dsimp only; rw [hs]; exact if_pos hi)]
    exact (propext ⟨fun h => h.elim, fun h => h.1 hi⟩)
  · rw [zW_s (fun cal ih => by unfold zstep; rw [hl]; show zdoQld _ _ _ _ _ = _; unfold zdoQld; dsimp only; rw [hs]; exact if_neg hi)]
    exact (propext ⟨fun h => ⟨hi, h⟩, fun h => h.2⟩)
theorem zr_qldO {C : String} (hl : q.2.2.2.2.2.2.lookup pc = some .aaload) (hs : zAk sh a = some (.object C)) : zWp d q scr pc la (.int x :: .ref a :: st) (sh, I, L, P) Q = (vp_in x (zAn sh a) ∧ zWp d q scr (pc + 1) la (va_rf (P a x.toNatClampNeg) :: st) (sh, I, L, P) Q) := by
  have hs := zAk_i hs
  by_cases hi : x < 0 ∨ zAn sh a ≤ x.toNatClampNeg
  · rw [zW_n (fun cal ih => by unfold zstep; rw [hl]; show zdoQld _ _ _ _ _ = _; unfold zdoQld; dsimp only; rw [hs]; exact if_pos hi)]
    exact (propext ⟨fun h => h.elim, fun h => h.1 hi⟩)
  · rw [zW_s (fun cal ih => by unfold zstep; rw [hl]; show zdoQld _ _ _ _ _ = _; unfold zdoQld; dsimp only; rw [hs]; exact if_neg hi)]
    exact (propext ⟨fun h => ⟨hi, h⟩, fun h => h.2⟩)
theorem zr_ast (hl : q.2.2.2.2.2.2.lookup pc = some .iastore) (hs : zAk sh a = some .int) : zWp d q scr pc la (.int w :: .int x :: .ref a :: st) (sh, I, L, P) Q = (vp_in x (zAn sh a) ∧ zWp d q scr (pc + 1) la st (sh, zw I a (upd (I a) x.toNatClampNeg w), L, P) Q) := by
  have hs := zAk_i hs
  by_cases hi : x < 0 ∨ zAn sh a ≤ x.toNatClampNeg
  · rw [zW_n (fun cal ih => by unfold zstep; rw [hl]; show zdoAst _ _ _ _ _ = _; unfold zdoAst; dsimp only; rw [hs]; exact if_pos hi)]
    exact (propext ⟨fun h => h.elim, fun h => h.1 hi⟩)
  · rw [zW_s (fun cal ih => by unfold zstep; rw [hl]; show zdoAst _ _ _ _ _ = _; unfold zdoAst; dsimp only; rw [hs]; exact if_neg hi)]
    exact (propext ⟨fun h => ⟨hi, h⟩, fun h => h.2⟩)
theorem zr_lst (hl : q.2.2.2.2.2.2.lookup pc = some .lastore) (hs : zAk sh a = some .long) : zWp d q scr pc la (.long xl :: .int x :: .ref a :: st) (sh, I, L, P) Q = (vp_in x (zAn sh a) ∧ zWp d q scr (pc + 1) la st (sh, I, zw L a (vp_updL (L a) x.toNatClampNeg xl), P) Q) := by
  have hs := zAk_i hs
  by_cases hi : x < 0 ∨ zAn sh a ≤ x.toNatClampNeg
  · rw [zW_n (fun cal ih => by unfold zstep; rw [hl]; show zdoLst _ _ _ _ _ = _; unfold zdoLst; dsimp only; rw [hs]; exact if_pos hi)]
    exact (propext ⟨fun h => h.elim, fun h => h.1 hi⟩)
  · rw [zW_s (fun cal ih => by unfold zstep; rw [hl]; show zdoLst _ _ _ _ _ = _; unfold zdoLst; dsimp only; rw [hs]; exact if_neg hi)]
    exact (propext ⟨fun h => ⟨hi, h⟩, fun h => h.2⟩)
theorem zr_alen (hl : q.2.2.2.2.2.2.lookup pc = some .arraylength) (hs : zAk sh a = some t) : zWp d q scr pc la (.ref a :: st) (sh, I, L, P) Q = zWp d q scr (pc + 1) la (.int (Int32.ofNat (zAn sh a)) :: st) (sh, I, L, P) Q := zW_s fun cal ih => by unfold zstep; rw [hl]; show zdoLen _ _ _ _ _ _ = _; unfold zdoLen; dsimp only; rw [zAk_i hs]
theorem zr_alenX {xf : Nat → Int32} {N : Nat} (hl : q.2.2.2.2.2.2.lookup pc = some .arraylength) (hs : sh[a]? = none) (hx : zex scr a = some (N, xf)) : zWp d q scr pc la (.ref a :: st) (sh, I, L, P) Q = zWp d q scr (pc + 1) la (.int (Int32.ofNat N) :: st) (sh, I, L, P) Q := zW_s fun cal ih => by unfold zstep; rw [hl]; show zdoLen _ _ _ _ _ _ = _; unfold zdoLen; dsimp only; rw [hs]; dsimp only; rw [hx]
theorem zr_gsta (hl : q.2.2.2.2.2.2.lookup pc = some (.getstatic idx)) (hk : zlk zLGs q.2.2.2.2.1 idx = some a) : zWp d q scr pc la st h Q = zWp d q scr (pc + 3) la (.ref a :: st) h Q := zW_s fun cal ih => by unfold zstep; rw [hl]; dsimp only; rw [hk]
theorem zdc_s {cal : Nat → List Value → zMm → zRes} {ih : Nat → List Value → List Value → zMm → zRes} (hM : zM M = some y0) (hkd : zkds[M]? = some 0) (hn : as.length = y0.2.2.2.2.2.1) (hc : zcat rest ≤ 8) : zdoCall cal ih 0 M pc la (as ++ rest) h = match cal M as.reverse h with | some (v, h1) => ih (pc + 3) la (v.toList ++ rest) h1 | none => none := by
  unfold zdoCall
  rw [hM]
  dsimp only
  rw [if_neg (by rintro (z | z); rw [List.length_append] at z; omega; exact z hkd), if_pos rfl]
  have e1 : (as ++ rest).drop y0.2.2.2.2.2.1 = rest := by rw [← hn, List.drop_left]
  have e2 : (as ++ rest).take y0.2.2.2.2.2.1 = as := by rw [← hn, List.take_left]
  rw [e1, e2, if_neg (by omega)]
  rfl
theorem zdc_v {cal : Nat → List Value → zMm → zRes} {ih : Nat → List Value → List Value → zMm → zRes} {kd : Nat} (hM : zM M = some y0) (hk0 : kd ≠ 0) (hkd : zkds[M]? = some kd) (hn : as.length = y0.2.2.2.2.2.1) (hc : zcat rest ≤ 8) (hs : kd = 1 → h.1[b]? = some (.inl y0.2.2.2.2.1)) : zdoCall cal ih kd M pc la (as ++ .ref b :: rest) h = match cal M (.ref b :: as.reverse) h with | some (v, h1) => ih (pc + 3) la (v.toList ++ rest) h1 | none => none := by
  unfold zdoCall
  rw [hM]
  dsimp only
  rw [if_neg (by rintro (z | z); rw [List.length_append] at z; omega; exact z hkd), if_neg hk0]
  have e1 : (as ++ .ref b :: rest).drop y0.2.2.2.2.2.1 = .ref b :: rest := by rw [← hn, List.drop_left]
  have e2 : (as ++ .ref b :: rest).take y0.2.2.2.2.2.1 = as := by rw [← hn, List.take_left]
  rw [e1, e2]
  dsimp only
  rw [if_neg (by rintro (z | ⟨z1, z2⟩); omega; exact z2 (hs z1))]
  rfl
theorem zr_sta (hl : q.2.2.2.2.2.2.lookup pc = some (.invokestatic idx)) (hk : zlk zLMs q.2.2.2.2.1 idx = some M) (hM9 : M < 900) (hM : zM M = some y0) (hkd : zkds[M]? = some 0) (hn : as.length = y0.2.2.2.2.2.1) (hc : zcat rest ≤ 8) : zWp d q scr pc la (as ++ rest) h Q = zWM d M as.reverse h (fun r h1 => zWp d q scr (pc + 3) la (r.toList ++ rest) h1 Q) := zW_c fun cal ih => by
  unfold zstep; rw [hl]; show zdoSta _ _ _ _ _ _ _ _ = _; unfold zdoSta; rw [hk]
  dsimp only
  split
  · omega
  · omega
  · omega
  · omega
  · exact zdc_s hM hkd hn hc
theorem zr_vir (hl : q.2.2.2.2.2.2.lookup pc = some (.invokevirtual idx)) (hk : zlk zLMs q.2.2.2.2.1 idx = some M) (hM : zM M = some y0) (hkd : zkds[M]? = some 1) (hn : as.length = y0.2.2.2.2.2.1) (hc : zcat rest ≤ 8) (hs : h.1[b]? = some (.inl y0.2.2.2.2.1)) : zWp d q scr pc la (as ++ .ref b :: rest) h Q = zWM d M (.ref b :: as.reverse) h (fun r h1 => zWp d q scr (pc + 3) la (r.toList ++ rest) h1 Q) := zW_c fun cal ih => by
  unfold zstep; rw [hl]; show zdoVir _ _ _ _ _ _ _ _ = _; unfold zdoVir; rw [hk]
  exact zdc_v hM (by decide) hkd hn hc (fun _ => hs)
theorem zr_max (hl : q.2.2.2.2.2.2.lookup pc = some (.invokestatic idx)) (hk : zlk zLMs q.2.2.2.2.1 idx = some 900) (hc : zcat st ≤ 8) : zWp d q scr pc la (.int y :: .int x :: st) h Q = zWp d q scr (pc + 3) la (.int (if x < y then y else x) :: st) h Q := zW_s fun cal ih => by unfold zstep; rw [hl]; show zdoSta _ _ _ _ _ _ _ _ = _; unfold zdoSta; rw [hk]; exact if_neg (by omega)
theorem zr_min (hl : q.2.2.2.2.2.2.lookup pc = some (.invokestatic idx)) (hk : zlk zLMs q.2.2.2.2.1 idx = some 901) (hc : zcat st ≤ 8) : zWp d q scr pc la (.int y :: .int x :: st) h Q = zWp d q scr (pc + 3) la (.int (if y < x then y else x) :: st) h Q := zW_s fun cal ih => by unfold zstep; rw [hl]; show zdoSta _ _ _ _ _ _ _ _ = _; unfold zdoSta; rw [hk]; exact if_neg (by omega)
theorem zr_abs (hl : q.2.2.2.2.2.2.lookup pc = some (.invokestatic idx)) (hk : zlk zLMs q.2.2.2.2.1 idx = some 902) (hc : zcat st ≤ 8) : zWp d q scr pc la (.int x :: st) h Q = zWp d q scr (pc + 3) la (.int (if 0 ≤ x then x else 0 - x) :: st) h Q := zW_s fun cal ih => by unfold zstep; rw [hl]; show zdoSta _ _ _ _ _ _ _ _ = _; unfold zdoSta; rw [hk]; exact if_neg (by omega)
theorem zr_cpyI (hl : q.2.2.2.2.2.2.lookup pc = some (.invokestatic idx)) (hk : zlk zLMs q.2.2.2.2.1 idx = some 903) (hc : zcat st ≤ 8) (ha : zAk sh a = some .int) (hb : zAk sh b = some .int) (h1 : 0 ≤ x) (h2 : 0 ≤ y) (h3 : 0 ≤ w) (h4 : x.toNatClampNeg + w.toNatClampNeg ≤ zAn sh a) (h5 : y.toNatClampNeg + w.toNatClampNeg ≤ zAn sh b) : zWp d q scr pc la (.int w :: .int y :: .ref b :: .int x :: .ref a :: st) (sh, I, L, P) Q = zWp d q scr (pc + 3) la st (sh, zw I b (va_cpy (I a) (I b) x.toNatClampNeg y.toNatClampNeg w.toNatClampNeg), L, P) Q := zW_s fun cal ih => by
  unfold zstep; rw [hl]; show zdoSta _ _ _ _ _ _ _ _ = _; unfold zdoSta; rw [hk]
  show zdoCpy _ _ _ _ _ = _
  unfold zdoCpy
  dsimp only
  rw [if_neg (by rintro (z | z | z | z); exact absurd h1 (Int32.not_le.mpr z); exact absurd h2 (Int32.not_le.mpr z); exact absurd h3 (Int32.not_le.mpr z); omega), zAk_i ha, zAk_i hb]
  exact if_pos ⟨h4, h5⟩
theorem zr_cpyL (hl : q.2.2.2.2.2.2.lookup pc = some (.invokestatic idx)) (hk : zlk zLMs q.2.2.2.2.1 idx = some 903) (hc : zcat st ≤ 8) (ha : zAk sh a = some .long) (hb : zAk sh b = some .long) (h1 : 0 ≤ x) (h2 : 0 ≤ y) (h3 : 0 ≤ w) (h4 : x.toNatClampNeg + w.toNatClampNeg ≤ zAn sh a) (h5 : y.toNatClampNeg + w.toNatClampNeg ≤ zAn sh b) : zWp d q scr pc la (.int w :: .int y :: .ref b :: .int x :: .ref a :: st) (sh, I, L, P) Q = zWp d q scr (pc + 3) la st (sh, I, zw L b (va_cpy (L a) (L b) x.toNatClampNeg y.toNatClampNeg w.toNatClampNeg), P) Q := zW_s fun cal ih => by
  unfold zstep; rw [hl]; show zdoSta _ _ _ _ _ _ _ _ = _; unfold zdoSta; rw [hk]
  show zdoCpy _ _ _ _ _ = _
  unfold zdoCpy
  dsimp only
  rw [if_neg (by rintro (z | z | z | z); exact absurd h1 (Int32.not_le.mpr z); exact absurd h2 (Int32.not_le.mpr z); exact absurd h3 (Int32.not_le.mpr z); omega), zAk_i ha, zAk_i hb]
  exact if_pos ⟨h4, h5⟩
theorem zr_iret (hl : q.2.2.2.2.2.2.lookup pc = some .ireturn) (hr : q.2.2.2.1 = some .int) : zWp d q scr pc la [.int x] h Q = Q (some (.int x)) h := zW_r fun cal ih => by unfold zstep; rw [hl]; exact if_pos (Or.inl hr)
theorem zr_zret (hl : q.2.2.2.2.2.2.lookup pc = some .ireturn) (hr : q.2.2.2.1 = some .boolean) (hx : x = 0 ∨ x = 1) : zWp d q scr pc la [.int x] h Q = Q (some (.int x)) h := zW_r fun cal ih => by unfold zstep; rw [hl]; exact if_pos (Or.inr ⟨hr, hx⟩)
theorem zr_lret (hl : q.2.2.2.2.2.2.lookup pc = some .lreturn) (hr : q.2.2.2.1 = some .long) : zWp d q scr pc la [.long xl] h Q = Q (some (.long xl)) h := zW_r fun cal ih => by unfold zstep; rw [hl]; exact if_pos hr
theorem zr_aret {C : String} (hl : q.2.2.2.2.2.2.lookup pc = some .areturn) (hr : q.2.2.2.1 = some (.object C)) : zWp d q scr pc la [.ref a] h Q = Q (some (.ref a)) h := zW_r fun cal ih => by unfold zstep; rw [hl]; dsimp only; rw [hr]; rfl
theorem zr_vret (hl : q.2.2.2.2.2.2.lookup pc = some .return_) (hr : q.2.2.2.1 = none) : zWp d q scr pc la [] h Q = Q none h := zW_r fun cal ih => by unfold zstep; rw [hl]; exact if_pos hr
end RU
theorem zpush_s {v : Value} {st : List Value} : (some v).toList ++ st = v :: st := rfl
theorem zpush_n {st : List Value} : (none : Option Value).toList ++ st = st := rfl
theorem zrf_s {a : Nat} : va_rf (some a) = .ref a := rfl
