theorem E_X8_fits : ∀ (d : Nat) (a0 : Int32) (a1 : Int32) (a2 : Int32) (a3 : Int32) (h : zMm) (Q : Option Value → zMm → Prop), zWM (d + 1) 58 [.int a0, .int a1, .int a2, .int a3] h Q = zWp d zi_58 none 0 [.int a0, .int a1, .int a2, .int a3] [] h Q := fun d a0 a1 a2 a3 h Q => zW_M m_58 (Nat.le_of_ble_eq_true rfl) rfl
set_option maxRecDepth 100000 in
theorem R_X8_fits :
    (∀ (d : Nat) (l0 : Int32) (l1 : Value) (l2 : Value) (l3 : Value)  (h : zMm) (Q : Option Value → zMm → Prop), zWp d zi_58 none 0 [.int l0, l1, l2, l3] [] h Q = zWp d zi_58 none 1 [.int l0, l1, l2, l3] [.int l0] h Q) ∧
    (∀ (d : Nat) (l0 : Value) (l1 : Value) (l2 : Value) (l3 : Value) (x0 : Int32) (h : zMm) (Q : Option Value → zMm → Prop), zWp d zi_58 none 1 [l0, l1, l2, l3] [.int x0] h Q = zWp d zi_58 none 2 [l0, l1, l2, l3] [.int 1, .int x0] h Q) ∧
    (∀ (d : Nat) (l0 : Value) (l1 : Value) (l2 : Value) (l3 : Value) (x1 : Int32) (x0 : Int32) (h : zMm) (Q : Option Value → zMm → Prop), zWp d zi_58 none 2 [l0, l1, l2, l3] [.int x1, .int x0] h Q = if x0 < x1 then zWp d zi_58 none 46 [l0, l1, l2, l3] [] h Q else zWp d zi_58 none 5 [l0, l1, l2, l3] [] h Q) ∧
    (∀ (d : Nat) (l0 : Int32) (l1 : Value) (l2 : Value) (l3 : Value)  (h : zMm) (Q : Option Value → zMm → Prop), zWp d zi_58 none 5 [.int l0, l1, l2, l3] [] h Q = zWp d zi_58 none 6 [.int l0, l1, l2, l3] [.int l0] h Q) ∧
    (∀ (d : Nat) (l0 : Value) (l1 : Value) (l2 : Value) (l3 : Value) (x0 : Int32) (h : zMm) (Q : Option Value → zMm → Prop), zWp d zi_58 none 6 [l0, l1, l2, l3] [.int x0] h Q = zWp d zi_58 none 8 [l0, l1, l2, l3] [.int 9, .int x0] h Q) ∧
    (∀ (d : Nat) (l0 : Value) (l1 : Value) (l2 : Value) (l3 : Value) (x1 : Int32) (x0 : Int32) (h : zMm) (Q : Option Value → zMm → Prop), zWp d zi_58 none 8 [l0, l1, l2, l3] [.int x1, .int x0] h Q = if x1 < x0 then zWp d zi_58 none 46 [l0, l1, l2, l3] [] h Q else zWp d zi_58 none 11 [l0, l1, l2, l3] [] h Q) ∧
    (∀ (d : Nat) (l0 : Value) (l1 : Int32) (l2 : Value) (l3 : Value)  (h : zMm) (Q : Option Value → zMm → Prop), zWp d zi_58 none 11 [l0, .int l1, l2, l3] [] h Q = zWp d zi_58 none 12 [l0, .int l1, l2, l3] [.int l1] h Q) ∧
    (∀ (d : Nat) (l0 : Value) (l1 : Value) (l2 : Value) (l3 : Value) (x0 : Int32) (h : zMm) (Q : Option Value → zMm → Prop), zWp d zi_58 none 12 [l0, l1, l2, l3] [.int x0] h Q = if x0 < 0 then zWp d zi_58 none 46 [l0, l1, l2, l3] [] h Q else zWp d zi_58 none 15 [l0, l1, l2, l3] [] h Q) ∧
    (∀ (d : Nat) (l0 : Value) (l1 : Int32) (l2 : Value) (l3 : Value)  (h : zMm) (Q : Option Value → zMm → Prop), zWp d zi_58 none 15 [l0, .int l1, l2, l3] [] h Q = zWp d zi_58 none 16 [l0, .int l1, l2, l3] [.int l1] h Q) ∧
    (∀ (d : Nat) (l0 : Int32) (l1 : Value) (l2 : Value) (l3 : Value) (x0 : Int32) (h : zMm) (Q : Option Value → zMm → Prop), zWp d zi_58 none 16 [.int l0, l1, l2, l3] [.int x0] h Q = zWp d zi_58 none 17 [.int l0, l1, l2, l3] [.int l0, .int x0] h Q) ∧
    (∀ (d : Nat) (l0 : Value) (l1 : Value) (l2 : Value) (l3 : Value) (x1 : Int32) (x0 : Int32) (h : zMm) (Q : Option Value → zMm → Prop), zWp d zi_58 none 17 [l0, l1, l2, l3] [.int x1, .int x0] h Q = if x1 < x0 then zWp d zi_58 none 46 [l0, l1, l2, l3] [] h Q else zWp d zi_58 none 20 [l0, l1, l2, l3] [] h Q) ∧
    (∀ (d : Nat) (l0 : Value) (l1 : Value) (l2 : Int32) (l3 : Value)  (h : zMm) (Q : Option Value → zMm → Prop), zWp d zi_58 none 20 [l0, l1, .int l2, l3] [] h Q = zWp d zi_58 none 21 [l0, l1, .int l2, l3] [.int l2] h Q) ∧
    (∀ (d : Nat) (l0 : Value) (l1 : Value) (l2 : Value) (l3 : Value) (x0 : Int32) (h : zMm) (Q : Option Value → zMm → Prop), zWp d zi_58 none 21 [l0, l1, l2, l3] [.int x0] h Q = zWp d zi_58 none 23 [l0, l1, l2, l3] [.int (-4), .int x0] h Q) ∧
    (∀ (d : Nat) (l0 : Value) (l1 : Value) (l2 : Value) (l3 : Value) (x1 : Int32) (x0 : Int32) (h : zMm) (Q : Option Value → zMm → Prop), zWp d zi_58 none 23 [l0, l1, l2, l3] [.int x1, .int x0] h Q = if x0 < x1 then zWp d zi_58 none 46 [l0, l1, l2, l3] [] h Q else zWp d zi_58 none 26 [l0, l1, l2, l3] [] h Q) ∧
    (∀ (d : Nat) (l0 : Value) (l1 : Value) (l2 : Int32) (l3 : Value)  (h : zMm) (Q : Option Value → zMm → Prop), zWp d zi_58 none 26 [l0, l1, .int l2, l3] [] h Q = zWp d zi_58 none 27 [l0, l1, .int l2, l3] [.int l2] h Q) ∧
    (∀ (d : Nat) (l0 : Value) (l1 : Value) (l2 : Value) (l3 : Value) (x0 : Int32) (h : zMm) (Q : Option Value → zMm → Prop), zWp d zi_58 none 27 [l0, l1, l2, l3] [.int x0] h Q = zWp d zi_58 none 28 [l0, l1, l2, l3] [.int 4, .int x0] h Q) ∧
    (∀ (d : Nat) (l0 : Value) (l1 : Value) (l2 : Value) (l3 : Value) (x1 : Int32) (x0 : Int32) (h : zMm) (Q : Option Value → zMm → Prop), zWp d zi_58 none 28 [l0, l1, l2, l3] [.int x1, .int x0] h Q = if x1 < x0 then zWp d zi_58 none 46 [l0, l1, l2, l3] [] h Q else zWp d zi_58 none 31 [l0, l1, l2, l3] [] h Q) ∧
    (∀ (d : Nat) (l0 : Value) (l1 : Value) (l2 : Value) (l3 : Int32)  (h : zMm) (Q : Option Value → zMm → Prop), zWp d zi_58 none 31 [l0, l1, l2, .int l3] [] h Q = zWp d zi_58 none 32 [l0, l1, l2, .int l3] [.int l3] h Q) ∧
    (∀ (d : Nat) (l0 : Value) (l1 : Value) (l2 : Value) (l3 : Value) (x0 : Int32) (h : zMm) (Q : Option Value → zMm → Prop), zWp d zi_58 none 32 [l0, l1, l2, l3] [.int x0] h Q = zWp d zi_58 none 34 [l0, l1, l2, l3] [.int (-4), .int x0] h Q) ∧
    (∀ (d : Nat) (l0 : Value) (l1 : Value) (l2 : Value) (l3 : Value) (x1 : Int32) (x0 : Int32) (h : zMm) (Q : Option Value → zMm → Prop), zWp d zi_58 none 34 [l0, l1, l2, l3] [.int x1, .int x0] h Q = if x0 < x1 then zWp d zi_58 none 46 [l0, l1, l2, l3] [] h Q else zWp d zi_58 none 37 [l0, l1, l2, l3] [] h Q) ∧
    (∀ (d : Nat) (l0 : Value) (l1 : Value) (l2 : Value) (l3 : Int32)  (h : zMm) (Q : Option Value → zMm → Prop), zWp d zi_58 none 37 [l0, l1, l2, .int l3] [] h Q = zWp d zi_58 none 38 [l0, l1, l2, .int l3] [.int l3] h Q) ∧
    (∀ (d : Nat) (l0 : Value) (l1 : Value) (l2 : Value) (l3 : Value) (x0 : Int32) (h : zMm) (Q : Option Value → zMm → Prop), zWp d zi_58 none 38 [l0, l1, l2, l3] [.int x0] h Q = zWp d zi_58 none 39 [l0, l1, l2, l3] [.int 4, .int x0] h Q) ∧
    (∀ (d : Nat) (l0 : Value) (l1 : Value) (l2 : Value) (l3 : Value) (x1 : Int32) (x0 : Int32) (h : zMm) (Q : Option Value → zMm → Prop), zWp d zi_58 none 39 [l0, l1, l2, l3] [.int x1, .int x0] h Q = if x1 < x0 then zWp d zi_58 none 46 [l0, l1, l2, l3] [] h Q else zWp d zi_58 none 42 [l0, l1, l2, l3] [] h Q) ∧
    (∀ (d : Nat) (l0 : Value) (l1 : Value) (l2 : Value) (l3 : Value)  (h : zMm) (Q : Option Value → zMm → Prop), zWp d zi_58 none 42 [l0, l1, l2, l3] [] h Q = zWp d zi_58 none 43 [l0, l1, l2, l3] [.int 1] h Q) ∧
    (∀ (d : Nat) (l0 : Value) (l1 : Value) (l2 : Value) (l3 : Value) (x0 : Int32) (h : zMm) (Q : Option Value → zMm → Prop), zWp d zi_58 none 43 [l0, l1, l2, l3] [.int x0] h Q = zWp d zi_58 none 47 [l0, l1, l2, l3] [.int x0] h Q) ∧
    (∀ (d : Nat) (l0 : Value) (l1 : Value) (l2 : Value) (l3 : Value)  (h : zMm) (Q : Option Value → zMm → Prop), zWp d zi_58 none 46 [l0, l1, l2, l3] [] h Q = zWp d zi_58 none 47 [l0, l1, l2, l3] [.int 0] h Q) ∧
    (∀ (d : Nat) (l0 : Value) (l1 : Value) (l2 : Value) (l3 : Value) (x0 : Int32) (h : zMm) (Q : Option Value → zMm → Prop), x0 = 0 ∨ x0 = 1 → zWp d zi_58 none 47 [l0, l1, l2, l3] [.int x0] h Q = Q (some (.int x0)) h) :=
  ⟨(fun d l0 l1 l2 l3  h Q => zr_iload_n rfl rfl),
   (fun d l0 l1 l2 l3 x0 h Q => zr_iconst rfl (by decide)),
   (fun d l0 l1 l2 l3 x1 x0 h Q => zr_ic_lt rfl (by decide)),
   (fun d l0 l1 l2 l3  h Q => zr_iload_n rfl rfl),
   (fun d l0 l1 l2 l3 x0 h Q => zr_bipush rfl (by decide)),
   (fun d l0 l1 l2 l3 x1 x0 h Q => zr_ic_gt rfl (by decide)),
   (fun d l0 l1 l2 l3  h Q => zr_iload_n rfl rfl),
   (fun d l0 l1 l2 l3 x0 h Q => zr_if_lt rfl (by decide)),
   (fun d l0 l1 l2 l3  h Q => zr_iload_n rfl rfl),
   (fun d l0 l1 l2 l3 x0 h Q => zr_iload_n rfl rfl),
   (fun d l0 l1 l2 l3 x1 x0 h Q => zr_ic_gt rfl (by decide)),
   (fun d l0 l1 l2 l3  h Q => zr_iload_n rfl rfl),
   (fun d l0 l1 l2 l3 x0 h Q => zr_bipush rfl (by decide)),
   (fun d l0 l1 l2 l3 x1 x0 h Q => zr_ic_lt rfl (by decide)),
   (fun d l0 l1 l2 l3  h Q => zr_iload_n rfl rfl),
   (fun d l0 l1 l2 l3 x0 h Q => zr_iconst rfl (by decide)),
   (fun d l0 l1 l2 l3 x1 x0 h Q => zr_ic_gt rfl (by decide)),
   (fun d l0 l1 l2 l3  h Q => zr_iload_n rfl rfl),
   (fun d l0 l1 l2 l3 x0 h Q => zr_bipush rfl (by decide)),
   (fun d l0 l1 l2 l3 x1 x0 h Q => zr_ic_lt rfl (by decide)),
   (fun d l0 l1 l2 l3  h Q => zr_iload_n rfl rfl),
   (fun d l0 l1 l2 l3 x0 h Q => zr_iconst rfl (by decide)),
   (fun d l0 l1 l2 l3 x1 x0 h Q => zr_ic_gt rfl (by decide)),
   (fun d l0 l1 l2 l3  h Q => zr_iconst rfl (by decide)),
   (fun d l0 l1 l2 l3 x0 h Q => zr_goto rfl (by decide)),
   (fun d l0 l1 l2 l3  h Q => zr_iconst rfl (by decide)),
   (fun d l0 l1 l2 l3 x0 h Q p0 => zr_zret rfl rfl p0)⟩
theorem E_X8_has : ∀ (d : Nat) (a0 : Nat) (a1 : Int32) (h : zMm) (Q : Option Value → zMm → Prop), zWM (d + 1) 59 [.ref a0, .int a1] h Q = zWp d zi_59 none 0 [.ref a0, .int a1] [] h Q := fun d a0 a1 h Q => zW_M m_59 (Nat.le_of_ble_eq_true rfl) rfl
set_option maxRecDepth 100000 in
theorem R_X8_has :
    (∀ (d : Nat) (l0 : Value) (l1 : Int32)  (h : zMm) (Q : Option Value → zMm → Prop), zWp d zi_59 none 0 [l0, .int l1] [] h Q = zWp d zi_59 none 1 [l0, .int l1] [.int l1] h Q) ∧
    (∀ (d : Nat) (l0 : Value) (l1 : Value) (x0 : Int32) (h : zMm) (Q : Option Value → zMm → Prop), zWp d zi_59 none 1 [l0, l1] [.int x0] h Q = if x0 < 0 then zWp d zi_59 none 16 [l0, l1] [] h Q else zWp d zi_59 none 4 [l0, l1] [] h Q) ∧
    (∀ (d : Nat) (l0 : Value) (l1 : Int32)  (h : zMm) (Q : Option Value → zMm → Prop), zWp d zi_59 none 4 [l0, .int l1] [] h Q = zWp d zi_59 none 5 [l0, .int l1] [.int l1] h Q) ∧
    (∀ (d : Nat) (l0 : Nat) (l1 : Value) (x0 : Int32) (h : zMm) (Q : Option Value → zMm → Prop), zWp d zi_59 none 5 [.ref l0, l1] [.int x0] h Q = zWp d zi_59 none 6 [.ref l0, l1] [.ref l0, .int x0] h Q) ∧
    (∀ (d : Nat) (l0 : Value) (l1 : Value) (x1 : Nat) (x0 : Int32) (I : Nat → Nat → Int32) (L : Nat → Nat → Int64) (P : Nat → Nat → Option Nat) (Q : Option Value → zMm → Prop), zSH[x1]? = some (.inl 8) → zWp d zi_59 none 6 [l0, l1] [.ref x1, .int x0] (zSH, I, L, P) Q = zWp d zi_59 none 9 [l0, l1] [.int (I x1 6), .int x0] (zSH, I, L, P) Q) ∧
    (∀ (d : Nat) (l0 : Value) (l1 : Value) (x1 : Int32) (x0 : Int32) (h : zMm) (Q : Option Value → zMm → Prop), zWp d zi_59 none 9 [l0, l1] [.int x1, .int x0] h Q = if x1 ≤ x0 then zWp d zi_59 none 16 [l0, l1] [] h Q else zWp d zi_59 none 12 [l0, l1] [] h Q) ∧
    (∀ (d : Nat) (l0 : Value) (l1 : Value)  (h : zMm) (Q : Option Value → zMm → Prop), zWp d zi_59 none 12 [l0, l1] [] h Q = zWp d zi_59 none 13 [l0, l1] [.int 1] h Q) ∧
    (∀ (d : Nat) (l0 : Value) (l1 : Value) (x0 : Int32) (h : zMm) (Q : Option Value → zMm → Prop), zWp d zi_59 none 13 [l0, l1] [.int x0] h Q = zWp d zi_59 none 17 [l0, l1] [.int x0] h Q) ∧
    (∀ (d : Nat) (l0 : Value) (l1 : Value)  (h : zMm) (Q : Option Value → zMm → Prop), zWp d zi_59 none 16 [l0, l1] [] h Q = zWp d zi_59 none 17 [l0, l1] [.int 0] h Q) ∧
    (∀ (d : Nat) (l0 : Value) (l1 : Value) (x0 : Int32) (h : zMm) (Q : Option Value → zMm → Prop), x0 = 0 ∨ x0 = 1 → zWp d zi_59 none 17 [l0, l1] [.int x0] h Q = Q (some (.int x0)) h) :=
  ⟨(fun d l0 l1  h Q => zr_iload_n rfl rfl),
   (fun d l0 l1 x0 h Q => zr_if_lt rfl (by decide)),
   (fun d l0 l1  h Q => zr_iload_n rfl rfl),
   (fun d l0 l1 x0 h Q => zr_aload_n rfl rfl),
   (fun d l0 l1 x1 x0 I L P Q p0 => zr_getI rfl lf_8_32 (fun _ _ _ => rfl) p0),
   (fun d l0 l1 x1 x0 h Q => zr_ic_ge rfl (by decide)),
   (fun d l0 l1  h Q => zr_iconst rfl (by decide)),
   (fun d l0 l1 x0 h Q => zr_goto rfl (by decide)),
   (fun d l0 l1  h Q => zr_iconst rfl (by decide)),
   (fun d l0 l1 x0 h Q p0 => zr_zret rfl rfl p0)⟩
theorem E_X8_raise : ∀ (d : Nat) (a0 : Nat) (a1 : Int32) (a2 : Int32) (a3 : Int32) (a4 : Int32) (h : zMm) (Q : Option Value → zMm → Prop), zWM (d + 1) 60 [.ref a0, .int a1, .int a2, .int a3, .int a4] h Q = zWp d zi_60 none 0 [.ref a0, .int a1, .int a2, .int a3, .int a4] [] h Q := fun d a0 a1 a2 a3 a4 h Q => zW_M m_60 (Nat.le_of_ble_eq_true rfl) rfl
set_option maxRecDepth 100000 in
theorem R_X8_raise :
    (∀ (d : Nat) (l0 : Nat) (l1 : Value) (l2 : Value) (l3 : Value) (l4 : Value)  (h : zMm) (Q : Option Value → zMm → Prop), zWp d zi_60 none 0 [.ref l0, l1, l2, l3, l4] [] h Q = zWp d zi_60 none 1 [.ref l0, l1, l2, l3, l4] [.ref l0] h Q) ∧
    (∀ (d : Nat) (l0 : Value) (l1 : Value) (l2 : Value) (l3 : Value) (l4 : Value) (x0 : Nat) (I : Nat → Nat → Int32) (L : Nat → Nat → Int64) (P : Nat → Nat → Option Nat) (Q : Option Value → zMm → Prop), zSH[x0]? = some (.inl 8) → zWp d zi_60 none 1 [l0, l1, l2, l3, l4] [.ref x0] (zSH, I, L, P) Q = zWp d zi_60 none 4 [l0, l1, l2, l3, l4] [.int (I x0 6)] (zSH, I, L, P) Q) ∧
    (∀ (d : Nat) (l0 : Value) (l1 : Value) (l2 : Value) (l3 : Value) (l4 : Value) (x0 : Int32) (h : zMm) (Q : Option Value → zMm → Prop), zWp d zi_60 none 4 [l0, l1, l2, l3, l4] [.int x0] h Q = zWp d zi_60 none 6 [l0, l1, l2, l3, l4] [.int 24, .int x0] h Q) ∧
    (∀ (d : Nat) (l0 : Value) (l1 : Value) (l2 : Value) (l3 : Value) (l4 : Value) (x1 : Int32) (x0 : Int32) (h : zMm) (Q : Option Value → zMm → Prop), zWp d zi_60 none 6 [l0, l1, l2, l3, l4] [.int x1, .int x0] h Q = if x0 < x1 then zWp d zi_60 none 10 [l0, l1, l2, l3, l4] [] h Q else zWp d zi_60 none 9 [l0, l1, l2, l3, l4] [] h Q) ∧
    (∀ (d : Nat) (l0 : Value) (l1 : Value) (l2 : Value) (l3 : Value) (l4 : Value)  (h : zMm) (Q : Option Value → zMm → Prop), zWp d zi_60 none 9 [l0, l1, l2, l3, l4] [] h Q = Q none h) ∧
    (∀ (d : Nat) (l0 : Nat) (l1 : Value) (l2 : Value) (l3 : Value) (l4 : Value)  (h : zMm) (Q : Option Value → zMm → Prop), zWp d zi_60 none 10 [.ref l0, l1, l2, l3, l4] [] h Q = zWp d zi_60 none 11 [.ref l0, l1, l2, l3, l4] [.ref l0] h Q) ∧
    (∀ (d : Nat) (l0 : Value) (l1 : Value) (l2 : Value) (l3 : Value) (l4 : Value) (x0 : Nat) (I : Nat → Nat → Int32) (L : Nat → Nat → Int64) (P : Nat → Nat → Option Nat) (Q : Option Value → zMm → Prop), zSH[x0]? = some (.inl 8) → zWp d zi_60 none 11 [l0, l1, l2, l3, l4] [.ref x0] (zSH, I, L, P) Q = zWp d zi_60 none 14 [l0, l1, l2, l3, l4] [va_rf (P x0 0)] (zSH, I, L, P) Q) ∧
    (∀ (d : Nat) (l0 : Nat) (l1 : Value) (l2 : Value) (l3 : Value) (l4 : Value) (x0 : Nat) (h : zMm) (Q : Option Value → zMm → Prop), zWp d zi_60 none 14 [.ref l0, l1, l2, l3, l4] [.ref x0] h Q = zWp d zi_60 none 15 [.ref l0, l1, l2, l3, l4] [.ref l0, .ref x0] h Q) ∧
    (∀ (d : Nat) (l0 : Value) (l1 : Value) (l2 : Value) (l3 : Value) (l4 : Value) (x1 : Nat) (x0 : Nat) (I : Nat → Nat → Int32) (L : Nat → Nat → Int64) (P : Nat → Nat → Option Nat) (Q : Option Value → zMm → Prop), zSH[x1]? = some (.inl 8) → zWp d zi_60 none 15 [l0, l1, l2, l3, l4] [.ref x1, .ref x0] (zSH, I, L, P) Q = zWp d zi_60 none 18 [l0, l1, l2, l3, l4] [.int (I x1 6), .ref x0] (zSH, I, L, P) Q) ∧
    (∀ (d : Nat) (l0 : Value) (l1 : Int32) (l2 : Value) (l3 : Value) (l4 : Value) (x1 : Int32) (x0 : Nat) (h : zMm) (Q : Option Value → zMm → Prop), zWp d zi_60 none 18 [l0, .int l1, l2, l3, l4] [.int x1, .ref x0] h Q = zWp d zi_60 none 19 [l0, .int l1, l2, l3, l4] [.int l1, .int x1, .ref x0] h Q) ∧
    (∀ (d : Nat) (l0 : Value) (l1 : Value) (l2 : Value) (l3 : Value) (l4 : Value) (x2 : Int32) (x1 : Int32) (x0 : Nat) (I : Nat → Nat → Int32) (L : Nat → Nat → Int64) (P : Nat → Nat → Option Nat) (Q : Option Value → zMm → Prop), zAk zSH x0 = some .int → zWp d zi_60 none 19 [l0, l1, l2, l3, l4] [.int x2, .int x1, .ref x0] (zSH, I, L, P) Q = (vp_in x1 (zAn zSH x0) ∧ zWp d zi_60 none 20 [l0, l1, l2, l3, l4] [] (zSH, zw I x0 (upd (I x0) x1.toNatClampNeg x2), L, P) Q)) ∧
    (∀ (d : Nat) (l0 : Nat) (l1 : Value) (l2 : Value) (l3 : Value) (l4 : Value)  (h : zMm) (Q : Option Value → zMm → Prop), zWp d zi_60 none 20 [.ref l0, l1, l2, l3, l4] [] h Q = zWp d zi_60 none 21 [.ref l0, l1, l2, l3, l4] [.ref l0] h Q) ∧
    (∀ (d : Nat) (l0 : Value) (l1 : Value) (l2 : Value) (l3 : Value) (l4 : Value) (x0 : Nat) (I : Nat → Nat → Int32) (L : Nat → Nat → Int64) (P : Nat → Nat → Option Nat) (Q : Option Value → zMm → Prop), zSH[x0]? = some (.inl 8) → zWp d zi_60 none 21 [l0, l1, l2, l3, l4] [.ref x0] (zSH, I, L, P) Q = zWp d zi_60 none 24 [l0, l1, l2, l3, l4] [va_rf (P x0 1)] (zSH, I, L, P) Q) ∧
    (∀ (d : Nat) (l0 : Nat) (l1 : Value) (l2 : Value) (l3 : Value) (l4 : Value) (x0 : Nat) (h : zMm) (Q : Option Value → zMm → Prop), zWp d zi_60 none 24 [.ref l0, l1, l2, l3, l4] [.ref x0] h Q = zWp d zi_60 none 25 [.ref l0, l1, l2, l3, l4] [.ref l0, .ref x0] h Q) ∧
    (∀ (d : Nat) (l0 : Value) (l1 : Value) (l2 : Value) (l3 : Value) (l4 : Value) (x1 : Nat) (x0 : Nat) (I : Nat → Nat → Int32) (L : Nat → Nat → Int64) (P : Nat → Nat → Option Nat) (Q : Option Value → zMm → Prop), zSH[x1]? = some (.inl 8) → zWp d zi_60 none 25 [l0, l1, l2, l3, l4] [.ref x1, .ref x0] (zSH, I, L, P) Q = zWp d zi_60 none 28 [l0, l1, l2, l3, l4] [.int (I x1 6), .ref x0] (zSH, I, L, P) Q) ∧
    (∀ (d : Nat) (l0 : Value) (l1 : Value) (l2 : Int32) (l3 : Value) (l4 : Value) (x1 : Int32) (x0 : Nat) (h : zMm) (Q : Option Value → zMm → Prop), zWp d zi_60 none 28 [l0, l1, .int l2, l3, l4] [.int x1, .ref x0] h Q = zWp d zi_60 none 29 [l0, l1, .int l2, l3, l4] [.int l2, .int x1, .ref x0] h Q) ∧
    (∀ (d : Nat) (l0 : Value) (l1 : Value) (l2 : Value) (l3 : Value) (l4 : Value) (x2 : Int32) (x1 : Int32) (x0 : Nat) (I : Nat → Nat → Int32) (L : Nat → Nat → Int64) (P : Nat → Nat → Option Nat) (Q : Option Value → zMm → Prop), zAk zSH x0 = some .int → zWp d zi_60 none 29 [l0, l1, l2, l3, l4] [.int x2, .int x1, .ref x0] (zSH, I, L, P) Q = (vp_in x1 (zAn zSH x0) ∧ zWp d zi_60 none 30 [l0, l1, l2, l3, l4] [] (zSH, zw I x0 (upd (I x0) x1.toNatClampNeg x2), L, P) Q)) ∧
    (∀ (d : Nat) (l0 : Nat) (l1 : Value) (l2 : Value) (l3 : Value) (l4 : Value)  (h : zMm) (Q : Option Value → zMm → Prop), zWp d zi_60 none 30 [.ref l0, l1, l2, l3, l4] [] h Q = zWp d zi_60 none 31 [.ref l0, l1, l2, l3, l4] [.ref l0] h Q) ∧
    (∀ (d : Nat) (l0 : Value) (l1 : Value) (l2 : Value) (l3 : Value) (l4 : Value) (x0 : Nat) (I : Nat → Nat → Int32) (L : Nat → Nat → Int64) (P : Nat → Nat → Option Nat) (Q : Option Value → zMm → Prop), zSH[x0]? = some (.inl 8) → zWp d zi_60 none 31 [l0, l1, l2, l3, l4] [.ref x0] (zSH, I, L, P) Q = zWp d zi_60 none 34 [l0, l1, l2, l3, l4] [va_rf (P x0 2)] (zSH, I, L, P) Q) ∧
    (∀ (d : Nat) (l0 : Value) (l1 : Value) (l2 : Value) (l3 : Value) (l4 : Value) (x0 : Nat) (h : zMm) (Q : Option Value → zMm → Prop), zWp d zi_60 none 34 [l0, l1, l2, l3, l4] [.ref x0] h Q = zWp d zi_60 none 35 [l0, l1, l2, l3, l4] [.int 0, .ref x0] h Q) ∧
    (∀ (d : Nat) (l0 : Value) (l1 : Value) (l2 : Value) (l3 : Value) (l4 : Value) (x1 : Int32) (x0 : Nat) (I : Nat → Nat → Int32) (L : Nat → Nat → Int64) (P : Nat → Nat → Option Nat) (Q : Option Value → zMm → Prop), zAk zSH x0 = some (.array .int) → zWp d zi_60 none 35 [l0, l1, l2, l3, l4] [.int x1, .ref x0] (zSH, I, L, P) Q = (vp_in x1 (zAn zSH x0) ∧ zWp d zi_60 none 36 [l0, l1, l2, l3, l4] [va_rf (P x0 x1.toNatClampNeg)] (zSH, I, L, P) Q)) ∧
    (∀ (d : Nat) (l0 : Nat) (l1 : Value) (l2 : Value) (l3 : Value) (l4 : Value) (x0 : Nat) (h : zMm) (Q : Option Value → zMm → Prop), zWp d zi_60 none 36 [.ref l0, l1, l2, l3, l4] [.ref x0] h Q = zWp d zi_60 none 37 [.ref l0, l1, l2, l3, l4] [.ref l0, .ref x0] h Q) ∧
    (∀ (d : Nat) (l0 : Value) (l1 : Value) (l2 : Value) (l3 : Value) (l4 : Value) (x1 : Nat) (x0 : Nat) (I : Nat → Nat → Int32) (L : Nat → Nat → Int64) (P : Nat → Nat → Option Nat) (Q : Option Value → zMm → Prop), zSH[x1]? = some (.inl 8) → zWp d zi_60 none 37 [l0, l1, l2, l3, l4] [.ref x1, .ref x0] (zSH, I, L, P) Q = zWp d zi_60 none 40 [l0, l1, l2, l3, l4] [.int (I x1 6), .ref x0] (zSH, I, L, P) Q) ∧
    (∀ (d : Nat) (l0 : Value) (l1 : Value) (l2 : Value) (l3 : Int32) (l4 : Value) (x1 : Int32) (x0 : Nat) (h : zMm) (Q : Option Value → zMm → Prop), zWp d zi_60 none 40 [l0, l1, l2, .int l3, l4] [.int x1, .ref x0] h Q = zWp d zi_60 none 41 [l0, l1, l2, .int l3, l4] [.int l3, .int x1, .ref x0] h Q) ∧
    (∀ (d : Nat) (l0 : Value) (l1 : Value) (l2 : Value) (l3 : Value) (l4 : Value) (x2 : Int32) (x1 : Int32) (x0 : Nat) (I : Nat → Nat → Int32) (L : Nat → Nat → Int64) (P : Nat → Nat → Option Nat) (Q : Option Value → zMm → Prop), zAk zSH x0 = some .int → zWp d zi_60 none 41 [l0, l1, l2, l3, l4] [.int x2, .int x1, .ref x0] (zSH, I, L, P) Q = (vp_in x1 (zAn zSH x0) ∧ zWp d zi_60 none 42 [l0, l1, l2, l3, l4] [] (zSH, zw I x0 (upd (I x0) x1.toNatClampNeg x2), L, P) Q)) ∧
    (∀ (d : Nat) (l0 : Nat) (l1 : Value) (l2 : Value) (l3 : Value) (l4 : Value)  (h : zMm) (Q : Option Value → zMm → Prop), zWp d zi_60 none 42 [.ref l0, l1, l2, l3, l4] [] h Q = zWp d zi_60 none 43 [.ref l0, l1, l2, l3, l4] [.ref l0] h Q) ∧
    (∀ (d : Nat) (l0 : Value) (l1 : Value) (l2 : Value) (l3 : Value) (l4 : Value) (x0 : Nat) (I : Nat → Nat → Int32) (L : Nat → Nat → Int64) (P : Nat → Nat → Option Nat) (Q : Option Value → zMm → Prop), zSH[x0]? = some (.inl 8) → zWp d zi_60 none 43 [l0, l1, l2, l3, l4] [.ref x0] (zSH, I, L, P) Q = zWp d zi_60 none 46 [l0, l1, l2, l3, l4] [va_rf (P x0 2)] (zSH, I, L, P) Q) ∧
    (∀ (d : Nat) (l0 : Value) (l1 : Value) (l2 : Value) (l3 : Value) (l4 : Value) (x0 : Nat) (h : zMm) (Q : Option Value → zMm → Prop), zWp d zi_60 none 46 [l0, l1, l2, l3, l4] [.ref x0] h Q = zWp d zi_60 none 47 [l0, l1, l2, l3, l4] [.int 1, .ref x0] h Q) ∧
    (∀ (d : Nat) (l0 : Value) (l1 : Value) (l2 : Value) (l3 : Value) (l4 : Value) (x1 : Int32) (x0 : Nat) (I : Nat → Nat → Int32) (L : Nat → Nat → Int64) (P : Nat → Nat → Option Nat) (Q : Option Value → zMm → Prop), zAk zSH x0 = some (.array .int) → zWp d zi_60 none 47 [l0, l1, l2, l3, l4] [.int x1, .ref x0] (zSH, I, L, P) Q = (vp_in x1 (zAn zSH x0) ∧ zWp d zi_60 none 48 [l0, l1, l2, l3, l4] [va_rf (P x0 x1.toNatClampNeg)] (zSH, I, L, P) Q)) ∧
    (∀ (d : Nat) (l0 : Nat) (l1 : Value) (l2 : Value) (l3 : Value) (l4 : Value) (x0 : Nat) (h : zMm) (Q : Option Value → zMm → Prop), zWp d zi_60 none 48 [.ref l0, l1, l2, l3, l4] [.ref x0] h Q = zWp d zi_60 none 49 [.ref l0, l1, l2, l3, l4] [.ref l0, .ref x0] h Q) ∧
    (∀ (d : Nat) (l0 : Value) (l1 : Value) (l2 : Value) (l3 : Value) (l4 : Value) (x1 : Nat) (x0 : Nat) (I : Nat → Nat → Int32) (L : Nat → Nat → Int64) (P : Nat → Nat → Option Nat) (Q : Option Value → zMm → Prop), zSH[x1]? = some (.inl 8) → zWp d zi_60 none 49 [l0, l1, l2, l3, l4] [.ref x1, .ref x0] (zSH, I, L, P) Q = zWp d zi_60 none 52 [l0, l1, l2, l3, l4] [.int (I x1 6), .ref x0] (zSH, I, L, P) Q) ∧
    (∀ (d : Nat) (l0 : Value) (l1 : Value) (l2 : Value) (l3 : Value) (l4 : Int32) (x1 : Int32) (x0 : Nat) (h : zMm) (Q : Option Value → zMm → Prop), zWp d zi_60 none 52 [l0, l1, l2, l3, .int l4] [.int x1, .ref x0] h Q = zWp d zi_60 none 54 [l0, l1, l2, l3, .int l4] [.int l4, .int x1, .ref x0] h Q) ∧
    (∀ (d : Nat) (l0 : Value) (l1 : Value) (l2 : Value) (l3 : Value) (l4 : Value) (x2 : Int32) (x1 : Int32) (x0 : Nat) (I : Nat → Nat → Int32) (L : Nat → Nat → Int64) (P : Nat → Nat → Option Nat) (Q : Option Value → zMm → Prop), zAk zSH x0 = some .int → zWp d zi_60 none 54 [l0, l1, l2, l3, l4] [.int x2, .int x1, .ref x0] (zSH, I, L, P) Q = (vp_in x1 (zAn zSH x0) ∧ zWp d zi_60 none 55 [l0, l1, l2, l3, l4] [] (zSH, zw I x0 (upd (I x0) x1.toNatClampNeg x2), L, P) Q)) ∧
    (∀ (d : Nat) (l0 : Nat) (l1 : Value) (l2 : Value) (l3 : Value) (l4 : Value)  (h : zMm) (Q : Option Value → zMm → Prop), zWp d zi_60 none 55 [.ref l0, l1, l2, l3, l4] [] h Q = zWp d zi_60 none 56 [.ref l0, l1, l2, l3, l4] [.ref l0] h Q) ∧
    (∀ (d : Nat) (l0 : Value) (l1 : Value) (l2 : Value) (l3 : Value) (l4 : Value) (x0 : Nat) (h : zMm) (Q : Option Value → zMm → Prop), zWp d zi_60 none 56 [l0, l1, l2, l3, l4] [.ref x0] h Q = zWp d zi_60 none 57 [l0, l1, l2, l3, l4] [.ref x0, .ref x0] h Q) ∧
    (∀ (d : Nat) (l0 : Value) (l1 : Value) (l2 : Value) (l3 : Value) (l4 : Value) (x1 : Nat) (x0 : Nat) (I : Nat → Nat → Int32) (L : Nat → Nat → Int64) (P : Nat → Nat → Option Nat) (Q : Option Value → zMm → Prop), zSH[x1]? = some (.inl 8) → zWp d zi_60 none 57 [l0, l1, l2, l3, l4] [.ref x1, .ref x0] (zSH, I, L, P) Q = zWp d zi_60 none 60 [l0, l1, l2, l3, l4] [.int (I x1 6), .ref x0] (zSH, I, L, P) Q) ∧
    (∀ (d : Nat) (l0 : Value) (l1 : Value) (l2 : Value) (l3 : Value) (l4 : Value) (x1 : Int32) (x0 : Nat) (h : zMm) (Q : Option Value → zMm → Prop), zWp d zi_60 none 60 [l0, l1, l2, l3, l4] [.int x1, .ref x0] h Q = zWp d zi_60 none 61 [l0, l1, l2, l3, l4] [.int 1, .int x1, .ref x0] h Q) ∧
    (∀ (d : Nat) (l0 : Value) (l1 : Value) (l2 : Value) (l3 : Value) (l4 : Value) (x2 : Int32) (x1 : Int32) (x0 : Nat) (h : zMm) (Q : Option Value → zMm → Prop), zWp d zi_60 none 61 [l0, l1, l2, l3, l4] [.int x2, .int x1, .ref x0] h Q = zWp d zi_60 none 62 [l0, l1, l2, l3, l4] [.int (x1 + x2), .ref x0] h Q) ∧
    (∀ (d : Nat) (l0 : Value) (l1 : Value) (l2 : Value) (l3 : Value) (l4 : Value) (x1 : Int32) (x0 : Nat) (I : Nat → Nat → Int32) (L : Nat → Nat → Int64) (P : Nat → Nat → Option Nat) (Q : Option Value → zMm → Prop), zSH[x0]? = some (.inl 8) → zWp d zi_60 none 62 [l0, l1, l2, l3, l4] [.int x1, .ref x0] (zSH, I, L, P) Q = zWp d zi_60 none 65 [l0, l1, l2, l3, l4] [] (zSH, zw I x0 (upd (I x0) 6 x1), L, P) Q) ∧
    (∀ (d : Nat) (l0 : Nat) (l1 : Value) (l2 : Value) (l3 : Value) (l4 : Value)  (h : zMm) (Q : Option Value → zMm → Prop), zWp d zi_60 none 65 [.ref l0, l1, l2, l3, l4] [] h Q = zWp d zi_60 none 66 [.ref l0, l1, l2, l3, l4] [.ref l0] h Q) ∧
    (∀ (d : Nat) (l0 : Value) (l1 : Value) (l2 : Value) (l3 : Value) (l4 : Value) (x0 : Nat) (I : Nat → Nat → Int32) (L : Nat → Nat → Int64) (P : Nat → Nat → Option Nat) (Q : Option Value → zMm → Prop), zSH[x0]? = some (.inl 8) → zWp d zi_60 none 66 [l0, l1, l2, l3, l4] [.ref x0] (zSH, I, L, P) Q = zWM d 64 [.ref x0] (zSH, I, L, P) (fun r h1 => zWp d zi_60 none 69 [l0, l1, l2, l3, l4] (r.toList ++ []) h1 Q)) ∧
    (∀ (d : Nat) (l0 : Value) (l1 : Value) (l2 : Value) (l3 : Value) (l4 : Value)  (h : zMm) (Q : Option Value → zMm → Prop), zWp d zi_60 none 69 [l0, l1, l2, l3, l4] [] h Q = Q none h) :=
  ⟨(fun d l0 l1 l2 l3 l4  h Q => zr_aload_n rfl rfl),
   (fun d l0 l1 l2 l3 l4 x0 I L P Q p0 => zr_getI rfl lf_8_32 (fun _ _ _ => rfl) p0),
   (fun d l0 l1 l2 l3 l4 x0 h Q => zr_bipush rfl (by decide)),
   (fun d l0 l1 l2 l3 l4 x1 x0 h Q => zr_ic_lt rfl (by decide)),
   (fun d l0 l1 l2 l3 l4  h Q => zr_vret rfl rfl),
   (fun d l0 l1 l2 l3 l4  h Q => zr_aload_n rfl rfl),
   (fun d l0 l1 l2 l3 l4 x0 I L P Q p0 => zr_getQ rfl lf_8_11 (fun _ _ _ => rfl) p0),
   (fun d l0 l1 l2 l3 l4 x0 h Q => zr_aload_n rfl rfl),
   (fun d l0 l1 l2 l3 l4 x1 x0 I L P Q p0 => zr_getI rfl lf_8_32 (fun _ _ _ => rfl) p0),
   (fun d l0 l1 l2 l3 l4 x1 x0 h Q => zr_iload_n rfl rfl),
   (fun d l0 l1 l2 l3 l4 x2 x1 x0 I L P Q p0 => zr_ast rfl p0),
   (fun d l0 l1 l2 l3 l4  h Q => zr_aload_n rfl rfl),
   (fun d l0 l1 l2 l3 l4 x0 I L P Q p0 => zr_getQ rfl lf_8_15 (fun _ _ _ => rfl) p0),
   (fun d l0 l1 l2 l3 l4 x0 h Q => zr_aload_n rfl rfl),
   (fun d l0 l1 l2 l3 l4 x1 x0 I L P Q p0 => zr_getI rfl lf_8_32 (fun _ _ _ => rfl) p0),
   (fun d l0 l1 l2 l3 l4 x1 x0 h Q => zr_iload_n rfl rfl),
   (fun d l0 l1 l2 l3 l4 x2 x1 x0 I L P Q p0 => zr_ast rfl p0),
   (fun d l0 l1 l2 l3 l4  h Q => zr_aload_n rfl rfl),
   (fun d l0 l1 l2 l3 l4 x0 I L P Q p0 => zr_getQ rfl lf_8_20 (fun _ _ _ => rfl) p0),
   (fun d l0 l1 l2 l3 l4 x0 h Q => zr_iconst rfl (by decide)),
   (fun d l0 l1 l2 l3 l4 x1 x0 I L P Q p0 => zr_qldA rfl p0),
   (fun d l0 l1 l2 l3 l4 x0 h Q => zr_aload_n rfl rfl),
   (fun d l0 l1 l2 l3 l4 x1 x0 I L P Q p0 => zr_getI rfl lf_8_32 (fun _ _ _ => rfl) p0),
   (fun d l0 l1 l2 l3 l4 x1 x0 h Q => zr_iload_n rfl rfl),
   (fun d l0 l1 l2 l3 l4 x2 x1 x0 I L P Q p0 => zr_ast rfl p0),
   (fun d l0 l1 l2 l3 l4  h Q => zr_aload_n rfl rfl),
   (fun d l0 l1 l2 l3 l4 x0 I L P Q p0 => zr_getQ rfl lf_8_20 (fun _ _ _ => rfl) p0),
   (fun d l0 l1 l2 l3 l4 x0 h Q => zr_iconst rfl (by decide)),
   (fun d l0 l1 l2 l3 l4 x1 x0 I L P Q p0 => zr_qldA rfl p0),
   (fun d l0 l1 l2 l3 l4 x0 h Q => zr_aload_n rfl rfl),
   (fun d l0 l1 l2 l3 l4 x1 x0 I L P Q p0 => zr_getI rfl lf_8_32 (fun _ _ _ => rfl) p0),
   (fun d l0 l1 l2 l3 l4 x1 x0 h Q => zr_iload rfl rfl),
   (fun d l0 l1 l2 l3 l4 x2 x1 x0 I L P Q p0 => zr_ast rfl p0),
   (fun d l0 l1 l2 l3 l4  h Q => zr_aload_n rfl rfl),
   (fun d l0 l1 l2 l3 l4 x0 h Q => zr_dup rfl rfl),
   (fun d l0 l1 l2 l3 l4 x1 x0 I L P Q p0 => zr_getI rfl lf_8_32 (fun _ _ _ => rfl) p0),
   (fun d l0 l1 l2 l3 l4 x1 x0 h Q => zr_iconst rfl (by decide)),
   (fun d l0 l1 l2 l3 l4 x2 x1 x0 h Q => zr_iadd rfl),
   (fun d l0 l1 l2 l3 l4 x1 x0 I L P Q p0 => zr_putI rfl lf_8_32 (by decide) rfl p0),
   (fun d l0 l1 l2 l3 l4  h Q => zr_aload_n rfl rfl),
   (fun d l0 l1 l2 l3 l4 x0 I L P Q p0 => zr_vir (as := []) (rest := []) rfl lm_8_36 m_64 kd_64 rfl (Nat.le_of_ble_eq_true rfl) p0),
   (fun d l0 l1 l2 l3 l4  h Q => zr_vret rfl rfl)⟩
theorem E_X8_lower : ∀ (d : Nat) (a0 : Nat) (h : zMm) (Q : Option Value → zMm → Prop), zWM (d + 1) 61 [.ref a0] h Q = zWp d zi_61 none 0 [.ref a0] [] h Q := fun d a0 h Q => zW_M m_61 (Nat.le_of_ble_eq_true rfl) rfl
set_option maxRecDepth 100000 in
theorem R_X8_lower :
    (∀ (d : Nat) (l0 : Nat)  (h : zMm) (Q : Option Value → zMm → Prop), zWp d zi_61 none 0 [.ref l0] [] h Q = zWp d zi_61 none 1 [.ref l0] [.ref l0] h Q) ∧
    (∀ (d : Nat) (l0 : Value) (x0 : Nat) (I : Nat → Nat → Int32) (L : Nat → Nat → Int64) (P : Nat → Nat → Option Nat) (Q : Option Value → zMm → Prop), zSH[x0]? = some (.inl 8) → zWp d zi_61 none 1 [l0] [.ref x0] (zSH, I, L, P) Q = zWp d zi_61 none 4 [l0] [.int (I x0 6)] (zSH, I, L, P) Q) ∧
    (∀ (d : Nat) (l0 : Value) (x0 : Int32) (h : zMm) (Q : Option Value → zMm → Prop), zWp d zi_61 none 4 [l0] [.int x0] h Q = if x0 ≤ 0 then zWp d zi_61 none 21 [l0] [] h Q else zWp d zi_61 none 7 [l0] [] h Q) ∧
    (∀ (d : Nat) (l0 : Nat)  (h : zMm) (Q : Option Value → zMm → Prop), zWp d zi_61 none 7 [.ref l0] [] h Q = zWp d zi_61 none 8 [.ref l0] [.ref l0] h Q) ∧
    (∀ (d : Nat) (l0 : Value) (x0 : Nat) (h : zMm) (Q : Option Value → zMm → Prop), zWp d zi_61 none 8 [l0] [.ref x0] h Q = zWp d zi_61 none 9 [l0] [.ref x0, .ref x0] h Q) ∧
    (∀ (d : Nat) (l0 : Value) (x1 : Nat) (x0 : Nat) (I : Nat → Nat → Int32) (L : Nat → Nat → Int64) (P : Nat → Nat → Option Nat) (Q : Option Value → zMm → Prop), zSH[x1]? = some (.inl 8) → zWp d zi_61 none 9 [l0] [.ref x1, .ref x0] (zSH, I, L, P) Q = zWp d zi_61 none 12 [l0] [.int (I x1 6), .ref x0] (zSH, I, L, P) Q) ∧
    (∀ (d : Nat) (l0 : Value) (x1 : Int32) (x0 : Nat) (h : zMm) (Q : Option Value → zMm → Prop), zWp d zi_61 none 12 [l0] [.int x1, .ref x0] h Q = zWp d zi_61 none 13 [l0] [.int 1, .int x1, .ref x0] h Q) ∧
    (∀ (d : Nat) (l0 : Value) (x2 : Int32) (x1 : Int32) (x0 : Nat) (h : zMm) (Q : Option Value → zMm → Prop), zWp d zi_61 none 13 [l0] [.int x2, .int x1, .ref x0] h Q = zWp d zi_61 none 14 [l0] [.int (x1 - x2), .ref x0] h Q) ∧
    (∀ (d : Nat) (l0 : Value) (x1 : Int32) (x0 : Nat) (I : Nat → Nat → Int32) (L : Nat → Nat → Int64) (P : Nat → Nat → Option Nat) (Q : Option Value → zMm → Prop), zSH[x0]? = some (.inl 8) → zWp d zi_61 none 14 [l0] [.int x1, .ref x0] (zSH, I, L, P) Q = zWp d zi_61 none 17 [l0] [] (zSH, zw I x0 (upd (I x0) 6 x1), L, P) Q) ∧
    (∀ (d : Nat) (l0 : Nat)  (h : zMm) (Q : Option Value → zMm → Prop), zWp d zi_61 none 17 [.ref l0] [] h Q = zWp d zi_61 none 18 [.ref l0] [.ref l0] h Q) ∧
    (∀ (d : Nat) (l0 : Value) (x0 : Nat) (I : Nat → Nat → Int32) (L : Nat → Nat → Int64) (P : Nat → Nat → Option Nat) (Q : Option Value → zMm → Prop), zSH[x0]? = some (.inl 8) → zWp d zi_61 none 18 [l0] [.ref x0] (zSH, I, L, P) Q = zWM d 64 [.ref x0] (zSH, I, L, P) (fun r h1 => zWp d zi_61 none 21 [l0] (r.toList ++ []) h1 Q)) ∧
    (∀ (d : Nat) (l0 : Value)  (h : zMm) (Q : Option Value → zMm → Prop), zWp d zi_61 none 21 [l0] [] h Q = Q none h) :=
  ⟨(fun d l0  h Q => zr_aload_n rfl rfl),
   (fun d l0 x0 I L P Q p0 => zr_getI rfl lf_8_32 (fun _ _ _ => rfl) p0),
   (fun d l0 x0 h Q => zr_if_le rfl (by decide)),
   (fun d l0  h Q => zr_aload_n rfl rfl),
   (fun d l0 x0 h Q => zr_dup rfl rfl),
   (fun d l0 x1 x0 I L P Q p0 => zr_getI rfl lf_8_32 (fun _ _ _ => rfl) p0),
   (fun d l0 x1 x0 h Q => zr_iconst rfl (by decide)),
   (fun d l0 x2 x1 x0 h Q => zr_isub rfl),
   (fun d l0 x1 x0 I L P Q p0 => zr_putI rfl lf_8_32 (by decide) rfl p0),
   (fun d l0  h Q => zr_aload_n rfl rfl),
   (fun d l0 x0 I L P Q p0 => zr_vir (as := []) (rest := []) rfl lm_8_36 m_64 kd_64 rfl (Nat.le_of_ble_eq_true rfl) p0),
   (fun d l0  h Q => zr_vret rfl rfl)⟩
theorem E_X8_slide : ∀ (d : Nat) (a0 : Nat) (a1 : Int32) (a2 : Int32) (a3 : Int32) (h : zMm) (Q : Option Value → zMm → Prop), zWM (d + 1) 62 [.ref a0, .int a1, .int a2, .int a3] h Q = zWp d zi_62 none 0 [.ref a0, .int a1, .int a2, .int a3] [] h Q := fun d a0 a1 a2 a3 h Q => zW_M m_62 (Nat.le_of_ble_eq_true rfl) rfl
set_option maxRecDepth 100000 in
theorem R_X8_slide :
    (∀ (d : Nat) (l0 : Nat) (l1 : Value) (l2 : Value) (l3 : Value)  (h : zMm) (Q : Option Value → zMm → Prop), zWp d zi_62 none 0 [.ref l0, l1, l2, l3] [] h Q = zWp d zi_62 none 1 [.ref l0, l1, l2, l3] [.ref l0] h Q) ∧
    (∀ (d : Nat) (l0 : Value) (l1 : Value) (l2 : Value) (l3 : Value) (x0 : Nat) (I : Nat → Nat → Int32) (L : Nat → Nat → Int64) (P : Nat → Nat → Option Nat) (Q : Option Value → zMm → Prop), zSH[x0]? = some (.inl 8) → zWp d zi_62 none 1 [l0, l1, l2, l3] [.ref x0] (zSH, I, L, P) Q = zWp d zi_62 none 4 [l0, l1, l2, l3] [va_rf (P x0 2)] (zSH, I, L, P) Q) ∧
    (∀ (d : Nat) (l0 : Value) (l1 : Value) (l2 : Int32) (l3 : Value) (x0 : Nat) (h : zMm) (Q : Option Value → zMm → Prop), zWp d zi_62 none 4 [l0, l1, .int l2, l3] [.ref x0] h Q = zWp d zi_62 none 5 [l0, l1, .int l2, l3] [.int l2, .ref x0] h Q) ∧
    (∀ (d : Nat) (l0 : Value) (l1 : Value) (l2 : Value) (l3 : Value) (x1 : Int32) (x0 : Nat) (I : Nat → Nat → Int32) (L : Nat → Nat → Int64) (P : Nat → Nat → Option Nat) (Q : Option Value → zMm → Prop), zAk zSH x0 = some (.array .int) → zWp d zi_62 none 5 [l0, l1, l2, l3] [.int x1, .ref x0] (zSH, I, L, P) Q = (vp_in x1 (zAn zSH x0) ∧ zWp d zi_62 none 6 [l0, l1, l2, l3] [va_rf (P x0 x1.toNatClampNeg)] (zSH, I, L, P) Q)) ∧
    (∀ (d : Nat) (l0 : Value) (l1 : Int32) (l2 : Value) (l3 : Value) (x0 : Nat) (h : zMm) (Q : Option Value → zMm → Prop), zWp d zi_62 none 6 [l0, .int l1, l2, l3] [.ref x0] h Q = zWp d zi_62 none 7 [l0, .int l1, l2, l3] [.int l1, .ref x0] h Q) ∧
    (∀ (d : Nat) (l0 : Value) (l1 : Value) (l2 : Value) (l3 : Int32) (x1 : Int32) (x0 : Nat) (h : zMm) (Q : Option Value → zMm → Prop), zWp d zi_62 none 7 [l0, l1, l2, .int l3] [.int x1, .ref x0] h Q = zWp d zi_62 none 8 [l0, l1, l2, .int l3] [.int l3, .int x1, .ref x0] h Q) ∧
    (∀ (d : Nat) (l0 : Value) (l1 : Value) (l2 : Value) (l3 : Value) (x2 : Int32) (x1 : Int32) (x0 : Nat) (I : Nat → Nat → Int32) (L : Nat → Nat → Int64) (P : Nat → Nat → Option Nat) (Q : Option Value → zMm → Prop), zAk zSH x0 = some .int → zWp d zi_62 none 8 [l0, l1, l2, l3] [.int x2, .int x1, .ref x0] (zSH, I, L, P) Q = (vp_in x1 (zAn zSH x0) ∧ zWp d zi_62 none 9 [l0, l1, l2, l3] [] (zSH, zw I x0 (upd (I x0) x1.toNatClampNeg x2), L, P) Q)) ∧
    (∀ (d : Nat) (l0 : Nat) (l1 : Value) (l2 : Value) (l3 : Value)  (h : zMm) (Q : Option Value → zMm → Prop), zWp d zi_62 none 9 [.ref l0, l1, l2, l3] [] h Q = zWp d zi_62 none 10 [.ref l0, l1, l2, l3] [.ref l0] h Q) ∧
    (∀ (d : Nat) (l0 : Value) (l1 : Value) (l2 : Value) (l3 : Value) (x0 : Nat) (I : Nat → Nat → Int32) (L : Nat → Nat → Int64) (P : Nat → Nat → Option Nat) (Q : Option Value → zMm → Prop), zSH[x0]? = some (.inl 8) → zWp d zi_62 none 10 [l0, l1, l2, l3] [.ref x0] (zSH, I, L, P) Q = zWM d 64 [.ref x0] (zSH, I, L, P) (fun r h1 => zWp d zi_62 none 13 [l0, l1, l2, l3] (r.toList ++ []) h1 Q)) ∧
    (∀ (d : Nat) (l0 : Value) (l1 : Value) (l2 : Value) (l3 : Value)  (h : zMm) (Q : Option Value → zMm → Prop), zWp d zi_62 none 13 [l0, l1, l2, l3] [] h Q = Q none h) :=
  ⟨(fun d l0 l1 l2 l3  h Q => zr_aload_n rfl rfl),
   (fun d l0 l1 l2 l3 x0 I L P Q p0 => zr_getQ rfl lf_8_20 (fun _ _ _ => rfl) p0),
   (fun d l0 l1 l2 l3 x0 h Q => zr_iload_n rfl rfl),
   (fun d l0 l1 l2 l3 x1 x0 I L P Q p0 => zr_qldA rfl p0),
   (fun d l0 l1 l2 l3 x0 h Q => zr_iload_n rfl rfl),
   (fun d l0 l1 l2 l3 x1 x0 h Q => zr_iload_n rfl rfl),
   (fun d l0 l1 l2 l3 x2 x1 x0 I L P Q p0 => zr_ast rfl p0),
   (fun d l0 l1 l2 l3  h Q => zr_aload_n rfl rfl),
   (fun d l0 l1 l2 l3 x0 I L P Q p0 => zr_vir (as := []) (rest := []) rfl lm_8_36 m_64 kd_64 rfl (Nat.le_of_ble_eq_true rfl) p0),
   (fun d l0 l1 l2 l3  h Q => zr_vret rfl rfl)⟩
theorem E_X8_copy : ∀ (d : Nat) (a0 : Nat) (a1 : Nat) (h : zMm) (Q : Option Value → zMm → Prop), zWM (d + 1) 63 [.ref a0, .ref a1] h Q = zWp d zi_63 none 0 [.ref a0, .ref a1] [] h Q := fun d a0 a1 h Q => zW_M m_63 (Nat.le_of_ble_eq_true rfl) rfl
set_option maxRecDepth 100000 in
theorem R_X8_copy :
    (∀ (d : Nat) (l0 : Nat) (l1 : Value)  (h : zMm) (Q : Option Value → zMm → Prop), zWp d zi_63 none 0 [.ref l0, l1] [] h Q = zWp d zi_63 none 1 [.ref l0, l1] [.ref l0] h Q) ∧
    (∀ (d : Nat) (l0 : Value) (l1 : Nat) (x0 : Nat) (h : zMm) (Q : Option Value → zMm → Prop), zWp d zi_63 none 1 [l0, .ref l1] [.ref x0] h Q = zWp d zi_63 none 2 [l0, .ref l1] [.ref l1, .ref x0] h Q) ∧
    (∀ (d : Nat) (l0 : Value) (l1 : Value) (x1 : Nat) (x0 : Nat) (I : Nat → Nat → Int32) (L : Nat → Nat → Int64) (P : Nat → Nat → Option Nat) (Q : Option Value → zMm → Prop), zSH[x1]? = some (.inl 8) → zWp d zi_63 none 2 [l0, l1] [.ref x1, .ref x0] (zSH, I, L, P) Q = zWp d zi_63 none 5 [l0, l1] [.int (I x1 6), .ref x0] (zSH, I, L, P) Q) ∧
    (∀ (d : Nat) (l0 : Value) (l1 : Value) (x1 : Int32) (x0 : Nat) (I : Nat → Nat → Int32) (L : Nat → Nat → Int64) (P : Nat → Nat → Option Nat) (Q : Option Value → zMm → Prop), zSH[x0]? = some (.inl 8) → zWp d zi_63 none 5 [l0, l1] [.int x1, .ref x0] (zSH, I, L, P) Q = zWp d zi_63 none 8 [l0, l1] [] (zSH, zw I x0 (upd (I x0) 6 x1), L, P) Q) ∧
    (∀ (d : Nat) (l0 : Value) (l1 : Nat)  (h : zMm) (Q : Option Value → zMm → Prop), zWp d zi_63 none 8 [l0, .ref l1] [] h Q = zWp d zi_63 none 9 [l0, .ref l1] [.ref l1] h Q) ∧
    (∀ (d : Nat) (l0 : Value) (l1 : Value) (x0 : Nat) (I : Nat → Nat → Int32) (L : Nat → Nat → Int64) (P : Nat → Nat → Option Nat) (Q : Option Value → zMm → Prop), zSH[x0]? = some (.inl 8) → zWp d zi_63 none 9 [l0, l1] [.ref x0] (zSH, I, L, P) Q = zWp d zi_63 none 12 [l0, l1] [va_rf (P x0 0)] (zSH, I, L, P) Q) ∧
    (∀ (d : Nat) (l0 : Value) (l1 : Value) (x0 : Nat) (h : zMm) (Q : Option Value → zMm → Prop), zWp d zi_63 none 12 [l0, l1] [.ref x0] h Q = zWp d zi_63 none 13 [l0, l1] [.int 0, .ref x0] h Q) ∧
    (∀ (d : Nat) (l0 : Nat) (l1 : Value) (x1 : Int32) (x0 : Nat) (h : zMm) (Q : Option Value → zMm → Prop), zWp d zi_63 none 13 [.ref l0, l1] [.int x1, .ref x0] h Q = zWp d zi_63 none 14 [.ref l0, l1] [.ref l0, .int x1, .ref x0] h Q) ∧
    (∀ (d : Nat) (l0 : Value) (l1 : Value) (x2 : Nat) (x1 : Int32) (x0 : Nat) (I : Nat → Nat → Int32) (L : Nat → Nat → Int64) (P : Nat → Nat → Option Nat) (Q : Option Value → zMm → Prop), zSH[x2]? = some (.inl 8) → zWp d zi_63 none 14 [l0, l1] [.ref x2, .int x1, .ref x0] (zSH, I, L, P) Q = zWp d zi_63 none 17 [l0, l1] [va_rf (P x2 0), .int x1, .ref x0] (zSH, I, L, P) Q) ∧
    (∀ (d : Nat) (l0 : Value) (l1 : Value) (x2 : Nat) (x1 : Int32) (x0 : Nat) (h : zMm) (Q : Option Value → zMm → Prop), zWp d zi_63 none 17 [l0, l1] [.ref x2, .int x1, .ref x0] h Q = zWp d zi_63 none 18 [l0, l1] [.int 0, .ref x2, .int x1, .ref x0] h Q) ∧
    (∀ (d : Nat) (l0 : Nat) (l1 : Value) (x3 : Int32) (x2 : Nat) (x1 : Int32) (x0 : Nat) (h : zMm) (Q : Option Value → zMm → Prop), zWp d zi_63 none 18 [.ref l0, l1] [.int x3, .ref x2, .int x1, .ref x0] h Q = zWp d zi_63 none 19 [.ref l0, l1] [.ref l0, .int x3, .ref x2, .int x1, .ref x0] h Q) ∧
    (∀ (d : Nat) (l0 : Value) (l1 : Value) (x4 : Nat) (x3 : Int32) (x2 : Nat) (x1 : Int32) (x0 : Nat) (I : Nat → Nat → Int32) (L : Nat → Nat → Int64) (P : Nat → Nat → Option Nat) (Q : Option Value → zMm → Prop), zSH[x4]? = some (.inl 8) → zWp d zi_63 none 19 [l0, l1] [.ref x4, .int x3, .ref x2, .int x1, .ref x0] (zSH, I, L, P) Q = zWp d zi_63 none 22 [l0, l1] [.int (I x4 6), .int x3, .ref x2, .int x1, .ref x0] (zSH, I, L, P) Q) ∧
    (∀ (d : Nat) (l0 : Value) (l1 : Value) (x4 : Int32) (x3 : Int32) (x2 : Nat) (x1 : Int32) (x0 : Nat) (I : Nat → Nat → Int32) (L : Nat → Nat → Int64) (P : Nat → Nat → Option Nat) (Q : Option Value → zMm → Prop), zAk zSH x0 = some .int → zAk zSH x2 = some .int → 0 ≤ x1 → 0 ≤ x3 → 0 ≤ x4 → x1.toNatClampNeg + x4.toNatClampNeg ≤ zAn zSH x0 → x3.toNatClampNeg + x4.toNatClampNeg ≤ zAn zSH x2 → zWp d zi_63 none 22 [l0, l1] [.int x4, .int x3, .ref x2, .int x1, .ref x0] (zSH, I, L, P) Q = zWp d zi_63 none 25 [l0, l1] [] (zSH, zw I x2 (va_cpy (I x0) (I x2) x1.toNatClampNeg x3.toNatClampNeg x4.toNatClampNeg), L, P) Q) ∧
    (∀ (d : Nat) (l0 : Value) (l1 : Nat)  (h : zMm) (Q : Option Value → zMm → Prop), zWp d zi_63 none 25 [l0, .ref l1] [] h Q = zWp d zi_63 none 26 [l0, .ref l1] [.ref l1] h Q) ∧
    (∀ (d : Nat) (l0 : Value) (l1 : Value) (x0 : Nat) (I : Nat → Nat → Int32) (L : Nat → Nat → Int64) (P : Nat → Nat → Option Nat) (Q : Option Value → zMm → Prop), zSH[x0]? = some (.inl 8) → zWp d zi_63 none 26 [l0, l1] [.ref x0] (zSH, I, L, P) Q = zWp d zi_63 none 29 [l0, l1] [va_rf (P x0 1)] (zSH, I, L, P) Q) ∧
    (∀ (d : Nat) (l0 : Value) (l1 : Value) (x0 : Nat) (h : zMm) (Q : Option Value → zMm → Prop), zWp d zi_63 none 29 [l0, l1] [.ref x0] h Q = zWp d zi_63 none 30 [l0, l1] [.int 0, .ref x0] h Q) ∧
    (∀ (d : Nat) (l0 : Nat) (l1 : Value) (x1 : Int32) (x0 : Nat) (h : zMm) (Q : Option Value → zMm → Prop), zWp d zi_63 none 30 [.ref l0, l1] [.int x1, .ref x0] h Q = zWp d zi_63 none 31 [.ref l0, l1] [.ref l0, .int x1, .ref x0] h Q) ∧
    (∀ (d : Nat) (l0 : Value) (l1 : Value) (x2 : Nat) (x1 : Int32) (x0 : Nat) (I : Nat → Nat → Int32) (L : Nat → Nat → Int64) (P : Nat → Nat → Option Nat) (Q : Option Value → zMm → Prop), zSH[x2]? = some (.inl 8) → zWp d zi_63 none 31 [l0, l1] [.ref x2, .int x1, .ref x0] (zSH, I, L, P) Q = zWp d zi_63 none 34 [l0, l1] [va_rf (P x2 1), .int x1, .ref x0] (zSH, I, L, P) Q) ∧
    (∀ (d : Nat) (l0 : Value) (l1 : Value) (x2 : Nat) (x1 : Int32) (x0 : Nat) (h : zMm) (Q : Option Value → zMm → Prop), zWp d zi_63 none 34 [l0, l1] [.ref x2, .int x1, .ref x0] h Q = zWp d zi_63 none 35 [l0, l1] [.int 0, .ref x2, .int x1, .ref x0] h Q) ∧
    (∀ (d : Nat) (l0 : Nat) (l1 : Value) (x3 : Int32) (x2 : Nat) (x1 : Int32) (x0 : Nat) (h : zMm) (Q : Option Value → zMm → Prop), zWp d zi_63 none 35 [.ref l0, l1] [.int x3, .ref x2, .int x1, .ref x0] h Q = zWp d zi_63 none 36 [.ref l0, l1] [.ref l0, .int x3, .ref x2, .int x1, .ref x0] h Q) ∧
    (∀ (d : Nat) (l0 : Value) (l1 : Value) (x4 : Nat) (x3 : Int32) (x2 : Nat) (x1 : Int32) (x0 : Nat) (I : Nat → Nat → Int32) (L : Nat → Nat → Int64) (P : Nat → Nat → Option Nat) (Q : Option Value → zMm → Prop), zSH[x4]? = some (.inl 8) → zWp d zi_63 none 36 [l0, l1] [.ref x4, .int x3, .ref x2, .int x1, .ref x0] (zSH, I, L, P) Q = zWp d zi_63 none 39 [l0, l1] [.int (I x4 6), .int x3, .ref x2, .int x1, .ref x0] (zSH, I, L, P) Q) ∧
    (∀ (d : Nat) (l0 : Value) (l1 : Value) (x4 : Int32) (x3 : Int32) (x2 : Nat) (x1 : Int32) (x0 : Nat) (I : Nat → Nat → Int32) (L : Nat → Nat → Int64) (P : Nat → Nat → Option Nat) (Q : Option Value → zMm → Prop), zAk zSH x0 = some .int → zAk zSH x2 = some .int → 0 ≤ x1 → 0 ≤ x3 → 0 ≤ x4 → x1.toNatClampNeg + x4.toNatClampNeg ≤ zAn zSH x0 → x3.toNatClampNeg + x4.toNatClampNeg ≤ zAn zSH x2 → zWp d zi_63 none 39 [l0, l1] [.int x4, .int x3, .ref x2, .int x1, .ref x0] (zSH, I, L, P) Q = zWp d zi_63 none 42 [l0, l1] [] (zSH, zw I x2 (va_cpy (I x0) (I x2) x1.toNatClampNeg x3.toNatClampNeg x4.toNatClampNeg), L, P) Q) ∧
    (∀ (d : Nat) (l0 : Value) (l1 : Nat)  (h : zMm) (Q : Option Value → zMm → Prop), zWp d zi_63 none 42 [l0, .ref l1] [] h Q = zWp d zi_63 none 43 [l0, .ref l1] [.ref l1] h Q) ∧
    (∀ (d : Nat) (l0 : Value) (l1 : Value) (x0 : Nat) (I : Nat → Nat → Int32) (L : Nat → Nat → Int64) (P : Nat → Nat → Option Nat) (Q : Option Value → zMm → Prop), zSH[x0]? = some (.inl 8) → zWp d zi_63 none 43 [l0, l1] [.ref x0] (zSH, I, L, P) Q = zWp d zi_63 none 46 [l0, l1] [va_rf (P x0 2)] (zSH, I, L, P) Q) ∧
    (∀ (d : Nat) (l0 : Value) (l1 : Value) (x0 : Nat) (h : zMm) (Q : Option Value → zMm → Prop), zWp d zi_63 none 46 [l0, l1] [.ref x0] h Q = zWp d zi_63 none 47 [l0, l1] [.int 0, .ref x0] h Q) ∧
    (∀ (d : Nat) (l0 : Value) (l1 : Value) (x1 : Int32) (x0 : Nat) (I : Nat → Nat → Int32) (L : Nat → Nat → Int64) (P : Nat → Nat → Option Nat) (Q : Option Value → zMm → Prop), zAk zSH x0 = some (.array .int) → zWp d zi_63 none 47 [l0, l1] [.int x1, .ref x0] (zSH, I, L, P) Q = (vp_in x1 (zAn zSH x0) ∧ zWp d zi_63 none 48 [l0, l1] [va_rf (P x0 x1.toNatClampNeg)] (zSH, I, L, P) Q)) ∧
    (∀ (d : Nat) (l0 : Value) (l1 : Value) (x0 : Nat) (h : zMm) (Q : Option Value → zMm → Prop), zWp d zi_63 none 48 [l0, l1] [.ref x0] h Q = zWp d zi_63 none 49 [l0, l1] [.int 0, .ref x0] h Q) ∧
    (∀ (d : Nat) (l0 : Nat) (l1 : Value) (x1 : Int32) (x0 : Nat) (h : zMm) (Q : Option Value → zMm → Prop), zWp d zi_63 none 49 [.ref l0, l1] [.int x1, .ref x0] h Q = zWp d zi_63 none 50 [.ref l0, l1] [.ref l0, .int x1, .ref x0] h Q) ∧
    (∀ (d : Nat) (l0 : Value) (l1 : Value) (x2 : Nat) (x1 : Int32) (x0 : Nat) (I : Nat → Nat → Int32) (L : Nat → Nat → Int64) (P : Nat → Nat → Option Nat) (Q : Option Value → zMm → Prop), zSH[x2]? = some (.inl 8) → zWp d zi_63 none 50 [l0, l1] [.ref x2, .int x1, .ref x0] (zSH, I, L, P) Q = zWp d zi_63 none 53 [l0, l1] [va_rf (P x2 2), .int x1, .ref x0] (zSH, I, L, P) Q) ∧
    (∀ (d : Nat) (l0 : Value) (l1 : Value) (x2 : Nat) (x1 : Int32) (x0 : Nat) (h : zMm) (Q : Option Value → zMm → Prop), zWp d zi_63 none 53 [l0, l1] [.ref x2, .int x1, .ref x0] h Q = zWp d zi_63 none 54 [l0, l1] [.int 0, .ref x2, .int x1, .ref x0] h Q) ∧
    (∀ (d : Nat) (l0 : Value) (l1 : Value) (x3 : Int32) (x2 : Nat) (x1 : Int32) (x0 : Nat) (I : Nat → Nat → Int32) (L : Nat → Nat → Int64) (P : Nat → Nat → Option Nat) (Q : Option Value → zMm → Prop), zAk zSH x2 = some (.array .int) → zWp d zi_63 none 54 [l0, l1] [.int x3, .ref x2, .int x1, .ref x0] (zSH, I, L, P) Q = (vp_in x3 (zAn zSH x2) ∧ zWp d zi_63 none 55 [l0, l1] [va_rf (P x2 x3.toNatClampNeg), .int x1, .ref x0] (zSH, I, L, P) Q)) ∧
    (∀ (d : Nat) (l0 : Value) (l1 : Value) (x2 : Nat) (x1 : Int32) (x0 : Nat) (h : zMm) (Q : Option Value → zMm → Prop), zWp d zi_63 none 55 [l0, l1] [.ref x2, .int x1, .ref x0] h Q = zWp d zi_63 none 56 [l0, l1] [.int 0, .ref x2, .int x1, .ref x0] h Q) ∧
    (∀ (d : Nat) (l0 : Nat) (l1 : Value) (x3 : Int32) (x2 : Nat) (x1 : Int32) (x0 : Nat) (h : zMm) (Q : Option Value → zMm → Prop), zWp d zi_63 none 56 [.ref l0, l1] [.int x3, .ref x2, .int x1, .ref x0] h Q = zWp d zi_63 none 57 [.ref l0, l1] [.ref l0, .int x3, .ref x2, .int x1, .ref x0] h Q) ∧
    (∀ (d : Nat) (l0 : Value) (l1 : Value) (x4 : Nat) (x3 : Int32) (x2 : Nat) (x1 : Int32) (x0 : Nat) (I : Nat → Nat → Int32) (L : Nat → Nat → Int64) (P : Nat → Nat → Option Nat) (Q : Option Value → zMm → Prop), zSH[x4]? = some (.inl 8) → zWp d zi_63 none 57 [l0, l1] [.ref x4, .int x3, .ref x2, .int x1, .ref x0] (zSH, I, L, P) Q = zWp d zi_63 none 60 [l0, l1] [.int (I x4 6), .int x3, .ref x2, .int x1, .ref x0] (zSH, I, L, P) Q) ∧
    (∀ (d : Nat) (l0 : Value) (l1 : Value) (x4 : Int32) (x3 : Int32) (x2 : Nat) (x1 : Int32) (x0 : Nat) (I : Nat → Nat → Int32) (L : Nat → Nat → Int64) (P : Nat → Nat → Option Nat) (Q : Option Value → zMm → Prop), zAk zSH x0 = some .int → zAk zSH x2 = some .int → 0 ≤ x1 → 0 ≤ x3 → 0 ≤ x4 → x1.toNatClampNeg + x4.toNatClampNeg ≤ zAn zSH x0 → x3.toNatClampNeg + x4.toNatClampNeg ≤ zAn zSH x2 → zWp d zi_63 none 60 [l0, l1] [.int x4, .int x3, .ref x2, .int x1, .ref x0] (zSH, I, L, P) Q = zWp d zi_63 none 63 [l0, l1] [] (zSH, zw I x2 (va_cpy (I x0) (I x2) x1.toNatClampNeg x3.toNatClampNeg x4.toNatClampNeg), L, P) Q) ∧
    (∀ (d : Nat) (l0 : Value) (l1 : Nat)  (h : zMm) (Q : Option Value → zMm → Prop), zWp d zi_63 none 63 [l0, .ref l1] [] h Q = zWp d zi_63 none 64 [l0, .ref l1] [.ref l1] h Q) ∧
    (∀ (d : Nat) (l0 : Value) (l1 : Value) (x0 : Nat) (I : Nat → Nat → Int32) (L : Nat → Nat → Int64) (P : Nat → Nat → Option Nat) (Q : Option Value → zMm → Prop), zSH[x0]? = some (.inl 8) → zWp d zi_63 none 64 [l0, l1] [.ref x0] (zSH, I, L, P) Q = zWp d zi_63 none 67 [l0, l1] [va_rf (P x0 2)] (zSH, I, L, P) Q) ∧
    (∀ (d : Nat) (l0 : Value) (l1 : Value) (x0 : Nat) (h : zMm) (Q : Option Value → zMm → Prop), zWp d zi_63 none 67 [l0, l1] [.ref x0] h Q = zWp d zi_63 none 68 [l0, l1] [.int 1, .ref x0] h Q) ∧
    (∀ (d : Nat) (l0 : Value) (l1 : Value) (x1 : Int32) (x0 : Nat) (I : Nat → Nat → Int32) (L : Nat → Nat → Int64) (P : Nat → Nat → Option Nat) (Q : Option Value → zMm → Prop), zAk zSH x0 = some (.array .int) → zWp d zi_63 none 68 [l0, l1] [.int x1, .ref x0] (zSH, I, L, P) Q = (vp_in x1 (zAn zSH x0) ∧ zWp d zi_63 none 69 [l0, l1] [va_rf (P x0 x1.toNatClampNeg)] (zSH, I, L, P) Q)) ∧
    (∀ (d : Nat) (l0 : Value) (l1 : Value) (x0 : Nat) (h : zMm) (Q : Option Value → zMm → Prop), zWp d zi_63 none 69 [l0, l1] [.ref x0] h Q = zWp d zi_63 none 70 [l0, l1] [.int 0, .ref x0] h Q) ∧
    (∀ (d : Nat) (l0 : Nat) (l1 : Value) (x1 : Int32) (x0 : Nat) (h : zMm) (Q : Option Value → zMm → Prop), zWp d zi_63 none 70 [.ref l0, l1] [.int x1, .ref x0] h Q = zWp d zi_63 none 71 [.ref l0, l1] [.ref l0, .int x1, .ref x0] h Q) ∧
    (∀ (d : Nat) (l0 : Value) (l1 : Value) (x2 : Nat) (x1 : Int32) (x0 : Nat) (I : Nat → Nat → Int32) (L : Nat → Nat → Int64) (P : Nat → Nat → Option Nat) (Q : Option Value → zMm → Prop), zSH[x2]? = some (.inl 8) → zWp d zi_63 none 71 [l0, l1] [.ref x2, .int x1, .ref x0] (zSH, I, L, P) Q = zWp d zi_63 none 74 [l0, l1] [va_rf (P x2 2), .int x1, .ref x0] (zSH, I, L, P) Q) ∧
    (∀ (d : Nat) (l0 : Value) (l1 : Value) (x2 : Nat) (x1 : Int32) (x0 : Nat) (h : zMm) (Q : Option Value → zMm → Prop), zWp d zi_63 none 74 [l0, l1] [.ref x2, .int x1, .ref x0] h Q = zWp d zi_63 none 75 [l0, l1] [.int 1, .ref x2, .int x1, .ref x0] h Q) ∧
    (∀ (d : Nat) (l0 : Value) (l1 : Value) (x3 : Int32) (x2 : Nat) (x1 : Int32) (x0 : Nat) (I : Nat → Nat → Int32) (L : Nat → Nat → Int64) (P : Nat → Nat → Option Nat) (Q : Option Value → zMm → Prop), zAk zSH x2 = some (.array .int) → zWp d zi_63 none 75 [l0, l1] [.int x3, .ref x2, .int x1, .ref x0] (zSH, I, L, P) Q = (vp_in x3 (zAn zSH x2) ∧ zWp d zi_63 none 76 [l0, l1] [va_rf (P x2 x3.toNatClampNeg), .int x1, .ref x0] (zSH, I, L, P) Q)) ∧
    (∀ (d : Nat) (l0 : Value) (l1 : Value) (x2 : Nat) (x1 : Int32) (x0 : Nat) (h : zMm) (Q : Option Value → zMm → Prop), zWp d zi_63 none 76 [l0, l1] [.ref x2, .int x1, .ref x0] h Q = zWp d zi_63 none 77 [l0, l1] [.int 0, .ref x2, .int x1, .ref x0] h Q) ∧
    (∀ (d : Nat) (l0 : Nat) (l1 : Value) (x3 : Int32) (x2 : Nat) (x1 : Int32) (x0 : Nat) (h : zMm) (Q : Option Value → zMm → Prop), zWp d zi_63 none 77 [.ref l0, l1] [.int x3, .ref x2, .int x1, .ref x0] h Q = zWp d zi_63 none 78 [.ref l0, l1] [.ref l0, .int x3, .ref x2, .int x1, .ref x0] h Q) ∧
    (∀ (d : Nat) (l0 : Value) (l1 : Value) (x4 : Nat) (x3 : Int32) (x2 : Nat) (x1 : Int32) (x0 : Nat) (I : Nat → Nat → Int32) (L : Nat → Nat → Int64) (P : Nat → Nat → Option Nat) (Q : Option Value → zMm → Prop), zSH[x4]? = some (.inl 8) → zWp d zi_63 none 78 [l0, l1] [.ref x4, .int x3, .ref x2, .int x1, .ref x0] (zSH, I, L, P) Q = zWp d zi_63 none 81 [l0, l1] [.int (I x4 6), .int x3, .ref x2, .int x1, .ref x0] (zSH, I, L, P) Q) ∧
    (∀ (d : Nat) (l0 : Value) (l1 : Value) (x4 : Int32) (x3 : Int32) (x2 : Nat) (x1 : Int32) (x0 : Nat) (I : Nat → Nat → Int32) (L : Nat → Nat → Int64) (P : Nat → Nat → Option Nat) (Q : Option Value → zMm → Prop), zAk zSH x0 = some .int → zAk zSH x2 = some .int → 0 ≤ x1 → 0 ≤ x3 → 0 ≤ x4 → x1.toNatClampNeg + x4.toNatClampNeg ≤ zAn zSH x0 → x3.toNatClampNeg + x4.toNatClampNeg ≤ zAn zSH x2 → zWp d zi_63 none 81 [l0, l1] [.int x4, .int x3, .ref x2, .int x1, .ref x0] (zSH, I, L, P) Q = zWp d zi_63 none 84 [l0, l1] [] (zSH, zw I x2 (va_cpy (I x0) (I x2) x1.toNatClampNeg x3.toNatClampNeg x4.toNatClampNeg), L, P) Q) ∧
    (∀ (d : Nat) (l0 : Nat) (l1 : Value)  (h : zMm) (Q : Option Value → zMm → Prop), zWp d zi_63 none 84 [.ref l0, l1] [] h Q = zWp d zi_63 none 85 [.ref l0, l1] [.ref l0] h Q) ∧
    (∀ (d : Nat) (l0 : Value) (l1 : Value) (x0 : Nat) (I : Nat → Nat → Int32) (L : Nat → Nat → Int64) (P : Nat → Nat → Option Nat) (Q : Option Value → zMm → Prop), zSH[x0]? = some (.inl 8) → zWp d zi_63 none 85 [l0, l1] [.ref x0] (zSH, I, L, P) Q = zWM d 64 [.ref x0] (zSH, I, L, P) (fun r h1 => zWp d zi_63 none 88 [l0, l1] (r.toList ++ []) h1 Q)) ∧
    (∀ (d : Nat) (l0 : Value) (l1 : Value)  (h : zMm) (Q : Option Value → zMm → Prop), zWp d zi_63 none 88 [l0, l1] [] h Q = Q none h) :=
  ⟨(fun d l0 l1  h Q => zr_aload_n rfl rfl),
   (fun d l0 l1 x0 h Q => zr_aload_n rfl rfl),
   (fun d l0 l1 x1 x0 I L P Q p0 => zr_getI rfl lf_8_32 (fun _ _ _ => rfl) p0),
   (fun d l0 l1 x1 x0 I L P Q p0 => zr_putI rfl lf_8_32 (by decide) rfl p0),
   (fun d l0 l1  h Q => zr_aload_n rfl rfl),
   (fun d l0 l1 x0 I L P Q p0 => zr_getQ rfl lf_8_11 (fun _ _ _ => rfl) p0),
   (fun d l0 l1 x0 h Q => zr_iconst rfl (by decide)),
   (fun d l0 l1 x1 x0 h Q => zr_aload_n rfl rfl),
   (fun d l0 l1 x2 x1 x0 I L P Q p0 => zr_getQ rfl lf_8_11 (fun _ _ _ => rfl) p0),
   (fun d l0 l1 x2 x1 x0 h Q => zr_iconst rfl (by decide)),
   (fun d l0 l1 x3 x2 x1 x0 h Q => zr_aload_n rfl rfl),
   (fun d l0 l1 x4 x3 x2 x1 x0 I L P Q p0 => zr_getI rfl lf_8_32 (fun _ _ _ => rfl) p0),
   (fun d l0 l1 x4 x3 x2 x1 x0 I L P Q p0 p1 p2 p3 p4 p5 p6 => zr_cpyI rfl lm_8_39 (Nat.le_of_ble_eq_true rfl) p0 p1 p2 p3 p4 p5 p6),
   (fun d l0 l1  h Q => zr_aload_n rfl rfl),
   (fun d l0 l1 x0 I L P Q p0 => zr_getQ rfl lf_8_15 (fun _ _ _ => rfl) p0),
   (fun d l0 l1 x0 h Q => zr_iconst rfl (by decide)),
   (fun d l0 l1 x1 x0 h Q => zr_aload_n rfl rfl),
   (fun d l0 l1 x2 x1 x0 I L P Q p0 => zr_getQ rfl lf_8_15 (fun _ _ _ => rfl) p0),
   (fun d l0 l1 x2 x1 x0 h Q => zr_iconst rfl (by decide)),
   (fun d l0 l1 x3 x2 x1 x0 h Q => zr_aload_n rfl rfl),
   (fun d l0 l1 x4 x3 x2 x1 x0 I L P Q p0 => zr_getI rfl lf_8_32 (fun _ _ _ => rfl) p0),
   (fun d l0 l1 x4 x3 x2 x1 x0 I L P Q p0 p1 p2 p3 p4 p5 p6 => zr_cpyI rfl lm_8_39 (Nat.le_of_ble_eq_true rfl) p0 p1 p2 p3 p4 p5 p6),
   (fun d l0 l1  h Q => zr_aload_n rfl rfl),
   (fun d l0 l1 x0 I L P Q p0 => zr_getQ rfl lf_8_20 (fun _ _ _ => rfl) p0),
   (fun d l0 l1 x0 h Q => zr_iconst rfl (by decide)),
   (fun d l0 l1 x1 x0 I L P Q p0 => zr_qldA rfl p0),
   (fun d l0 l1 x0 h Q => zr_iconst rfl (by decide)),
   (fun d l0 l1 x1 x0 h Q => zr_aload_n rfl rfl),
   (fun d l0 l1 x2 x1 x0 I L P Q p0 => zr_getQ rfl lf_8_20 (fun _ _ _ => rfl) p0),
   (fun d l0 l1 x2 x1 x0 h Q => zr_iconst rfl (by decide)),
   (fun d l0 l1 x3 x2 x1 x0 I L P Q p0 => zr_qldA rfl p0),
   (fun d l0 l1 x2 x1 x0 h Q => zr_iconst rfl (by decide)),
   (fun d l0 l1 x3 x2 x1 x0 h Q => zr_aload_n rfl rfl),
   (fun d l0 l1 x4 x3 x2 x1 x0 I L P Q p0 => zr_getI rfl lf_8_32 (fun _ _ _ => rfl) p0),
   (fun d l0 l1 x4 x3 x2 x1 x0 I L P Q p0 p1 p2 p3 p4 p5 p6 => zr_cpyI rfl lm_8_39 (Nat.le_of_ble_eq_true rfl) p0 p1 p2 p3 p4 p5 p6),
   (fun d l0 l1  h Q => zr_aload_n rfl rfl),
   (fun d l0 l1 x0 I L P Q p0 => zr_getQ rfl lf_8_20 (fun _ _ _ => rfl) p0),
   (fun d l0 l1 x0 h Q => zr_iconst rfl (by decide)),
   (fun d l0 l1 x1 x0 I L P Q p0 => zr_qldA rfl p0),
   (fun d l0 l1 x0 h Q => zr_iconst rfl (by decide)),
   (fun d l0 l1 x1 x0 h Q => zr_aload_n rfl rfl),
   (fun d l0 l1 x2 x1 x0 I L P Q p0 => zr_getQ rfl lf_8_20 (fun _ _ _ => rfl) p0),
   (fun d l0 l1 x2 x1 x0 h Q => zr_iconst rfl (by decide)),
   (fun d l0 l1 x3 x2 x1 x0 I L P Q p0 => zr_qldA rfl p0),
   (fun d l0 l1 x2 x1 x0 h Q => zr_iconst rfl (by decide)),
   (fun d l0 l1 x3 x2 x1 x0 h Q => zr_aload_n rfl rfl),
   (fun d l0 l1 x4 x3 x2 x1 x0 I L P Q p0 => zr_getI rfl lf_8_32 (fun _ _ _ => rfl) p0),
   (fun d l0 l1 x4 x3 x2 x1 x0 I L P Q p0 p1 p2 p3 p4 p5 p6 => zr_cpyI rfl lm_8_39 (Nat.le_of_ble_eq_true rfl) p0 p1 p2 p3 p4 p5 p6),
   (fun d l0 l1  h Q => zr_aload_n rfl rfl),
   (fun d l0 l1 x0 I L P Q p0 => zr_vir (as := []) (rest := []) rfl lm_8_36 m_64 kd_64 rfl (Nat.le_of_ble_eq_true rfl) p0),
   (fun d l0 l1  h Q => zr_vret rfl rfl)⟩
theorem E_X8_settle : ∀ (d : Nat) (a0 : Nat) (h : zMm) (Q : Option Value → zMm → Prop), zWM (d + 1) 64 [.ref a0] h Q = zWp d zi_64 none 0 [.ref a0, .retAddr 0, .retAddr 0, .retAddr 0, .retAddr 0, .retAddr 0, .retAddr 0] [] h Q := fun d a0 h Q => zW_M m_64 (Nat.le_of_ble_eq_true rfl) rfl
set_option maxRecDepth 100000 in
theorem R_X8_settle :
    (∀ (d : Nat) (l0 : Value) (l1 : Value) (l2 : Value) (l3 : Value) (l4 : Value) (l5 : Value) (l6 : Value)  (h : zMm) (Q : Option Value → zMm → Prop), zWp d zi_64 none 0 [l0, l1, l2, l3, l4, l5, l6] [] h Q = zWp d zi_64 none 1 [l0, l1, l2, l3, l4, l5, l6] [.int 0] h Q) ∧
    (∀ (d : Nat) (l0 : Nat) (l1 : Value) (l2 : Value) (l3 : Value) (l4 : Value) (l5 : Value) (l6 : Value) (x0 : Int32) (h : zMm) (Q : Option Value → zMm → Prop), zWp d zi_64 none 1 [.ref l0, l1, l2, l3, l4, l5, l6] [.int x0] h Q = zWp d zi_64 none 2 [.ref l0, .int x0, l2, l3, l4, l5, l6] [] h Q) ∧
    (∀ (d : Nat) (l0 : Value) (l1 : Value) (l2 : Value) (l3 : Value) (l4 : Value) (l5 : Value) (l6 : Value)  (h : zMm) (Q : Option Value → zMm → Prop), zWp d zi_64 none 2 [l0, l1, l2, l3, l4, l5, l6] [] h Q = zWp d zi_64 none 3 [l0, l1, l2, l3, l4, l5, l6] [.int 0] h Q) ∧
    (∀ (d : Nat) (l0 : Value) (l1 : Int32) (l2 : Value) (l3 : Value) (l4 : Value) (l5 : Value) (l6 : Value) (x0 : Int32) (h : zMm) (Q : Option Value → zMm → Prop), zWp d zi_64 none 3 [l0, .int l1, l2, l3, l4, l5, l6] [.int x0] h Q = zWp d zi_64 none 4 [l0, .int l1, .int x0, l3, l4, l5, l6] [] h Q) ∧
    (∀ (d : Nat) (l0 : Value) (l1 : Value) (l2 : Value) (l3 : Value) (l4 : Value) (l5 : Value) (l6 : Value)  (h : zMm) (Q : Option Value → zMm → Prop), zWp d zi_64 none 4 [l0, l1, l2, l3, l4, l5, l6] [] h Q = zWp d zi_64 none 5 [l0, l1, l2, l3, l4, l5, l6] [.int 0] h Q) ∧
    (∀ (d : Nat) (l0 : Value) (l1 : Value) (l2 : Int32) (l3 : Value) (l4 : Value) (l5 : Value) (l6 : Value) (x0 : Int32) (h : zMm) (Q : Option Value → zMm → Prop), zWp d zi_64 none 5 [l0, l1, .int l2, l3, l4, l5, l6] [.int x0] h Q = zWp d zi_64 none 6 [l0, l1, .int l2, .int x0, l4, l5, l6] [] h Q) ∧
    (∀ (d : Nat) (l0 : Nat) (l1 : Value) (l2 : Value) (l3 : Value) (l4 : Value) (l5 : Value) (l6 : Value) (x0 : Int32) (h : zMm) (Q : Option Value → zMm → Prop), zWp d zi_64 none 7 [.ref l0, l1, l2, l3, l4, l5, l6] [.int x0] h Q = zWp d zi_64 none 8 [.ref l0, l1, l2, l3, l4, l5, l6] [.ref l0, .int x0] h Q) ∧
    (∀ (d : Nat) (l0 : Value) (l1 : Value) (l2 : Value) (l3 : Value) (l4 : Value) (l5 : Value) (l6 : Value) (x1 : Nat) (x0 : Int32) (I : Nat → Nat → Int32) (L : Nat → Nat → Int64) (P : Nat → Nat → Option Nat) (Q : Option Value → zMm → Prop), zSH[x1]? = some (.inl 8) → zWp d zi_64 none 8 [l0, l1, l2, l3, l4, l5, l6] [.ref x1, .int x0] (zSH, I, L, P) Q = zWp d zi_64 none 11 [l0, l1, l2, l3, l4, l5, l6] [.int (I x1 6), .int x0] (zSH, I, L, P) Q) ∧
    (∀ (d : Nat) (l0 : Value) (l1 : Value) (l2 : Value) (l3 : Value) (l4 : Value) (l5 : Value) (l6 : Value) (x1 : Int32) (x0 : Int32) (h : zMm) (Q : Option Value → zMm → Prop), zWp d zi_64 none 11 [l0, l1, l2, l3, l4, l5, l6] [.int x1, .int x0] h Q = if x1 ≤ x0 then zWp d zi_64 none 60 [l0, l1, l2, l3, l4, l5, l6] [] h Q else zWp d zi_64 none 14 [l0, l1, l2, l3, l4, l5, l6] [] h Q) ∧
    (∀ (d : Nat) (l0 : Value) (l1 : Int32) (l2 : Value) (l3 : Value) (l4 : Value) (l5 : Value) (l6 : Value)  (h : zMm) (Q : Option Value → zMm → Prop), zWp d zi_64 none 14 [l0, .int l1, l2, l3, l4, l5, l6] [] h Q = zWp d zi_64 none 15 [l0, .int l1, l2, l3, l4, l5, l6] [.int l1] h Q) ∧
    (∀ (d : Nat) (l0 : Nat) (l1 : Value) (l2 : Value) (l3 : Value) (l4 : Value) (l5 : Value) (l6 : Value) (x0 : Int32) (h : zMm) (Q : Option Value → zMm → Prop), zWp d zi_64 none 15 [.ref l0, l1, l2, l3, l4, l5, l6] [.int x0] h Q = zWp d zi_64 none 16 [.ref l0, l1, l2, l3, l4, l5, l6] [.ref l0, .int x0] h Q) ∧
    (∀ (d : Nat) (l0 : Value) (l1 : Value) (l2 : Value) (l3 : Value) (l4 : Value) (l5 : Value) (l6 : Value) (x1 : Nat) (x0 : Int32) (I : Nat → Nat → Int32) (L : Nat → Nat → Int64) (P : Nat → Nat → Option Nat) (Q : Option Value → zMm → Prop), zSH[x1]? = some (.inl 8) → zWp d zi_64 none 16 [l0, l1, l2, l3, l4, l5, l6] [.ref x1, .int x0] (zSH, I, L, P) Q = zWp d zi_64 none 19 [l0, l1, l2, l3, l4, l5, l6] [va_rf (P x1 2), .int x0] (zSH, I, L, P) Q) ∧
    (∀ (d : Nat) (l0 : Value) (l1 : Value) (l2 : Value) (l3 : Value) (l4 : Value) (l5 : Value) (l6 : Value) (x1 : Nat) (x0 : Int32) (h : zMm) (Q : Option Value → zMm → Prop), zWp d zi_64 none 19 [l0, l1, l2, l3, l4, l5, l6] [.ref x1, .int x0] h Q = zWp d zi_64 none 20 [l0, l1, l2, l3, l4, l5, l6] [.int 0, .ref x1, .int x0] h Q) ∧
    (∀ (d : Nat) (l0 : Value) (l1 : Value) (l2 : Value) (l3 : Value) (l4 : Value) (l5 : Value) (l6 : Value) (x2 : Int32) (x1 : Nat) (x0 : Int32) (I : Nat → Nat → Int32) (L : Nat → Nat → Int64) (P : Nat → Nat → Option Nat) (Q : Option Value → zMm → Prop), zAk zSH x1 = some (.array .int) → zWp d zi_64 none 20 [l0, l1, l2, l3, l4, l5, l6] [.int x2, .ref x1, .int x0] (zSH, I, L, P) Q = (vp_in x2 (zAn zSH x1) ∧ zWp d zi_64 none 21 [l0, l1, l2, l3, l4, l5, l6] [va_rf (P x1 x2.toNatClampNeg), .int x0] (zSH, I, L, P) Q)) ∧
    (∀ (d : Nat) (l0 : Value) (l1 : Value) (l2 : Value) (l3 : Int32) (l4 : Value) (l5 : Value) (l6 : Value) (x1 : Nat) (x0 : Int32) (h : zMm) (Q : Option Value → zMm → Prop), zWp d zi_64 none 21 [l0, l1, l2, .int l3, l4, l5, l6] [.ref x1, .int x0] h Q = zWp d zi_64 none 22 [l0, l1, l2, .int l3, l4, l5, l6] [.int l3, .ref x1, .int x0] h Q) ∧
    (∀ (d : Nat) (l0 : Value) (l1 : Value) (l2 : Value) (l3 : Value) (l4 : Value) (l5 : Value) (l6 : Value) (x2 : Int32) (x1 : Nat) (x0 : Int32) (I : Nat → Nat → Int32) (L : Nat → Nat → Int64) (P : Nat → Nat → Option Nat) (Q : Option Value → zMm → Prop), zAk zSH x1 = some .int → zWp d zi_64 none 22 [l0, l1, l2, l3, l4, l5, l6] [.int x2, .ref x1, .int x0] (zSH, I, L, P) Q = (vp_in x2 (zAn zSH x1) ∧ zWp d zi_64 none 23 [l0, l1, l2, l3, l4, l5, l6] [.int (I x1 x2.toNatClampNeg), .int x0] (zSH, I, L, P) Q)) ∧
    (∀ (d : Nat) (l0 : Value) (l1 : Value) (l2 : Value) (l3 : Value) (l4 : Value) (l5 : Value) (l6 : Value) (x1 : Int32) (x0 : Int32) (h : zMm) (Q : Option Value → zMm → Prop), zWp d zi_64 none 23 [l0, l1, l2, l3, l4, l5, l6] [.int x1, .int x0] h Q = zWp d zi_64 none 24 [l0, l1, l2, l3, l4, l5, l6] [.int (x0 + x1)] h Q) ∧
    (∀ (d : Nat) (l0 : Nat) (l1 : Value) (l2 : Value) (l3 : Value) (l4 : Value) (l5 : Value) (l6 : Value) (x0 : Int32) (h : zMm) (Q : Option Value → zMm → Prop), zWp d zi_64 none 24 [.ref l0, l1, l2, l3, l4, l5, l6] [.int x0] h Q = zWp d zi_64 none 25 [.ref l0, .int x0, l2, l3, l4, l5, l6] [] h Q) ∧
    (∀ (d : Nat) (l0 : Value) (l1 : Value) (l2 : Int32) (l3 : Value) (l4 : Value) (l5 : Value) (l6 : Value)  (h : zMm) (Q : Option Value → zMm → Prop), zWp d zi_64 none 25 [l0, l1, .int l2, l3, l4, l5, l6] [] h Q = zWp d zi_64 none 26 [l0, l1, .int l2, l3, l4, l5, l6] [.int l2] h Q) ∧
    (∀ (d : Nat) (l0 : Nat) (l1 : Value) (l2 : Value) (l3 : Value) (l4 : Value) (l5 : Value) (l6 : Value) (x0 : Int32) (h : zMm) (Q : Option Value → zMm → Prop), zWp d zi_64 none 26 [.ref l0, l1, l2, l3, l4, l5, l6] [.int x0] h Q = zWp d zi_64 none 27 [.ref l0, l1, l2, l3, l4, l5, l6] [.ref l0, .int x0] h Q) ∧
    (∀ (d : Nat) (l0 : Value) (l1 : Value) (l2 : Value) (l3 : Value) (l4 : Value) (l5 : Value) (l6 : Value) (x1 : Nat) (x0 : Int32) (I : Nat → Nat → Int32) (L : Nat → Nat → Int64) (P : Nat → Nat → Option Nat) (Q : Option Value → zMm → Prop), zSH[x1]? = some (.inl 8) → zWp d zi_64 none 27 [l0, l1, l2, l3, l4, l5, l6] [.ref x1, .int x0] (zSH, I, L, P) Q = zWp d zi_64 none 30 [l0, l1, l2, l3, l4, l5, l6] [va_rf (P x1 2), .int x0] (zSH, I, L, P) Q) ∧
    (∀ (d : Nat) (l0 : Value) (l1 : Value) (l2 : Value) (l3 : Value) (l4 : Value) (l5 : Value) (l6 : Value) (x1 : Nat) (x0 : Int32) (h : zMm) (Q : Option Value → zMm → Prop), zWp d zi_64 none 30 [l0, l1, l2, l3, l4, l5, l6] [.ref x1, .int x0] h Q = zWp d zi_64 none 31 [l0, l1, l2, l3, l4, l5, l6] [.int 1, .ref x1, .int x0] h Q) ∧
    (∀ (d : Nat) (l0 : Value) (l1 : Value) (l2 : Value) (l3 : Value) (l4 : Value) (l5 : Value) (l6 : Value) (x2 : Int32) (x1 : Nat) (x0 : Int32) (I : Nat → Nat → Int32) (L : Nat → Nat → Int64) (P : Nat → Nat → Option Nat) (Q : Option Value → zMm → Prop), zAk zSH x1 = some (.array .int) → zWp d zi_64 none 31 [l0, l1, l2, l3, l4, l5, l6] [.int x2, .ref x1, .int x0] (zSH, I, L, P) Q = (vp_in x2 (zAn zSH x1) ∧ zWp d zi_64 none 32 [l0, l1, l2, l3, l4, l5, l6] [va_rf (P x1 x2.toNatClampNeg), .int x0] (zSH, I, L, P) Q)) ∧
    (∀ (d : Nat) (l0 : Value) (l1 : Value) (l2 : Value) (l3 : Int32) (l4 : Value) (l5 : Value) (l6 : Value) (x1 : Nat) (x0 : Int32) (h : zMm) (Q : Option Value → zMm → Prop), zWp d zi_64 none 32 [l0, l1, l2, .int l3, l4, l5, l6] [.ref x1, .int x0] h Q = zWp d zi_64 none 33 [l0, l1, l2, .int l3, l4, l5, l6] [.int l3, .ref x1, .int x0] h Q) ∧
    (∀ (d : Nat) (l0 : Value) (l1 : Value) (l2 : Value) (l3 : Value) (l4 : Value) (l5 : Value) (l6 : Value) (x2 : Int32) (x1 : Nat) (x0 : Int32) (I : Nat → Nat → Int32) (L : Nat → Nat → Int64) (P : Nat → Nat → Option Nat) (Q : Option Value → zMm → Prop), zAk zSH x1 = some .int → zWp d zi_64 none 33 [l0, l1, l2, l3, l4, l5, l6] [.int x2, .ref x1, .int x0] (zSH, I, L, P) Q = (vp_in x2 (zAn zSH x1) ∧ zWp d zi_64 none 34 [l0, l1, l2, l3, l4, l5, l6] [.int (I x1 x2.toNatClampNeg), .int x0] (zSH, I, L, P) Q)) ∧
    (∀ (d : Nat) (l0 : Value) (l1 : Value) (l2 : Value) (l3 : Value) (l4 : Value) (l5 : Value) (l6 : Value) (x1 : Int32) (x0 : Int32) (h : zMm) (Q : Option Value → zMm → Prop), zWp d zi_64 none 34 [l0, l1, l2, l3, l4, l5, l6] [.int x1, .int x0] h Q = zWp d zi_64 none 35 [l0, l1, l2, l3, l4, l5, l6] [.int (x0 + x1)] h Q) ∧
    (∀ (d : Nat) (l0 : Value) (l1 : Int32) (l2 : Value) (l3 : Value) (l4 : Value) (l5 : Value) (l6 : Value) (x0 : Int32) (h : zMm) (Q : Option Value → zMm → Prop), zWp d zi_64 none 35 [l0, .int l1, l2, l3, l4, l5, l6] [.int x0] h Q = zWp d zi_64 none 36 [l0, .int l1, .int x0, l3, l4, l5, l6] [] h Q) ∧
    (∀ (d : Nat) (l0 : Nat) (l1 : Value) (l2 : Value) (l3 : Value) (l4 : Value) (l5 : Value) (l6 : Value)  (h : zMm) (Q : Option Value → zMm → Prop), zWp d zi_64 none 36 [.ref l0, l1, l2, l3, l4, l5, l6] [] h Q = zWp d zi_64 none 37 [.ref l0, l1, l2, l3, l4, l5, l6] [.ref l0] h Q) ∧
    (∀ (d : Nat) (l0 : Value) (l1 : Value) (l2 : Value) (l3 : Value) (l4 : Value) (l5 : Value) (l6 : Value) (x0 : Nat) (I : Nat → Nat → Int32) (L : Nat → Nat → Int64) (P : Nat → Nat → Option Nat) (Q : Option Value → zMm → Prop), zSH[x0]? = some (.inl 8) → zWp d zi_64 none 37 [l0, l1, l2, l3, l4, l5, l6] [.ref x0] (zSH, I, L, P) Q = zWp d zi_64 none 40 [l0, l1, l2, l3, l4, l5, l6] [va_rf (P x0 3)] (zSH, I, L, P) Q) ∧
    (∀ (d : Nat) (l0 : Value) (l1 : Value) (l2 : Value) (l3 : Value) (l4 : Value) (l5 : Value) (l6 : Value) (x0 : Nat) (h : zMm) (Q : Option Value → zMm → Prop), zWp d zi_64 none 40 [l0, l1, l2, l3, l4, l5, l6] [.ref x0] h Q = zWp d zi_64 none 41 [l0, l1, l2, l3, l4, l5, l6] [.int 0, .ref x0] h Q) ∧
    (∀ (d : Nat) (l0 : Value) (l1 : Value) (l2 : Value) (l3 : Value) (l4 : Value) (l5 : Value) (l6 : Value) (x1 : Int32) (x0 : Nat) (I : Nat → Nat → Int32) (L : Nat → Nat → Int64) (P : Nat → Nat → Option Nat) (Q : Option Value → zMm → Prop), zAk zSH x0 = some (.array .int) → zWp d zi_64 none 41 [l0, l1, l2, l3, l4, l5, l6] [.int x1, .ref x0] (zSH, I, L, P) Q = (vp_in x1 (zAn zSH x0) ∧ zWp d zi_64 none 42 [l0, l1, l2, l3, l4, l5, l6] [va_rf (P x0 x1.toNatClampNeg)] (zSH, I, L, P) Q)) ∧
    (∀ (d : Nat) (l0 : Value) (l1 : Value) (l2 : Value) (l3 : Int32) (l4 : Value) (l5 : Value) (l6 : Value) (x0 : Nat) (h : zMm) (Q : Option Value → zMm → Prop), zWp d zi_64 none 42 [l0, l1, l2, .int l3, l4, l5, l6] [.ref x0] h Q = zWp d zi_64 none 43 [l0, l1, l2, .int l3, l4, l5, l6] [.int l3, .ref x0] h Q) ∧
    (∀ (d : Nat) (l0 : Value) (l1 : Int32) (l2 : Value) (l3 : Value) (l4 : Value) (l5 : Value) (l6 : Value) (x1 : Int32) (x0 : Nat) (h : zMm) (Q : Option Value → zMm → Prop), zWp d zi_64 none 43 [l0, .int l1, l2, l3, l4, l5, l6] [.int x1, .ref x0] h Q = zWp d zi_64 none 44 [l0, .int l1, l2, l3, l4, l5, l6] [.int l1, .int x1, .ref x0] h Q) ∧
    (∀ (d : Nat) (l0 : Value) (l1 : Value) (l2 : Value) (l3 : Value) (l4 : Value) (l5 : Value) (l6 : Value) (x2 : Int32) (x1 : Int32) (x0 : Nat) (I : Nat → Nat → Int32) (L : Nat → Nat → Int64) (P : Nat → Nat → Option Nat) (Q : Option Value → zMm → Prop), zAk zSH x0 = some .int → zWp d zi_64 none 44 [l0, l1, l2, l3, l4, l5, l6] [.int x2, .int x1, .ref x0] (zSH, I, L, P) Q = (vp_in x1 (zAn zSH x0) ∧ zWp d zi_64 none 45 [l0, l1, l2, l3, l4, l5, l6] [] (zSH, zw I x0 (upd (I x0) x1.toNatClampNeg x2), L, P) Q)) ∧
    (∀ (d : Nat) (l0 : Nat) (l1 : Value) (l2 : Value) (l3 : Value) (l4 : Value) (l5 : Value) (l6 : Value)  (h : zMm) (Q : Option Value → zMm → Prop), zWp d zi_64 none 45 [.ref l0, l1, l2, l3, l4, l5, l6] [] h Q = zWp d zi_64 none 46 [.ref l0, l1, l2, l3, l4, l5, l6] [.ref l0] h Q) ∧
    (∀ (d : Nat) (l0 : Value) (l1 : Value) (l2 : Value) (l3 : Value) (l4 : Value) (l5 : Value) (l6 : Value) (x0 : Nat) (I : Nat → Nat → Int32) (L : Nat → Nat → Int64) (P : Nat → Nat → Option Nat) (Q : Option Value → zMm → Prop), zSH[x0]? = some (.inl 8) → zWp d zi_64 none 46 [l0, l1, l2, l3, l4, l5, l6] [.ref x0] (zSH, I, L, P) Q = zWp d zi_64 none 49 [l0, l1, l2, l3, l4, l5, l6] [va_rf (P x0 3)] (zSH, I, L, P) Q) ∧
    (∀ (d : Nat) (l0 : Value) (l1 : Value) (l2 : Value) (l3 : Value) (l4 : Value) (l5 : Value) (l6 : Value) (x0 : Nat) (h : zMm) (Q : Option Value → zMm → Prop), zWp d zi_64 none 49 [l0, l1, l2, l3, l4, l5, l6] [.ref x0] h Q = zWp d zi_64 none 50 [l0, l1, l2, l3, l4, l5, l6] [.int 1, .ref x0] h Q) ∧
    (∀ (d : Nat) (l0 : Value) (l1 : Value) (l2 : Value) (l3 : Value) (l4 : Value) (l5 : Value) (l6 : Value) (x1 : Int32) (x0 : Nat) (I : Nat → Nat → Int32) (L : Nat → Nat → Int64) (P : Nat → Nat → Option Nat) (Q : Option Value → zMm → Prop), zAk zSH x0 = some (.array .int) → zWp d zi_64 none 50 [l0, l1, l2, l3, l4, l5, l6] [.int x1, .ref x0] (zSH, I, L, P) Q = (vp_in x1 (zAn zSH x0) ∧ zWp d zi_64 none 51 [l0, l1, l2, l3, l4, l5, l6] [va_rf (P x0 x1.toNatClampNeg)] (zSH, I, L, P) Q)) ∧
    (∀ (d : Nat) (l0 : Value) (l1 : Value) (l2 : Value) (l3 : Int32) (l4 : Value) (l5 : Value) (l6 : Value) (x0 : Nat) (h : zMm) (Q : Option Value → zMm → Prop), zWp d zi_64 none 51 [l0, l1, l2, .int l3, l4, l5, l6] [.ref x0] h Q = zWp d zi_64 none 52 [l0, l1, l2, .int l3, l4, l5, l6] [.int l3, .ref x0] h Q) ∧
    (∀ (d : Nat) (l0 : Value) (l1 : Value) (l2 : Int32) (l3 : Value) (l4 : Value) (l5 : Value) (l6 : Value) (x1 : Int32) (x0 : Nat) (h : zMm) (Q : Option Value → zMm → Prop), zWp d zi_64 none 52 [l0, l1, .int l2, l3, l4, l5, l6] [.int x1, .ref x0] h Q = zWp d zi_64 none 53 [l0, l1, .int l2, l3, l4, l5, l6] [.int l2, .int x1, .ref x0] h Q) ∧
    (∀ (d : Nat) (l0 : Value) (l1 : Value) (l2 : Value) (l3 : Value) (l4 : Value) (l5 : Value) (l6 : Value) (x2 : Int32) (x1 : Int32) (x0 : Nat) (I : Nat → Nat → Int32) (L : Nat → Nat → Int64) (P : Nat → Nat → Option Nat) (Q : Option Value → zMm → Prop), zAk zSH x0 = some .int → zWp d zi_64 none 53 [l0, l1, l2, l3, l4, l5, l6] [.int x2, .int x1, .ref x0] (zSH, I, L, P) Q = (vp_in x1 (zAn zSH x0) ∧ zWp d zi_64 none 54 [l0, l1, l2, l3, l4, l5, l6] [] (zSH, zw I x0 (upd (I x0) x1.toNatClampNeg x2), L, P) Q)) ∧
    (∀ (d : Nat) (l0 : Value) (l1 : Value) (l2 : Int32) (l3 : Int32) (l4 : Value) (l5 : Value) (l6 : Value)  (h : zMm) (Q : Option Value → zMm → Prop), zWp d zi_64 none 54 [l0, l1, .int l2, .int l3, l4, l5, l6] [] h Q = zWp d zi_64 none 57 [l0, l1, .int l2, .int (l3 + 1), l4, l5, l6] [] h Q) ∧
    (∀ (d : Nat) (l0 : Value) (l1 : Value) (l2 : Value) (l3 : Value) (l4 : Value) (l5 : Value) (l6 : Value)  (h : zMm) (Q : Option Value → zMm → Prop), zWp d zi_64 none 57 [l0, l1, l2, l3, l4, l5, l6] [] h Q = zWp d zi_64 none 6 [l0, l1, l2, l3, l4, l5, l6] [] h Q) ∧
    (∀ (d : Nat) (l0 : Value) (l1 : Value) (l2 : Value) (l3 : Value) (l4 : Value) (l5 : Value) (l6 : Value)  (h : zMm) (Q : Option Value → zMm → Prop), zWp d zi_64 none 60 [l0, l1, l2, l3, l4, l5, l6] [] h Q = zWp d zi_64 none 61 [l0, l1, l2, l3, l4, l5, l6] [.int 0] h Q) ∧
    (∀ (d : Nat) (l0 : Value) (l1 : Value) (l2 : Int32) (l3 : Value) (l4 : Value) (l5 : Value) (l6 : Value) (x0 : Int32) (h : zMm) (Q : Option Value → zMm → Prop), zWp d zi_64 none 61 [l0, l1, .int l2, l3, l4, l5, l6] [.int x0] h Q = zWp d zi_64 none 62 [l0, l1, .int l2, .int x0, l4, l5, l6] [] h Q) ∧
    (∀ (d : Nat) (l0 : Value) (l1 : Value) (l2 : Value) (l3 : Value) (l4 : Value) (l5 : Value) (l6 : Value)  (h : zMm) (Q : Option Value → zMm → Prop), zWp d zi_64 none 62 [l0, l1, l2, l3, l4, l5, l6] [] h Q = zWp d zi_64 none 63 [l0, l1, l2, l3, l4, l5, l6] [.int 0] h Q) ∧
    (∀ (d : Nat) (l0 : Value) (l1 : Value) (l2 : Value) (l3 : Int32) (l4 : Value) (l5 : Value) (l6 : Value) (x0 : Int32) (h : zMm) (Q : Option Value → zMm → Prop), zWp d zi_64 none 63 [l0, l1, l2, .int l3, l4, l5, l6] [.int x0] h Q = zWp d zi_64 none 65 [l0, l1, l2, .int l3, .int x0, l5, l6] [] h Q) ∧
    (∀ (d : Nat) (l0 : Value) (l1 : Value) (l2 : Value) (l3 : Value) (l4 : Value) (l5 : Value) (l6 : Value)  (h : zMm) (Q : Option Value → zMm → Prop), zWp d zi_64 none 65 [l0, l1, l2, l3, l4, l5, l6] [] h Q = zWp d zi_64 none 66 [l0, l1, l2, l3, l4, l5, l6] [.int 0] h Q) ∧
    (∀ (d : Nat) (l0 : Value) (l1 : Value) (l2 : Value) (l3 : Value) (l4 : Int32) (l5 : Value) (l6 : Value) (x0 : Int32) (h : zMm) (Q : Option Value → zMm → Prop), zWp d zi_64 none 66 [l0, l1, l2, l3, .int l4, l5, l6] [.int x0] h Q = zWp d zi_64 none 68 [l0, l1, l2, l3, .int l4, .int x0, l6] [] h Q) ∧
    (∀ (d : Nat) (l0 : Nat) (l1 : Value) (l2 : Value) (l3 : Value) (l4 : Value) (l5 : Value) (l6 : Value)  (h : zMm) (Q : Option Value → zMm → Prop), zWp d zi_64 none 68 [.ref l0, l1, l2, l3, l4, l5, l6] [] h Q = zWp d zi_64 none 69 [.ref l0, l1, l2, l3, l4, l5, l6] [.ref l0] h Q) ∧
    (∀ (d : Nat) (l0 : Value) (l1 : Value) (l2 : Value) (l3 : Value) (l4 : Value) (l5 : Value) (l6 : Value) (x0 : Nat) (I : Nat → Nat → Int32) (L : Nat → Nat → Int64) (P : Nat → Nat → Option Nat) (Q : Option Value → zMm → Prop), zSH[x0]? = some (.inl 8) → zWp d zi_64 none 69 [l0, l1, l2, l3, l4, l5, l6] [.ref x0] (zSH, I, L, P) Q = zWp d zi_64 none 72 [l0, l1, l2, l3, l4, l5, l6] [.int (I x0 6)] (zSH, I, L, P) Q) ∧
    (∀ (d : Nat) (l0 : Value) (l1 : Value) (l2 : Value) (l3 : Value) (l4 : Value) (l5 : Value) (l6 : Value) (x0 : Int32) (h : zMm) (Q : Option Value → zMm → Prop), zWp d zi_64 none 72 [l0, l1, l2, l3, l4, l5, l6] [.int x0] h Q = zWp d zi_64 none 73 [l0, l1, l2, l3, l4, l5, l6] [.int 1, .int x0] h Q) ∧
    (∀ (d : Nat) (l0 : Value) (l1 : Value) (l2 : Value) (l3 : Value) (l4 : Value) (l5 : Value) (l6 : Value) (x1 : Int32) (x0 : Int32) (h : zMm) (Q : Option Value → zMm → Prop), zWp d zi_64 none 73 [l0, l1, l2, l3, l4, l5, l6] [.int x1, .int x0] h Q = zWp d zi_64 none 74 [l0, l1, l2, l3, l4, l5, l6] [.int (x0 - x1)] h Q) ∧
    (∀ (d : Nat) (l0 : Value) (l1 : Value) (l2 : Value) (l3 : Value) (l4 : Value) (l5 : Int32) (l6 : Value) (x0 : Int32) (h : zMm) (Q : Option Value → zMm → Prop), zWp d zi_64 none 74 [l0, l1, l2, l3, l4, .int l5, l6] [.int x0] h Q = zWp d zi_64 none 76 [l0, l1, l2, l3, l4, .int l5, .int x0] [] h Q) ∧
    (∀ (d : Nat) (l0 : Value) (l1 : Value) (l2 : Value) (l3 : Value) (l4 : Value) (l5 : Value) (l6 : Value) (x0 : Int32) (h : zMm) (Q : Option Value → zMm → Prop), zWp d zi_64 none 78 [l0, l1, l2, l3, l4, l5, l6] [.int x0] h Q = if x0 < 0 then zWp d zi_64 none 171 [l0, l1, l2, l3, l4, l5, l6] [] h Q else zWp d zi_64 none 81 [l0, l1, l2, l3, l4, l5, l6] [] h Q) ∧
    (∀ (d : Nat) (l0 : Nat) (l1 : Value) (l2 : Value) (l3 : Value) (l4 : Value) (l5 : Value) (l6 : Value)  (h : zMm) (Q : Option Value → zMm → Prop), zWp d zi_64 none 81 [.ref l0, l1, l2, l3, l4, l5, l6] [] h Q = zWp d zi_64 none 82 [.ref l0, l1, l2, l3, l4, l5, l6] [.ref l0] h Q) ∧
    (∀ (d : Nat) (l0 : Value) (l1 : Value) (l2 : Value) (l3 : Value) (l4 : Value) (l5 : Value) (l6 : Value) (x0 : Nat) (I : Nat → Nat → Int32) (L : Nat → Nat → Int64) (P : Nat → Nat → Option Nat) (Q : Option Value → zMm → Prop), zSH[x0]? = some (.inl 8) → zWp d zi_64 none 82 [l0, l1, l2, l3, l4, l5, l6] [.ref x0] (zSH, I, L, P) Q = zWp d zi_64 none 85 [l0, l1, l2, l3, l4, l5, l6] [va_rf (P x0 4)] (zSH, I, L, P) Q) ∧
    (∀ (d : Nat) (l0 : Value) (l1 : Value) (l2 : Value) (l3 : Value) (l4 : Value) (l5 : Value) (l6 : Int32) (x0 : Nat) (h : zMm) (Q : Option Value → zMm → Prop), zWp d zi_64 none 85 [l0, l1, l2, l3, l4, l5, .int l6] [.ref x0] h Q = zWp d zi_64 none 87 [l0, l1, l2, l3, l4, l5, .int l6] [.int l6, .ref x0] h Q) ∧
    (∀ (d : Nat) (l0 : Value) (l1 : Value) (l2 : Value) (l3 : Int32) (l4 : Value) (l5 : Value) (l6 : Value) (x1 : Int32) (x0 : Nat) (h : zMm) (Q : Option Value → zMm → Prop), zWp d zi_64 none 87 [l0, l1, l2, .int l3, l4, l5, l6] [.int x1, .ref x0] h Q = zWp d zi_64 none 88 [l0, l1, l2, .int l3, l4, l5, l6] [.int l3, .int x1, .ref x0] h Q) ∧
    (∀ (d : Nat) (l0 : Value) (l1 : Value) (l2 : Value) (l3 : Value) (l4 : Value) (l5 : Value) (l6 : Value) (x2 : Int32) (x1 : Int32) (x0 : Nat) (I : Nat → Nat → Int32) (L : Nat → Nat → Int64) (P : Nat → Nat → Option Nat) (Q : Option Value → zMm → Prop), zAk zSH x0 = some .int → zWp d zi_64 none 88 [l0, l1, l2, l3, l4, l5, l6] [.int x2, .int x1, .ref x0] (zSH, I, L, P) Q = (vp_in x1 (zAn zSH x0) ∧ zWp d zi_64 none 89 [l0, l1, l2, l3, l4, l5, l6] [] (zSH, zw I x0 (upd (I x0) x1.toNatClampNeg x2), L, P) Q)) ∧
    (∀ (d : Nat) (l0 : Nat) (l1 : Value) (l2 : Value) (l3 : Value) (l4 : Value) (l5 : Value) (l6 : Value)  (h : zMm) (Q : Option Value → zMm → Prop), zWp d zi_64 none 89 [.ref l0, l1, l2, l3, l4, l5, l6] [] h Q = zWp d zi_64 none 90 [.ref l0, l1, l2, l3, l4, l5, l6] [.ref l0] h Q) ∧
    (∀ (d : Nat) (l0 : Value) (l1 : Value) (l2 : Value) (l3 : Value) (l4 : Value) (l5 : Value) (l6 : Value) (x0 : Nat) (I : Nat → Nat → Int32) (L : Nat → Nat → Int64) (P : Nat → Nat → Option Nat) (Q : Option Value → zMm → Prop), zSH[x0]? = some (.inl 8) → zWp d zi_64 none 90 [l0, l1, l2, l3, l4, l5, l6] [.ref x0] (zSH, I, L, P) Q = zWp d zi_64 none 93 [l0, l1, l2, l3, l4, l5, l6] [va_rf (P x0 5)] (zSH, I, L, P) Q) ∧
    (∀ (d : Nat) (l0 : Value) (l1 : Value) (l2 : Value) (l3 : Value) (l4 : Value) (l5 : Value) (l6 : Value) (x0 : Nat) (h : zMm) (Q : Option Value → zMm → Prop), zWp d zi_64 none 93 [l0, l1, l2, l3, l4, l5, l6] [.ref x0] h Q = zWp d zi_64 none 94 [l0, l1, l2, l3, l4, l5, l6] [.int 0, .ref x0] h Q) ∧
    (∀ (d : Nat) (l0 : Value) (l1 : Value) (l2 : Value) (l3 : Value) (l4 : Value) (l5 : Value) (l6 : Value) (x1 : Int32) (x0 : Nat) (I : Nat → Nat → Int32) (L : Nat → Nat → Int64) (P : Nat → Nat → Option Nat) (Q : Option Value → zMm → Prop), zAk zSH x0 = some (.array .int) → zWp d zi_64 none 94 [l0, l1, l2, l3, l4, l5, l6] [.int x1, .ref x0] (zSH, I, L, P) Q = (vp_in x1 (zAn zSH x0) ∧ zWp d zi_64 none 95 [l0, l1, l2, l3, l4, l5, l6] [va_rf (P x0 x1.toNatClampNeg)] (zSH, I, L, P) Q)) ∧
    (∀ (d : Nat) (l0 : Value) (l1 : Value) (l2 : Value) (l3 : Value) (l4 : Value) (l5 : Value) (l6 : Int32) (x0 : Nat) (h : zMm) (Q : Option Value → zMm → Prop), zWp d zi_64 none 95 [l0, l1, l2, l3, l4, l5, .int l6] [.ref x0] h Q = zWp d zi_64 none 97 [l0, l1, l2, l3, l4, l5, .int l6] [.int l6, .ref x0] h Q) ∧
    (∀ (d : Nat) (l0 : Value) (l1 : Value) (l2 : Value) (l3 : Value) (l4 : Int32) (l5 : Value) (l6 : Value) (x1 : Int32) (x0 : Nat) (h : zMm) (Q : Option Value → zMm → Prop), zWp d zi_64 none 97 [l0, l1, l2, l3, .int l4, l5, l6] [.int x1, .ref x0] h Q = zWp d zi_64 none 99 [l0, l1, l2, l3, .int l4, l5, l6] [.int l4, .int x1, .ref x0] h Q) ∧
    (∀ (d : Nat) (l0 : Value) (l1 : Value) (l2 : Value) (l3 : Value) (l4 : Value) (l5 : Value) (l6 : Value) (x2 : Int32) (x1 : Int32) (x0 : Nat) (I : Nat → Nat → Int32) (L : Nat → Nat → Int64) (P : Nat → Nat → Option Nat) (Q : Option Value → zMm → Prop), zAk zSH x0 = some .int → zWp d zi_64 none 99 [l0, l1, l2, l3, l4, l5, l6] [.int x2, .int x1, .ref x0] (zSH, I, L, P) Q = (vp_in x1 (zAn zSH x0) ∧ zWp d zi_64 none 100 [l0, l1, l2, l3, l4, l5, l6] [] (zSH, zw I x0 (upd (I x0) x1.toNatClampNeg x2), L, P) Q)) ∧
    (∀ (d : Nat) (l0 : Nat) (l1 : Value) (l2 : Value) (l3 : Value) (l4 : Value) (l5 : Value) (l6 : Value)  (h : zMm) (Q : Option Value → zMm → Prop), zWp d zi_64 none 100 [.ref l0, l1, l2, l3, l4, l5, l6] [] h Q = zWp d zi_64 none 101 [.ref l0, l1, l2, l3, l4, l5, l6] [.ref l0] h Q) ∧
    (∀ (d : Nat) (l0 : Value) (l1 : Value) (l2 : Value) (l3 : Value) (l4 : Value) (l5 : Value) (l6 : Value) (x0 : Nat) (I : Nat → Nat → Int32) (L : Nat → Nat → Int64) (P : Nat → Nat → Option Nat) (Q : Option Value → zMm → Prop), zSH[x0]? = some (.inl 8) → zWp d zi_64 none 101 [l0, l1, l2, l3, l4, l5, l6] [.ref x0] (zSH, I, L, P) Q = zWp d zi_64 none 104 [l0, l1, l2, l3, l4, l5, l6] [va_rf (P x0 5)] (zSH, I, L, P) Q) ∧
    (∀ (d : Nat) (l0 : Value) (l1 : Value) (l2 : Value) (l3 : Value) (l4 : Value) (l5 : Value) (l6 : Value) (x0 : Nat) (h : zMm) (Q : Option Value → zMm → Prop), zWp d zi_64 none 104 [l0, l1, l2, l3, l4, l5, l6] [.ref x0] h Q = zWp d zi_64 none 105 [l0, l1, l2, l3, l4, l5, l6] [.int 1, .ref x0] h Q) ∧
    (∀ (d : Nat) (l0 : Value) (l1 : Value) (l2 : Value) (l3 : Value) (l4 : Value) (l5 : Value) (l6 : Value) (x1 : Int32) (x0 : Nat) (I : Nat → Nat → Int32) (L : Nat → Nat → Int64) (P : Nat → Nat → Option Nat) (Q : Option Value → zMm → Prop), zAk zSH x0 = some (.array .int) → zWp d zi_64 none 105 [l0, l1, l2, l3, l4, l5, l6] [.int x1, .ref x0] (zSH, I, L, P) Q = (vp_in x1 (zAn zSH x0) ∧ zWp d zi_64 none 106 [l0, l1, l2, l3, l4, l5, l6] [va_rf (P x0 x1.toNatClampNeg)] (zSH, I, L, P) Q)) ∧
    (∀ (d : Nat) (l0 : Value) (l1 : Value) (l2 : Value) (l3 : Value) (l4 : Value) (l5 : Value) (l6 : Int32) (x0 : Nat) (h : zMm) (Q : Option Value → zMm → Prop), zWp d zi_64 none 106 [l0, l1, l2, l3, l4, l5, .int l6] [.ref x0] h Q = zWp d zi_64 none 108 [l0, l1, l2, l3, l4, l5, .int l6] [.int l6, .ref x0] h Q) ∧
    (∀ (d : Nat) (l0 : Value) (l1 : Value) (l2 : Value) (l3 : Value) (l4 : Value) (l5 : Int32) (l6 : Value) (x1 : Int32) (x0 : Nat) (h : zMm) (Q : Option Value → zMm → Prop), zWp d zi_64 none 108 [l0, l1, l2, l3, l4, .int l5, l6] [.int x1, .ref x0] h Q = zWp d zi_64 none 110 [l0, l1, l2, l3, l4, .int l5, l6] [.int l5, .int x1, .ref x0] h Q) ∧
    (∀ (d : Nat) (l0 : Value) (l1 : Value) (l2 : Value) (l3 : Value) (l4 : Value) (l5 : Value) (l6 : Value) (x2 : Int32) (x1 : Int32) (x0 : Nat) (I : Nat → Nat → Int32) (L : Nat → Nat → Int64) (P : Nat → Nat → Option Nat) (Q : Option Value → zMm → Prop), zAk zSH x0 = some .int → zWp d zi_64 none 110 [l0, l1, l2, l3, l4, l5, l6] [.int x2, .int x1, .ref x0] (zSH, I, L, P) Q = (vp_in x1 (zAn zSH x0) ∧ zWp d zi_64 none 111 [l0, l1, l2, l3, l4, l5, l6] [] (zSH, zw I x0 (upd (I x0) x1.toNatClampNeg x2), L, P) Q)) ∧
    (∀ (d : Nat) (l0 : Value) (l1 : Value) (l2 : Value) (l3 : Int32) (l4 : Value) (l5 : Value) (l6 : Value)  (h : zMm) (Q : Option Value → zMm → Prop), zWp d zi_64 none 111 [l0, l1, l2, .int l3, l4, l5, l6] [] h Q = zWp d zi_64 none 112 [l0, l1, l2, .int l3, l4, l5, l6] [.int l3] h Q) ∧
    (∀ (d : Nat) (l0 : Nat) (l1 : Value) (l2 : Value) (l3 : Value) (l4 : Value) (l5 : Value) (l6 : Value) (x0 : Int32) (h : zMm) (Q : Option Value → zMm → Prop), zWp d zi_64 none 112 [.ref l0, l1, l2, l3, l4, l5, l6] [.int x0] h Q = zWp d zi_64 none 113 [.ref l0, l1, l2, l3, l4, l5, l6] [.ref l0, .int x0] h Q) ∧
    (∀ (d : Nat) (l0 : Value) (l1 : Value) (l2 : Value) (l3 : Value) (l4 : Value) (l5 : Value) (l6 : Value) (x1 : Nat) (x0 : Int32) (I : Nat → Nat → Int32) (L : Nat → Nat → Int64) (P : Nat → Nat → Option Nat) (Q : Option Value → zMm → Prop), zSH[x1]? = some (.inl 8) → zWp d zi_64 none 113 [l0, l1, l2, l3, l4, l5, l6] [.ref x1, .int x0] (zSH, I, L, P) Q = zWp d zi_64 none 116 [l0, l1, l2, l3, l4, l5, l6] [va_rf (P x1 0), .int x0] (zSH, I, L, P) Q) ∧
    (∀ (d : Nat) (l0 : Value) (l1 : Value) (l2 : Value) (l3 : Value) (l4 : Value) (l5 : Value) (l6 : Int32) (x1 : Nat) (x0 : Int32) (h : zMm) (Q : Option Value → zMm → Prop), zWp d zi_64 none 116 [l0, l1, l2, l3, l4, l5, .int l6] [.ref x1, .int x0] h Q = zWp d zi_64 none 118 [l0, l1, l2, l3, l4, l5, .int l6] [.int l6, .ref x1, .int x0] h Q) ∧
    (∀ (d : Nat) (l0 : Value) (l1 : Value) (l2 : Value) (l3 : Value) (l4 : Value) (l5 : Value) (l6 : Value) (x2 : Int32) (x1 : Nat) (x0 : Int32) (I : Nat → Nat → Int32) (L : Nat → Nat → Int64) (P : Nat → Nat → Option Nat) (Q : Option Value → zMm → Prop), zAk zSH x1 = some .int → zWp d zi_64 none 118 [l0, l1, l2, l3, l4, l5, l6] [.int x2, .ref x1, .int x0] (zSH, I, L, P) Q = (vp_in x2 (zAn zSH x1) ∧ zWp d zi_64 none 119 [l0, l1, l2, l3, l4, l5, l6] [.int (I x1 x2.toNatClampNeg), .int x0] (zSH, I, L, P) Q)) ∧
    (∀ (d : Nat) (l0 : Value) (l1 : Value) (l2 : Value) (l3 : Value) (l4 : Value) (l5 : Value) (l6 : Value) (x1 : Int32) (x0 : Int32) (h : zMm) (Q : Option Value → zMm → Prop), zWp d zi_64 none 119 [l0, l1, l2, l3, l4, l5, l6] [.int x1, .int x0] h Q = zWp d zi_64 none 120 [l0, l1, l2, l3, l4, l5, l6] [.int (x0 + x1)] h Q) ∧
    (∀ (d : Nat) (l0 : Value) (l1 : Value) (l2 : Int32) (l3 : Value) (l4 : Value) (l5 : Value) (l6 : Value) (x0 : Int32) (h : zMm) (Q : Option Value → zMm → Prop), zWp d zi_64 none 120 [l0, l1, .int l2, l3, l4, l5, l6] [.int x0] h Q = zWp d zi_64 none 121 [l0, l1, .int l2, .int x0, l4, l5, l6] [] h Q) ∧
    (∀ (d : Nat) (l0 : Value) (l1 : Value) (l2 : Value) (l3 : Value) (l4 : Int32) (l5 : Value) (l6 : Value)  (h : zMm) (Q : Option Value → zMm → Prop), zWp d zi_64 none 121 [l0, l1, l2, l3, .int l4, l5, l6] [] h Q = zWp d zi_64 none 123 [l0, l1, l2, l3, .int l4, l5, l6] [.int l4] h Q) ∧
    (∀ (d : Nat) (l0 : Nat) (l1 : Value) (l2 : Value) (l3 : Value) (l4 : Value) (l5 : Value) (l6 : Value) (x0 : Int32) (h : zMm) (Q : Option Value → zMm → Prop), zWp d zi_64 none 123 [.ref l0, l1, l2, l3, l4, l5, l6] [.int x0] h Q = zWp d zi_64 none 124 [.ref l0, l1, l2, l3, l4, l5, l6] [.ref l0, .int x0] h Q) ∧
    (∀ (d : Nat) (l0 : Value) (l1 : Value) (l2 : Value) (l3 : Value) (l4 : Value) (l5 : Value) (l6 : Value) (x1 : Nat) (x0 : Int32) (I : Nat → Nat → Int32) (L : Nat → Nat → Int64) (P : Nat → Nat → Option Nat) (Q : Option Value → zMm → Prop), zSH[x1]? = some (.inl 8) → zWp d zi_64 none 124 [l0, l1, l2, l3, l4, l5, l6] [.ref x1, .int x0] (zSH, I, L, P) Q = zWp d zi_64 none 127 [l0, l1, l2, l3, l4, l5, l6] [va_rf (P x1 0), .int x0] (zSH, I, L, P) Q) ∧
    (∀ (d : Nat) (l0 : Value) (l1 : Value) (l2 : Value) (l3 : Value) (l4 : Value) (l5 : Value) (l6 : Int32) (x1 : Nat) (x0 : Int32) (h : zMm) (Q : Option Value → zMm → Prop), zWp d zi_64 none 127 [l0, l1, l2, l3, l4, l5, .int l6] [.ref x1, .int x0] h Q = zWp d zi_64 none 129 [l0, l1, l2, l3, l4, l5, .int l6] [.int l6, .ref x1, .int x0] h Q) ∧
    (∀ (d : Nat) (l0 : Value) (l1 : Value) (l2 : Value) (l3 : Value) (l4 : Value) (l5 : Value) (l6 : Value) (x2 : Int32) (x1 : Nat) (x0 : Int32) (I : Nat → Nat → Int32) (L : Nat → Nat → Int64) (P : Nat → Nat → Option Nat) (Q : Option Value → zMm → Prop), zAk zSH x1 = some .int → zWp d zi_64 none 129 [l0, l1, l2, l3, l4, l5, l6] [.int x2, .ref x1, .int x0] (zSH, I, L, P) Q = (vp_in x2 (zAn zSH x1) ∧ zWp d zi_64 none 130 [l0, l1, l2, l3, l4, l5, l6] [.int (I x1 x2.toNatClampNeg), .int x0] (zSH, I, L, P) Q)) ∧
    (∀ (d : Nat) (l0 : Nat) (l1 : Value) (l2 : Value) (l3 : Value) (l4 : Value) (l5 : Value) (l6 : Value) (x1 : Int32) (x0 : Int32) (h : zMm) (Q : Option Value → zMm → Prop), zWp d zi_64 none 130 [.ref l0, l1, l2, l3, l4, l5, l6] [.int x1, .int x0] h Q = zWp d zi_64 none 131 [.ref l0, l1, l2, l3, l4, l5, l6] [.ref l0, .int x1, .int x0] h Q) ∧
    (∀ (d : Nat) (l0 : Value) (l1 : Value) (l2 : Value) (l3 : Value) (l4 : Value) (l5 : Value) (l6 : Value) (x2 : Nat) (x1 : Int32) (x0 : Int32) (I : Nat → Nat → Int32) (L : Nat → Nat → Int64) (P : Nat → Nat → Option Nat) (Q : Option Value → zMm → Prop), zSH[x2]? = some (.inl 8) → zWp d zi_64 none 131 [l0, l1, l2, l3, l4, l5, l6] [.ref x2, .int x1, .int x0] (zSH, I, L, P) Q = zWp d zi_64 none 134 [l0, l1, l2, l3, l4, l5, l6] [va_rf (P x2 3), .int x1, .int x0] (zSH, I, L, P) Q) ∧
    (∀ (d : Nat) (l0 : Value) (l1 : Value) (l2 : Value) (l3 : Value) (l4 : Value) (l5 : Value) (l6 : Value) (x2 : Nat) (x1 : Int32) (x0 : Int32) (h : zMm) (Q : Option Value → zMm → Prop), zWp d zi_64 none 134 [l0, l1, l2, l3, l4, l5, l6] [.ref x2, .int x1, .int x0] h Q = zWp d zi_64 none 135 [l0, l1, l2, l3, l4, l5, l6] [.int 0, .ref x2, .int x1, .int x0] h Q) ∧
    (∀ (d : Nat) (l0 : Value) (l1 : Value) (l2 : Value) (l3 : Value) (l4 : Value) (l5 : Value) (l6 : Value) (x3 : Int32) (x2 : Nat) (x1 : Int32) (x0 : Int32) (I : Nat → Nat → Int32) (L : Nat → Nat → Int64) (P : Nat → Nat → Option Nat) (Q : Option Value → zMm → Prop), zAk zSH x2 = some (.array .int) → zWp d zi_64 none 135 [l0, l1, l2, l3, l4, l5, l6] [.int x3, .ref x2, .int x1, .int x0] (zSH, I, L, P) Q = (vp_in x3 (zAn zSH x2) ∧ zWp d zi_64 none 136 [l0, l1, l2, l3, l4, l5, l6] [va_rf (P x2 x3.toNatClampNeg), .int x1, .int x0] (zSH, I, L, P) Q)) ∧
    (∀ (d : Nat) (l0 : Value) (l1 : Value) (l2 : Value) (l3 : Value) (l4 : Value) (l5 : Value) (l6 : Int32) (x2 : Nat) (x1 : Int32) (x0 : Int32) (h : zMm) (Q : Option Value → zMm → Prop), zWp d zi_64 none 136 [l0, l1, l2, l3, l4, l5, .int l6] [.ref x2, .int x1, .int x0] h Q = zWp d zi_64 none 138 [l0, l1, l2, l3, l4, l5, .int l6] [.int l6, .ref x2, .int x1, .int x0] h Q) ∧
    (∀ (d : Nat) (l0 : Value) (l1 : Value) (l2 : Value) (l3 : Value) (l4 : Value) (l5 : Value) (l6 : Value) (x3 : Int32) (x2 : Nat) (x1 : Int32) (x0 : Int32) (I : Nat → Nat → Int32) (L : Nat → Nat → Int64) (P : Nat → Nat → Option Nat) (Q : Option Value → zMm → Prop), zAk zSH x2 = some .int → zWp d zi_64 none 138 [l0, l1, l2, l3, l4, l5, l6] [.int x3, .ref x2, .int x1, .int x0] (zSH, I, L, P) Q = (vp_in x3 (zAn zSH x2) ∧ zWp d zi_64 none 139 [l0, l1, l2, l3, l4, l5, l6] [.int (I x2 x3.toNatClampNeg), .int x1, .int x0] (zSH, I, L, P) Q)) ∧
    (∀ (d : Nat) (l0 : Value) (l1 : Value) (l2 : Value) (l3 : Value) (l4 : Value) (l5 : Value) (l6 : Value) (x2 : Int32) (x1 : Int32) (x0 : Int32) (h : zMm) (Q : Option Value → zMm → Prop), zWp d zi_64 none 139 [l0, l1, l2, l3, l4, l5, l6] [.int x2, .int x1, .int x0] h Q = zWp d zi_64 none 140 [l0, l1, l2, l3, l4, l5, l6] [.int (x1 * x2), .int x0] h Q) ∧
    (∀ (d : Nat) (l0 : Value) (l1 : Value) (l2 : Value) (l3 : Value) (l4 : Value) (l5 : Value) (l6 : Value) (x1 : Int32) (x0 : Int32) (h : zMm) (Q : Option Value → zMm → Prop), zWp d zi_64 none 140 [l0, l1, l2, l3, l4, l5, l6] [.int x1, .int x0] h Q = zWp d zi_64 none 141 [l0, l1, l2, l3, l4, l5, l6] [.int (x0 + x1)] h Q) ∧
    (∀ (d : Nat) (l0 : Value) (l1 : Value) (l2 : Value) (l3 : Int32) (l4 : Value) (l5 : Value) (l6 : Value) (x0 : Int32) (h : zMm) (Q : Option Value → zMm → Prop), zWp d zi_64 none 141 [l0, l1, l2, .int l3, l4, l5, l6] [.int x0] h Q = zWp d zi_64 none 143 [l0, l1, l2, .int l3, .int x0, l5, l6] [] h Q) ∧
    (∀ (d : Nat) (l0 : Value) (l1 : Value) (l2 : Value) (l3 : Value) (l4 : Value) (l5 : Int32) (l6 : Value)  (h : zMm) (Q : Option Value → zMm → Prop), zWp d zi_64 none 143 [l0, l1, l2, l3, l4, .int l5, l6] [] h Q = zWp d zi_64 none 145 [l0, l1, l2, l3, l4, .int l5, l6] [.int l5] h Q) ∧
    (∀ (d : Nat) (l0 : Nat) (l1 : Value) (l2 : Value) (l3 : Value) (l4 : Value) (l5 : Value) (l6 : Value) (x0 : Int32) (h : zMm) (Q : Option Value → zMm → Prop), zWp d zi_64 none 145 [.ref l0, l1, l2, l3, l4, l5, l6] [.int x0] h Q = zWp d zi_64 none 146 [.ref l0, l1, l2, l3, l4, l5, l6] [.ref l0, .int x0] h Q) ∧
    (∀ (d : Nat) (l0 : Value) (l1 : Value) (l2 : Value) (l3 : Value) (l4 : Value) (l5 : Value) (l6 : Value) (x1 : Nat) (x0 : Int32) (I : Nat → Nat → Int32) (L : Nat → Nat → Int64) (P : Nat → Nat → Option Nat) (Q : Option Value → zMm → Prop), zSH[x1]? = some (.inl 8) → zWp d zi_64 none 146 [l0, l1, l2, l3, l4, l5, l6] [.ref x1, .int x0] (zSH, I, L, P) Q = zWp d zi_64 none 149 [l0, l1, l2, l3, l4, l5, l6] [va_rf (P x1 0), .int x0] (zSH, I, L, P) Q) ∧
    (∀ (d : Nat) (l0 : Value) (l1 : Value) (l2 : Value) (l3 : Value) (l4 : Value) (l5 : Value) (l6 : Int32) (x1 : Nat) (x0 : Int32) (h : zMm) (Q : Option Value → zMm → Prop), zWp d zi_64 none 149 [l0, l1, l2, l3, l4, l5, .int l6] [.ref x1, .int x0] h Q = zWp d zi_64 none 151 [l0, l1, l2, l3, l4, l5, .int l6] [.int l6, .ref x1, .int x0] h Q) ∧
    (∀ (d : Nat) (l0 : Value) (l1 : Value) (l2 : Value) (l3 : Value) (l4 : Value) (l5 : Value) (l6 : Value) (x2 : Int32) (x1 : Nat) (x0 : Int32) (I : Nat → Nat → Int32) (L : Nat → Nat → Int64) (P : Nat → Nat → Option Nat) (Q : Option Value → zMm → Prop), zAk zSH x1 = some .int → zWp d zi_64 none 151 [l0, l1, l2, l3, l4, l5, l6] [.int x2, .ref x1, .int x0] (zSH, I, L, P) Q = (vp_in x2 (zAn zSH x1) ∧ zWp d zi_64 none 152 [l0, l1, l2, l3, l4, l5, l6] [.int (I x1 x2.toNatClampNeg), .int x0] (zSH, I, L, P) Q)) ∧
    (∀ (d : Nat) (l0 : Nat) (l1 : Value) (l2 : Value) (l3 : Value) (l4 : Value) (l5 : Value) (l6 : Value) (x1 : Int32) (x0 : Int32) (h : zMm) (Q : Option Value → zMm → Prop), zWp d zi_64 none 152 [.ref l0, l1, l2, l3, l4, l5, l6] [.int x1, .int x0] h Q = zWp d zi_64 none 153 [.ref l0, l1, l2, l3, l4, l5, l6] [.ref l0, .int x1, .int x0] h Q) ∧
    (∀ (d : Nat) (l0 : Value) (l1 : Value) (l2 : Value) (l3 : Value) (l4 : Value) (l5 : Value) (l6 : Value) (x2 : Nat) (x1 : Int32) (x0 : Int32) (I : Nat → Nat → Int32) (L : Nat → Nat → Int64) (P : Nat → Nat → Option Nat) (Q : Option Value → zMm → Prop), zSH[x2]? = some (.inl 8) → zWp d zi_64 none 153 [l0, l1, l2, l3, l4, l5, l6] [.ref x2, .int x1, .int x0] (zSH, I, L, P) Q = zWp d zi_64 none 156 [l0, l1, l2, l3, l4, l5, l6] [va_rf (P x2 3), .int x1, .int x0] (zSH, I, L, P) Q) ∧
    (∀ (d : Nat) (l0 : Value) (l1 : Value) (l2 : Value) (l3 : Value) (l4 : Value) (l5 : Value) (l6 : Value) (x2 : Nat) (x1 : Int32) (x0 : Int32) (h : zMm) (Q : Option Value → zMm → Prop), zWp d zi_64 none 156 [l0, l1, l2, l3, l4, l5, l6] [.ref x2, .int x1, .int x0] h Q = zWp d zi_64 none 157 [l0, l1, l2, l3, l4, l5, l6] [.int 1, .ref x2, .int x1, .int x0] h Q) ∧
    (∀ (d : Nat) (l0 : Value) (l1 : Value) (l2 : Value) (l3 : Value) (l4 : Value) (l5 : Value) (l6 : Value) (x3 : Int32) (x2 : Nat) (x1 : Int32) (x0 : Int32) (I : Nat → Nat → Int32) (L : Nat → Nat → Int64) (P : Nat → Nat → Option Nat) (Q : Option Value → zMm → Prop), zAk zSH x2 = some (.array .int) → zWp d zi_64 none 157 [l0, l1, l2, l3, l4, l5, l6] [.int x3, .ref x2, .int x1, .int x0] (zSH, I, L, P) Q = (vp_in x3 (zAn zSH x2) ∧ zWp d zi_64 none 158 [l0, l1, l2, l3, l4, l5, l6] [va_rf (P x2 x3.toNatClampNeg), .int x1, .int x0] (zSH, I, L, P) Q)) ∧
    (∀ (d : Nat) (l0 : Value) (l1 : Value) (l2 : Value) (l3 : Value) (l4 : Value) (l5 : Value) (l6 : Int32) (x2 : Nat) (x1 : Int32) (x0 : Int32) (h : zMm) (Q : Option Value → zMm → Prop), zWp d zi_64 none 158 [l0, l1, l2, l3, l4, l5, .int l6] [.ref x2, .int x1, .int x0] h Q = zWp d zi_64 none 160 [l0, l1, l2, l3, l4, l5, .int l6] [.int l6, .ref x2, .int x1, .int x0] h Q) ∧
    (∀ (d : Nat) (l0 : Value) (l1 : Value) (l2 : Value) (l3 : Value) (l4 : Value) (l5 : Value) (l6 : Value) (x3 : Int32) (x2 : Nat) (x1 : Int32) (x0 : Int32) (I : Nat → Nat → Int32) (L : Nat → Nat → Int64) (P : Nat → Nat → Option Nat) (Q : Option Value → zMm → Prop), zAk zSH x2 = some .int → zWp d zi_64 none 160 [l0, l1, l2, l3, l4, l5, l6] [.int x3, .ref x2, .int x1, .int x0] (zSH, I, L, P) Q = (vp_in x3 (zAn zSH x2) ∧ zWp d zi_64 none 161 [l0, l1, l2, l3, l4, l5, l6] [.int (I x2 x3.toNatClampNeg), .int x1, .int x0] (zSH, I, L, P) Q)) ∧
    (∀ (d : Nat) (l0 : Value) (l1 : Value) (l2 : Value) (l3 : Value) (l4 : Value) (l5 : Value) (l6 : Value) (x2 : Int32) (x1 : Int32) (x0 : Int32) (h : zMm) (Q : Option Value → zMm → Prop), zWp d zi_64 none 161 [l0, l1, l2, l3, l4, l5, l6] [.int x2, .int x1, .int x0] h Q = zWp d zi_64 none 162 [l0, l1, l2, l3, l4, l5, l6] [.int (x1 * x2), .int x0] h Q) ∧
    (∀ (d : Nat) (l0 : Value) (l1 : Value) (l2 : Value) (l3 : Value) (l4 : Value) (l5 : Value) (l6 : Value) (x1 : Int32) (x0 : Int32) (h : zMm) (Q : Option Value → zMm → Prop), zWp d zi_64 none 162 [l0, l1, l2, l3, l4, l5, l6] [.int x1, .int x0] h Q = zWp d zi_64 none 163 [l0, l1, l2, l3, l4, l5, l6] [.int (x0 + x1)] h Q) ∧
    (∀ (d : Nat) (l0 : Value) (l1 : Value) (l2 : Value) (l3 : Value) (l4 : Int32) (l5 : Value) (l6 : Value) (x0 : Int32) (h : zMm) (Q : Option Value → zMm → Prop), zWp d zi_64 none 163 [l0, l1, l2, l3, .int l4, l5, l6] [.int x0] h Q = zWp d zi_64 none 165 [l0, l1, l2, l3, .int l4, .int x0, l6] [] h Q) ∧
    (∀ (d : Nat) (l0 : Value) (l1 : Value) (l2 : Value) (l3 : Value) (l4 : Value) (l5 : Int32) (l6 : Int32)  (h : zMm) (Q : Option Value → zMm → Prop), zWp d zi_64 none 165 [l0, l1, l2, l3, l4, .int l5, .int l6] [] h Q = zWp d zi_64 none 168 [l0, l1, l2, l3, l4, .int l5, .int (l6 + (-1))] [] h Q) ∧
    (∀ (d : Nat) (l0 : Value) (l1 : Value) (l2 : Value) (l3 : Value) (l4 : Value) (l5 : Value) (l6 : Value)  (h : zMm) (Q : Option Value → zMm → Prop), zWp d zi_64 none 168 [l0, l1, l2, l3, l4, l5, l6] [] h Q = zWp d zi_64 none 76 [l0, l1, l2, l3, l4, l5, l6] [] h Q) ∧
    (∀ (d : Nat) (l0 : Value) (l1 : Value) (l2 : Value) (l3 : Value) (l4 : Value) (l5 : Value) (l6 : Value)  (h : zMm) (Q : Option Value → zMm → Prop), zWp d zi_64 none 171 [l0, l1, l2, l3, l4, l5, l6] [] h Q = Q none h) :=
  ⟨(fun d l0 l1 l2 l3 l4 l5 l6  h Q => zr_iconst rfl (by decide)),
   (fun d l0 l1 l2 l3 l4 l5 l6 x0 h Q => zr_istore_n (n := 1) rfl (Nat.le_of_ble_eq_true rfl) rfl),
   (fun d l0 l1 l2 l3 l4 l5 l6  h Q => zr_iconst rfl (by decide)),
   (fun d l0 l1 l2 l3 l4 l5 l6 x0 h Q => zr_istore_n (n := 2) rfl (Nat.le_of_ble_eq_true rfl) rfl),
   (fun d l0 l1 l2 l3 l4 l5 l6  h Q => zr_iconst rfl (by decide)),
   (fun d l0 l1 l2 l3 l4 l5 l6 x0 h Q => zr_istore_n (n := 3) rfl (Nat.le_of_ble_eq_true rfl) rfl),
   (fun d l0 l1 l2 l3 l4 l5 l6 x0 h Q => zr_aload_n rfl rfl),
   (fun d l0 l1 l2 l3 l4 l5 l6 x1 x0 I L P Q p0 => zr_getI rfl lf_8_32 (fun _ _ _ => rfl) p0),
   (fun d l0 l1 l2 l3 l4 l5 l6 x1 x0 h Q => zr_ic_ge rfl (by decide)),
   (fun d l0 l1 l2 l3 l4 l5 l6  h Q => zr_iload_n rfl rfl),
   (fun d l0 l1 l2 l3 l4 l5 l6 x0 h Q => zr_aload_n rfl rfl),
   (fun d l0 l1 l2 l3 l4 l5 l6 x1 x0 I L P Q p0 => zr_getQ rfl lf_8_20 (fun _ _ _ => rfl) p0),
   (fun d l0 l1 l2 l3 l4 l5 l6 x1 x0 h Q => zr_iconst rfl (by decide)),
   (fun d l0 l1 l2 l3 l4 l5 l6 x2 x1 x0 I L P Q p0 => zr_qldA rfl p0),
   (fun d l0 l1 l2 l3 l4 l5 l6 x1 x0 h Q => zr_iload_n rfl rfl),
   (fun d l0 l1 l2 l3 l4 l5 l6 x2 x1 x0 I L P Q p0 => zr_ald rfl p0),
   (fun d l0 l1 l2 l3 l4 l5 l6 x1 x0 h Q => zr_iadd rfl),
   (fun d l0 l1 l2 l3 l4 l5 l6 x0 h Q => zr_istore_n (n := 1) rfl (Nat.le_of_ble_eq_true rfl) rfl),
   (fun d l0 l1 l2 l3 l4 l5 l6  h Q => zr_iload_n rfl rfl),
   (fun d l0 l1 l2 l3 l4 l5 l6 x0 h Q => zr_aload_n rfl rfl),
   (fun d l0 l1 l2 l3 l4 l5 l6 x1 x0 I L P Q p0 => zr_getQ rfl lf_8_20 (fun _ _ _ => rfl) p0),
   (fun d l0 l1 l2 l3 l4 l5 l6 x1 x0 h Q => zr_iconst rfl (by decide)),
   (fun d l0 l1 l2 l3 l4 l5 l6 x2 x1 x0 I L P Q p0 => zr_qldA rfl p0),
   (fun d l0 l1 l2 l3 l4 l5 l6 x1 x0 h Q => zr_iload_n rfl rfl),
   (fun d l0 l1 l2 l3 l4 l5 l6 x2 x1 x0 I L P Q p0 => zr_ald rfl p0),
   (fun d l0 l1 l2 l3 l4 l5 l6 x1 x0 h Q => zr_iadd rfl),
   (fun d l0 l1 l2 l3 l4 l5 l6 x0 h Q => zr_istore_n (n := 2) rfl (Nat.le_of_ble_eq_true rfl) rfl),
   (fun d l0 l1 l2 l3 l4 l5 l6  h Q => zr_aload_n rfl rfl),
   (fun d l0 l1 l2 l3 l4 l5 l6 x0 I L P Q p0 => zr_getQ rfl lf_8_23 (fun _ _ _ => rfl) p0),
   (fun d l0 l1 l2 l3 l4 l5 l6 x0 h Q => zr_iconst rfl (by decide)),
   (fun d l0 l1 l2 l3 l4 l5 l6 x1 x0 I L P Q p0 => zr_qldA rfl p0),
   (fun d l0 l1 l2 l3 l4 l5 l6 x0 h Q => zr_iload_n rfl rfl),
   (fun d l0 l1 l2 l3 l4 l5 l6 x1 x0 h Q => zr_iload_n rfl rfl),
   (fun d l0 l1 l2 l3 l4 l5 l6 x2 x1 x0 I L P Q p0 => zr_ast rfl p0),
   (fun d l0 l1 l2 l3 l4 l5 l6  h Q => zr_aload_n rfl rfl),
   (fun d l0 l1 l2 l3 l4 l5 l6 x0 I L P Q p0 => zr_getQ rfl lf_8_23 (fun _ _ _ => rfl) p0),
   (fun d l0 l1 l2 l3 l4 l5 l6 x0 h Q => zr_iconst rfl (by decide)),
   (fun d l0 l1 l2 l3 l4 l5 l6 x1 x0 I L P Q p0 => zr_qldA rfl p0),
   (fun d l0 l1 l2 l3 l4 l5 l6 x0 h Q => zr_iload_n rfl rfl),
   (fun d l0 l1 l2 l3 l4 l5 l6 x1 x0 h Q => zr_iload_n rfl rfl),
   (fun d l0 l1 l2 l3 l4 l5 l6 x2 x1 x0 I L P Q p0 => zr_ast rfl p0),
   (fun d l0 l1 l2 l3 l4 l5 l6  h Q => zr_iinc (n := 3) (kc := 1) rfl rfl (Nat.le_of_ble_eq_true rfl) rfl (by decide)),
   (fun d l0 l1 l2 l3 l4 l5 l6  h Q => zr_goto rfl (by decide)),
   (fun d l0 l1 l2 l3 l4 l5 l6  h Q => zr_iconst rfl (by decide)),
   (fun d l0 l1 l2 l3 l4 l5 l6 x0 h Q => zr_istore_n (n := 3) rfl (Nat.le_of_ble_eq_true rfl) rfl),
   (fun d l0 l1 l2 l3 l4 l5 l6  h Q => zr_iconst rfl (by decide)),
   (fun d l0 l1 l2 l3 l4 l5 l6 x0 h Q => zr_istore (n := 4) rfl (Nat.le_of_ble_eq_true rfl) rfl),
   (fun d l0 l1 l2 l3 l4 l5 l6  h Q => zr_iconst rfl (by decide)),
   (fun d l0 l1 l2 l3 l4 l5 l6 x0 h Q => zr_istore (n := 5) rfl (Nat.le_of_ble_eq_true rfl) rfl),
   (fun d l0 l1 l2 l3 l4 l5 l6  h Q => zr_aload_n rfl rfl),
   (fun d l0 l1 l2 l3 l4 l5 l6 x0 I L P Q p0 => zr_getI rfl lf_8_32 (fun _ _ _ => rfl) p0),
   (fun d l0 l1 l2 l3 l4 l5 l6 x0 h Q => zr_iconst rfl (by decide)),
   (fun d l0 l1 l2 l3 l4 l5 l6 x1 x0 h Q => zr_isub rfl),
   (fun d l0 l1 l2 l3 l4 l5 l6 x0 h Q => zr_istore (n := 6) rfl (Nat.le_of_ble_eq_true rfl) rfl),
   (fun d l0 l1 l2 l3 l4 l5 l6 x0 h Q => zr_if_lt rfl (by decide)),
   (fun d l0 l1 l2 l3 l4 l5 l6  h Q => zr_aload_n rfl rfl),
   (fun d l0 l1 l2 l3 l4 l5 l6 x0 I L P Q p0 => zr_getQ rfl lf_8_26 (fun _ _ _ => rfl) p0),
   (fun d l0 l1 l2 l3 l4 l5 l6 x0 h Q => zr_iload rfl rfl),
   (fun d l0 l1 l2 l3 l4 l5 l6 x1 x0 h Q => zr_iload_n rfl rfl),
   (fun d l0 l1 l2 l3 l4 l5 l6 x2 x1 x0 I L P Q p0 => zr_ast rfl p0),
   (fun d l0 l1 l2 l3 l4 l5 l6  h Q => zr_aload_n rfl rfl),
   (fun d l0 l1 l2 l3 l4 l5 l6 x0 I L P Q p0 => zr_getQ rfl lf_8_29 (fun _ _ _ => rfl) p0),
   (fun d l0 l1 l2 l3 l4 l5 l6 x0 h Q => zr_iconst rfl (by decide)),
   (fun d l0 l1 l2 l3 l4 l5 l6 x1 x0 I L P Q p0 => zr_qldA rfl p0),
   (fun d l0 l1 l2 l3 l4 l5 l6 x0 h Q => zr_iload rfl rfl),
   (fun d l0 l1 l2 l3 l4 l5 l6 x1 x0 h Q => zr_iload rfl rfl),
   (fun d l0 l1 l2 l3 l4 l5 l6 x2 x1 x0 I L P Q p0 => zr_ast rfl p0),
   (fun d l0 l1 l2 l3 l4 l5 l6  h Q => zr_aload_n rfl rfl),
   (fun d l0 l1 l2 l3 l4 l5 l6 x0 I L P Q p0 => zr_getQ rfl lf_8_29 (fun _ _ _ => rfl) p0),
   (fun d l0 l1 l2 l3 l4 l5 l6 x0 h Q => zr_iconst rfl (by decide)),
   (fun d l0 l1 l2 l3 l4 l5 l6 x1 x0 I L P Q p0 => zr_qldA rfl p0),
   (fun d l0 l1 l2 l3 l4 l5 l6 x0 h Q => zr_iload rfl rfl),
   (fun d l0 l1 l2 l3 l4 l5 l6 x1 x0 h Q => zr_iload rfl rfl),
   (fun d l0 l1 l2 l3 l4 l5 l6 x2 x1 x0 I L P Q p0 => zr_ast rfl p0),
   (fun d l0 l1 l2 l3 l4 l5 l6  h Q => zr_iload_n rfl rfl),
   (fun d l0 l1 l2 l3 l4 l5 l6 x0 h Q => zr_aload_n rfl rfl),
   (fun d l0 l1 l2 l3 l4 l5 l6 x1 x0 I L P Q p0 => zr_getQ rfl lf_8_11 (fun _ _ _ => rfl) p0),
   (fun d l0 l1 l2 l3 l4 l5 l6 x1 x0 h Q => zr_iload rfl rfl),
   (fun d l0 l1 l2 l3 l4 l5 l6 x2 x1 x0 I L P Q p0 => zr_ald rfl p0),
   (fun d l0 l1 l2 l3 l4 l5 l6 x1 x0 h Q => zr_iadd rfl),
   (fun d l0 l1 l2 l3 l4 l5 l6 x0 h Q => zr_istore_n (n := 3) rfl (Nat.le_of_ble_eq_true rfl) rfl),
   (fun d l0 l1 l2 l3 l4 l5 l6  h Q => zr_iload rfl rfl),
   (fun d l0 l1 l2 l3 l4 l5 l6 x0 h Q => zr_aload_n rfl rfl),
   (fun d l0 l1 l2 l3 l4 l5 l6 x1 x0 I L P Q p0 => zr_getQ rfl lf_8_11 (fun _ _ _ => rfl) p0),
   (fun d l0 l1 l2 l3 l4 l5 l6 x1 x0 h Q => zr_iload rfl rfl),
   (fun d l0 l1 l2 l3 l4 l5 l6 x2 x1 x0 I L P Q p0 => zr_ald rfl p0),
   (fun d l0 l1 l2 l3 l4 l5 l6 x1 x0 h Q => zr_aload_n rfl rfl),
   (fun d l0 l1 l2 l3 l4 l5 l6 x2 x1 x0 I L P Q p0 => zr_getQ rfl lf_8_23 (fun _ _ _ => rfl) p0),
   (fun d l0 l1 l2 l3 l4 l5 l6 x2 x1 x0 h Q => zr_iconst rfl (by decide)),
   (fun d l0 l1 l2 l3 l4 l5 l6 x3 x2 x1 x0 I L P Q p0 => zr_qldA rfl p0),
   (fun d l0 l1 l2 l3 l4 l5 l6 x2 x1 x0 h Q => zr_iload rfl rfl),
   (fun d l0 l1 l2 l3 l4 l5 l6 x3 x2 x1 x0 I L P Q p0 => zr_ald rfl p0),
   (fun d l0 l1 l2 l3 l4 l5 l6 x2 x1 x0 h Q => zr_imul rfl),
   (fun d l0 l1 l2 l3 l4 l5 l6 x1 x0 h Q => zr_iadd rfl),
   (fun d l0 l1 l2 l3 l4 l5 l6 x0 h Q => zr_istore (n := 4) rfl (Nat.le_of_ble_eq_true rfl) rfl),
   (fun d l0 l1 l2 l3 l4 l5 l6  h Q => zr_iload rfl rfl),
   (fun d l0 l1 l2 l3 l4 l5 l6 x0 h Q => zr_aload_n rfl rfl),
   (fun d l0 l1 l2 l3 l4 l5 l6 x1 x0 I L P Q p0 => zr_getQ rfl lf_8_11 (fun _ _ _ => rfl) p0),
   (fun d l0 l1 l2 l3 l4 l5 l6 x1 x0 h Q => zr_iload rfl rfl),
   (fun d l0 l1 l2 l3 l4 l5 l6 x2 x1 x0 I L P Q p0 => zr_ald rfl p0),
   (fun d l0 l1 l2 l3 l4 l5 l6 x1 x0 h Q => zr_aload_n rfl rfl),
   (fun d l0 l1 l2 l3 l4 l5 l6 x2 x1 x0 I L P Q p0 => zr_getQ rfl lf_8_23 (fun _ _ _ => rfl) p0),
   (fun d l0 l1 l2 l3 l4 l5 l6 x2 x1 x0 h Q => zr_iconst rfl (by decide)),
   (fun d l0 l1 l2 l3 l4 l5 l6 x3 x2 x1 x0 I L P Q p0 => zr_qldA rfl p0),
   (fun d l0 l1 l2 l3 l4 l5 l6 x2 x1 x0 h Q => zr_iload rfl rfl),
   (fun d l0 l1 l2 l3 l4 l5 l6 x3 x2 x1 x0 I L P Q p0 => zr_ald rfl p0),
   (fun d l0 l1 l2 l3 l4 l5 l6 x2 x1 x0 h Q => zr_imul rfl),
   (fun d l0 l1 l2 l3 l4 l5 l6 x1 x0 h Q => zr_iadd rfl),
   (fun d l0 l1 l2 l3 l4 l5 l6 x0 h Q => zr_istore (n := 5) rfl (Nat.le_of_ble_eq_true rfl) rfl),
   (fun d l0 l1 l2 l3 l4 l5 l6  h Q => zr_iinc (n := 6) (kc := (-1)) rfl rfl (Nat.le_of_ble_eq_true rfl) rfl (by decide)),
   (fun d l0 l1 l2 l3 l4 l5 l6  h Q => zr_goto rfl (by decide)),
   (fun d l0 l1 l2 l3 l4 l5 l6  h Q => zr_vret rfl rfl)⟩
theorem H_X8_settle_6 : ∀ (d : Nat) (l0 : Value) (l1 : Value) (l2 : Value) (l3 : Int32) (l4 : Value) (l5 : Value) (l6 : Value)  (h : zMm) (Q : Option Value → zMm → Prop), zWp d zi_64 none 6 [l0, l1, l2, .int l3, l4, l5, l6] [] h Q = zWp d zi_64 none 7 [l0, l1, l2, .int l3, l4, l5, l6] [.int l3] h Q := fun d l0 l1 l2 l3 l4 l5 l6  h Q => zr_iload_n rfl rfl
theorem H_X8_settle_76 : ∀ (d : Nat) (l0 : Value) (l1 : Value) (l2 : Value) (l3 : Value) (l4 : Value) (l5 : Value) (l6 : Int32)  (h : zMm) (Q : Option Value → zMm → Prop), zWp d zi_64 none 76 [l0, l1, l2, l3, l4, l5, .int l6] [] h Q = zWp d zi_64 none 78 [l0, l1, l2, l3, l4, l5, .int l6] [.int l6] h Q := fun d l0 l1 l2 l3 l4 l5 l6  h Q => zr_iload rfl rfl
theorem E_X8_push : ∀ (d : Nat) (a0 : Nat) (a1 : Int32) (a2 : Int32) (a3 : Int32) (h : zMm) (Q : Option Value → zMm → Prop), zWM (d + 1) 65 [.ref a0, .int a1, .int a2, .int a3] h Q = zWp d zi_65 none 0 [.ref a0, .int a1, .int a2, .int a3, .retAddr 0] [] h Q := fun d a0 a1 a2 a3 h Q => zW_M m_65 (Nat.le_of_ble_eq_true rfl) rfl
set_option maxRecDepth 100000 in
theorem R_X8_push :
    (∀ (d : Nat) (l0 : Nat) (l1 : Value) (l2 : Value) (l3 : Value) (l4 : Value)  (h : zMm) (Q : Option Value → zMm → Prop), zWp d zi_65 none 0 [.ref l0, l1, l2, l3, l4] [] h Q = zWp d zi_65 none 1 [.ref l0, l1, l2, l3, l4] [.ref l0] h Q) ∧
    (∀ (d : Nat) (l0 : Value) (l1 : Value) (l2 : Value) (l3 : Value) (l4 : Value) (x0 : Nat) (I : Nat → Nat → Int32) (L : Nat → Nat → Int64) (P : Nat → Nat → Option Nat) (Q : Option Value → zMm → Prop), zSH[x0]? = some (.inl 8) → zWp d zi_65 none 1 [l0, l1, l2, l3, l4] [.ref x0] (zSH, I, L, P) Q = zWp d zi_65 none 4 [l0, l1, l2, l3, l4] [va_rf (P x0 5)] (zSH, I, L, P) Q) ∧
    (∀ (d : Nat) (l0 : Value) (l1 : Value) (l2 : Int32) (l3 : Value) (l4 : Value) (x0 : Nat) (h : zMm) (Q : Option Value → zMm → Prop), zWp d zi_65 none 4 [l0, l1, .int l2, l3, l4] [.ref x0] h Q = zWp d zi_65 none 5 [l0, l1, .int l2, l3, l4] [.int l2, .ref x0] h Q) ∧
    (∀ (d : Nat) (l0 : Value) (l1 : Value) (l2 : Value) (l3 : Value) (l4 : Value) (x1 : Int32) (x0 : Nat) (I : Nat → Nat → Int32) (L : Nat → Nat → Int64) (P : Nat → Nat → Option Nat) (Q : Option Value → zMm → Prop), zAk zSH x0 = some (.array .int) → zWp d zi_65 none 5 [l0, l1, l2, l3, l4] [.int x1, .ref x0] (zSH, I, L, P) Q = (vp_in x1 (zAn zSH x0) ∧ zWp d zi_65 none 6 [l0, l1, l2, l3, l4] [va_rf (P x0 x1.toNatClampNeg)] (zSH, I, L, P) Q)) ∧
    (∀ (d : Nat) (l0 : Value) (l1 : Int32) (l2 : Value) (l3 : Value) (l4 : Value) (x0 : Nat) (h : zMm) (Q : Option Value → zMm → Prop), zWp d zi_65 none 6 [l0, .int l1, l2, l3, l4] [.ref x0] h Q = zWp d zi_65 none 7 [l0, .int l1, l2, l3, l4] [.int l1, .ref x0] h Q) ∧
    (∀ (d : Nat) (l0 : Value) (l1 : Value) (l2 : Value) (l3 : Value) (l4 : Value) (x1 : Int32) (x0 : Nat) (I : Nat → Nat → Int32) (L : Nat → Nat → Int64) (P : Nat → Nat → Option Nat) (Q : Option Value → zMm → Prop), zAk zSH x0 = some .int → zWp d zi_65 none 7 [l0, l1, l2, l3, l4] [.int x1, .ref x0] (zSH, I, L, P) Q = (vp_in x1 (zAn zSH x0) ∧ zWp d zi_65 none 8 [l0, l1, l2, l3, l4] [.int (I x0 x1.toNatClampNeg)] (zSH, I, L, P) Q)) ∧
    (∀ (d : Nat) (l0 : Nat) (l1 : Value) (l2 : Value) (l3 : Value) (l4 : Value) (x0 : Int32) (h : zMm) (Q : Option Value → zMm → Prop), zWp d zi_65 none 8 [.ref l0, l1, l2, l3, l4] [.int x0] h Q = zWp d zi_65 none 9 [.ref l0, l1, l2, l3, l4] [.ref l0, .int x0] h Q) ∧
    (∀ (d : Nat) (l0 : Value) (l1 : Value) (l2 : Value) (l3 : Value) (l4 : Value) (x1 : Nat) (x0 : Int32) (I : Nat → Nat → Int32) (L : Nat → Nat → Int64) (P : Nat → Nat → Option Nat) (Q : Option Value → zMm → Prop), zSH[x1]? = some (.inl 8) → zWp d zi_65 none 9 [l0, l1, l2, l3, l4] [.ref x1, .int x0] (zSH, I, L, P) Q = zWp d zi_65 none 12 [l0, l1, l2, l3, l4] [va_rf (P x1 4), .int x0] (zSH, I, L, P) Q) ∧
    (∀ (d : Nat) (l0 : Value) (l1 : Int32) (l2 : Value) (l3 : Value) (l4 : Value) (x1 : Nat) (x0 : Int32) (h : zMm) (Q : Option Value → zMm → Prop), zWp d zi_65 none 12 [l0, .int l1, l2, l3, l4] [.ref x1, .int x0] h Q = zWp d zi_65 none 13 [l0, .int l1, l2, l3, l4] [.int l1, .ref x1, .int x0] h Q) ∧
    (∀ (d : Nat) (l0 : Value) (l1 : Value) (l2 : Value) (l3 : Value) (l4 : Value) (x2 : Int32) (x1 : Nat) (x0 : Int32) (I : Nat → Nat → Int32) (L : Nat → Nat → Int64) (P : Nat → Nat → Option Nat) (Q : Option Value → zMm → Prop), zAk zSH x1 = some .int → zWp d zi_65 none 13 [l0, l1, l2, l3, l4] [.int x2, .ref x1, .int x0] (zSH, I, L, P) Q = (vp_in x2 (zAn zSH x1) ∧ zWp d zi_65 none 14 [l0, l1, l2, l3, l4] [.int (I x1 x2.toNatClampNeg), .int x0] (zSH, I, L, P) Q)) ∧
    (∀ (d : Nat) (l0 : Nat) (l1 : Value) (l2 : Value) (l3 : Value) (l4 : Value) (x1 : Int32) (x0 : Int32) (h : zMm) (Q : Option Value → zMm → Prop), zWp d zi_65 none 14 [.ref l0, l1, l2, l3, l4] [.int x1, .int x0] h Q = zWp d zi_65 none 15 [.ref l0, l1, l2, l3, l4] [.ref l0, .int x1, .int x0] h Q) ∧
    (∀ (d : Nat) (l0 : Value) (l1 : Value) (l2 : Value) (l3 : Value) (l4 : Value) (x2 : Nat) (x1 : Int32) (x0 : Int32) (I : Nat → Nat → Int32) (L : Nat → Nat → Int64) (P : Nat → Nat → Option Nat) (Q : Option Value → zMm → Prop), zSH[x2]? = some (.inl 8) → zWp d zi_65 none 15 [l0, l1, l2, l3, l4] [.ref x2, .int x1, .int x0] (zSH, I, L, P) Q = zWp d zi_65 none 18 [l0, l1, l2, l3, l4] [va_rf (P x2 3), .int x1, .int x0] (zSH, I, L, P) Q) ∧
    (∀ (d : Nat) (l0 : Value) (l1 : Value) (l2 : Int32) (l3 : Value) (l4 : Value) (x2 : Nat) (x1 : Int32) (x0 : Int32) (h : zMm) (Q : Option Value → zMm → Prop), zWp d zi_65 none 18 [l0, l1, .int l2, l3, l4] [.ref x2, .int x1, .int x0] h Q = zWp d zi_65 none 19 [l0, l1, .int l2, l3, l4] [.int l2, .ref x2, .int x1, .int x0] h Q) ∧
    (∀ (d : Nat) (l0 : Value) (l1 : Value) (l2 : Value) (l3 : Value) (l4 : Value) (x3 : Int32) (x2 : Nat) (x1 : Int32) (x0 : Int32) (I : Nat → Nat → Int32) (L : Nat → Nat → Int64) (P : Nat → Nat → Option Nat) (Q : Option Value → zMm → Prop), zAk zSH x2 = some (.array .int) → zWp d zi_65 none 19 [l0, l1, l2, l3, l4] [.int x3, .ref x2, .int x1, .int x0] (zSH, I, L, P) Q = (vp_in x3 (zAn zSH x2) ∧ zWp d zi_65 none 20 [l0, l1, l2, l3, l4] [va_rf (P x2 x3.toNatClampNeg), .int x1, .int x0] (zSH, I, L, P) Q)) ∧
    (∀ (d : Nat) (l0 : Value) (l1 : Int32) (l2 : Value) (l3 : Value) (l4 : Value) (x2 : Nat) (x1 : Int32) (x0 : Int32) (h : zMm) (Q : Option Value → zMm → Prop), zWp d zi_65 none 20 [l0, .int l1, l2, l3, l4] [.ref x2, .int x1, .int x0] h Q = zWp d zi_65 none 21 [l0, .int l1, l2, l3, l4] [.int l1, .ref x2, .int x1, .int x0] h Q) ∧
    (∀ (d : Nat) (l0 : Value) (l1 : Value) (l2 : Value) (l3 : Value) (l4 : Value) (x3 : Int32) (x2 : Nat) (x1 : Int32) (x0 : Int32) (I : Nat → Nat → Int32) (L : Nat → Nat → Int64) (P : Nat → Nat → Option Nat) (Q : Option Value → zMm → Prop), zAk zSH x2 = some .int → zWp d zi_65 none 21 [l0, l1, l2, l3, l4] [.int x3, .ref x2, .int x1, .int x0] (zSH, I, L, P) Q = (vp_in x3 (zAn zSH x2) ∧ zWp d zi_65 none 22 [l0, l1, l2, l3, l4] [.int (I x2 x3.toNatClampNeg), .int x1, .int x0] (zSH, I, L, P) Q)) ∧
    (∀ (d : Nat) (l0 : Value) (l1 : Value) (l2 : Value) (l3 : Value) (l4 : Value) (x2 : Int32) (x1 : Int32) (x0 : Int32) (h : zMm) (Q : Option Value → zMm → Prop), zWp d zi_65 none 22 [l0, l1, l2, l3, l4] [.int x2, .int x1, .int x0] h Q = zWp d zi_65 none 23 [l0, l1, l2, l3, l4] [.int (x1 * x2), .int x0] h Q) ∧
    (∀ (d : Nat) (l0 : Value) (l1 : Value) (l2 : Value) (l3 : Value) (l4 : Value) (x1 : Int32) (x0 : Int32) (h : zMm) (Q : Option Value → zMm → Prop), zWp d zi_65 none 23 [l0, l1, l2, l3, l4] [.int x1, .int x0] h Q = zWp d zi_65 none 24 [l0, l1, l2, l3, l4] [.int (x0 - x1)] h Q) ∧
    (∀ (d : Nat) (l0 : Value) (l1 : Value) (l2 : Value) (l3 : Int32) (l4 : Value) (x0 : Int32) (h : zMm) (Q : Option Value → zMm → Prop), zWp d zi_65 none 24 [l0, l1, l2, .int l3, l4] [.int x0] h Q = zWp d zi_65 none 26 [l0, l1, l2, .int l3, .int x0] [] h Q) ∧
    (∀ (d : Nat) (l0 : Value) (l1 : Value) (l2 : Value) (l3 : Value) (l4 : Value)  (h : zMm) (Q : Option Value → zMm → Prop), zWp d zi_65 none 26 [l0, l1, l2, l3, l4] [] h Q = zWp d zi_65 none 28 [l0, l1, l2, l3, l4] [.int 6] h Q) ∧
    (∀ (d : Nat) (l0 : Value) (l1 : Value) (l2 : Value) (l3 : Value) (l4 : Int32) (x0 : Int32) (h : zMm) (Q : Option Value → zMm → Prop), zWp d zi_65 none 28 [l0, l1, l2, l3, .int l4] [.int x0] h Q = zWp d zi_65 none 30 [l0, l1, l2, l3, .int l4] [.int l4, .int x0] h Q) ∧
    (∀ (d : Nat) (l0 : Value) (l1 : Value) (l2 : Value) (l3 : Value) (l4 : Value) (x1 : Int32) (x0 : Int32) (h : zMm) (Q : Option Value → zMm → Prop), zWp d zi_65 none 30 [l0, l1, l2, l3, l4] [.int x1, .int x0] h Q = zWp d zi_65 none 31 [l0, l1, l2, l3, l4] [.int (x0 * x1)] h Q) ∧
    (∀ (d : Nat) (l0 : Value) (l1 : Value) (l2 : Value) (l3 : Int32) (l4 : Value) (x0 : Int32) (h : zMm) (Q : Option Value → zMm → Prop), zWp d zi_65 none 31 [l0, l1, l2, .int l3, l4] [.int x0] h Q = zWp d zi_65 none 32 [l0, l1, l2, .int l3, l4] [.int l3, .int x0] h Q) ∧
    (∀ (d : Nat) (l0 : Nat) (l1 : Value) (l2 : Value) (l3 : Value) (l4 : Value) (x1 : Int32) (x0 : Int32) (h : zMm) (Q : Option Value → zMm → Prop), zWp d zi_65 none 32 [.ref l0, l1, l2, l3, l4] [.int x1, .int x0] h Q = zWp d zi_65 none 33 [.ref l0, l1, l2, l3, l4] [.ref l0, .int x1, .int x0] h Q) ∧
    (∀ (d : Nat) (l0 : Value) (l1 : Value) (l2 : Value) (l3 : Value) (l4 : Value) (x2 : Nat) (x1 : Int32) (x0 : Int32) (I : Nat → Nat → Int32) (L : Nat → Nat → Int64) (P : Nat → Nat → Option Nat) (Q : Option Value → zMm → Prop), zSH[x2]? = some (.inl 8) → zWp d zi_65 none 33 [l0, l1, l2, l3, l4] [.ref x2, .int x1, .int x0] (zSH, I, L, P) Q = zWp d zi_65 none 36 [l0, l1, l2, l3, l4] [.int (I x2 6), .int x1, .int x0] (zSH, I, L, P) Q) ∧
    (∀ (d : Nat) (l0 : Value) (l1 : Value) (l2 : Value) (l3 : Value) (l4 : Value) (x2 : Int32) (x1 : Int32) (x0 : Int32) (h : zMm) (Q : Option Value → zMm → Prop), zWp d zi_65 none 36 [l0, l1, l2, l3, l4] [.int x2, .int x1, .int x0] h Q = zWp d zi_65 none 37 [l0, l1, l2, l3, l4] [.int 1, .int x2, .int x1, .int x0] h Q) ∧
    (∀ (d : Nat) (l0 : Value) (l1 : Value) (l2 : Value) (l3 : Value) (l4 : Value) (x3 : Int32) (x2 : Int32) (x1 : Int32) (x0 : Int32) (h : zMm) (Q : Option Value → zMm → Prop), zWp d zi_65 none 37 [l0, l1, l2, l3, l4] [.int x3, .int x2, .int x1, .int x0] h Q = zWp d zi_65 none 38 [l0, l1, l2, l3, l4] [.int (x2 - x3), .int x1, .int x0] h Q) ∧
    (∀ (d : Nat) (l0 : Value) (l1 : Int32) (l2 : Value) (l3 : Value) (l4 : Value) (x2 : Int32) (x1 : Int32) (x0 : Int32) (h : zMm) (Q : Option Value → zMm → Prop), zWp d zi_65 none 38 [l0, .int l1, l2, l3, l4] [.int x2, .int x1, .int x0] h Q = zWp d zi_65 none 39 [l0, .int l1, l2, l3, l4] [.int l1, .int x2, .int x1, .int x0] h Q) ∧
    (∀ (d : Nat) (l0 : Value) (l1 : Value) (l2 : Value) (l3 : Value) (l4 : Value) (x3 : Int32) (x2 : Int32) (x1 : Int32) (x0 : Int32) (h : zMm) (Q : Option Value → zMm → Prop), zWp d zi_65 none 39 [l0, l1, l2, l3, l4] [.int x3, .int x2, .int x1, .int x0] h Q = zWp d zi_65 none 40 [l0, l1, l2, l3, l4] [.int (x2 - x3), .int x1, .int x0] h Q) ∧
    (∀ (d : Nat) (l0 : Value) (l1 : Value) (l2 : Value) (l3 : Value) (l4 : Value) (x2 : Int32) (x1 : Int32) (x0 : Int32) (h : zMm) (Q : Option Value → zMm → Prop), zWp d zi_65 none 40 [l0, l1, l2, l3, l4] [.int x2, .int x1, .int x0] h Q = zWp d zi_65 none 41 [l0, l1, l2, l3, l4] [.int (x1 * x2), .int x0] h Q) ∧
    (∀ (d : Nat) (l0 : Value) (l1 : Value) (l2 : Value) (l3 : Value) (l4 : Value) (x1 : Int32) (x0 : Int32) (h : zMm) (Q : Option Value → zMm → Prop), zWp d zi_65 none 41 [l0, l1, l2, l3, l4] [.int x1, .int x0] h Q = zWp d zi_65 none 42 [l0, l1, l2, l3, l4] [.int (x0 + x1)] h Q) ∧
    (∀ (d : Nat) (l0 : Value) (l1 : Value) (l2 : Value) (l3 : Value) (l4 : Value) (x0 : Int32) (h : zMm) (Q : Option Value → zMm → Prop), zWp d zi_65 none 42 [l0, l1, l2, l3, l4] [.int x0] h Q = Q (some (.int x0)) h) :=
  ⟨(fun d l0 l1 l2 l3 l4  h Q => zr_aload_n rfl rfl),
   (fun d l0 l1 l2 l3 l4 x0 I L P Q p0 => zr_getQ rfl lf_8_29 (fun _ _ _ => rfl) p0),
   (fun d l0 l1 l2 l3 l4 x0 h Q => zr_iload_n rfl rfl),
   (fun d l0 l1 l2 l3 l4 x1 x0 I L P Q p0 => zr_qldA rfl p0),
   (fun d l0 l1 l2 l3 l4 x0 h Q => zr_iload_n rfl rfl),
   (fun d l0 l1 l2 l3 l4 x1 x0 I L P Q p0 => zr_ald rfl p0),
   (fun d l0 l1 l2 l3 l4 x0 h Q => zr_aload_n rfl rfl),
   (fun d l0 l1 l2 l3 l4 x1 x0 I L P Q p0 => zr_getQ rfl lf_8_26 (fun _ _ _ => rfl) p0),
   (fun d l0 l1 l2 l3 l4 x1 x0 h Q => zr_iload_n rfl rfl),
   (fun d l0 l1 l2 l3 l4 x2 x1 x0 I L P Q p0 => zr_ald rfl p0),
   (fun d l0 l1 l2 l3 l4 x1 x0 h Q => zr_aload_n rfl rfl),
   (fun d l0 l1 l2 l3 l4 x2 x1 x0 I L P Q p0 => zr_getQ rfl lf_8_23 (fun _ _ _ => rfl) p0),
   (fun d l0 l1 l2 l3 l4 x2 x1 x0 h Q => zr_iload_n rfl rfl),
   (fun d l0 l1 l2 l3 l4 x3 x2 x1 x0 I L P Q p0 => zr_qldA rfl p0),
   (fun d l0 l1 l2 l3 l4 x2 x1 x0 h Q => zr_iload_n rfl rfl),
   (fun d l0 l1 l2 l3 l4 x3 x2 x1 x0 I L P Q p0 => zr_ald rfl p0),
   (fun d l0 l1 l2 l3 l4 x2 x1 x0 h Q => zr_imul rfl),
   (fun d l0 l1 l2 l3 l4 x1 x0 h Q => zr_isub rfl),
   (fun d l0 l1 l2 l3 l4 x0 h Q => zr_istore (n := 4) rfl (Nat.le_of_ble_eq_true rfl) rfl),
   (fun d l0 l1 l2 l3 l4  h Q => zr_bipush rfl (by decide)),
   (fun d l0 l1 l2 l3 l4 x0 h Q => zr_iload rfl rfl),
   (fun d l0 l1 l2 l3 l4 x1 x0 h Q => zr_imul rfl),
   (fun d l0 l1 l2 l3 l4 x0 h Q => zr_iload_n rfl rfl),
   (fun d l0 l1 l2 l3 l4 x1 x0 h Q => zr_aload_n rfl rfl),
   (fun d l0 l1 l2 l3 l4 x2 x1 x0 I L P Q p0 => zr_getI rfl lf_8_32 (fun _ _ _ => rfl) p0),
   (fun d l0 l1 l2 l3 l4 x2 x1 x0 h Q => zr_iconst rfl (by decide)),
   (fun d l0 l1 l2 l3 l4 x3 x2 x1 x0 h Q => zr_isub rfl),
   (fun d l0 l1 l2 l3 l4 x2 x1 x0 h Q => zr_iload_n rfl rfl),
   (fun d l0 l1 l2 l3 l4 x3 x2 x1 x0 h Q => zr_isub rfl),
   (fun d l0 l1 l2 l3 l4 x2 x1 x0 h Q => zr_imul rfl),
   (fun d l0 l1 l2 l3 l4 x1 x0 h Q => zr_iadd rfl),
   (fun d l0 l1 l2 l3 l4 x0 h Q => zr_iret rfl rfl)⟩
theorem E_X8_strain : ∀ (d : Nat) (a0 : Nat) (a1 : Int32) (a2 : Int32) (a3 : Int32) (h : zMm) (Q : Option Value → zMm → Prop), zWM (d + 1) 66 [.ref a0, .int a1, .int a2, .int a3] h Q = zWp d zi_66 none 0 [.ref a0, .int a1, .int a2, .int a3] [] h Q := fun d a0 a1 a2 a3 h Q => zW_M m_66 (Nat.le_of_ble_eq_true rfl) rfl
set_option maxRecDepth 100000 in
theorem R_X8_strain :
    (∀ (d : Nat) (l0 : Nat) (l1 : Value) (l2 : Value) (l3 : Value)  (h : zMm) (Q : Option Value → zMm → Prop), zWp d zi_66 none 0 [.ref l0, l1, l2, l3] [] h Q = zWp d zi_66 none 1 [.ref l0, l1, l2, l3] [.ref l0] h Q) ∧
    (∀ (d : Nat) (l0 : Value) (l1 : Int32) (l2 : Value) (l3 : Value) (x0 : Nat) (h : zMm) (Q : Option Value → zMm → Prop), zWp d zi_66 none 1 [l0, .int l1, l2, l3] [.ref x0] h Q = zWp d zi_66 none 2 [l0, .int l1, l2, l3] [.int l1, .ref x0] h Q) ∧
    (∀ (d : Nat) (l0 : Value) (l1 : Value) (l2 : Value) (l3 : Value) (x1 : Int32) (x0 : Nat) (h : zMm) (Q : Option Value → zMm → Prop), zWp d zi_66 none 2 [l0, l1, l2, l3] [.int x1, .ref x0] h Q = zWp d zi_66 none 3 [l0, l1, l2, l3] [.int 0, .int x1, .ref x0] h Q) ∧
    (∀ (d : Nat) (l0 : Value) (l1 : Value) (l2 : Int32) (l3 : Value) (x2 : Int32) (x1 : Int32) (x0 : Nat) (h : zMm) (Q : Option Value → zMm → Prop), zWp d zi_66 none 3 [l0, l1, .int l2, l3] [.int x2, .int x1, .ref x0] h Q = zWp d zi_66 none 4 [l0, l1, .int l2, l3] [.int l2, .int x2, .int x1, .ref x0] h Q) ∧
    (∀ (d : Nat) (l0 : Value) (l1 : Value) (l2 : Value) (l3 : Value) (x3 : Int32) (x2 : Int32) (x1 : Int32) (x0 : Nat) (I : Nat → Nat → Int32) (L : Nat → Nat → Int64) (P : Nat → Nat → Option Nat) (Q : Option Value → zMm → Prop), zSH[x0]? = some (.inl 8) → zWp d zi_66 none 4 [l0, l1, l2, l3] [.int x3, .int x2, .int x1, .ref x0] (zSH, I, L, P) Q = zWM d 65 [.ref x0, .int x1, .int x2, .int x3] (zSH, I, L, P) (fun r h1 => zWp d zi_66 none 7 [l0, l1, l2, l3] (r.toList ++ []) h1 Q)) ∧
    (∀ (d : Nat) (l0 : Value) (l1 : Value) (l2 : Value) (l3 : Value) (x0 : Int32) (h : zMm) (Q : Option Value → zMm → Prop), zWp d zi_66 none 7 [l0, l1, l2, l3] [.int x0] h Q = zWp d zi_66 none 10 [l0, l1, l2, l3] [.int (if 0 ≤ x0 then x0 else 0 - x0)] h Q) ∧
    (∀ (d : Nat) (l0 : Nat) (l1 : Value) (l2 : Value) (l3 : Value) (x0 : Int32) (h : zMm) (Q : Option Value → zMm → Prop), zWp d zi_66 none 10 [.ref l0, l1, l2, l3] [.int x0] h Q = zWp d zi_66 none 11 [.ref l0, l1, l2, l3] [.ref l0, .int x0] h Q) ∧
    (∀ (d : Nat) (l0 : Value) (l1 : Int32) (l2 : Value) (l3 : Value) (x1 : Nat) (x0 : Int32) (h : zMm) (Q : Option Value → zMm → Prop), zWp d zi_66 none 11 [l0, .int l1, l2, l3] [.ref x1, .int x0] h Q = zWp d zi_66 none 12 [l0, .int l1, l2, l3] [.int l1, .ref x1, .int x0] h Q) ∧
    (∀ (d : Nat) (l0 : Value) (l1 : Value) (l2 : Value) (l3 : Value) (x2 : Int32) (x1 : Nat) (x0 : Int32) (h : zMm) (Q : Option Value → zMm → Prop), zWp d zi_66 none 12 [l0, l1, l2, l3] [.int x2, .ref x1, .int x0] h Q = zWp d zi_66 none 13 [l0, l1, l2, l3] [.int 1, .int x2, .ref x1, .int x0] h Q) ∧
    (∀ (d : Nat) (l0 : Value) (l1 : Value) (l2 : Value) (l3 : Int32) (x3 : Int32) (x2 : Int32) (x1 : Nat) (x0 : Int32) (h : zMm) (Q : Option Value → zMm → Prop), zWp d zi_66 none 13 [l0, l1, l2, .int l3] [.int x3, .int x2, .ref x1, .int x0] h Q = zWp d zi_66 none 14 [l0, l1, l2, .int l3] [.int l3, .int x3, .int x2, .ref x1, .int x0] h Q) ∧
    (∀ (d : Nat) (l0 : Value) (l1 : Value) (l2 : Value) (l3 : Value) (x4 : Int32) (x3 : Int32) (x2 : Int32) (x1 : Nat) (x0 : Int32) (I : Nat → Nat → Int32) (L : Nat → Nat → Int64) (P : Nat → Nat → Option Nat) (Q : Option Value → zMm → Prop), zSH[x1]? = some (.inl 8) → zWp d zi_66 none 14 [l0, l1, l2, l3] [.int x4, .int x3, .int x2, .ref x1, .int x0] (zSH, I, L, P) Q = zWM d 65 [.ref x1, .int x2, .int x3, .int x4] (zSH, I, L, P) (fun r h1 => zWp d zi_66 none 17 [l0, l1, l2, l3] (r.toList ++ [.int x0]) h1 Q)) ∧
    (∀ (d : Nat) (l0 : Value) (l1 : Value) (l2 : Value) (l3 : Value) (x1 : Int32) (x0 : Int32) (h : zMm) (Q : Option Value → zMm → Prop), zWp d zi_66 none 17 [l0, l1, l2, l3] [.int x1, .int x0] h Q = zWp d zi_66 none 20 [l0, l1, l2, l3] [.int (if 0 ≤ x1 then x1 else 0 - x1), .int x0] h Q) ∧
    (∀ (d : Nat) (l0 : Value) (l1 : Value) (l2 : Value) (l3 : Value) (x1 : Int32) (x0 : Int32) (h : zMm) (Q : Option Value → zMm → Prop), zWp d zi_66 none 20 [l0, l1, l2, l3] [.int x1, .int x0] h Q = zWp d zi_66 none 23 [l0, l1, l2, l3] [.int (if x0 < x1 then x1 else x0)] h Q) ∧
    (∀ (d : Nat) (l0 : Value) (l1 : Value) (l2 : Value) (l3 : Value) (x0 : Int32) (h : zMm) (Q : Option Value → zMm → Prop), zWp d zi_66 none 23 [l0, l1, l2, l3] [.int x0] h Q = Q (some (.int x0)) h) :=
  ⟨(fun d l0 l1 l2 l3  h Q => zr_aload_n rfl rfl),
   (fun d l0 l1 l2 l3 x0 h Q => zr_iload_n rfl rfl),
   (fun d l0 l1 l2 l3 x1 x0 h Q => zr_iconst rfl (by decide)),
   (fun d l0 l1 l2 l3 x2 x1 x0 h Q => zr_iload_n rfl rfl),
   (fun d l0 l1 l2 l3 x3 x2 x1 x0 I L P Q p0 => zr_vir (as := [.int x3, .int x2, .int x1]) (rest := []) rfl lm_8_45 m_65 kd_65 rfl (Nat.le_of_ble_eq_true rfl) p0),
   (fun d l0 l1 l2 l3 x0 h Q => zr_abs rfl lm_8_49 (Nat.le_of_ble_eq_true rfl)),
   (fun d l0 l1 l2 l3 x0 h Q => zr_aload_n rfl rfl),
   (fun d l0 l1 l2 l3 x1 x0 h Q => zr_iload_n rfl rfl),
   (fun d l0 l1 l2 l3 x2 x1 x0 h Q => zr_iconst rfl (by decide)),
   (fun d l0 l1 l2 l3 x3 x2 x1 x0 h Q => zr_iload_n rfl rfl),
   (fun d l0 l1 l2 l3 x4 x3 x2 x1 x0 I L P Q p0 => zr_vir (as := [.int x4, .int x3, .int x2]) (rest := [.int x0]) rfl lm_8_45 m_65 kd_65 rfl (Nat.le_of_ble_eq_true rfl) p0),
   (fun d l0 l1 l2 l3 x1 x0 h Q => zr_abs rfl lm_8_49 (Nat.le_of_ble_eq_true rfl)),
   (fun d l0 l1 l2 l3 x1 x0 h Q => zr_max rfl lm_8_55 (Nat.le_of_ble_eq_true rfl)),
   (fun d l0 l1 l2 l3 x0 h Q => zr_iret rfl rfl)⟩
theorem E_X8_strength : ∀ (d : Nat) (a0 : Nat) (a1 : Int32) (a2 : Int32) (h : zMm) (Q : Option Value → zMm → Prop), zWM (d + 1) 67 [.ref a0, .int a1, .int a2] h Q = zWp d zi_67 none 0 [.ref a0, .int a1, .int a2] [] h Q := fun d a0 a1 a2 h Q => zW_M m_67 (Nat.le_of_ble_eq_true rfl) rfl
set_option maxRecDepth 100000 in
theorem R_X8_strength :
    (∀ (d : Nat) (l0 : Value) (l1 : Value) (l2 : Value)  (h : zMm) (Q : Option Value → zMm → Prop), zWp d zi_67 none 0 [l0, l1, l2] [] h Q = zWp d zi_67 none 1 [l0, l1, l2] [.int 3] h Q) ∧
    (∀ (d : Nat) (l0 : Value) (l1 : Value) (l2 : Int32) (x0 : Int32) (h : zMm) (Q : Option Value → zMm → Prop), zWp d zi_67 none 1 [l0, l1, .int l2] [.int x0] h Q = zWp d zi_67 none 2 [l0, l1, .int l2] [.int l2, .int x0] h Q) ∧
    (∀ (d : Nat) (l0 : Value) (l1 : Value) (l2 : Value) (x1 : Int32) (x0 : Int32) (h : zMm) (Q : Option Value → zMm → Prop), zWp d zi_67 none 2 [l0, l1, l2] [.int x1, .int x0] h Q = zWp d zi_67 none 3 [l0, l1, l2] [.int (x0 * x1)] h Q) ∧
    (∀ (d : Nat) (l0 : Nat) (l1 : Value) (l2 : Value) (x0 : Int32) (h : zMm) (Q : Option Value → zMm → Prop), zWp d zi_67 none 3 [.ref l0, l1, l2] [.int x0] h Q = zWp d zi_67 none 4 [.ref l0, l1, l2] [.ref l0, .int x0] h Q) ∧
    (∀ (d : Nat) (l0 : Value) (l1 : Value) (l2 : Value) (x1 : Nat) (x0 : Int32) (I : Nat → Nat → Int32) (L : Nat → Nat → Int64) (P : Nat → Nat → Option Nat) (Q : Option Value → zMm → Prop), zSH[x1]? = some (.inl 8) → zWp d zi_67 none 4 [l0, l1, l2] [.ref x1, .int x0] (zSH, I, L, P) Q = zWp d zi_67 none 7 [l0, l1, l2] [va_rf (P x1 4), .int x0] (zSH, I, L, P) Q) ∧
    (∀ (d : Nat) (l0 : Value) (l1 : Int32) (l2 : Value) (x1 : Nat) (x0 : Int32) (h : zMm) (Q : Option Value → zMm → Prop), zWp d zi_67 none 7 [l0, .int l1, l2] [.ref x1, .int x0] h Q = zWp d zi_67 none 8 [l0, .int l1, l2] [.int l1, .ref x1, .int x0] h Q) ∧
    (∀ (d : Nat) (l0 : Value) (l1 : Value) (l2 : Value) (x2 : Int32) (x1 : Nat) (x0 : Int32) (I : Nat → Nat → Int32) (L : Nat → Nat → Int64) (P : Nat → Nat → Option Nat) (Q : Option Value → zMm → Prop), zAk zSH x1 = some .int → zWp d zi_67 none 8 [l0, l1, l2] [.int x2, .ref x1, .int x0] (zSH, I, L, P) Q = (vp_in x2 (zAn zSH x1) ∧ zWp d zi_67 none 9 [l0, l1, l2] [.int (I x1 x2.toNatClampNeg), .int x0] (zSH, I, L, P) Q)) ∧
    (∀ (d : Nat) (l0 : Value) (l1 : Value) (l2 : Value) (x1 : Int32) (x0 : Int32) (h : zMm) (Q : Option Value → zMm → Prop), zWp d zi_67 none 9 [l0, l1, l2] [.int x1, .int x0] h Q = zWp d zi_67 none 10 [l0, l1, l2] [.int (x0 * x1)] h Q) ∧
    (∀ (d : Nat) (l0 : Value) (l1 : Value) (l2 : Value) (x0 : Int32) (h : zMm) (Q : Option Value → zMm → Prop), zWp d zi_67 none 10 [l0, l1, l2] [.int x0] h Q = Q (some (.int x0)) h) :=
  ⟨(fun d l0 l1 l2  h Q => zr_iconst rfl (by decide)),
   (fun d l0 l1 l2 x0 h Q => zr_iload_n rfl rfl),
   (fun d l0 l1 l2 x1 x0 h Q => zr_imul rfl),
   (fun d l0 l1 l2 x0 h Q => zr_aload_n rfl rfl),
   (fun d l0 l1 l2 x1 x0 I L P Q p0 => zr_getQ rfl lf_8_26 (fun _ _ _ => rfl) p0),
   (fun d l0 l1 l2 x1 x0 h Q => zr_iload_n rfl rfl),
   (fun d l0 l1 l2 x2 x1 x0 I L P Q p0 => zr_ald rfl p0),
   (fun d l0 l1 l2 x1 x0 h Q => zr_imul rfl),
   (fun d l0 l1 l2 x0 h Q => zr_iret rfl rfl)⟩
theorem E_X8_bears : ∀ (d : Nat) (a0 : Nat) (a1 : Int32) (a2 : Int32) (a3 : Int32) (h : zMm) (Q : Option Value → zMm → Prop), zWM (d + 1) 68 [.ref a0, .int a1, .int a2, .int a3] h Q = zWp d zi_68 none 0 [.ref a0, .int a1, .int a2, .int a3] [] h Q := fun d a0 a1 a2 a3 h Q => zW_M m_68 (Nat.le_of_ble_eq_true rfl) rfl
set_option maxRecDepth 100000 in
theorem R_X8_bears :
    (∀ (d : Nat) (l0 : Nat) (l1 : Value) (l2 : Value) (l3 : Value)  (h : zMm) (Q : Option Value → zMm → Prop), zWp d zi_68 none 0 [.ref l0, l1, l2, l3] [] h Q = zWp d zi_68 none 1 [.ref l0, l1, l2, l3] [.ref l0] h Q) ∧
    (∀ (d : Nat) (l0 : Value) (l1 : Int32) (l2 : Value) (l3 : Value) (x0 : Nat) (h : zMm) (Q : Option Value → zMm → Prop), zWp d zi_68 none 1 [l0, .int l1, l2, l3] [.ref x0] h Q = zWp d zi_68 none 2 [l0, .int l1, l2, l3] [.int l1, .ref x0] h Q) ∧
    (∀ (d : Nat) (l0 : Value) (l1 : Value) (l2 : Int32) (l3 : Value) (x1 : Int32) (x0 : Nat) (h : zMm) (Q : Option Value → zMm → Prop), zWp d zi_68 none 2 [l0, l1, .int l2, l3] [.int x1, .ref x0] h Q = zWp d zi_68 none 3 [l0, l1, .int l2, l3] [.int l2, .int x1, .ref x0] h Q) ∧
    (∀ (d : Nat) (l0 : Value) (l1 : Value) (l2 : Value) (l3 : Int32) (x2 : Int32) (x1 : Int32) (x0 : Nat) (h : zMm) (Q : Option Value → zMm → Prop), zWp d zi_68 none 3 [l0, l1, l2, .int l3] [.int x2, .int x1, .ref x0] h Q = zWp d zi_68 none 4 [l0, l1, l2, .int l3] [.int l3, .int x2, .int x1, .ref x0] h Q) ∧
    (∀ (d : Nat) (l0 : Value) (l1 : Value) (l2 : Value) (l3 : Value) (x3 : Int32) (x2 : Int32) (x1 : Int32) (x0 : Nat) (I : Nat → Nat → Int32) (L : Nat → Nat → Int64) (P : Nat → Nat → Option Nat) (Q : Option Value → zMm → Prop), zSH[x0]? = some (.inl 8) → zWp d zi_68 none 4 [l0, l1, l2, l3] [.int x3, .int x2, .int x1, .ref x0] (zSH, I, L, P) Q = zWM d 66 [.ref x0, .int x1, .int x2, .int x3] (zSH, I, L, P) (fun r h1 => zWp d zi_68 none 7 [l0, l1, l2, l3] (r.toList ++ []) h1 Q)) ∧
    (∀ (d : Nat) (l0 : Nat) (l1 : Value) (l2 : Value) (l3 : Value) (x0 : Int32) (h : zMm) (Q : Option Value → zMm → Prop), zWp d zi_68 none 7 [.ref l0, l1, l2, l3] [.int x0] h Q = zWp d zi_68 none 8 [.ref l0, l1, l2, l3] [.ref l0, .int x0] h Q) ∧
    (∀ (d : Nat) (l0 : Value) (l1 : Int32) (l2 : Value) (l3 : Value) (x1 : Nat) (x0 : Int32) (h : zMm) (Q : Option Value → zMm → Prop), zWp d zi_68 none 8 [l0, .int l1, l2, l3] [.ref x1, .int x0] h Q = zWp d zi_68 none 9 [l0, .int l1, l2, l3] [.int l1, .ref x1, .int x0] h Q) ∧
    (∀ (d : Nat) (l0 : Nat) (l1 : Value) (l2 : Value) (l3 : Value) (x2 : Int32) (x1 : Nat) (x0 : Int32) (h : zMm) (Q : Option Value → zMm → Prop), zWp d zi_68 none 9 [.ref l0, l1, l2, l3] [.int x2, .ref x1, .int x0] h Q = zWp d zi_68 none 10 [.ref l0, l1, l2, l3] [.ref l0, .int x2, .ref x1, .int x0] h Q) ∧
    (∀ (d : Nat) (l0 : Value) (l1 : Value) (l2 : Value) (l3 : Value) (x3 : Nat) (x2 : Int32) (x1 : Nat) (x0 : Int32) (I : Nat → Nat → Int32) (L : Nat → Nat → Int64) (P : Nat → Nat → Option Nat) (Q : Option Value → zMm → Prop), zSH[x3]? = some (.inl 8) → zWp d zi_68 none 10 [l0, l1, l2, l3] [.ref x3, .int x2, .ref x1, .int x0] (zSH, I, L, P) Q = zWp d zi_68 none 13 [l0, l1, l2, l3] [va_rf (P x3 0), .int x2, .ref x1, .int x0] (zSH, I, L, P) Q) ∧
    (∀ (d : Nat) (l0 : Value) (l1 : Int32) (l2 : Value) (l3 : Value) (x3 : Nat) (x2 : Int32) (x1 : Nat) (x0 : Int32) (h : zMm) (Q : Option Value → zMm → Prop), zWp d zi_68 none 13 [l0, .int l1, l2, l3] [.ref x3, .int x2, .ref x1, .int x0] h Q = zWp d zi_68 none 14 [l0, .int l1, l2, l3] [.int l1, .ref x3, .int x2, .ref x1, .int x0] h Q) ∧
    (∀ (d : Nat) (l0 : Value) (l1 : Value) (l2 : Value) (l3 : Value) (x4 : Int32) (x3 : Nat) (x2 : Int32) (x1 : Nat) (x0 : Int32) (I : Nat → Nat → Int32) (L : Nat → Nat → Int64) (P : Nat → Nat → Option Nat) (Q : Option Value → zMm → Prop), zAk zSH x3 = some .int → zWp d zi_68 none 14 [l0, l1, l2, l3] [.int x4, .ref x3, .int x2, .ref x1, .int x0] (zSH, I, L, P) Q = (vp_in x4 (zAn zSH x3) ∧ zWp d zi_68 none 15 [l0, l1, l2, l3] [.int (I x3 x4.toNatClampNeg), .int x2, .ref x1, .int x0] (zSH, I, L, P) Q)) ∧
    (∀ (d : Nat) (l0 : Value) (l1 : Value) (l2 : Value) (l3 : Value) (x3 : Int32) (x2 : Int32) (x1 : Nat) (x0 : Int32) (I : Nat → Nat → Int32) (L : Nat → Nat → Int64) (P : Nat → Nat → Option Nat) (Q : Option Value → zMm → Prop), zSH[x1]? = some (.inl 8) → zWp d zi_68 none 15 [l0, l1, l2, l3] [.int x3, .int x2, .ref x1, .int x0] (zSH, I, L, P) Q = zWM d 67 [.ref x1, .int x2, .int x3] (zSH, I, L, P) (fun r h1 => zWp d zi_68 none 18 [l0, l1, l2, l3] (r.toList ++ [.int x0]) h1 Q)) ∧
    (∀ (d : Nat) (l0 : Value) (l1 : Value) (l2 : Value) (l3 : Value) (x1 : Int32) (x0 : Int32) (h : zMm) (Q : Option Value → zMm → Prop), zWp d zi_68 none 18 [l0, l1, l2, l3] [.int x1, .int x0] h Q = if x1 < x0 then zWp d zi_68 none 25 [l0, l1, l2, l3] [] h Q else zWp d zi_68 none 21 [l0, l1, l2, l3] [] h Q) ∧
    (∀ (d : Nat) (l0 : Value) (l1 : Value) (l2 : Value) (l3 : Value)  (h : zMm) (Q : Option Value → zMm → Prop), zWp d zi_68 none 21 [l0, l1, l2, l3] [] h Q = zWp d zi_68 none 22 [l0, l1, l2, l3] [.int 1] h Q) ∧
    (∀ (d : Nat) (l0 : Value) (l1 : Value) (l2 : Value) (l3 : Value) (x0 : Int32) (h : zMm) (Q : Option Value → zMm → Prop), zWp d zi_68 none 22 [l0, l1, l2, l3] [.int x0] h Q = zWp d zi_68 none 26 [l0, l1, l2, l3] [.int x0] h Q) ∧
    (∀ (d : Nat) (l0 : Value) (l1 : Value) (l2 : Value) (l3 : Value)  (h : zMm) (Q : Option Value → zMm → Prop), zWp d zi_68 none 25 [l0, l1, l2, l3] [] h Q = zWp d zi_68 none 26 [l0, l1, l2, l3] [.int 0] h Q) ∧
    (∀ (d : Nat) (l0 : Value) (l1 : Value) (l2 : Value) (l3 : Value) (x0 : Int32) (h : zMm) (Q : Option Value → zMm → Prop), x0 = 0 ∨ x0 = 1 → zWp d zi_68 none 26 [l0, l1, l2, l3] [.int x0] h Q = Q (some (.int x0)) h) :=
  ⟨(fun d l0 l1 l2 l3  h Q => zr_aload_n rfl rfl),
   (fun d l0 l1 l2 l3 x0 h Q => zr_iload_n rfl rfl),
   (fun d l0 l1 l2 l3 x1 x0 h Q => zr_iload_n rfl rfl),
   (fun d l0 l1 l2 l3 x2 x1 x0 h Q => zr_iload_n rfl rfl),
   (fun d l0 l1 l2 l3 x3 x2 x1 x0 I L P Q p0 => zr_vir (as := [.int x3, .int x2, .int x1]) (rest := []) rfl lm_8_59 m_66 kd_66 rfl (Nat.le_of_ble_eq_true rfl) p0),
   (fun d l0 l1 l2 l3 x0 h Q => zr_aload_n rfl rfl),
   (fun d l0 l1 l2 l3 x1 x0 h Q => zr_iload_n rfl rfl),
   (fun d l0 l1 l2 l3 x2 x1 x0 h Q => zr_aload_n rfl rfl),
   (fun d l0 l1 l2 l3 x3 x2 x1 x0 I L P Q p0 => zr_getQ rfl lf_8_11 (fun _ _ _ => rfl) p0),
   (fun d l0 l1 l2 l3 x3 x2 x1 x0 h Q => zr_iload_n rfl rfl),
   (fun d l0 l1 l2 l3 x4 x3 x2 x1 x0 I L P Q p0 => zr_ald rfl p0),
   (fun d l0 l1 l2 l3 x3 x2 x1 x0 I L P Q p0 => zr_vir (as := [.int x3, .int x2]) (rest := [.int x0]) rfl lm_8_62 m_67 kd_67 rfl (Nat.le_of_ble_eq_true rfl) p0),
   (fun d l0 l1 l2 l3 x1 x0 h Q => zr_ic_gt rfl (by decide)),
   (fun d l0 l1 l2 l3  h Q => zr_iconst rfl (by decide)),
   (fun d l0 l1 l2 l3 x0 h Q => zr_goto rfl (by decide)),
   (fun d l0 l1 l2 l3  h Q => zr_iconst rfl (by decide)),
   (fun d l0 l1 l2 l3 x0 h Q p0 => zr_zret rfl rfl p0)⟩
theorem E_X8_fallsAt : ∀ (d : Nat) (a0 : Nat) (a1 : Int32) (a2 : Int32) (h : zMm) (Q : Option Value → zMm → Prop), zWM (d + 1) 69 [.ref a0, .int a1, .int a2] h Q = zWp d zi_69 none 0 [.ref a0, .int a1, .int a2, .retAddr 0] [] h Q := fun d a0 a1 a2 h Q => zW_M m_69 (Nat.le_of_ble_eq_true rfl) rfl
set_option maxRecDepth 100000 in
theorem R_X8_fallsAt :
    (∀ (d : Nat) (l0 : Value) (l1 : Value) (l2 : Value) (l3 : Value)  (h : zMm) (Q : Option Value → zMm → Prop), zWp d zi_69 none 0 [l0, l1, l2, l3] [] h Q = zWp d zi_69 none 1 [l0, l1, l2, l3] [.int 0] h Q) ∧
    (∀ (d : Nat) (l0 : Value) (l1 : Value) (l2 : Int32) (l3 : Value) (x0 : Int32) (h : zMm) (Q : Option Value → zMm → Prop), zWp d zi_69 none 1 [l0, l1, .int l2, l3] [.int x0] h Q = zWp d zi_69 none 2 [l0, l1, .int l2, .int x0] [] h Q) ∧
    (∀ (d : Nat) (l0 : Nat) (l1 : Value) (l2 : Value) (l3 : Value) (x0 : Int32) (h : zMm) (Q : Option Value → zMm → Prop), zWp d zi_69 none 3 [.ref l0, l1, l2, l3] [.int x0] h Q = zWp d zi_69 none 4 [.ref l0, l1, l2, l3] [.ref l0, .int x0] h Q) ∧
    (∀ (d : Nat) (l0 : Value) (l1 : Value) (l2 : Value) (l3 : Value) (x1 : Nat) (x0 : Int32) (I : Nat → Nat → Int32) (L : Nat → Nat → Int64) (P : Nat → Nat → Option Nat) (Q : Option Value → zMm → Prop), zSH[x1]? = some (.inl 8) → zWp d zi_69 none 4 [l0, l1, l2, l3] [.ref x1, .int x0] (zSH, I, L, P) Q = zWp d zi_69 none 7 [l0, l1, l2, l3] [.int (I x1 6), .int x0] (zSH, I, L, P) Q) ∧
    (∀ (d : Nat) (l0 : Value) (l1 : Value) (l2 : Value) (l3 : Value) (x1 : Int32) (x0 : Int32) (h : zMm) (Q : Option Value → zMm → Prop), zWp d zi_69 none 7 [l0, l1, l2, l3] [.int x1, .int x0] h Q = if x1 ≤ x0 then zWp d zi_69 none 28 [l0, l1, l2, l3] [] h Q else zWp d zi_69 none 10 [l0, l1, l2, l3] [] h Q) ∧
    (∀ (d : Nat) (l0 : Nat) (l1 : Value) (l2 : Value) (l3 : Value)  (h : zMm) (Q : Option Value → zMm → Prop), zWp d zi_69 none 10 [.ref l0, l1, l2, l3] [] h Q = zWp d zi_69 none 11 [.ref l0, l1, l2, l3] [.ref l0] h Q) ∧
    (∀ (d : Nat) (l0 : Value) (l1 : Value) (l2 : Value) (l3 : Int32) (x0 : Nat) (h : zMm) (Q : Option Value → zMm → Prop), zWp d zi_69 none 11 [l0, l1, l2, .int l3] [.ref x0] h Q = zWp d zi_69 none 12 [l0, l1, l2, .int l3] [.int l3, .ref x0] h Q) ∧
    (∀ (d : Nat) (l0 : Value) (l1 : Int32) (l2 : Value) (l3 : Value) (x1 : Int32) (x0 : Nat) (h : zMm) (Q : Option Value → zMm → Prop), zWp d zi_69 none 12 [l0, .int l1, l2, l3] [.int x1, .ref x0] h Q = zWp d zi_69 none 13 [l0, .int l1, l2, l3] [.int l1, .int x1, .ref x0] h Q) ∧
    (∀ (d : Nat) (l0 : Value) (l1 : Value) (l2 : Int32) (l3 : Value) (x2 : Int32) (x1 : Int32) (x0 : Nat) (h : zMm) (Q : Option Value → zMm → Prop), zWp d zi_69 none 13 [l0, l1, .int l2, l3] [.int x2, .int x1, .ref x0] h Q = zWp d zi_69 none 14 [l0, l1, .int l2, l3] [.int l2, .int x2, .int x1, .ref x0] h Q) ∧
    (∀ (d : Nat) (l0 : Value) (l1 : Value) (l2 : Value) (l3 : Value) (x3 : Int32) (x2 : Int32) (x1 : Int32) (x0 : Nat) (I : Nat → Nat → Int32) (L : Nat → Nat → Int64) (P : Nat → Nat → Option Nat) (Q : Option Value → zMm → Prop), zSH[x0]? = some (.inl 8) → zWp d zi_69 none 14 [l0, l1, l2, l3] [.int x3, .int x2, .int x1, .ref x0] (zSH, I, L, P) Q = zWM d 68 [.ref x0, .int x1, .int x2, .int x3] (zSH, I, L, P) (fun r h1 => zWp d zi_69 none 17 [l0, l1, l2, l3] (r.toList ++ []) h1 Q)) ∧
    (∀ (d : Nat) (l0 : Value) (l1 : Value) (l2 : Value) (l3 : Value) (x0 : Int32) (h : zMm) (Q : Option Value → zMm → Prop), zWp d zi_69 none 17 [l0, l1, l2, l3] [.int x0] h Q = if x0 = 0 then zWp d zi_69 none 20 [l0, l1, l2, l3] [] h Q else zWp d zi_69 none 22 [l0, l1, l2, l3] [] h Q) ∧
    (∀ (d : Nat) (l0 : Value) (l1 : Value) (l2 : Value) (l3 : Int32)  (h : zMm) (Q : Option Value → zMm → Prop), zWp d zi_69 none 20 [l0, l1, l2, .int l3] [] h Q = zWp d zi_69 none 21 [l0, l1, l2, .int l3] [.int l3] h Q) ∧
    (∀ (d : Nat) (l0 : Value) (l1 : Value) (l2 : Value) (l3 : Value) (x0 : Int32) (h : zMm) (Q : Option Value → zMm → Prop), zWp d zi_69 none 21 [l0, l1, l2, l3] [.int x0] h Q = Q (some (.int x0)) h) ∧
    (∀ (d : Nat) (l0 : Value) (l1 : Value) (l2 : Int32) (l3 : Int32)  (h : zMm) (Q : Option Value → zMm → Prop), zWp d zi_69 none 22 [l0, l1, .int l2, .int l3] [] h Q = zWp d zi_69 none 25 [l0, l1, .int l2, .int (l3 + 1)] [] h Q) ∧
    (∀ (d : Nat) (l0 : Value) (l1 : Value) (l2 : Value) (l3 : Value)  (h : zMm) (Q : Option Value → zMm → Prop), zWp d zi_69 none 25 [l0, l1, l2, l3] [] h Q = zWp d zi_69 none 2 [l0, l1, l2, l3] [] h Q) ∧
    (∀ (d : Nat) (l0 : Value) (l1 : Value) (l2 : Value) (l3 : Value)  (h : zMm) (Q : Option Value → zMm → Prop), zWp d zi_69 none 28 [l0, l1, l2, l3] [] h Q = zWp d zi_69 none 30 [l0, l1, l2, l3] [.int (-2)] h Q) ∧
    (∀ (d : Nat) (l0 : Value) (l1 : Value) (l2 : Value) (l3 : Value) (x0 : Int32) (h : zMm) (Q : Option Value → zMm → Prop), zWp d zi_69 none 30 [l0, l1, l2, l3] [.int x0] h Q = Q (some (.int x0)) h) :=
  ⟨(fun d l0 l1 l2 l3  h Q => zr_iconst rfl (by decide)),
   (fun d l0 l1 l2 l3 x0 h Q => zr_istore_n (n := 3) rfl (Nat.le_of_ble_eq_true rfl) rfl),
   (fun d l0 l1 l2 l3 x0 h Q => zr_aload_n rfl rfl),
   (fun d l0 l1 l2 l3 x1 x0 I L P Q p0 => zr_getI rfl lf_8_32 (fun _ _ _ => rfl) p0),
   (fun d l0 l1 l2 l3 x1 x0 h Q => zr_ic_ge rfl (by decide)),
   (fun d l0 l1 l2 l3  h Q => zr_aload_n rfl rfl),
   (fun d l0 l1 l2 l3 x0 h Q => zr_iload_n rfl rfl),
   (fun d l0 l1 l2 l3 x1 x0 h Q => zr_iload_n rfl rfl),
   (fun d l0 l1 l2 l3 x2 x1 x0 h Q => zr_iload_n rfl rfl),
   (fun d l0 l1 l2 l3 x3 x2 x1 x0 I L P Q p0 => zr_vir (as := [.int x3, .int x2, .int x1]) (rest := []) rfl lm_8_65 m_68 kd_68 rfl (Nat.le_of_ble_eq_true rfl) p0),
   (fun d l0 l1 l2 l3 x0 h Q => zr_if_ne rfl (by decide)),
   (fun d l0 l1 l2 l3  h Q => zr_iload_n rfl rfl),
   (fun d l0 l1 l2 l3 x0 h Q => zr_iret rfl rfl),
   (fun d l0 l1 l2 l3  h Q => zr_iinc (n := 3) (kc := 1) rfl rfl (Nat.le_of_ble_eq_true rfl) rfl (by decide)),
   (fun d l0 l1 l2 l3  h Q => zr_goto rfl (by decide)),
   (fun d l0 l1 l2 l3  h Q => zr_bipush rfl (by decide)),
   (fun d l0 l1 l2 l3 x0 h Q => zr_iret rfl rfl)⟩
theorem H_X8_fallsAt_2 : ∀ (d : Nat) (l0 : Value) (l1 : Value) (l2 : Value) (l3 : Int32)  (h : zMm) (Q : Option Value → zMm → Prop), zWp d zi_69 none 2 [l0, l1, l2, .int l3] [] h Q = zWp d zi_69 none 3 [l0, l1, l2, .int l3] [.int l3] h Q := fun d l0 l1 l2 l3  h Q => zr_iload_n rfl rfl
theorem E_X8_whither : ∀ (d : Nat) (a0 : Nat) (a1 : Int32) (a2 : Int32) (a3 : Int32) (h : zMm) (Q : Option Value → zMm → Prop), zWM (d + 1) 70 [.ref a0, .int a1, .int a2, .int a3] h Q = zWp d zi_70 none 0 [.ref a0, .int a1, .int a2, .int a3, .retAddr 0, .retAddr 0] [] h Q := fun d a0 a1 a2 a3 h Q => zW_M m_70 (Nat.le_of_ble_eq_true rfl) rfl
set_option maxRecDepth 100000 in
theorem R_X8_whither :
    (∀ (d : Nat) (l0 : Nat) (l1 : Value) (l2 : Value) (l3 : Value) (l4 : Value) (l5 : Value)  (h : zMm) (Q : Option Value → zMm → Prop), zWp d zi_70 none 0 [.ref l0, l1, l2, l3, l4, l5] [] h Q = zWp d zi_70 none 1 [.ref l0, l1, l2, l3, l4, l5] [.ref l0] h Q) ∧
    (∀ (d : Nat) (l0 : Value) (l1 : Int32) (l2 : Value) (l3 : Value) (l4 : Value) (l5 : Value) (x0 : Nat) (h : zMm) (Q : Option Value → zMm → Prop), zWp d zi_70 none 1 [l0, .int l1, l2, l3, l4, l5] [.ref x0] h Q = zWp d zi_70 none 2 [l0, .int l1, l2, l3, l4, l5] [.int l1, .ref x0] h Q) ∧
    (∀ (d : Nat) (l0 : Value) (l1 : Value) (l2 : Value) (l3 : Value) (l4 : Value) (l5 : Value) (x1 : Int32) (x0 : Nat) (h : zMm) (Q : Option Value → zMm → Prop), zWp d zi_70 none 2 [l0, l1, l2, l3, l4, l5] [.int x1, .ref x0] h Q = zWp d zi_70 none 3 [l0, l1, l2, l3, l4, l5] [.int 0, .int x1, .ref x0] h Q) ∧
    (∀ (d : Nat) (l0 : Value) (l1 : Value) (l2 : Int32) (l3 : Value) (l4 : Value) (l5 : Value) (x2 : Int32) (x1 : Int32) (x0 : Nat) (h : zMm) (Q : Option Value → zMm → Prop), zWp d zi_70 none 3 [l0, l1, .int l2, l3, l4, l5] [.int x2, .int x1, .ref x0] h Q = zWp d zi_70 none 4 [l0, l1, .int l2, l3, l4, l5] [.int l2, .int x2, .int x1, .ref x0] h Q) ∧
    (∀ (d : Nat) (l0 : Value) (l1 : Value) (l2 : Value) (l3 : Value) (l4 : Value) (l5 : Value) (x3 : Int32) (x2 : Int32) (x1 : Int32) (x0 : Nat) (I : Nat → Nat → Int32) (L : Nat → Nat → Int64) (P : Nat → Nat → Option Nat) (Q : Option Value → zMm → Prop), zSH[x0]? = some (.inl 8) → zWp d zi_70 none 4 [l0, l1, l2, l3, l4, l5] [.int x3, .int x2, .int x1, .ref x0] (zSH, I, L, P) Q = zWM d 65 [.ref x0, .int x1, .int x2, .int x3] (zSH, I, L, P) (fun r h1 => zWp d zi_70 none 7 [l0, l1, l2, l3, l4, l5] (r.toList ++ []) h1 Q)) ∧
    (∀ (d : Nat) (l0 : Value) (l1 : Value) (l2 : Value) (l3 : Int32) (l4 : Value) (l5 : Value) (x0 : Int32) (h : zMm) (Q : Option Value → zMm → Prop), zWp d zi_70 none 7 [l0, l1, l2, .int l3, l4, l5] [.int x0] h Q = zWp d zi_70 none 9 [l0, l1, l2, .int l3, .int x0, l5] [] h Q) ∧
    (∀ (d : Nat) (l0 : Nat) (l1 : Value) (l2 : Value) (l3 : Value) (l4 : Value) (l5 : Value)  (h : zMm) (Q : Option Value → zMm → Prop), zWp d zi_70 none 9 [.ref l0, l1, l2, l3, l4, l5] [] h Q = zWp d zi_70 none 10 [.ref l0, l1, l2, l3, l4, l5] [.ref l0] h Q) ∧
    (∀ (d : Nat) (l0 : Value) (l1 : Int32) (l2 : Value) (l3 : Value) (l4 : Value) (l5 : Value) (x0 : Nat) (h : zMm) (Q : Option Value → zMm → Prop), zWp d zi_70 none 10 [l0, .int l1, l2, l3, l4, l5] [.ref x0] h Q = zWp d zi_70 none 11 [l0, .int l1, l2, l3, l4, l5] [.int l1, .ref x0] h Q) ∧
    (∀ (d : Nat) (l0 : Value) (l1 : Value) (l2 : Value) (l3 : Value) (l4 : Value) (l5 : Value) (x1 : Int32) (x0 : Nat) (h : zMm) (Q : Option Value → zMm → Prop), zWp d zi_70 none 11 [l0, l1, l2, l3, l4, l5] [.int x1, .ref x0] h Q = zWp d zi_70 none 12 [l0, l1, l2, l3, l4, l5] [.int 1, .int x1, .ref x0] h Q) ∧
    (∀ (d : Nat) (l0 : Value) (l1 : Value) (l2 : Value) (l3 : Int32) (l4 : Value) (l5 : Value) (x2 : Int32) (x1 : Int32) (x0 : Nat) (h : zMm) (Q : Option Value → zMm → Prop), zWp d zi_70 none 12 [l0, l1, l2, .int l3, l4, l5] [.int x2, .int x1, .ref x0] h Q = zWp d zi_70 none 13 [l0, l1, l2, .int l3, l4, l5] [.int l3, .int x2, .int x1, .ref x0] h Q) ∧
    (∀ (d : Nat) (l0 : Value) (l1 : Value) (l2 : Value) (l3 : Value) (l4 : Value) (l5 : Value) (x3 : Int32) (x2 : Int32) (x1 : Int32) (x0 : Nat) (I : Nat → Nat → Int32) (L : Nat → Nat → Int64) (P : Nat → Nat → Option Nat) (Q : Option Value → zMm → Prop), zSH[x0]? = some (.inl 8) → zWp d zi_70 none 13 [l0, l1, l2, l3, l4, l5] [.int x3, .int x2, .int x1, .ref x0] (zSH, I, L, P) Q = zWM d 65 [.ref x0, .int x1, .int x2, .int x3] (zSH, I, L, P) (fun r h1 => zWp d zi_70 none 16 [l0, l1, l2, l3, l4, l5] (r.toList ++ []) h1 Q)) ∧
    (∀ (d : Nat) (l0 : Value) (l1 : Value) (l2 : Value) (l3 : Value) (l4 : Int32) (l5 : Value) (x0 : Int32) (h : zMm) (Q : Option Value → zMm → Prop), zWp d zi_70 none 16 [l0, l1, l2, l3, .int l4, l5] [.int x0] h Q = zWp d zi_70 none 18 [l0, l1, l2, l3, .int l4, .int x0] [] h Q) ∧
    (∀ (d : Nat) (l0 : Value) (l1 : Value) (l2 : Value) (l3 : Value) (l4 : Int32) (l5 : Value)  (h : zMm) (Q : Option Value → zMm → Prop), zWp d zi_70 none 18 [l0, l1, l2, l3, .int l4, l5] [] h Q = zWp d zi_70 none 20 [l0, l1, l2, l3, .int l4, l5] [.int l4] h Q) ∧
    (∀ (d : Nat) (l0 : Value) (l1 : Value) (l2 : Value) (l3 : Value) (l4 : Value) (l5 : Value) (x0 : Int32) (h : zMm) (Q : Option Value → zMm → Prop), zWp d zi_70 none 20 [l0, l1, l2, l3, l4, l5] [.int x0] h Q = zWp d zi_70 none 23 [l0, l1, l2, l3, l4, l5] [.int (if 0 ≤ x0 then x0 else 0 - x0)] h Q) ∧
    (∀ (d : Nat) (l0 : Value) (l1 : Value) (l2 : Value) (l3 : Value) (l4 : Value) (l5 : Int32) (x0 : Int32) (h : zMm) (Q : Option Value → zMm → Prop), zWp d zi_70 none 23 [l0, l1, l2, l3, l4, .int l5] [.int x0] h Q = zWp d zi_70 none 25 [l0, l1, l2, l3, l4, .int l5] [.int l5, .int x0] h Q) ∧
    (∀ (d : Nat) (l0 : Value) (l1 : Value) (l2 : Value) (l3 : Value) (l4 : Value) (l5 : Value) (x1 : Int32) (x0 : Int32) (h : zMm) (Q : Option Value → zMm → Prop), zWp d zi_70 none 25 [l0, l1, l2, l3, l4, l5] [.int x1, .int x0] h Q = zWp d zi_70 none 28 [l0, l1, l2, l3, l4, l5] [.int (if 0 ≤ x1 then x1 else 0 - x1), .int x0] h Q) ∧
    (∀ (d : Nat) (l0 : Value) (l1 : Value) (l2 : Value) (l3 : Value) (l4 : Value) (l5 : Value) (x1 : Int32) (x0 : Int32) (h : zMm) (Q : Option Value → zMm → Prop), zWp d zi_70 none 28 [l0, l1, l2, l3, l4, l5] [.int x1, .int x0] h Q = if x0 < x1 then zWp d zi_70 none 42 [l0, l1, l2, l3, l4, l5] [] h Q else zWp d zi_70 none 31 [l0, l1, l2, l3, l4, l5] [] h Q) ∧
    (∀ (d : Nat) (l0 : Value) (l1 : Value) (l2 : Value) (l3 : Value) (l4 : Int32) (l5 : Value)  (h : zMm) (Q : Option Value → zMm → Prop), zWp d zi_70 none 31 [l0, l1, l2, l3, .int l4, l5] [] h Q = zWp d zi_70 none 33 [l0, l1, l2, l3, .int l4, l5] [.int l4] h Q) ∧
    (∀ (d : Nat) (l0 : Value) (l1 : Value) (l2 : Value) (l3 : Value) (l4 : Value) (l5 : Value) (x0 : Int32) (h : zMm) (Q : Option Value → zMm → Prop), zWp d zi_70 none 33 [l0, l1, l2, l3, l4, l5] [.int x0] h Q = if 0 ≤ x0 then zWp d zi_70 none 40 [l0, l1, l2, l3, l4, l5] [] h Q else zWp d zi_70 none 36 [l0, l1, l2, l3, l4, l5] [] h Q) ∧
    (∀ (d : Nat) (l0 : Value) (l1 : Value) (l2 : Value) (l3 : Value) (l4 : Value) (l5 : Value)  (h : zMm) (Q : Option Value → zMm → Prop), zWp d zi_70 none 36 [l0, l1, l2, l3, l4, l5] [] h Q = zWp d zi_70 none 37 [l0, l1, l2, l3, l4, l5] [.int 2] h Q) ∧
    (∀ (d : Nat) (l0 : Value) (l1 : Value) (l2 : Value) (l3 : Value) (l4 : Value) (l5 : Value) (x0 : Int32) (h : zMm) (Q : Option Value → zMm → Prop), zWp d zi_70 none 37 [l0, l1, l2, l3, l4, l5] [.int x0] h Q = zWp d zi_70 none 41 [l0, l1, l2, l3, l4, l5] [.int x0] h Q) ∧
    (∀ (d : Nat) (l0 : Value) (l1 : Value) (l2 : Value) (l3 : Value) (l4 : Value) (l5 : Value)  (h : zMm) (Q : Option Value → zMm → Prop), zWp d zi_70 none 40 [l0, l1, l2, l3, l4, l5] [] h Q = zWp d zi_70 none 41 [l0, l1, l2, l3, l4, l5] [.int 0] h Q) ∧
    (∀ (d : Nat) (l0 : Value) (l1 : Value) (l2 : Value) (l3 : Value) (l4 : Value) (l5 : Value) (x0 : Int32) (h : zMm) (Q : Option Value → zMm → Prop), zWp d zi_70 none 41 [l0, l1, l2, l3, l4, l5] [.int x0] h Q = Q (some (.int x0)) h) ∧
    (∀ (d : Nat) (l0 : Value) (l1 : Value) (l2 : Value) (l3 : Value) (l4 : Value) (l5 : Int32)  (h : zMm) (Q : Option Value → zMm → Prop), zWp d zi_70 none 42 [l0, l1, l2, l3, l4, .int l5] [] h Q = zWp d zi_70 none 44 [l0, l1, l2, l3, l4, .int l5] [.int l5] h Q) ∧
    (∀ (d : Nat) (l0 : Value) (l1 : Value) (l2 : Value) (l3 : Value) (l4 : Value) (l5 : Value) (x0 : Int32) (h : zMm) (Q : Option Value → zMm → Prop), zWp d zi_70 none 44 [l0, l1, l2, l3, l4, l5] [.int x0] h Q = if 0 ≤ x0 then zWp d zi_70 none 51 [l0, l1, l2, l3, l4, l5] [] h Q else zWp d zi_70 none 47 [l0, l1, l2, l3, l4, l5] [] h Q) ∧
    (∀ (d : Nat) (l0 : Value) (l1 : Value) (l2 : Value) (l3 : Value) (l4 : Value) (l5 : Value)  (h : zMm) (Q : Option Value → zMm → Prop), zWp d zi_70 none 47 [l0, l1, l2, l3, l4, l5] [] h Q = zWp d zi_70 none 48 [l0, l1, l2, l3, l4, l5] [.int 3] h Q) ∧
    (∀ (d : Nat) (l0 : Value) (l1 : Value) (l2 : Value) (l3 : Value) (l4 : Value) (l5 : Value) (x0 : Int32) (h : zMm) (Q : Option Value → zMm → Prop), zWp d zi_70 none 48 [l0, l1, l2, l3, l4, l5] [.int x0] h Q = zWp d zi_70 none 52 [l0, l1, l2, l3, l4, l5] [.int x0] h Q) ∧
    (∀ (d : Nat) (l0 : Value) (l1 : Value) (l2 : Value) (l3 : Value) (l4 : Value) (l5 : Value)  (h : zMm) (Q : Option Value → zMm → Prop), zWp d zi_70 none 51 [l0, l1, l2, l3, l4, l5] [] h Q = zWp d zi_70 none 52 [l0, l1, l2, l3, l4, l5] [.int 1] h Q) ∧
    (∀ (d : Nat) (l0 : Value) (l1 : Value) (l2 : Value) (l3 : Value) (l4 : Value) (l5 : Value) (x0 : Int32) (h : zMm) (Q : Option Value → zMm → Prop), zWp d zi_70 none 52 [l0, l1, l2, l3, l4, l5] [.int x0] h Q = Q (some (.int x0)) h) :=
  ⟨(fun d l0 l1 l2 l3 l4 l5  h Q => zr_aload_n rfl rfl),
   (fun d l0 l1 l2 l3 l4 l5 x0 h Q => zr_iload_n rfl rfl),
   (fun d l0 l1 l2 l3 l4 l5 x1 x0 h Q => zr_iconst rfl (by decide)),
   (fun d l0 l1 l2 l3 l4 l5 x2 x1 x0 h Q => zr_iload_n rfl rfl),
   (fun d l0 l1 l2 l3 l4 l5 x3 x2 x1 x0 I L P Q p0 => zr_vir (as := [.int x3, .int x2, .int x1]) (rest := []) rfl lm_8_45 m_65 kd_65 rfl (Nat.le_of_ble_eq_true rfl) p0),
   (fun d l0 l1 l2 l3 l4 l5 x0 h Q => zr_istore (n := 4) rfl (Nat.le_of_ble_eq_true rfl) rfl),
   (fun d l0 l1 l2 l3 l4 l5  h Q => zr_aload_n rfl rfl),
   (fun d l0 l1 l2 l3 l4 l5 x0 h Q => zr_iload_n rfl rfl),
   (fun d l0 l1 l2 l3 l4 l5 x1 x0 h Q => zr_iconst rfl (by decide)),
   (fun d l0 l1 l2 l3 l4 l5 x2 x1 x0 h Q => zr_iload_n rfl rfl),
   (fun d l0 l1 l2 l3 l4 l5 x3 x2 x1 x0 I L P Q p0 => zr_vir (as := [.int x3, .int x2, .int x1]) (rest := []) rfl lm_8_45 m_65 kd_65 rfl (Nat.le_of_ble_eq_true rfl) p0),
   (fun d l0 l1 l2 l3 l4 l5 x0 h Q => zr_istore (n := 5) rfl (Nat.le_of_ble_eq_true rfl) rfl),
   (fun d l0 l1 l2 l3 l4 l5  h Q => zr_iload rfl rfl),
   (fun d l0 l1 l2 l3 l4 l5 x0 h Q => zr_abs rfl lm_8_49 (Nat.le_of_ble_eq_true rfl)),
   (fun d l0 l1 l2 l3 l4 l5 x0 h Q => zr_iload rfl rfl),
   (fun d l0 l1 l2 l3 l4 l5 x1 x0 h Q => zr_abs rfl lm_8_49 (Nat.le_of_ble_eq_true rfl)),
   (fun d l0 l1 l2 l3 l4 l5 x1 x0 h Q => zr_ic_lt rfl (by decide)),
   (fun d l0 l1 l2 l3 l4 l5  h Q => zr_iload rfl rfl),
   (fun d l0 l1 l2 l3 l4 l5 x0 h Q => zr_if_ge rfl (by decide)),
   (fun d l0 l1 l2 l3 l4 l5  h Q => zr_iconst rfl (by decide)),
   (fun d l0 l1 l2 l3 l4 l5 x0 h Q => zr_goto rfl (by decide)),
   (fun d l0 l1 l2 l3 l4 l5  h Q => zr_iconst rfl (by decide)),
   (fun d l0 l1 l2 l3 l4 l5 x0 h Q => zr_iret rfl rfl),
   (fun d l0 l1 l2 l3 l4 l5  h Q => zr_iload rfl rfl),
   (fun d l0 l1 l2 l3 l4 l5 x0 h Q => zr_if_ge rfl (by decide)),
   (fun d l0 l1 l2 l3 l4 l5  h Q => zr_iconst rfl (by decide)),
   (fun d l0 l1 l2 l3 l4 l5 x0 h Q => zr_goto rfl (by decide)),
   (fun d l0 l1 l2 l3 l4 l5  h Q => zr_iconst rfl (by decide)),
   (fun d l0 l1 l2 l3 l4 l5 x0 h Q => zr_iret rfl rfl)⟩
theorem E_X8_allPallets : ∀ (d : Nat) (a0 : Nat) (h : zMm) (Q : Option Value → zMm → Prop), zWM (d + 1) 71 [.ref a0] h Q = zWp d zi_71 none 0 [.ref a0, .retAddr 0, .retAddr 0] [] h Q := fun d a0 h Q => zW_M m_71 (Nat.le_of_ble_eq_true rfl) rfl
set_option maxRecDepth 100000 in
theorem R_X8_allPallets :
    (∀ (d : Nat) (l0 : Value) (l1 : Value) (l2 : Value)  (h : zMm) (Q : Option Value → zMm → Prop), zWp d zi_71 none 0 [l0, l1, l2] [] h Q = zWp d zi_71 none 1 [l0, l1, l2] [.int 0] h Q) ∧
    (∀ (d : Nat) (l0 : Nat) (l1 : Value) (l2 : Value) (x0 : Int32) (h : zMm) (Q : Option Value → zMm → Prop), zWp d zi_71 none 1 [.ref l0, l1, l2] [.int x0] h Q = zWp d zi_71 none 2 [.ref l0, .int x0, l2] [] h Q) ∧
    (∀ (d : Nat) (l0 : Value) (l1 : Value) (l2 : Value)  (h : zMm) (Q : Option Value → zMm → Prop), zWp d zi_71 none 2 [l0, l1, l2] [] h Q = zWp d zi_71 none 3 [l0, l1, l2] [.int 0] h Q) ∧
    (∀ (d : Nat) (l0 : Value) (l1 : Int32) (l2 : Value) (x0 : Int32) (h : zMm) (Q : Option Value → zMm → Prop), zWp d zi_71 none 3 [l0, .int l1, l2] [.int x0] h Q = zWp d zi_71 none 4 [l0, .int l1, .int x0] [] h Q) ∧
    (∀ (d : Nat) (l0 : Nat) (l1 : Value) (l2 : Value) (x0 : Int32) (h : zMm) (Q : Option Value → zMm → Prop), zWp d zi_71 none 5 [.ref l0, l1, l2] [.int x0] h Q = zWp d zi_71 none 6 [.ref l0, l1, l2] [.ref l0, .int x0] h Q) ∧
    (∀ (d : Nat) (l0 : Value) (l1 : Value) (l2 : Value) (x1 : Nat) (x0 : Int32) (I : Nat → Nat → Int32) (L : Nat → Nat → Int64) (P : Nat → Nat → Option Nat) (Q : Option Value → zMm → Prop), zSH[x1]? = some (.inl 8) → zWp d zi_71 none 6 [l0, l1, l2] [.ref x1, .int x0] (zSH, I, L, P) Q = zWp d zi_71 none 9 [l0, l1, l2] [.int (I x1 6), .int x0] (zSH, I, L, P) Q) ∧
    (∀ (d : Nat) (l0 : Value) (l1 : Value) (l2 : Value) (x1 : Int32) (x0 : Int32) (h : zMm) (Q : Option Value → zMm → Prop), zWp d zi_71 none 9 [l0, l1, l2] [.int x1, .int x0] h Q = if x1 ≤ x0 then zWp d zi_71 none 27 [l0, l1, l2] [] h Q else zWp d zi_71 none 12 [l0, l1, l2] [] h Q) ∧
    (∀ (d : Nat) (l0 : Value) (l1 : Int32) (l2 : Value)  (h : zMm) (Q : Option Value → zMm → Prop), zWp d zi_71 none 12 [l0, .int l1, l2] [] h Q = zWp d zi_71 none 13 [l0, .int l1, l2] [.int l1] h Q) ∧
    (∀ (d : Nat) (l0 : Nat) (l1 : Value) (l2 : Value) (x0 : Int32) (h : zMm) (Q : Option Value → zMm → Prop), zWp d zi_71 none 13 [.ref l0, l1, l2] [.int x0] h Q = zWp d zi_71 none 14 [.ref l0, l1, l2] [.ref l0, .int x0] h Q) ∧
    (∀ (d : Nat) (l0 : Value) (l1 : Value) (l2 : Value) (x1 : Nat) (x0 : Int32) (I : Nat → Nat → Int32) (L : Nat → Nat → Int64) (P : Nat → Nat → Option Nat) (Q : Option Value → zMm → Prop), zSH[x1]? = some (.inl 8) → zWp d zi_71 none 14 [l0, l1, l2] [.ref x1, .int x0] (zSH, I, L, P) Q = zWp d zi_71 none 17 [l0, l1, l2] [va_rf (P x1 0), .int x0] (zSH, I, L, P) Q) ∧
    (∀ (d : Nat) (l0 : Value) (l1 : Value) (l2 : Int32) (x1 : Nat) (x0 : Int32) (h : zMm) (Q : Option Value → zMm → Prop), zWp d zi_71 none 17 [l0, l1, .int l2] [.ref x1, .int x0] h Q = zWp d zi_71 none 18 [l0, l1, .int l2] [.int l2, .ref x1, .int x0] h Q) ∧
    (∀ (d : Nat) (l0 : Value) (l1 : Value) (l2 : Value) (x2 : Int32) (x1 : Nat) (x0 : Int32) (I : Nat → Nat → Int32) (L : Nat → Nat → Int64) (P : Nat → Nat → Option Nat) (Q : Option Value → zMm → Prop), zAk zSH x1 = some .int → zWp d zi_71 none 18 [l0, l1, l2] [.int x2, .ref x1, .int x0] (zSH, I, L, P) Q = (vp_in x2 (zAn zSH x1) ∧ zWp d zi_71 none 19 [l0, l1, l2] [.int (I x1 x2.toNatClampNeg), .int x0] (zSH, I, L, P) Q)) ∧
    (∀ (d : Nat) (l0 : Value) (l1 : Value) (l2 : Value) (x1 : Int32) (x0 : Int32) (h : zMm) (Q : Option Value → zMm → Prop), zWp d zi_71 none 19 [l0, l1, l2] [.int x1, .int x0] h Q = zWp d zi_71 none 20 [l0, l1, l2] [.int (x0 + x1)] h Q) ∧
    (∀ (d : Nat) (l0 : Nat) (l1 : Value) (l2 : Value) (x0 : Int32) (h : zMm) (Q : Option Value → zMm → Prop), zWp d zi_71 none 20 [.ref l0, l1, l2] [.int x0] h Q = zWp d zi_71 none 21 [.ref l0, .int x0, l2] [] h Q) ∧
    (∀ (d : Nat) (l0 : Value) (l1 : Int32) (l2 : Int32)  (h : zMm) (Q : Option Value → zMm → Prop), zWp d zi_71 none 21 [l0, .int l1, .int l2] [] h Q = zWp d zi_71 none 24 [l0, .int l1, .int (l2 + 1)] [] h Q) ∧
    (∀ (d : Nat) (l0 : Value) (l1 : Value) (l2 : Value)  (h : zMm) (Q : Option Value → zMm → Prop), zWp d zi_71 none 24 [l0, l1, l2] [] h Q = zWp d zi_71 none 4 [l0, l1, l2] [] h Q) ∧
    (∀ (d : Nat) (l0 : Value) (l1 : Int32) (l2 : Value)  (h : zMm) (Q : Option Value → zMm → Prop), zWp d zi_71 none 27 [l0, .int l1, l2] [] h Q = zWp d zi_71 none 28 [l0, .int l1, l2] [.int l1] h Q) ∧
    (∀ (d : Nat) (l0 : Value) (l1 : Value) (l2 : Value) (x0 : Int32) (h : zMm) (Q : Option Value → zMm → Prop), zWp d zi_71 none 28 [l0, l1, l2] [.int x0] h Q = Q (some (.int x0)) h) :=
  ⟨(fun d l0 l1 l2  h Q => zr_iconst rfl (by decide)),
   (fun d l0 l1 l2 x0 h Q => zr_istore_n (n := 1) rfl (Nat.le_of_ble_eq_true rfl) rfl),
   (fun d l0 l1 l2  h Q => zr_iconst rfl (by decide)),
   (fun d l0 l1 l2 x0 h Q => zr_istore_n (n := 2) rfl (Nat.le_of_ble_eq_true rfl) rfl),
   (fun d l0 l1 l2 x0 h Q => zr_aload_n rfl rfl),
   (fun d l0 l1 l2 x1 x0 I L P Q p0 => zr_getI rfl lf_8_32 (fun _ _ _ => rfl) p0),
   (fun d l0 l1 l2 x1 x0 h Q => zr_ic_ge rfl (by decide)),
   (fun d l0 l1 l2  h Q => zr_iload_n rfl rfl),
   (fun d l0 l1 l2 x0 h Q => zr_aload_n rfl rfl),
   (fun d l0 l1 l2 x1 x0 I L P Q p0 => zr_getQ rfl lf_8_11 (fun _ _ _ => rfl) p0),
   (fun d l0 l1 l2 x1 x0 h Q => zr_iload_n rfl rfl),
   (fun d l0 l1 l2 x2 x1 x0 I L P Q p0 => zr_ald rfl p0),
   (fun d l0 l1 l2 x1 x0 h Q => zr_iadd rfl),
   (fun d l0 l1 l2 x0 h Q => zr_istore_n (n := 1) rfl (Nat.le_of_ble_eq_true rfl) rfl),
   (fun d l0 l1 l2  h Q => zr_iinc (n := 2) (kc := 1) rfl rfl (Nat.le_of_ble_eq_true rfl) rfl (by decide)),
   (fun d l0 l1 l2  h Q => zr_goto rfl (by decide)),
   (fun d l0 l1 l2  h Q => zr_iload_n rfl rfl),
   (fun d l0 l1 l2 x0 h Q => zr_iret rfl rfl)⟩
theorem H_X8_allPallets_4 : ∀ (d : Nat) (l0 : Value) (l1 : Value) (l2 : Int32)  (h : zMm) (Q : Option Value → zMm → Prop), zWp d zi_71 none 4 [l0, l1, .int l2] [] h Q = zWp d zi_71 none 5 [l0, l1, .int l2] [.int l2] h Q := fun d l0 l1 l2  h Q => zr_iload_n rfl rfl
