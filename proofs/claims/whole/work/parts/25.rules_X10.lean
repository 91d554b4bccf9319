theorem E_X10_within : ∀ (d : Nat) (a0 : Int64) (a1 : Int64) (a2 : Int64) (h : zMm) (Q : Option Value → zMm → Prop), zWM (d + 1) 122 [.long a0, .long a1, .long a2] h Q = zWp d zi_122 none 0 [.long a0, .retAddr 0, .long a1, .retAddr 0, .long a2, .retAddr 0] [] h Q := fun d a0 a1 a2 h Q => zW_M m_122 (Nat.le_of_ble_eq_true rfl) rfl
set_option maxRecDepth 100000 in
theorem R_X10_within :
    (∀ (d : Nat) (l0 : Int64) (l1 : Value) (l2 : Value) (l3 : Value) (l4 : Value) (l5 : Value)  (h : zMm) (Q : Option Value → zMm → Prop), zWp d zi_122 none 0 [.long l0, l1, l2, l3, l4, l5] [] h Q = zWp d zi_122 none 1 [.long l0, l1, l2, l3, l4, l5] [.long l0] h Q) ∧
    (∀ (d : Nat) (l0 : Value) (l1 : Value) (l2 : Int64) (l3 : Value) (l4 : Value) (l5 : Value) (x0 : Int64) (h : zMm) (Q : Option Value → zMm → Prop), zWp d zi_122 none 1 [l0, l1, .long l2, l3, l4, l5] [.long x0] h Q = zWp d zi_122 none 2 [l0, l1, .long l2, l3, l4, l5] [.long l2, .long x0] h Q) ∧
    (∀ (d : Nat) (l0 : Value) (l1 : Value) (l2 : Value) (l3 : Value) (l4 : Value) (l5 : Value) (x1 : Int64) (x0 : Int64) (h : zMm) (Q : Option Value → zMm → Prop), zWp d zi_122 none 2 [l0, l1, l2, l3, l4, l5] [.long x1, .long x0] h Q = zWp d zi_122 none 3 [l0, l1, l2, l3, l4, l5] [.int (lg_cmp x0 x1)] h Q) ∧
    (∀ (d : Nat) (l0 : Value) (l1 : Value) (l2 : Value) (l3 : Value) (l4 : Value) (l5 : Value) (x0 : Int32) (h : zMm) (Q : Option Value → zMm → Prop), zWp d zi_122 none 3 [l0, l1, l2, l3, l4, l5] [.int x0] h Q = if x0 < 0 then zWp d zi_122 none 17 [l0, l1, l2, l3, l4, l5] [] h Q else zWp d zi_122 none 6 [l0, l1, l2, l3, l4, l5] [] h Q) ∧
    (∀ (d : Nat) (l0 : Int64) (l1 : Value) (l2 : Value) (l3 : Value) (l4 : Value) (l5 : Value)  (h : zMm) (Q : Option Value → zMm → Prop), zWp d zi_122 none 6 [.long l0, l1, l2, l3, l4, l5] [] h Q = zWp d zi_122 none 7 [.long l0, l1, l2, l3, l4, l5] [.long l0] h Q) ∧
    (∀ (d : Nat) (l0 : Value) (l1 : Value) (l2 : Value) (l3 : Value) (l4 : Int64) (l5 : Value) (x0 : Int64) (h : zMm) (Q : Option Value → zMm → Prop), zWp d zi_122 none 7 [l0, l1, l2, l3, .long l4, l5] [.long x0] h Q = zWp d zi_122 none 9 [l0, l1, l2, l3, .long l4, l5] [.long l4, .long x0] h Q) ∧
    (∀ (d : Nat) (l0 : Value) (l1 : Value) (l2 : Value) (l3 : Value) (l4 : Value) (l5 : Value) (x1 : Int64) (x0 : Int64) (h : zMm) (Q : Option Value → zMm → Prop), zWp d zi_122 none 9 [l0, l1, l2, l3, l4, l5] [.long x1, .long x0] h Q = zWp d zi_122 none 10 [l0, l1, l2, l3, l4, l5] [.int (lg_cmp x0 x1)] h Q) ∧
    (∀ (d : Nat) (l0 : Value) (l1 : Value) (l2 : Value) (l3 : Value) (l4 : Value) (l5 : Value) (x0 : Int32) (h : zMm) (Q : Option Value → zMm → Prop), zWp d zi_122 none 10 [l0, l1, l2, l3, l4, l5] [.int x0] h Q = if 0 < x0 then zWp d zi_122 none 17 [l0, l1, l2, l3, l4, l5] [] h Q else zWp d zi_122 none 13 [l0, l1, l2, l3, l4, l5] [] h Q) ∧
    (∀ (d : Nat) (l0 : Value) (l1 : Value) (l2 : Value) (l3 : Value) (l4 : Value) (l5 : Value)  (h : zMm) (Q : Option Value → zMm → Prop), zWp d zi_122 none 13 [l0, l1, l2, l3, l4, l5] [] h Q = zWp d zi_122 none 14 [l0, l1, l2, l3, l4, l5] [.int 1] h Q) ∧
    (∀ (d : Nat) (l0 : Value) (l1 : Value) (l2 : Value) (l3 : Value) (l4 : Value) (l5 : Value) (x0 : Int32) (h : zMm) (Q : Option Value → zMm → Prop), zWp d zi_122 none 14 [l0, l1, l2, l3, l4, l5] [.int x0] h Q = zWp d zi_122 none 18 [l0, l1, l2, l3, l4, l5] [.int x0] h Q) ∧
    (∀ (d : Nat) (l0 : Value) (l1 : Value) (l2 : Value) (l3 : Value) (l4 : Value) (l5 : Value)  (h : zMm) (Q : Option Value → zMm → Prop), zWp d zi_122 none 17 [l0, l1, l2, l3, l4, l5] [] h Q = zWp d zi_122 none 18 [l0, l1, l2, l3, l4, l5] [.int 0] h Q) ∧
    (∀ (d : Nat) (l0 : Value) (l1 : Value) (l2 : Value) (l3 : Value) (l4 : Value) (l5 : Value) (x0 : Int32) (h : zMm) (Q : Option Value → zMm → Prop), x0 = 0 ∨ x0 = 1 → zWp d zi_122 none 18 [l0, l1, l2, l3, l4, l5] [.int x0] h Q = Q (some (.int x0)) h) :=
  ⟨(fun d l0 l1 l2 l3 l4 l5  h Q => zr_lload_n rfl rfl),
   (fun d l0 l1 l2 l3 l4 l5 x0 h Q => zr_lload_n rfl rfl),
   (fun d l0 l1 l2 l3 l4 l5 x1 x0 h Q => zr_lcmp rfl),
   (fun d l0 l1 l2 l3 l4 l5 x0 h Q => zr_if_lt rfl (by decide)),
   (fun d l0 l1 l2 l3 l4 l5  h Q => zr_lload_n rfl rfl),
   (fun d l0 l1 l2 l3 l4 l5 x0 h Q => zr_lload rfl rfl),
   (fun d l0 l1 l2 l3 l4 l5 x1 x0 h Q => zr_lcmp rfl),
   (fun d l0 l1 l2 l3 l4 l5 x0 h Q => zr_if_gt rfl (by decide)),
   (fun d l0 l1 l2 l3 l4 l5  h Q => zr_iconst rfl (by decide)),
   (fun d l0 l1 l2 l3 l4 l5 x0 h Q => zr_goto rfl (by decide)),
   (fun d l0 l1 l2 l3 l4 l5  h Q => zr_iconst rfl (by decide)),
   (fun d l0 l1 l2 l3 l4 l5 x0 h Q p0 => zr_zret rfl rfl p0)⟩
theorem E_X10_sizeOf : ∀ (d : Nat) (a0 : Int32) (h : zMm) (Q : Option Value → zMm → Prop), zWM (d + 1) 123 [.int a0] h Q = zWp d zi_123 none 0 [.int a0] [] h Q := fun d a0 h Q => zW_M m_123 (Nat.le_of_ble_eq_true rfl) rfl
set_option maxRecDepth 100000 in
theorem R_X10_sizeOf :
    (∀ (d : Nat) (l0 : Int32)  (h : zMm) (Q : Option Value → zMm → Prop), zWp d zi_123 none 0 [.int l0] [] h Q = zWp d zi_123 none 1 [.int l0] [.int l0] h Q) ∧
    (∀ (d : Nat) (l0 : Value) (x0 : Int32) (h : zMm) (Q : Option Value → zMm → Prop), zWp d zi_123 none 1 [l0] [.int x0] h Q = if 0 ≤ x0 then zWp d zi_123 none 9 [l0] [] h Q else zWp d zi_123 none 4 [l0] [] h Q) ∧
    (∀ (d : Nat) (l0 : Int32)  (h : zMm) (Q : Option Value → zMm → Prop), zWp d zi_123 none 4 [.int l0] [] h Q = zWp d zi_123 none 5 [.int l0] [.int l0] h Q) ∧
    (∀ (d : Nat) (l0 : Value) (x0 : Int32) (h : zMm) (Q : Option Value → zMm → Prop), zWp d zi_123 none 5 [l0] [.int x0] h Q = zWp d zi_123 none 6 [l0] [.int (-x0)] h Q) ∧
    (∀ (d : Nat) (l0 : Value) (x0 : Int32) (h : zMm) (Q : Option Value → zMm → Prop), zWp d zi_123 none 6 [l0] [.int x0] h Q = zWp d zi_123 none 10 [l0] [.int x0] h Q) ∧
    (∀ (d : Nat) (l0 : Int32)  (h : zMm) (Q : Option Value → zMm → Prop), zWp d zi_123 none 9 [.int l0] [] h Q = zWp d zi_123 none 10 [.int l0] [.int l0] h Q) ∧
    (∀ (d : Nat) (l0 : Value) (x0 : Int32) (h : zMm) (Q : Option Value → zMm → Prop), zWp d zi_123 none 10 [l0] [.int x0] h Q = Q (some (.int x0)) h) :=
  ⟨(fun d l0  h Q => zr_iload_n rfl rfl),
   (fun d l0 x0 h Q => zr_if_ge rfl (by decide)),
   (fun d l0  h Q => zr_iload_n rfl rfl),
   (fun d l0 x0 h Q => zr_ineg rfl),
   (fun d l0 x0 h Q => zr_goto rfl (by decide)),
   (fun d l0  h Q => zr_iload_n rfl rfl),
   (fun d l0 x0 h Q => zr_iret rfl rfl)⟩
theorem E_X10_becomes : ∀ (d : Nat) (a0 : Nat) (a1 : Int32) (a2 : Int32) (h : zMm) (Q : Option Value → zMm → Prop), zWM (d + 1) 125 [.ref a0, .int a1, .int a2] h Q = zWp d zi_125 none 0 [.ref a0, .int a1, .int a2, .retAddr 0, .retAddr 0] [] h Q := fun d a0 a1 a2 h Q => zW_M m_125 (Nat.le_of_ble_eq_true rfl) rfl
set_option maxRecDepth 100000 in
theorem R_X10_becomes :
    (∀ (d : Nat) (l0 : Nat) (l1 : Value) (l2 : Value) (l3 : Value) (l4 : Value)  (h : zMm) (Q : Option Value → zMm → Prop), zWp d zi_125 none 0 [.ref l0, l1, l2, l3, l4] [] h Q = zWp d zi_125 none 1 [.ref l0, l1, l2, l3, l4] [.ref l0] h Q) ∧
    (∀ (d : Nat) (l0 : Value) (l1 : Value) (l2 : Value) (l3 : Value) (l4 : Value) (x0 : Nat) (I : Nat → Nat → Int32) (L : Nat → Nat → Int64) (P : Nat → Nat → Option Nat) (Q : Option Value → zMm → Prop), zSH[x0]? = some (.inl 10) → zWp d zi_125 none 1 [l0, l1, l2, l3, l4] [.ref x0] (zSH, I, L, P) Q = zWp d zi_125 none 4 [l0, l1, l2, l3, l4] [va_rf (P x0 0)] (zSH, I, L, P) Q) ∧
    (∀ (d : Nat) (l0 : Value) (l1 : Int32) (l2 : Value) (l3 : Value) (l4 : Value) (x0 : Nat) (h : zMm) (Q : Option Value → zMm → Prop), zWp d zi_125 none 4 [l0, .int l1, l2, l3, l4] [.ref x0] h Q = zWp d zi_125 none 5 [l0, .int l1, l2, l3, l4] [.int l1, .ref x0] h Q) ∧
    (∀ (d : Nat) (l0 : Value) (l1 : Value) (l2 : Value) (l3 : Value) (l4 : Value) (x1 : Int32) (x0 : Nat) (I : Nat → Nat → Int32) (L : Nat → Nat → Int64) (P : Nat → Nat → Option Nat) (Q : Option Value → zMm → Prop), zAk zSH x0 = some .int → zWp d zi_125 none 5 [l0, l1, l2, l3, l4] [.int x1, .ref x0] (zSH, I, L, P) Q = (vp_in x1 (zAn zSH x0) ∧ zWp d zi_125 none 6 [l0, l1, l2, l3, l4] [.int (I x0 x1.toNatClampNeg)] (zSH, I, L, P) Q)) ∧
    (∀ (d : Nat) (l0 : Value) (l1 : Value) (l2 : Int32) (l3 : Value) (l4 : Value) (x0 : Int32) (h : zMm) (Q : Option Value → zMm → Prop), zWp d zi_125 none 6 [l0, l1, .int l2, l3, l4] [.int x0] h Q = zWp d zi_125 none 7 [l0, l1, .int l2, .int x0, l4] [] h Q) ∧
    (∀ (d : Nat) (l0 : Value) (l1 : Value) (l2 : Value) (l3 : Int32) (l4 : Value)  (h : zMm) (Q : Option Value → zMm → Prop), zWp d zi_125 none 7 [l0, l1, l2, .int l3, l4] [] h Q = zWp d zi_125 none 8 [l0, l1, l2, .int l3, l4] [.int l3] h Q) ∧
    (∀ (d : Nat) (l0 : Value) (l1 : Value) (l2 : Int32) (l3 : Value) (l4 : Value) (x0 : Int32) (h : zMm) (Q : Option Value → zMm → Prop), zWp d zi_125 none 8 [l0, l1, .int l2, l3, l4] [.int x0] h Q = zWp d zi_125 none 9 [l0, l1, .int l2, l3, l4] [.int l2, .int x0] h Q) ∧
    (∀ (d : Nat) (l0 : Value) (l1 : Value) (l2 : Value) (l3 : Value) (l4 : Value) (x1 : Int32) (x0 : Int32) (h : zMm) (Q : Option Value → zMm → Prop), zWp d zi_125 none 9 [l0, l1, l2, l3, l4] [.int x1, .int x0] h Q = if x0 = x1 then zWp d zi_125 none 12 [l0, l1, l2, l3, l4] [] h Q else zWp d zi_125 none 14 [l0, l1, l2, l3, l4] [] h Q) ∧
    (∀ (d : Nat) (l0 : Value) (l1 : Value) (l2 : Value) (l3 : Int32) (l4 : Value)  (h : zMm) (Q : Option Value → zMm → Prop), zWp d zi_125 none 12 [l0, l1, l2, .int l3, l4] [] h Q = zWp d zi_125 none 13 [l0, l1, l2, .int l3, l4] [.int l3] h Q) ∧
    (∀ (d : Nat) (l0 : Value) (l1 : Value) (l2 : Value) (l3 : Value) (l4 : Value) (x0 : Int32) (h : zMm) (Q : Option Value → zMm → Prop), zWp d zi_125 none 13 [l0, l1, l2, l3, l4] [.int x0] h Q = Q (some (.int x0)) h) ∧
    (∀ (d : Nat) (l0 : Nat) (l1 : Value) (l2 : Value) (l3 : Value) (l4 : Value)  (h : zMm) (Q : Option Value → zMm → Prop), zWp d zi_125 none 14 [.ref l0, l1, l2, l3, l4] [] h Q = zWp d zi_125 none 15 [.ref l0, l1, l2, l3, l4] [.ref l0] h Q) ∧
    (∀ (d : Nat) (l0 : Value) (l1 : Value) (l2 : Value) (l3 : Value) (l4 : Value) (x0 : Nat) (I : Nat → Nat → Int32) (L : Nat → Nat → Int64) (P : Nat → Nat → Option Nat) (Q : Option Value → zMm → Prop), zSH[x0]? = some (.inl 10) → zWp d zi_125 none 15 [l0, l1, l2, l3, l4] [.ref x0] (zSH, I, L, P) Q = zWp d zi_125 none 18 [l0, l1, l2, l3, l4] [.int (I x0 5)] (zSH, I, L, P) Q) ∧
    (∀ (d : Nat) (l0 : Value) (l1 : Value) (l2 : Value) (l3 : Value) (l4 : Value) (x0 : Int32) (h : zMm) (Q : Option Value → zMm → Prop), zWp d zi_125 none 18 [l0, l1, l2, l3, l4] [.int x0] h Q = zWp d zi_125 none 20 [l0, l1, l2, l3, l4] [.int 40, .int x0] h Q) ∧
    (∀ (d : Nat) (l0 : Value) (l1 : Value) (l2 : Value) (l3 : Value) (l4 : Value) (x1 : Int32) (x0 : Int32) (h : zMm) (Q : Option Value → zMm → Prop), zWp d zi_125 none 20 [l0, l1, l2, l3, l4] [.int x1, .int x0] h Q = if x0 = x1 then zWp d zi_125 none 23 [l0, l1, l2, l3, l4] [] h Q else zWp d zi_125 none 97 [l0, l1, l2, l3, l4] [] h Q) ∧
    (∀ (d : Nat) (l0 : Value) (l1 : Value) (l2 : Value) (l3 : Value) (l4 : Value)  (h : zMm) (Q : Option Value → zMm → Prop), zWp d zi_125 none 23 [l0, l1, l2, l3, l4] [] h Q = zWp d zi_125 none 24 [l0, l1, l2, l3, l4] [.int 1] h Q) ∧
    (∀ (d : Nat) (l0 : Value) (l1 : Value) (l2 : Value) (l3 : Int32) (l4 : Value) (x0 : Int32) (h : zMm) (Q : Option Value → zMm → Prop), zWp d zi_125 none 24 [l0, l1, l2, .int l3, l4] [.int x0] h Q = zWp d zi_125 none 26 [l0, l1, l2, .int l3, .int x0] [] h Q) ∧
    (∀ (d : Nat) (l0 : Value) (l1 : Value) (l2 : Value) (l3 : Value) (l4 : Value) (x0 : Int32) (h : zMm) (Q : Option Value → zMm → Prop), zWp d zi_125 none 28 [l0, l1, l2, l3, l4] [.int x0] h Q = zWp d zi_125 none 30 [l0, l1, l2, l3, l4] [.int 40, .int x0] h Q) ∧
    (∀ (d : Nat) (l0 : Value) (l1 : Value) (l2 : Value) (l3 : Value) (l4 : Value) (x1 : Int32) (x0 : Int32) (h : zMm) (Q : Option Value → zMm → Prop), zWp d zi_125 none 30 [l0, l1, l2, l3, l4] [.int x1, .int x0] h Q = if x1 ≤ x0 then zWp d zi_125 none 87 [l0, l1, l2, l3, l4] [] h Q else zWp d zi_125 none 33 [l0, l1, l2, l3, l4] [] h Q) ∧
    (∀ (d : Nat) (l0 : Nat) (l1 : Value) (l2 : Value) (l3 : Value) (l4 : Value)  (h : zMm) (Q : Option Value → zMm → Prop), zWp d zi_125 none 33 [.ref l0, l1, l2, l3, l4] [] h Q = zWp d zi_125 none 34 [.ref l0, l1, l2, l3, l4] [.ref l0] h Q) ∧
    (∀ (d : Nat) (l0 : Value) (l1 : Value) (l2 : Value) (l3 : Value) (l4 : Value) (x0 : Nat) (I : Nat → Nat → Int32) (L : Nat → Nat → Int64) (P : Nat → Nat → Option Nat) (Q : Option Value → zMm → Prop), zSH[x0]? = some (.inl 10) → zWp d zi_125 none 34 [l0, l1, l2, l3, l4] [.ref x0] (zSH, I, L, P) Q = zWp d zi_125 none 37 [l0, l1, l2, l3, l4] [va_rf (P x0 1)] (zSH, I, L, P) Q) ∧
    (∀ (d : Nat) (l0 : Value) (l1 : Value) (l2 : Value) (l3 : Value) (l4 : Int32) (x0 : Nat) (h : zMm) (Q : Option Value → zMm → Prop), zWp d zi_125 none 37 [l0, l1, l2, l3, .int l4] [.ref x0] h Q = zWp d zi_125 none 39 [l0, l1, l2, l3, .int l4] [.int l4, .ref x0] h Q) ∧
    (∀ (d : Nat) (l0 : Value) (l1 : Value) (l2 : Value) (l3 : Value) (l4 : Value) (x1 : Int32) (x0 : Nat) (h : zMm) (Q : Option Value → zMm → Prop), zWp d zi_125 none 39 [l0, l1, l2, l3, l4] [.int x1, .ref x0] h Q = zWp d zi_125 none 40 [l0, l1, l2, l3, l4] [.int 1, .int x1, .ref x0] h Q) ∧
    (∀ (d : Nat) (l0 : Value) (l1 : Value) (l2 : Value) (l3 : Value) (l4 : Value) (x2 : Int32) (x1 : Int32) (x0 : Nat) (h : zMm) (Q : Option Value → zMm → Prop), zWp d zi_125 none 40 [l0, l1, l2, l3, l4] [.int x2, .int x1, .ref x0] h Q = zWp d zi_125 none 41 [l0, l1, l2, l3, l4] [.int (x1 - x2), .ref x0] h Q) ∧
    (∀ (d : Nat) (l0 : Nat) (l1 : Value) (l2 : Value) (l3 : Value) (l4 : Value) (x1 : Int32) (x0 : Nat) (h : zMm) (Q : Option Value → zMm → Prop), zWp d zi_125 none 41 [.ref l0, l1, l2, l3, l4] [.int x1, .ref x0] h Q = zWp d zi_125 none 42 [.ref l0, l1, l2, l3, l4] [.ref l0, .int x1, .ref x0] h Q) ∧
    (∀ (d : Nat) (l0 : Value) (l1 : Value) (l2 : Value) (l3 : Value) (l4 : Value) (x2 : Nat) (x1 : Int32) (x0 : Nat) (I : Nat → Nat → Int32) (L : Nat → Nat → Int64) (P : Nat → Nat → Option Nat) (Q : Option Value → zMm → Prop), zSH[x2]? = some (.inl 10) → zWp d zi_125 none 42 [l0, l1, l2, l3, l4] [.ref x2, .int x1, .ref x0] (zSH, I, L, P) Q = zWp d zi_125 none 45 [l0, l1, l2, l3, l4] [va_rf (P x2 1), .int x1, .ref x0] (zSH, I, L, P) Q) ∧
    (∀ (d : Nat) (l0 : Value) (l1 : Value) (l2 : Value) (l3 : Value) (l4 : Int32) (x2 : Nat) (x1 : Int32) (x0 : Nat) (h : zMm) (Q : Option Value → zMm → Prop), zWp d zi_125 none 45 [l0, l1, l2, l3, .int l4] [.ref x2, .int x1, .ref x0] h Q = zWp d zi_125 none 47 [l0, l1, l2, l3, .int l4] [.int l4, .ref x2, .int x1, .ref x0] h Q) ∧
    (∀ (d : Nat) (l0 : Value) (l1 : Value) (l2 : Value) (l3 : Value) (l4 : Value) (x3 : Int32) (x2 : Nat) (x1 : Int32) (x0 : Nat) (I : Nat → Nat → Int32) (L : Nat → Nat → Int64) (P : Nat → Nat → Option Nat) (Q : Option Value → zMm → Prop), zAk zSH x2 = some .int → zWp d zi_125 none 47 [l0, l1, l2, l3, l4] [.int x3, .ref x2, .int x1, .ref x0] (zSH, I, L, P) Q = (vp_in x3 (zAn zSH x2) ∧ zWp d zi_125 none 48 [l0, l1, l2, l3, l4] [.int (I x2 x3.toNatClampNeg), .int x1, .ref x0] (zSH, I, L, P) Q)) ∧
    (∀ (d : Nat) (l0 : Value) (l1 : Value) (l2 : Value) (l3 : Value) (l4 : Value) (x2 : Int32) (x1 : Int32) (x0 : Nat) (I : Nat → Nat → Int32) (L : Nat → Nat → Int64) (P : Nat → Nat → Option Nat) (Q : Option Value → zMm → Prop), zAk zSH x0 = some .int → zWp d zi_125 none 48 [l0, l1, l2, l3, l4] [.int x2, .int x1, .ref x0] (zSH, I, L, P) Q = (vp_in x1 (zAn zSH x0) ∧ zWp d zi_125 none 49 [l0, l1, l2, l3, l4] [] (zSH, zw I x0 (upd (I x0) x1.toNatClampNeg x2), L, P) Q)) ∧
    (∀ (d : Nat) (l0 : Nat) (l1 : Value) (l2 : Value) (l3 : Value) (l4 : Value)  (h : zMm) (Q : Option Value → zMm → Prop), zWp d zi_125 none 49 [.ref l0, l1, l2, l3, l4] [] h Q = zWp d zi_125 none 50 [.ref l0, l1, l2, l3, l4] [.ref l0] h Q) ∧
    (∀ (d : Nat) (l0 : Value) (l1 : Value) (l2 : Value) (l3 : Value) (l4 : Value) (x0 : Nat) (I : Nat → Nat → Int32) (L : Nat → Nat → Int64) (P : Nat → Nat → Option Nat) (Q : Option Value → zMm → Prop), zSH[x0]? = some (.inl 10) → zWp d zi_125 none 50 [l0, l1, l2, l3, l4] [.ref x0] (zSH, I, L, P) Q = zWp d zi_125 none 53 [l0, l1, l2, l3, l4] [va_rf (P x0 2)] (zSH, I, L, P) Q) ∧
    (∀ (d : Nat) (l0 : Value) (l1 : Value) (l2 : Value) (l3 : Value) (l4 : Int32) (x0 : Nat) (h : zMm) (Q : Option Value → zMm → Prop), zWp d zi_125 none 53 [l0, l1, l2, l3, .int l4] [.ref x0] h Q = zWp d zi_125 none 55 [l0, l1, l2, l3, .int l4] [.int l4, .ref x0] h Q) ∧
    (∀ (d : Nat) (l0 : Value) (l1 : Value) (l2 : Value) (l3 : Value) (l4 : Value) (x1 : Int32) (x0 : Nat) (h : zMm) (Q : Option Value → zMm → Prop), zWp d zi_125 none 55 [l0, l1, l2, l3, l4] [.int x1, .ref x0] h Q = zWp d zi_125 none 56 [l0, l1, l2, l3, l4] [.int 1, .int x1, .ref x0] h Q) ∧
    (∀ (d : Nat) (l0 : Value) (l1 : Value) (l2 : Value) (l3 : Value) (l4 : Value) (x2 : Int32) (x1 : Int32) (x0 : Nat) (h : zMm) (Q : Option Value → zMm → Prop), zWp d zi_125 none 56 [l0, l1, l2, l3, l4] [.int x2, .int x1, .ref x0] h Q = zWp d zi_125 none 57 [l0, l1, l2, l3, l4] [.int (x1 - x2), .ref x0] h Q) ∧
    (∀ (d : Nat) (l0 : Nat) (l1 : Value) (l2 : Value) (l3 : Value) (l4 : Value) (x1 : Int32) (x0 : Nat) (h : zMm) (Q : Option Value → zMm → Prop), zWp d zi_125 none 57 [.ref l0, l1, l2, l3, l4] [.int x1, .ref x0] h Q = zWp d zi_125 none 58 [.ref l0, l1, l2, l3, l4] [.ref l0, .int x1, .ref x0] h Q) ∧
    (∀ (d : Nat) (l0 : Value) (l1 : Value) (l2 : Value) (l3 : Value) (l4 : Value) (x2 : Nat) (x1 : Int32) (x0 : Nat) (I : Nat → Nat → Int32) (L : Nat → Nat → Int64) (P : Nat → Nat → Option Nat) (Q : Option Value → zMm → Prop), zSH[x2]? = some (.inl 10) → zWp d zi_125 none 58 [l0, l1, l2, l3, l4] [.ref x2, .int x1, .ref x0] (zSH, I, L, P) Q = zWp d zi_125 none 61 [l0, l1, l2, l3, l4] [va_rf (P x2 2), .int x1, .ref x0] (zSH, I, L, P) Q) ∧
    (∀ (d : Nat) (l0 : Value) (l1 : Value) (l2 : Value) (l3 : Value) (l4 : Int32) (x2 : Nat) (x1 : Int32) (x0 : Nat) (h : zMm) (Q : Option Value → zMm → Prop), zWp d zi_125 none 61 [l0, l1, l2, l3, .int l4] [.ref x2, .int x1, .ref x0] h Q = zWp d zi_125 none 63 [l0, l1, l2, l3, .int l4] [.int l4, .ref x2, .int x1, .ref x0] h Q) ∧
    (∀ (d : Nat) (l0 : Value) (l1 : Value) (l2 : Value) (l3 : Value) (l4 : Value) (x3 : Int32) (x2 : Nat) (x1 : Int32) (x0 : Nat) (I : Nat → Nat → Int32) (L : Nat → Nat → Int64) (P : Nat → Nat → Option Nat) (Q : Option Value → zMm → Prop), zAk zSH x2 = some .int → zWp d zi_125 none 63 [l0, l1, l2, l3, l4] [.int x3, .ref x2, .int x1, .ref x0] (zSH, I, L, P) Q = (vp_in x3 (zAn zSH x2) ∧ zWp d zi_125 none 64 [l0, l1, l2, l3, l4] [.int (I x2 x3.toNatClampNeg), .int x1, .ref x0] (zSH, I, L, P) Q)) ∧
    (∀ (d : Nat) (l0 : Value) (l1 : Value) (l2 : Value) (l3 : Value) (l4 : Value) (x2 : Int32) (x1 : Int32) (x0 : Nat) (I : Nat → Nat → Int32) (L : Nat → Nat → Int64) (P : Nat → Nat → Option Nat) (Q : Option Value → zMm → Prop), zAk zSH x0 = some .int → zWp d zi_125 none 64 [l0, l1, l2, l3, l4] [.int x2, .int x1, .ref x0] (zSH, I, L, P) Q = (vp_in x1 (zAn zSH x0) ∧ zWp d zi_125 none 65 [l0, l1, l2, l3, l4] [] (zSH, zw I x0 (upd (I x0) x1.toNatClampNeg x2), L, P) Q)) ∧
    (∀ (d : Nat) (l0 : Nat) (l1 : Value) (l2 : Value) (l3 : Value) (l4 : Value)  (h : zMm) (Q : Option Value → zMm → Prop), zWp d zi_125 none 65 [.ref l0, l1, l2, l3, l4] [] h Q = zWp d zi_125 none 66 [.ref l0, l1, l2, l3, l4] [.ref l0] h Q) ∧
    (∀ (d : Nat) (l0 : Value) (l1 : Value) (l2 : Value) (l3 : Value) (l4 : Value) (x0 : Nat) (I : Nat → Nat → Int32) (L : Nat → Nat → Int64) (P : Nat → Nat → Option Nat) (Q : Option Value → zMm → Prop), zSH[x0]? = some (.inl 10) → zWp d zi_125 none 66 [l0, l1, l2, l3, l4] [.ref x0] (zSH, I, L, P) Q = zWp d zi_125 none 69 [l0, l1, l2, l3, l4] [va_rf (P x0 3)] (zSH, I, L, P) Q) ∧
    (∀ (d : Nat) (l0 : Value) (l1 : Value) (l2 : Value) (l3 : Value) (l4 : Int32) (x0 : Nat) (h : zMm) (Q : Option Value → zMm → Prop), zWp d zi_125 none 69 [l0, l1, l2, l3, .int l4] [.ref x0] h Q = zWp d zi_125 none 71 [l0, l1, l2, l3, .int l4] [.int l4, .ref x0] h Q) ∧
    (∀ (d : Nat) (l0 : Value) (l1 : Value) (l2 : Value) (l3 : Value) (l4 : Value) (x1 : Int32) (x0 : Nat) (h : zMm) (Q : Option Value → zMm → Prop), zWp d zi_125 none 71 [l0, l1, l2, l3, l4] [.int x1, .ref x0] h Q = zWp d zi_125 none 72 [l0, l1, l2, l3, l4] [.int 1, .int x1, .ref x0] h Q) ∧
    (∀ (d : Nat) (l0 : Value) (l1 : Value) (l2 : Value) (l3 : Value) (l4 : Value) (x2 : Int32) (x1 : Int32) (x0 : Nat) (h : zMm) (Q : Option Value → zMm → Prop), zWp d zi_125 none 72 [l0, l1, l2, l3, l4] [.int x2, .int x1, .ref x0] h Q = zWp d zi_125 none 73 [l0, l1, l2, l3, l4] [.int (x1 - x2), .ref x0] h Q) ∧
    (∀ (d : Nat) (l0 : Nat) (l1 : Value) (l2 : Value) (l3 : Value) (l4 : Value) (x1 : Int32) (x0 : Nat) (h : zMm) (Q : Option Value → zMm → Prop), zWp d zi_125 none 73 [.ref l0, l1, l2, l3, l4] [.int x1, .ref x0] h Q = zWp d zi_125 none 74 [.ref l0, l1, l2, l3, l4] [.ref l0, .int x1, .ref x0] h Q) ∧
    (∀ (d : Nat) (l0 : Value) (l1 : Value) (l2 : Value) (l3 : Value) (l4 : Value) (x2 : Nat) (x1 : Int32) (x0 : Nat) (I : Nat → Nat → Int32) (L : Nat → Nat → Int64) (P : Nat → Nat → Option Nat) (Q : Option Value → zMm → Prop), zSH[x2]? = some (.inl 10) → zWp d zi_125 none 74 [l0, l1, l2, l3, l4] [.ref x2, .int x1, .ref x0] (zSH, I, L, P) Q = zWp d zi_125 none 77 [l0, l1, l2, l3, l4] [va_rf (P x2 3), .int x1, .ref x0] (zSH, I, L, P) Q) ∧
    (∀ (d : Nat) (l0 : Value) (l1 : Value) (l2 : Value) (l3 : Value) (l4 : Int32) (x2 : Nat) (x1 : Int32) (x0 : Nat) (h : zMm) (Q : Option Value → zMm → Prop), zWp d zi_125 none 77 [l0, l1, l2, l3, .int l4] [.ref x2, .int x1, .ref x0] h Q = zWp d zi_125 none 79 [l0, l1, l2, l3, .int l4] [.int l4, .ref x2, .int x1, .ref x0] h Q) ∧
    (∀ (d : Nat) (l0 : Value) (l1 : Value) (l2 : Value) (l3 : Value) (l4 : Value) (x3 : Int32) (x2 : Nat) (x1 : Int32) (x0 : Nat) (I : Nat → Nat → Int32) (L : Nat → Nat → Int64) (P : Nat → Nat → Option Nat) (Q : Option Value → zMm → Prop), zAk zSH x2 = some .int → zWp d zi_125 none 79 [l0, l1, l2, l3, l4] [.int x3, .ref x2, .int x1, .ref x0] (zSH, I, L, P) Q = (vp_in x3 (zAn zSH x2) ∧ zWp d zi_125 none 80 [l0, l1, l2, l3, l4] [.int (I x2 x3.toNatClampNeg), .int x1, .ref x0] (zSH, I, L, P) Q)) ∧
    (∀ (d : Nat) (l0 : Value) (l1 : Value) (l2 : Value) (l3 : Value) (l4 : Value) (x2 : Int32) (x1 : Int32) (x0 : Nat) (I : Nat → Nat → Int32) (L : Nat → Nat → Int64) (P : Nat → Nat → Option Nat) (Q : Option Value → zMm → Prop), zAk zSH x0 = some .int → zWp d zi_125 none 80 [l0, l1, l2, l3, l4] [.int x2, .int x1, .ref x0] (zSH, I, L, P) Q = (vp_in x1 (zAn zSH x0) ∧ zWp d zi_125 none 81 [l0, l1, l2, l3, l4] [] (zSH, zw I x0 (upd (I x0) x1.toNatClampNeg x2), L, P) Q)) ∧
    (∀ (d : Nat) (l0 : Value) (l1 : Value) (l2 : Value) (l3 : Int32) (l4 : Int32)  (h : zMm) (Q : Option Value → zMm → Prop), zWp d zi_125 none 81 [l0, l1, l2, .int l3, .int l4] [] h Q = zWp d zi_125 none 84 [l0, l1, l2, .int l3, .int (l4 + 1)] [] h Q) ∧
    (∀ (d : Nat) (l0 : Value) (l1 : Value) (l2 : Value) (l3 : Value) (l4 : Value)  (h : zMm) (Q : Option Value → zMm → Prop), zWp d zi_125 none 84 [l0, l1, l2, l3, l4] [] h Q = zWp d zi_125 none 26 [l0, l1, l2, l3, l4] [] h Q) ∧
    (∀ (d : Nat) (l0 : Nat) (l1 : Value) (l2 : Value) (l3 : Value) (l4 : Value)  (h : zMm) (Q : Option Value → zMm → Prop), zWp d zi_125 none 87 [.ref l0, l1, l2, l3, l4] [] h Q = zWp d zi_125 none 88 [.ref l0, l1, l2, l3, l4] [.ref l0] h Q) ∧
    (∀ (d : Nat) (l0 : Value) (l1 : Value) (l2 : Value) (l3 : Value) (l4 : Value) (x0 : Nat) (h : zMm) (Q : Option Value → zMm → Prop), zWp d zi_125 none 88 [l0, l1, l2, l3, l4] [.ref x0] h Q = zWp d zi_125 none 89 [l0, l1, l2, l3, l4] [.ref x0, .ref x0] h Q) ∧
    (∀ (d : Nat) (l0 : Value) (l1 : Value) (l2 : Value) (l3 : Value) (l4 : Value) (x1 : Nat) (x0 : Nat) (I : Nat → Nat → Int32) (L : Nat → Nat → Int64) (P : Nat → Nat → Option Nat) (Q : Option Value → zMm → Prop), zSH[x1]? = some (.inl 10) → zWp d zi_125 none 89 [l0, l1, l2, l3, l4] [.ref x1, .ref x0] (zSH, I, L, P) Q = zWp d zi_125 none 92 [l0, l1, l2, l3, l4] [.int (I x1 5), .ref x0] (zSH, I, L, P) Q) ∧
    (∀ (d : Nat) (l0 : Value) (l1 : Value) (l2 : Value) (l3 : Value) (l4 : Value) (x1 : Int32) (x0 : Nat) (h : zMm) (Q : Option Value → zMm → Prop), zWp d zi_125 none 92 [l0, l1, l2, l3, l4] [.int x1, .ref x0] h Q = zWp d zi_125 none 93 [l0, l1, l2, l3, l4] [.int 1, .int x1, .ref x0] h Q) ∧
    (∀ (d : Nat) (l0 : Value) (l1 : Value) (l2 : Value) (l3 : Value) (l4 : Value) (x2 : Int32) (x1 : Int32) (x0 : Nat) (h : zMm) (Q : Option Value → zMm → Prop), zWp d zi_125 none 93 [l0, l1, l2, l3, l4] [.int x2, .int x1, .ref x0] h Q = zWp d zi_125 none 94 [l0, l1, l2, l3, l4] [.int (x1 - x2), .ref x0] h Q) ∧
    (∀ (d : Nat) (l0 : Value) (l1 : Value) (l2 : Value) (l3 : Value) (l4 : Value) (x1 : Int32) (x0 : Nat) (I : Nat → Nat → Int32) (L : Nat → Nat → Int64) (P : Nat → Nat → Option Nat) (Q : Option Value → zMm → Prop), zSH[x0]? = some (.inl 10) → zWp d zi_125 none 94 [l0, l1, l2, l3, l4] [.int x1, .ref x0] (zSH, I, L, P) Q = zWp d zi_125 none 97 [l0, l1, l2, l3, l4] [] (zSH, zw I x0 (upd (I x0) 5 x1), L, P) Q) ∧
    (∀ (d : Nat) (l0 : Nat) (l1 : Value) (l2 : Value) (l3 : Value) (l4 : Value)  (h : zMm) (Q : Option Value → zMm → Prop), zWp d zi_125 none 97 [.ref l0, l1, l2, l3, l4] [] h Q = zWp d zi_125 none 98 [.ref l0, l1, l2, l3, l4] [.ref l0] h Q) ∧
    (∀ (d : Nat) (l0 : Value) (l1 : Value) (l2 : Value) (l3 : Value) (l4 : Value) (x0 : Nat) (I : Nat → Nat → Int32) (L : Nat → Nat → Int64) (P : Nat → Nat → Option Nat) (Q : Option Value → zMm → Prop), zSH[x0]? = some (.inl 10) → zWp d zi_125 none 98 [l0, l1, l2, l3, l4] [.ref x0] (zSH, I, L, P) Q = zWp d zi_125 none 101 [l0, l1, l2, l3, l4] [va_rf (P x0 1)] (zSH, I, L, P) Q) ∧
    (∀ (d : Nat) (l0 : Nat) (l1 : Value) (l2 : Value) (l3 : Value) (l4 : Value) (x0 : Nat) (h : zMm) (Q : Option Value → zMm → Prop), zWp d zi_125 none 101 [.ref l0, l1, l2, l3, l4] [.ref x0] h Q = zWp d zi_125 none 102 [.ref l0, l1, l2, l3, l4] [.ref l0, .ref x0] h Q) ∧
    (∀ (d : Nat) (l0 : Value) (l1 : Value) (l2 : Value) (l3 : Value) (l4 : Value) (x1 : Nat) (x0 : Nat) (I : Nat → Nat → Int32) (L : Nat → Nat → Int64) (P : Nat → Nat → Option Nat) (Q : Option Value → zMm → Prop), zSH[x1]? = some (.inl 10) → zWp d zi_125 none 102 [l0, l1, l2, l3, l4] [.ref x1, .ref x0] (zSH, I, L, P) Q = zWp d zi_125 none 105 [l0, l1, l2, l3, l4] [.int (I x1 5), .ref x0] (zSH, I, L, P) Q) ∧
    (∀ (d : Nat) (l0 : Value) (l1 : Int32) (l2 : Value) (l3 : Value) (l4 : Value) (x1 : Int32) (x0 : Nat) (h : zMm) (Q : Option Value → zMm → Prop), zWp d zi_125 none 105 [l0, .int l1, l2, l3, l4] [.int x1, .ref x0] h Q = zWp d zi_125 none 106 [l0, .int l1, l2, l3, l4] [.int l1, .int x1, .ref x0] h Q) ∧
    (∀ (d : Nat) (l0 : Value) (l1 : Value) (l2 : Value) (l3 : Value) (l4 : Value) (x2 : Int32) (x1 : Int32) (x0 : Nat) (I : Nat → Nat → Int32) (L : Nat → Nat → Int64) (P : Nat → Nat → Option Nat) (Q : Option Value → zMm → Prop), zAk zSH x0 = some .int → zWp d zi_125 none 106 [l0, l1, l2, l3, l4] [.int x2, .int x1, .ref x0] (zSH, I, L, P) Q = (vp_in x1 (zAn zSH x0) ∧ zWp d zi_125 none 107 [l0, l1, l2, l3, l4] [] (zSH, zw I x0 (upd (I x0) x1.toNatClampNeg x2), L, P) Q)) ∧
    (∀ (d : Nat) (l0 : Nat) (l1 : Value) (l2 : Value) (l3 : Value) (l4 : Value)  (h : zMm) (Q : Option Value → zMm → Prop), zWp d zi_125 none 107 [.ref l0, l1, l2, l3, l4] [] h Q = zWp d zi_125 none 108 [.ref l0, l1, l2, l3, l4] [.ref l0] h Q) ∧
    (∀ (d : Nat) (l0 : Value) (l1 : Value) (l2 : Value) (l3 : Value) (l4 : Value) (x0 : Nat) (I : Nat → Nat → Int32) (L : Nat → Nat → Int64) (P : Nat → Nat → Option Nat) (Q : Option Value → zMm → Prop), zSH[x0]? = some (.inl 10) → zWp d zi_125 none 108 [l0, l1, l2, l3, l4] [.ref x0] (zSH, I, L, P) Q = zWp d zi_125 none 111 [l0, l1, l2, l3, l4] [va_rf (P x0 2)] (zSH, I, L, P) Q) ∧
    (∀ (d : Nat) (l0 : Nat) (l1 : Value) (l2 : Value) (l3 : Value) (l4 : Value) (x0 : Nat) (h : zMm) (Q : Option Value → zMm → Prop), zWp d zi_125 none 111 [.ref l0, l1, l2, l3, l4] [.ref x0] h Q = zWp d zi_125 none 112 [.ref l0, l1, l2, l3, l4] [.ref l0, .ref x0] h Q) ∧
    (∀ (d : Nat) (l0 : Value) (l1 : Value) (l2 : Value) (l3 : Value) (l4 : Value) (x1 : Nat) (x0 : Nat) (I : Nat → Nat → Int32) (L : Nat → Nat → Int64) (P : Nat → Nat → Option Nat) (Q : Option Value → zMm → Prop), zSH[x1]? = some (.inl 10) → zWp d zi_125 none 112 [l0, l1, l2, l3, l4] [.ref x1, .ref x0] (zSH, I, L, P) Q = zWp d zi_125 none 115 [l0, l1, l2, l3, l4] [.int (I x1 5), .ref x0] (zSH, I, L, P) Q) ∧
    (∀ (d : Nat) (l0 : Value) (l1 : Value) (l2 : Value) (l3 : Int32) (l4 : Value) (x1 : Int32) (x0 : Nat) (h : zMm) (Q : Option Value → zMm → Prop), zWp d zi_125 none 115 [l0, l1, l2, .int l3, l4] [.int x1, .ref x0] h Q = zWp d zi_125 none 116 [l0, l1, l2, .int l3, l4] [.int l3, .int x1, .ref x0] h Q) ∧
    (∀ (d : Nat) (l0 : Value) (l1 : Value) (l2 : Value) (l3 : Value) (l4 : Value) (x2 : Int32) (x1 : Int32) (x0 : Nat) (I : Nat → Nat → Int32) (L : Nat → Nat → Int64) (P : Nat → Nat → Option Nat) (Q : Option Value → zMm → Prop), zAk zSH x0 = some .int → zWp d zi_125 none 116 [l0, l1, l2, l3, l4] [.int x2, .int x1, .ref x0] (zSH, I, L, P) Q = (vp_in x1 (zAn zSH x0) ∧ zWp d zi_125 none 117 [l0, l1, l2, l3, l4] [] (zSH, zw I x0 (upd (I x0) x1.toNatClampNeg x2), L, P) Q)) ∧
    (∀ (d : Nat) (l0 : Nat) (l1 : Value) (l2 : Value) (l3 : Value) (l4 : Value)  (h : zMm) (Q : Option Value → zMm → Prop), zWp d zi_125 none 117 [.ref l0, l1, l2, l3, l4] [] h Q = zWp d zi_125 none 118 [.ref l0, l1, l2, l3, l4] [.ref l0] h Q) ∧
    (∀ (d : Nat) (l0 : Value) (l1 : Value) (l2 : Value) (l3 : Value) (l4 : Value) (x0 : Nat) (I : Nat → Nat → Int32) (L : Nat → Nat → Int64) (P : Nat → Nat → Option Nat) (Q : Option Value → zMm → Prop), zSH[x0]? = some (.inl 10) → zWp d zi_125 none 118 [l0, l1, l2, l3, l4] [.ref x0] (zSH, I, L, P) Q = zWp d zi_125 none 121 [l0, l1, l2, l3, l4] [va_rf (P x0 3)] (zSH, I, L, P) Q) ∧
    (∀ (d : Nat) (l0 : Nat) (l1 : Value) (l2 : Value) (l3 : Value) (l4 : Value) (x0 : Nat) (h : zMm) (Q : Option Value → zMm → Prop), zWp d zi_125 none 121 [.ref l0, l1, l2, l3, l4] [.ref x0] h Q = zWp d zi_125 none 122 [.ref l0, l1, l2, l3, l4] [.ref l0, .ref x0] h Q) ∧
    (∀ (d : Nat) (l0 : Value) (l1 : Value) (l2 : Value) (l3 : Value) (l4 : Value) (x1 : Nat) (x0 : Nat) (I : Nat → Nat → Int32) (L : Nat → Nat → Int64) (P : Nat → Nat → Option Nat) (Q : Option Value → zMm → Prop), zSH[x1]? = some (.inl 10) → zWp d zi_125 none 122 [l0, l1, l2, l3, l4] [.ref x1, .ref x0] (zSH, I, L, P) Q = zWp d zi_125 none 125 [l0, l1, l2, l3, l4] [.int (I x1 5), .ref x0] (zSH, I, L, P) Q) ∧
    (∀ (d : Nat) (l0 : Value) (l1 : Value) (l2 : Int32) (l3 : Value) (l4 : Value) (x1 : Int32) (x0 : Nat) (h : zMm) (Q : Option Value → zMm → Prop), zWp d zi_125 none 125 [l0, l1, .int l2, l3, l4] [.int x1, .ref x0] h Q = zWp d zi_125 none 126 [l0, l1, .int l2, l3, l4] [.int l2, .int x1, .ref x0] h Q) ∧
    (∀ (d : Nat) (l0 : Value) (l1 : Value) (l2 : Value) (l3 : Value) (l4 : Value) (x2 : Int32) (x1 : Int32) (x0 : Nat) (I : Nat → Nat → Int32) (L : Nat → Nat → Int64) (P : Nat → Nat → Option Nat) (Q : Option Value → zMm → Prop), zAk zSH x0 = some .int → zWp d zi_125 none 126 [l0, l1, l2, l3, l4] [.int x2, .int x1, .ref x0] (zSH, I, L, P) Q = (vp_in x1 (zAn zSH x0) ∧ zWp d zi_125 none 127 [l0, l1, l2, l3, l4] [] (zSH, zw I x0 (upd (I x0) x1.toNatClampNeg x2), L, P) Q)) ∧
    (∀ (d : Nat) (l0 : Nat) (l1 : Value) (l2 : Value) (l3 : Value) (l4 : Value)  (h : zMm) (Q : Option Value → zMm → Prop), zWp d zi_125 none 127 [.ref l0, l1, l2, l3, l4] [] h Q = zWp d zi_125 none 128 [.ref l0, l1, l2, l3, l4] [.ref l0] h Q) ∧
    (∀ (d : Nat) (l0 : Value) (l1 : Value) (l2 : Value) (l3 : Value) (l4 : Value) (x0 : Nat) (h : zMm) (Q : Option Value → zMm → Prop), zWp d zi_125 none 128 [l0, l1, l2, l3, l4] [.ref x0] h Q = zWp d zi_125 none 129 [l0, l1, l2, l3, l4] [.ref x0, .ref x0] h Q) ∧
    (∀ (d : Nat) (l0 : Value) (l1 : Value) (l2 : Value) (l3 : Value) (l4 : Value) (x1 : Nat) (x0 : Nat) (I : Nat → Nat → Int32) (L : Nat → Nat → Int64) (P : Nat → Nat → Option Nat) (Q : Option Value → zMm → Prop), zSH[x1]? = some (.inl 10) → zWp d zi_125 none 129 [l0, l1, l2, l3, l4] [.ref x1, .ref x0] (zSH, I, L, P) Q = zWp d zi_125 none 132 [l0, l1, l2, l3, l4] [.int (I x1 5), .ref x0] (zSH, I, L, P) Q) ∧
    (∀ (d : Nat) (l0 : Value) (l1 : Value) (l2 : Value) (l3 : Value) (l4 : Value) (x1 : Int32) (x0 : Nat) (h : zMm) (Q : Option Value → zMm → Prop), zWp d zi_125 none 132 [l0, l1, l2, l3, l4] [.int x1, .ref x0] h Q = zWp d zi_125 none 133 [l0, l1, l2, l3, l4] [.int 1, .int x1, .ref x0] h Q) ∧
    (∀ (d : Nat) (l0 : Value) (l1 : Value) (l2 : Value) (l3 : Value) (l4 : Value) (x2 : Int32) (x1 : Int32) (x0 : Nat) (h : zMm) (Q : Option Value → zMm → Prop), zWp d zi_125 none 133 [l0, l1, l2, l3, l4] [.int x2, .int x1, .ref x0] h Q = zWp d zi_125 none 134 [l0, l1, l2, l3, l4] [.int (x1 + x2), .ref x0] h Q) ∧
    (∀ (d : Nat) (l0 : Value) (l1 : Value) (l2 : Value) (l3 : Value) (l4 : Value) (x1 : Int32) (x0 : Nat) (I : Nat → Nat → Int32) (L : Nat → Nat → Int64) (P : Nat → Nat → Option Nat) (Q : Option Value → zMm → Prop), zSH[x0]? = some (.inl 10) → zWp d zi_125 none 134 [l0, l1, l2, l3, l4] [.int x1, .ref x0] (zSH, I, L, P) Q = zWp d zi_125 none 137 [l0, l1, l2, l3, l4] [] (zSH, zw I x0 (upd (I x0) 5 x1), L, P) Q) ∧
    (∀ (d : Nat) (l0 : Nat) (l1 : Value) (l2 : Value) (l3 : Value) (l4 : Value)  (h : zMm) (Q : Option Value → zMm → Prop), zWp d zi_125 none 137 [.ref l0, l1, l2, l3, l4] [] h Q = zWp d zi_125 none 138 [.ref l0, l1, l2, l3, l4] [.ref l0] h Q) ∧
    (∀ (d : Nat) (l0 : Nat) (l1 : Value) (l2 : Value) (l3 : Value) (l4 : Value) (x0 : Nat) (h : zMm) (Q : Option Value → zMm → Prop), zWp d zi_125 none 138 [.ref l0, l1, l2, l3, l4] [.ref x0] h Q = zWp d zi_125 none 139 [.ref l0, l1, l2, l3, l4] [.ref l0, .ref x0] h Q) ∧
    (∀ (d : Nat) (l0 : Value) (l1 : Value) (l2 : Value) (l3 : Value) (l4 : Value) (x1 : Nat) (x0 : Nat) (I : Nat → Nat → Int32) (L : Nat → Nat → Int64) (P : Nat → Nat → Option Nat) (Q : Option Value → zMm → Prop), zSH[x1]? = some (.inl 10) → zWp d zi_125 none 139 [l0, l1, l2, l3, l4] [.ref x1, .ref x0] (zSH, I, L, P) Q = zWp d zi_125 none 142 [l0, l1, l2, l3, l4] [.int (I x1 5), .ref x0] (zSH, I, L, P) Q) ∧
    (∀ (d : Nat) (l0 : Value) (l1 : Value) (l2 : Value) (l3 : Value) (l4 : Value) (x1 : Int32) (x0 : Nat) (I : Nat → Nat → Int32) (L : Nat → Nat → Int64) (P : Nat → Nat → Option Nat) (Q : Option Value → zMm → Prop), zSH[x0]? = some (.inl 10) → zWp d zi_125 none 142 [l0, l1, l2, l3, l4] [.int x1, .ref x0] (zSH, I, L, P) Q = zWp d zi_125 none 145 [l0, l1, l2, l3, l4] [] (zSH, zw I x0 (upd (I x0) 4 x1), L, P) Q) ∧
    (∀ (d : Nat) (l0 : Nat) (l1 : Value) (l2 : Value) (l3 : Value) (l4 : Value)  (h : zMm) (Q : Option Value → zMm → Prop), zWp d zi_125 none 145 [.ref l0, l1, l2, l3, l4] [] h Q = zWp d zi_125 none 146 [.ref l0, l1, l2, l3, l4] [.ref l0] h Q) ∧
    (∀ (d : Nat) (l0 : Value) (l1 : Value) (l2 : Value) (l3 : Value) (l4 : Value) (x0 : Nat) (I : Nat → Nat → Int32) (L : Nat → Nat → Int64) (P : Nat → Nat → Option Nat) (Q : Option Value → zMm → Prop), zSH[x0]? = some (.inl 10) → zWp d zi_125 none 146 [l0, l1, l2, l3, l4] [.ref x0] (zSH, I, L, P) Q = zWp d zi_125 none 149 [l0, l1, l2, l3, l4] [va_rf (P x0 0)] (zSH, I, L, P) Q) ∧
    (∀ (d : Nat) (l0 : Value) (l1 : Int32) (l2 : Value) (l3 : Value) (l4 : Value) (x0 : Nat) (h : zMm) (Q : Option Value → zMm → Prop), zWp d zi_125 none 149 [l0, .int l1, l2, l3, l4] [.ref x0] h Q = zWp d zi_125 none 150 [l0, .int l1, l2, l3, l4] [.int l1, .ref x0] h Q) ∧
    (∀ (d : Nat) (l0 : Value) (l1 : Value) (l2 : Int32) (l3 : Value) (l4 : Value) (x1 : Int32) (x0 : Nat) (h : zMm) (Q : Option Value → zMm → Prop), zWp d zi_125 none 150 [l0, l1, .int l2, l3, l4] [.int x1, .ref x0] h Q = zWp d zi_125 none 151 [l0, l1, .int l2, l3, l4] [.int l2, .int x1, .ref x0] h Q) ∧
    (∀ (d : Nat) (l0 : Value) (l1 : Value) (l2 : Value) (l3 : Value) (l4 : Value) (x2 : Int32) (x1 : Int32) (x0 : Nat) (I : Nat → Nat → Int32) (L : Nat → Nat → Int64) (P : Nat → Nat → Option Nat) (Q : Option Value → zMm → Prop), zAk zSH x0 = some .int → zWp d zi_125 none 151 [l0, l1, l2, l3, l4] [.int x2, .int x1, .ref x0] (zSH, I, L, P) Q = (vp_in x1 (zAn zSH x0) ∧ zWp d zi_125 none 152 [l0, l1, l2, l3, l4] [] (zSH, zw I x0 (upd (I x0) x1.toNatClampNeg x2), L, P) Q)) ∧
    (∀ (d : Nat) (l0 : Value) (l1 : Value) (l2 : Value) (l3 : Int32) (l4 : Value)  (h : zMm) (Q : Option Value → zMm → Prop), zWp d zi_125 none 152 [l0, l1, l2, .int l3, l4] [] h Q = zWp d zi_125 none 153 [l0, l1, l2, .int l3, l4] [.int l3] h Q) ∧
    (∀ (d : Nat) (l0 : Value) (l1 : Value) (l2 : Value) (l3 : Value) (l4 : Value) (x0 : Int32) (h : zMm) (Q : Option Value → zMm → Prop), zWp d zi_125 none 153 [l0, l1, l2, l3, l4] [.int x0] h Q = Q (some (.int x0)) h) :=
  ⟨(fun d l0 l1 l2 l3 l4  h Q => zr_aload_n rfl rfl),
   (fun d l0 l1 l2 l3 l4 x0 I L P Q p0 => zr_getQ rfl lf_10_9 (fun _ _ _ => rfl) p0),
   (fun d l0 l1 l2 l3 l4 x0 h Q => zr_iload_n rfl rfl),
   (fun d l0 l1 l2 l3 l4 x1 x0 I L P Q p0 => zr_ald rfl p0),
   (fun d l0 l1 l2 l3 l4 x0 h Q => zr_istore_n (n := 3) rfl (Nat.le_of_ble_eq_true rfl) rfl),
   (fun d l0 l1 l2 l3 l4  h Q => zr_iload_n rfl rfl),
   (fun d l0 l1 l2 l3 l4 x0 h Q => zr_iload_n rfl rfl),
   (fun d l0 l1 l2 l3 l4 x1 x0 h Q => zr_ic_ne rfl (by decide)),
   (fun d l0 l1 l2 l3 l4  h Q => zr_iload_n rfl rfl),
   (fun d l0 l1 l2 l3 l4 x0 h Q => zr_iret rfl rfl),
   (fun d l0 l1 l2 l3 l4  h Q => zr_aload_n rfl rfl),
   (fun d l0 l1 l2 l3 l4 x0 I L P Q p0 => zr_getI rfl lf_10_93 (fun _ _ _ => rfl) p0),
   (fun d l0 l1 l2 l3 l4 x0 h Q => zr_bipush rfl (by decide)),
   (fun d l0 l1 l2 l3 l4 x1 x0 h Q => zr_ic_ne rfl (by decide)),
   (fun d l0 l1 l2 l3 l4  h Q => zr_iconst rfl (by decide)),
   (fun d l0 l1 l2 l3 l4 x0 h Q => zr_istore (n := 4) rfl (Nat.le_of_ble_eq_true rfl) rfl),
   (fun d l0 l1 l2 l3 l4 x0 h Q => zr_bipush rfl (by decide)),
   (fun d l0 l1 l2 l3 l4 x1 x0 h Q => zr_ic_ge rfl (by decide)),
   (fun d l0 l1 l2 l3 l4  h Q => zr_aload_n rfl rfl),
   (fun d l0 l1 l2 l3 l4 x0 I L P Q p0 => zr_getQ rfl lf_10_13 (fun _ _ _ => rfl) p0),
   (fun d l0 l1 l2 l3 l4 x0 h Q => zr_iload rfl rfl),
   (fun d l0 l1 l2 l3 l4 x1 x0 h Q => zr_iconst rfl (by decide)),
   (fun d l0 l1 l2 l3 l4 x2 x1 x0 h Q => zr_isub rfl),
   (fun d l0 l1 l2 l3 l4 x1 x0 h Q => zr_aload_n rfl rfl),
   (fun d l0 l1 l2 l3 l4 x2 x1 x0 I L P Q p0 => zr_getQ rfl lf_10_13 (fun _ _ _ => rfl) p0),
   (fun d l0 l1 l2 l3 l4 x2 x1 x0 h Q => zr_iload rfl rfl),
   (fun d l0 l1 l2 l3 l4 x3 x2 x1 x0 I L P Q p0 => zr_ald rfl p0),
   (fun d l0 l1 l2 l3 l4 x2 x1 x0 I L P Q p0 => zr_ast rfl p0),
   (fun d l0 l1 l2 l3 l4  h Q => zr_aload_n rfl rfl),
   (fun d l0 l1 l2 l3 l4 x0 I L P Q p0 => zr_getQ rfl lf_10_16 (fun _ _ _ => rfl) p0),
   (fun d l0 l1 l2 l3 l4 x0 h Q => zr_iload rfl rfl),
   (fun d l0 l1 l2 l3 l4 x1 x0 h Q => zr_iconst rfl (by decide)),
   (fun d l0 l1 l2 l3 l4 x2 x1 x0 h Q => zr_isub rfl),
   (fun d l0 l1 l2 l3 l4 x1 x0 h Q => zr_aload_n rfl rfl),
   (fun d l0 l1 l2 l3 l4 x2 x1 x0 I L P Q p0 => zr_getQ rfl lf_10_16 (fun _ _ _ => rfl) p0),
   (fun d l0 l1 l2 l3 l4 x2 x1 x0 h Q => zr_iload rfl rfl),
   (fun d l0 l1 l2 l3 l4 x3 x2 x1 x0 I L P Q p0 => zr_ald rfl p0),
   (fun d l0 l1 l2 l3 l4 x2 x1 x0 I L P Q p0 => zr_ast rfl p0),
   (fun d l0 l1 l2 l3 l4  h Q => zr_aload_n rfl rfl),
   (fun d l0 l1 l2 l3 l4 x0 I L P Q p0 => zr_getQ rfl lf_10_19 (fun _ _ _ => rfl) p0),
   (fun d l0 l1 l2 l3 l4 x0 h Q => zr_iload rfl rfl),
   (fun d l0 l1 l2 l3 l4 x1 x0 h Q => zr_iconst rfl (by decide)),
   (fun d l0 l1 l2 l3 l4 x2 x1 x0 h Q => zr_isub rfl),
   (fun d l0 l1 l2 l3 l4 x1 x0 h Q => zr_aload_n rfl rfl),
   (fun d l0 l1 l2 l3 l4 x2 x1 x0 I L P Q p0 => zr_getQ rfl lf_10_19 (fun _ _ _ => rfl) p0),
   (fun d l0 l1 l2 l3 l4 x2 x1 x0 h Q => zr_iload rfl rfl),
   (fun d l0 l1 l2 l3 l4 x3 x2 x1 x0 I L P Q p0 => zr_ald rfl p0),
   (fun d l0 l1 l2 l3 l4 x2 x1 x0 I L P Q p0 => zr_ast rfl p0),
   (fun d l0 l1 l2 l3 l4  h Q => zr_iinc (n := 4) (kc := 1) rfl rfl (Nat.le_of_ble_eq_true rfl) rfl (by decide)),
   (fun d l0 l1 l2 l3 l4  h Q => zr_goto rfl (by decide)),
   (fun d l0 l1 l2 l3 l4  h Q => zr_aload_n rfl rfl),
   (fun d l0 l1 l2 l3 l4 x0 h Q => zr_dup rfl rfl),
   (fun d l0 l1 l2 l3 l4 x1 x0 I L P Q p0 => zr_getI rfl lf_10_93 (fun _ _ _ => rfl) p0),
   (fun d l0 l1 l2 l3 l4 x1 x0 h Q => zr_iconst rfl (by decide)),
   (fun d l0 l1 l2 l3 l4 x2 x1 x0 h Q => zr_isub rfl),
   (fun d l0 l1 l2 l3 l4 x1 x0 I L P Q p0 => zr_putI rfl lf_10_93 (by decide) rfl p0),
   (fun d l0 l1 l2 l3 l4  h Q => zr_aload_n rfl rfl),
   (fun d l0 l1 l2 l3 l4 x0 I L P Q p0 => zr_getQ rfl lf_10_13 (fun _ _ _ => rfl) p0),
   (fun d l0 l1 l2 l3 l4 x0 h Q => zr_aload_n rfl rfl),
   (fun d l0 l1 l2 l3 l4 x1 x0 I L P Q p0 => zr_getI rfl lf_10_93 (fun _ _ _ => rfl) p0),
   (fun d l0 l1 l2 l3 l4 x1 x0 h Q => zr_iload_n rfl rfl),
   (fun d l0 l1 l2 l3 l4 x2 x1 x0 I L P Q p0 => zr_ast rfl p0),
   (fun d l0 l1 l2 l3 l4  h Q => zr_aload_n rfl rfl),
   (fun d l0 l1 l2 l3 l4 x0 I L P Q p0 => zr_getQ rfl lf_10_16 (fun _ _ _ => rfl) p0),
   (fun d l0 l1 l2 l3 l4 x0 h Q => zr_aload_n rfl rfl),
   (fun d l0 l1 l2 l3 l4 x1 x0 I L P Q p0 => zr_getI rfl lf_10_93 (fun _ _ _ => rfl) p0),
   (fun d l0 l1 l2 l3 l4 x1 x0 h Q => zr_iload_n rfl rfl),
   (fun d l0 l1 l2 l3 l4 x2 x1 x0 I L P Q p0 => zr_ast rfl p0),
   (fun d l0 l1 l2 l3 l4  h Q => zr_aload_n rfl rfl),
   (fun d l0 l1 l2 l3 l4 x0 I L P Q p0 => zr_getQ rfl lf_10_19 (fun _ _ _ => rfl) p0),
   (fun d l0 l1 l2 l3 l4 x0 h Q => zr_aload_n rfl rfl),
   (fun d l0 l1 l2 l3 l4 x1 x0 I L P Q p0 => zr_getI rfl lf_10_93 (fun _ _ _ => rfl) p0),
   (fun d l0 l1 l2 l3 l4 x1 x0 h Q => zr_iload_n rfl rfl),
   (fun d l0 l1 l2 l3 l4 x2 x1 x0 I L P Q p0 => zr_ast rfl p0),
   (fun d l0 l1 l2 l3 l4  h Q => zr_aload_n rfl rfl),
   (fun d l0 l1 l2 l3 l4 x0 h Q => zr_dup rfl rfl),
   (fun d l0 l1 l2 l3 l4 x1 x0 I L P Q p0 => zr_getI rfl lf_10_93 (fun _ _ _ => rfl) p0),
   (fun d l0 l1 l2 l3 l4 x1 x0 h Q => zr_iconst rfl (by decide)),
   (fun d l0 l1 l2 l3 l4 x2 x1 x0 h Q => zr_iadd rfl),
   (fun d l0 l1 l2 l3 l4 x1 x0 I L P Q p0 => zr_putI rfl lf_10_93 (by decide) rfl p0),
   (fun d l0 l1 l2 l3 l4  h Q => zr_aload_n rfl rfl),
   (fun d l0 l1 l2 l3 l4 x0 h Q => zr_aload_n rfl rfl),
   (fun d l0 l1 l2 l3 l4 x1 x0 I L P Q p0 => zr_getI rfl lf_10_93 (fun _ _ _ => rfl) p0),
   (fun d l0 l1 l2 l3 l4 x1 x0 I L P Q p0 => zr_putI rfl lf_10_96 (by decide) rfl p0),
   (fun d l0 l1 l2 l3 l4  h Q => zr_aload_n rfl rfl),
   (fun d l0 l1 l2 l3 l4 x0 I L P Q p0 => zr_getQ rfl lf_10_9 (fun _ _ _ => rfl) p0),
   (fun d l0 l1 l2 l3 l4 x0 h Q => zr_iload_n rfl rfl),
   (fun d l0 l1 l2 l3 l4 x1 x0 h Q => zr_iload_n rfl rfl),
   (fun d l0 l1 l2 l3 l4 x2 x1 x0 I L P Q p0 => zr_ast rfl p0),
   (fun d l0 l1 l2 l3 l4  h Q => zr_iload_n rfl rfl),
   (fun d l0 l1 l2 l3 l4 x0 h Q => zr_iret rfl rfl)⟩
theorem H_X10_becomes_26 : ∀ (d : Nat) (l0 : Value) (l1 : Value) (l2 : Value) (l3 : Value) (l4 : Int32)  (h : zMm) (Q : Option Value → zMm → Prop), zWp d zi_125 none 26 [l0, l1, l2, l3, .int l4] [] h Q = zWp d zi_125 none 28 [l0, l1, l2, l3, .int l4] [.int l4] h Q := fun d l0 l1 l2 l3 l4  h Q => zr_iload rfl rfl
theorem E_X10_isThere : ∀ (d : Nat) (a0 : Nat) (a1 : Int32) (h : zMm) (Q : Option Value → zMm → Prop), zWM (d + 1) 126 [.ref a0, .int a1] h Q = zWp d zi_126 none 0 [.ref a0, .int a1] [] h Q := fun d a0 a1 h Q => zW_M m_126 (Nat.le_of_ble_eq_true rfl) rfl
set_option maxRecDepth 100000 in
theorem R_X10_isThere :
    (∀ (d : Nat) (l0 : Value) (l1 : Int32)  (h : zMm) (Q : Option Value → zMm → Prop), zWp d zi_126 none 0 [l0, .int l1] [] h Q = zWp d zi_126 none 1 [l0, .int l1] [.int l1] h Q) ∧
    (∀ (d : Nat) (l0 : Value) (l1 : Value) (x0 : Int32) (h : zMm) (Q : Option Value → zMm → Prop), zWp d zi_126 none 1 [l0, l1] [.int x0] h Q = zWp d zi_126 none 3 [l0, l1] [.int 72, .int x0] h Q) ∧
    (∀ (d : Nat) (l0 : Value) (l1 : Value) (x1 : Int32) (x0 : Int32) (h : zMm) (Q : Option Value → zMm → Prop), zWp d zi_126 none 3 [l0, l1] [.int x1, .int x0] h Q = if x1 ≤ x0 then zWp d zi_126 none 17 [l0, l1] [] h Q else zWp d zi_126 none 6 [l0, l1] [] h Q) ∧
    (∀ (d : Nat) (l0 : Value) (l1 : Int32)  (h : zMm) (Q : Option Value → zMm → Prop), zWp d zi_126 none 6 [l0, .int l1] [] h Q = zWp d zi_126 none 7 [l0, .int l1] [.int l1] h Q) ∧
    (∀ (d : Nat) (l0 : Value) (l1 : Value) (x0 : Int32) (h : zMm) (Q : Option Value → zMm → Prop), zWp d zi_126 none 7 [l0, l1] [.int x0] h Q = zWp d zi_126 none 9 [l0, l1] [.int 24, .int x0] h Q) ∧
    (∀ (d : Nat) (l0 : Value) (l1 : Value) (x1 : Int32) (x0 : Int32) (h : zMm) (Q : Option Value → zMm → Prop), zWp d zi_126 none 9 [l0, l1] [.int x1, .int x0] h Q = (¬ x1 = 0 ∧ zWp d zi_126 none 10 [l0, l1] [.int (x0 - x0 / x1 * x1)] h Q)) ∧
    (∀ (d : Nat) (l0 : Nat) (l1 : Value) (x0 : Int32) (h : zMm) (Q : Option Value → zMm → Prop), zWp d zi_126 none 10 [.ref l0, l1] [.int x0] h Q = zWp d zi_126 none 11 [.ref l0, l1] [.ref l0, .int x0] h Q) ∧
    (∀ (d : Nat) (l0 : Value) (l1 : Value) (x1 : Nat) (x0 : Int32) (I : Nat → Nat → Int32) (L : Nat → Nat → Int64) (P : Nat → Nat → Option Nat) (Q : Option Value → zMm → Prop), zSH[x1]? = some (.inl 10) → zWp d zi_126 none 11 [l0, l1] [.ref x1, .int x0] (zSH, I, L, P) Q = zWp d zi_126 none 14 [l0, l1] [.int (I x1 6), .int x0] (zSH, I, L, P) Q) ∧
    (∀ (d : Nat) (l0 : Value) (l1 : Value) (x1 : Int32) (x0 : Int32) (h : zMm) (Q : Option Value → zMm → Prop), zWp d zi_126 none 14 [l0, l1] [.int x1, .int x0] h Q = if x1 ≤ x0 then zWp d zi_126 none 21 [l0, l1] [] h Q else zWp d zi_126 none 17 [l0, l1] [] h Q) ∧
    (∀ (d : Nat) (l0 : Value) (l1 : Value)  (h : zMm) (Q : Option Value → zMm → Prop), zWp d zi_126 none 17 [l0, l1] [] h Q = zWp d zi_126 none 18 [l0, l1] [.int 1] h Q) ∧
    (∀ (d : Nat) (l0 : Value) (l1 : Value) (x0 : Int32) (h : zMm) (Q : Option Value → zMm → Prop), zWp d zi_126 none 18 [l0, l1] [.int x0] h Q = zWp d zi_126 none 22 [l0, l1] [.int x0] h Q) ∧
    (∀ (d : Nat) (l0 : Value) (l1 : Value)  (h : zMm) (Q : Option Value → zMm → Prop), zWp d zi_126 none 21 [l0, l1] [] h Q = zWp d zi_126 none 22 [l0, l1] [.int 0] h Q) ∧
    (∀ (d : Nat) (l0 : Value) (l1 : Value) (x0 : Int32) (h : zMm) (Q : Option Value → zMm → Prop), x0 = 0 ∨ x0 = 1 → zWp d zi_126 none 22 [l0, l1] [.int x0] h Q = Q (some (.int x0)) h) :=
  ⟨(fun d l0 l1  h Q => zr_iload_n rfl rfl),
   (fun d l0 l1 x0 h Q => zr_bipush rfl (by decide)),
   (fun d l0 l1 x1 x0 h Q => zr_ic_ge rfl (by decide)),
   (fun d l0 l1  h Q => zr_iload_n rfl rfl),
   (fun d l0 l1 x0 h Q => zr_bipush rfl (by decide)),
   (fun d l0 l1 x1 x0 h Q => zr_irem rfl),
   (fun d l0 l1 x0 h Q => zr_aload_n rfl rfl),
   (fun d l0 l1 x1 x0 I L P Q p0 => zr_getI rfl lf_10_99 (fun _ _ _ => rfl) p0),
   (fun d l0 l1 x1 x0 h Q => zr_ic_ge rfl (by decide)),
   (fun d l0 l1  h Q => zr_iconst rfl (by decide)),
   (fun d l0 l1 x0 h Q => zr_goto rfl (by decide)),
   (fun d l0 l1  h Q => zr_iconst rfl (by decide)),
   (fun d l0 l1 x0 h Q p0 => zr_zret rfl rfl p0)⟩
theorem E_X10_lays : ∀ (d : Nat) (a0 : Nat) (a1 : Int32) (a2 : Int32) (h : zMm) (Q : Option Value → zMm → Prop), zWM (d + 1) 127 [.ref a0, .int a1, .int a2] h Q = zWp d zi_127 none 0 [.ref a0, .int a1, .int a2, .retAddr 0] [] h Q := fun d a0 a1 a2 h Q => zW_M m_127 (Nat.le_of_ble_eq_true rfl) rfl
set_option maxRecDepth 100000 in
theorem R_X10_lays :
    (∀ (d : Nat) (l0 : Value) (l1 : Int32) (l2 : Value) (l3 : Value)  (h : zMm) (Q : Option Value → zMm → Prop), zWp d zi_127 none 0 [l0, .int l1, l2, l3] [] h Q = zWp d zi_127 none 1 [l0, .int l1, l2, l3] [.int l1] h Q) ∧
    (∀ (d : Nat) (l0 : Value) (l1 : Value) (l2 : Value) (l3 : Value) (x0 : Int32) (h : zMm) (Q : Option Value → zMm → Prop), zWp d zi_127 none 1 [l0, l1, l2, l3] [.int x0] h Q = zWp d zi_127 none 3 [l0, l1, l2, l3] [.int 48, .int x0] h Q) ∧
    (∀ (d : Nat) (l0 : Value) (l1 : Value) (l2 : Value) (l3 : Value) (x1 : Int32) (x0 : Int32) (h : zMm) (Q : Option Value → zMm → Prop), zWp d zi_127 none 3 [l0, l1, l2, l3] [.int x1, .int x0] h Q = if x0 < x1 then zWp d zi_127 none 16 [l0, l1, l2, l3] [] h Q else zWp d zi_127 none 6 [l0, l1, l2, l3] [] h Q) ∧
    (∀ (d : Nat) (l0 : Value) (l1 : Int32) (l2 : Value) (l3 : Value)  (h : zMm) (Q : Option Value → zMm → Prop), zWp d zi_127 none 6 [l0, .int l1, l2, l3] [] h Q = zWp d zi_127 none 7 [l0, .int l1, l2, l3] [.int l1] h Q) ∧
    (∀ (d : Nat) (l0 : Value) (l1 : Value) (l2 : Value) (l3 : Value) (x0 : Int32) (h : zMm) (Q : Option Value → zMm → Prop), zWp d zi_127 none 7 [l0, l1, l2, l3] [.int x0] h Q = zWp d zi_127 none 9 [l0, l1, l2, l3] [.int 72, .int x0] h Q) ∧
    (∀ (d : Nat) (l0 : Value) (l1 : Value) (l2 : Value) (l3 : Value) (x1 : Int32) (x0 : Int32) (h : zMm) (Q : Option Value → zMm → Prop), zWp d zi_127 none 9 [l0, l1, l2, l3] [.int x1, .int x0] h Q = if x1 ≤ x0 then zWp d zi_127 none 16 [l0, l1, l2, l3] [] h Q else zWp d zi_127 none 12 [l0, l1, l2, l3] [] h Q) ∧
    (∀ (d : Nat) (l0 : Value) (l1 : Value) (l2 : Value) (l3 : Value)  (h : zMm) (Q : Option Value → zMm → Prop), zWp d zi_127 none 12 [l0, l1, l2, l3] [] h Q = zWp d zi_127 none 13 [l0, l1, l2, l3] [.int 1] h Q) ∧
    (∀ (d : Nat) (l0 : Value) (l1 : Value) (l2 : Value) (l3 : Value) (x0 : Int32) (h : zMm) (Q : Option Value → zMm → Prop), zWp d zi_127 none 13 [l0, l1, l2, l3] [.int x0] h Q = zWp d zi_127 none 17 [l0, l1, l2, l3] [.int x0] h Q) ∧
    (∀ (d : Nat) (l0 : Value) (l1 : Value) (l2 : Value) (l3 : Value)  (h : zMm) (Q : Option Value → zMm → Prop), zWp d zi_127 none 16 [l0, l1, l2, l3] [] h Q = zWp d zi_127 none 17 [l0, l1, l2, l3] [.int 0] h Q) ∧
    (∀ (d : Nat) (l0 : Value) (l1 : Value) (l2 : Int32) (l3 : Value) (x0 : Int32) (h : zMm) (Q : Option Value → zMm → Prop), zWp d zi_127 none 17 [l0, l1, .int l2, l3] [.int x0] h Q = zWp d zi_127 none 18 [l0, l1, .int l2, .int x0] [] h Q) ∧
    (∀ (d : Nat) (l0 : Nat) (l1 : Value) (l2 : Value) (l3 : Value)  (h : zMm) (Q : Option Value → zMm → Prop), zWp d zi_127 none 18 [.ref l0, l1, l2, l3] [] h Q = zWp d zi_127 none 19 [.ref l0, l1, l2, l3] [.ref l0] h Q) ∧
    (∀ (d : Nat) (l0 : Value) (l1 : Value) (l2 : Value) (l3 : Value) (x0 : Nat) (I : Nat → Nat → Int32) (L : Nat → Nat → Int64) (P : Nat → Nat → Option Nat) (Q : Option Value → zMm → Prop), zSH[x0]? = some (.inl 10) → zWp d zi_127 none 19 [l0, l1, l2, l3] [.ref x0] (zSH, I, L, P) Q = zWp d zi_127 none 22 [l0, l1, l2, l3] [va_rf (P x0 0)] (zSH, I, L, P) Q) ∧
    (∀ (d : Nat) (l0 : Value) (l1 : Int32) (l2 : Value) (l3 : Value) (x0 : Nat) (h : zMm) (Q : Option Value → zMm → Prop), zWp d zi_127 none 22 [l0, .int l1, l2, l3] [.ref x0] h Q = zWp d zi_127 none 23 [l0, .int l1, l2, l3] [.int l1, .ref x0] h Q) ∧
    (∀ (d : Nat) (l0 : Value) (l1 : Value) (l2 : Value) (l3 : Int32) (x1 : Int32) (x0 : Nat) (h : zMm) (Q : Option Value → zMm → Prop), zWp d zi_127 none 23 [l0, l1, l2, .int l3] [.int x1, .ref x0] h Q = zWp d zi_127 none 24 [l0, l1, l2, .int l3] [.int l3, .int x1, .ref x0] h Q) ∧
    (∀ (d : Nat) (l0 : Value) (l1 : Value) (l2 : Value) (l3 : Value) (x2 : Int32) (x1 : Int32) (x0 : Nat) (h : zMm) (Q : Option Value → zMm → Prop), zWp d zi_127 none 24 [l0, l1, l2, l3] [.int x2, .int x1, .ref x0] h Q = if x2 = 0 then zWp d zi_127 none 52 [l0, l1, l2, l3] [.int x1, .ref x0] h Q else zWp d zi_127 none 27 [l0, l1, l2, l3] [.int x1, .ref x0] h Q) ∧
    (∀ (d : Nat) (l0 : Value) (l1 : Value) (l2 : Int32) (l3 : Value) (x1 : Int32) (x0 : Nat) (h : zMm) (Q : Option Value → zMm → Prop), zWp d zi_127 none 27 [l0, l1, .int l2, l3] [.int x1, .ref x0] h Q = zWp d zi_127 none 28 [l0, l1, .int l2, l3] [.int l2, .int x1, .ref x0] h Q) ∧
    (∀ (d : Nat) (l0 : Nat) (l1 : Value) (l2 : Value) (l3 : Value) (x2 : Int32) (x1 : Int32) (x0 : Nat) (h : zMm) (Q : Option Value → zMm → Prop), zWp d zi_127 none 28 [.ref l0, l1, l2, l3] [.int x2, .int x1, .ref x0] h Q = zWp d zi_127 none 29 [.ref l0, l1, l2, l3] [.ref l0, .int x2, .int x1, .ref x0] h Q) ∧
    (∀ (d : Nat) (l0 : Value) (l1 : Value) (l2 : Value) (l3 : Value) (x3 : Nat) (x2 : Int32) (x1 : Int32) (x0 : Nat) (I : Nat → Nat → Int32) (L : Nat → Nat → Int64) (P : Nat → Nat → Option Nat) (Q : Option Value → zMm → Prop), zSH[x3]? = some (.inl 10) → zWp d zi_127 none 29 [l0, l1, l2, l3] [.ref x3, .int x2, .int x1, .ref x0] (zSH, I, L, P) Q = zWp d zi_127 none 32 [l0, l1, l2, l3] [va_rf (P x3 7), .int x2, .int x1, .ref x0] (zSH, I, L, P) Q) ∧
    (∀ (d : Nat) (l0 : Value) (l1 : Int32) (l2 : Value) (l3 : Value) (x3 : Nat) (x2 : Int32) (x1 : Int32) (x0 : Nat) (h : zMm) (Q : Option Value → zMm → Prop), zWp d zi_127 none 32 [l0, .int l1, l2, l3] [.ref x3, .int x2, .int x1, .ref x0] h Q = zWp d zi_127 none 33 [l0, .int l1, l2, l3] [.int l1, .ref x3, .int x2, .int x1, .ref x0] h Q) ∧
    (∀ (d : Nat) (l0 : Value) (l1 : Value) (l2 : Value) (l3 : Value) (x4 : Int32) (x3 : Nat) (x2 : Int32) (x1 : Int32) (x0 : Nat) (h : zMm) (Q : Option Value → zMm → Prop), zWp d zi_127 none 33 [l0, l1, l2, l3] [.int x4, .ref x3, .int x2, .int x1, .ref x0] h Q = zWp d zi_127 none 35 [l0, l1, l2, l3] [.int 48, .int x4, .ref x3, .int x2, .int x1, .ref x0] h Q) ∧
    (∀ (d : Nat) (l0 : Value) (l1 : Value) (l2 : Value) (l3 : Value) (x5 : Int32) (x4 : Int32) (x3 : Nat) (x2 : Int32) (x1 : Int32) (x0 : Nat) (h : zMm) (Q : Option Value → zMm → Prop), zWp d zi_127 none 35 [l0, l1, l2, l3] [.int x5, .int x4, .ref x3, .int x2, .int x1, .ref x0] h Q = zWp d zi_127 none 36 [l0, l1, l2, l3] [.int (x4 - x5), .ref x3, .int x2, .int x1, .ref x0] h Q) ∧
    (∀ (d : Nat) (l0 : Value) (l1 : Value) (l2 : Value) (l3 : Value) (x4 : Int32) (x3 : Nat) (x2 : Int32) (x1 : Int32) (x0 : Nat) (I : Nat → Nat → Int32) (L : Nat → Nat → Int64) (P : Nat → Nat → Option Nat) (Q : Option Value → zMm → Prop), zAk zSH x3 = some .int → zWp d zi_127 none 36 [l0, l1, l2, l3] [.int x4, .ref x3, .int x2, .int x1, .ref x0] (zSH, I, L, P) Q = (vp_in x4 (zAn zSH x3) ∧ zWp d zi_127 none 37 [l0, l1, l2, l3] [.int (I x3 x4.toNatClampNeg), .int x2, .int x1, .ref x0] (zSH, I, L, P) Q)) ∧
    (∀ (d : Nat) (l0 : Value) (l1 : Value) (l2 : Value) (l3 : Value) (x3 : Int32) (x2 : Int32) (x1 : Int32) (x0 : Nat) (h : zMm) (Q : Option Value → zMm → Prop), zWp d zi_127 none 37 [l0, l1, l2, l3] [.int x3, .int x2, .int x1, .ref x0] h Q = if x2 ≤ x3 then zWp d zi_127 none 52 [l0, l1, l2, l3] [.int x1, .ref x0] h Q else zWp d zi_127 none 40 [l0, l1, l2, l3] [.int x1, .ref x0] h Q) ∧
    (∀ (d : Nat) (l0 : Nat) (l1 : Value) (l2 : Value) (l3 : Value) (x1 : Int32) (x0 : Nat) (h : zMm) (Q : Option Value → zMm → Prop), zWp d zi_127 none 40 [.ref l0, l1, l2, l3] [.int x1, .ref x0] h Q = zWp d zi_127 none 41 [.ref l0, l1, l2, l3] [.ref l0, .int x1, .ref x0] h Q) ∧
    (∀ (d : Nat) (l0 : Value) (l1 : Value) (l2 : Value) (l3 : Value) (x2 : Nat) (x1 : Int32) (x0 : Nat) (I : Nat → Nat → Int32) (L : Nat → Nat → Int64) (P : Nat → Nat → Option Nat) (Q : Option Value → zMm → Prop), zSH[x2]? = some (.inl 10) → zWp d zi_127 none 41 [l0, l1, l2, l3] [.ref x2, .int x1, .ref x0] (zSH, I, L, P) Q = zWp d zi_127 none 44 [l0, l1, l2, l3] [va_rf (P x2 7), .int x1, .ref x0] (zSH, I, L, P) Q) ∧
    (∀ (d : Nat) (l0 : Value) (l1 : Int32) (l2 : Value) (l3 : Value) (x2 : Nat) (x1 : Int32) (x0 : Nat) (h : zMm) (Q : Option Value → zMm → Prop), zWp d zi_127 none 44 [l0, .int l1, l2, l3] [.ref x2, .int x1, .ref x0] h Q = zWp d zi_127 none 45 [l0, .int l1, l2, l3] [.int l1, .ref x2, .int x1, .ref x0] h Q) ∧
    (∀ (d : Nat) (l0 : Value) (l1 : Value) (l2 : Value) (l3 : Value) (x3 : Int32) (x2 : Nat) (x1 : Int32) (x0 : Nat) (h : zMm) (Q : Option Value → zMm → Prop), zWp d zi_127 none 45 [l0, l1, l2, l3] [.int x3, .ref x2, .int x1, .ref x0] h Q = zWp d zi_127 none 47 [l0, l1, l2, l3] [.int 48, .int x3, .ref x2, .int x1, .ref x0] h Q) ∧
    (∀ (d : Nat) (l0 : Value) (l1 : Value) (l2 : Value) (l3 : Value) (x4 : Int32) (x3 : Int32) (x2 : Nat) (x1 : Int32) (x0 : Nat) (h : zMm) (Q : Option Value → zMm → Prop), zWp d zi_127 none 47 [l0, l1, l2, l3] [.int x4, .int x3, .ref x2, .int x1, .ref x0] h Q = zWp d zi_127 none 48 [l0, l1, l2, l3] [.int (x3 - x4), .ref x2, .int x1, .ref x0] h Q) ∧
    (∀ (d : Nat) (l0 : Value) (l1 : Value) (l2 : Value) (l3 : Value) (x3 : Int32) (x2 : Nat) (x1 : Int32) (x0 : Nat) (I : Nat → Nat → Int32) (L : Nat → Nat → Int64) (P : Nat → Nat → Option Nat) (Q : Option Value → zMm → Prop), zAk zSH x2 = some .int → zWp d zi_127 none 48 [l0, l1, l2, l3] [.int x3, .ref x2, .int x1, .ref x0] (zSH, I, L, P) Q = (vp_in x3 (zAn zSH x2) ∧ zWp d zi_127 none 49 [l0, l1, l2, l3] [.int (I x2 x3.toNatClampNeg), .int x1, .ref x0] (zSH, I, L, P) Q)) ∧
    (∀ (d : Nat) (l0 : Value) (l1 : Value) (l2 : Value) (l3 : Value) (x2 : Int32) (x1 : Int32) (x0 : Nat) (h : zMm) (Q : Option Value → zMm → Prop), zWp d zi_127 none 49 [l0, l1, l2, l3] [.int x2, .int x1, .ref x0] h Q = zWp d zi_127 none 53 [l0, l1, l2, l3] [.int x2, .int x1, .ref x0] h Q) ∧
    (∀ (d : Nat) (l0 : Value) (l1 : Value) (l2 : Int32) (l3 : Value) (x1 : Int32) (x0 : Nat) (h : zMm) (Q : Option Value → zMm → Prop), zWp d zi_127 none 52 [l0, l1, .int l2, l3] [.int x1, .ref x0] h Q = zWp d zi_127 none 53 [l0, l1, .int l2, l3] [.int l2, .int x1, .ref x0] h Q) ∧
    (∀ (d : Nat) (l0 : Value) (l1 : Value) (l2 : Value) (l3 : Value) (x2 : Int32) (x1 : Int32) (x0 : Nat) (I : Nat → Nat → Int32) (L : Nat → Nat → Int64) (P : Nat → Nat → Option Nat) (Q : Option Value → zMm → Prop), zAk zSH x0 = some .int → zWp d zi_127 none 53 [l0, l1, l2, l3] [.int x2, .int x1, .ref x0] (zSH, I, L, P) Q = (vp_in x1 (zAn zSH x0) ∧ zWp d zi_127 none 54 [l0, l1, l2, l3] [] (zSH, zw I x0 (upd (I x0) x1.toNatClampNeg x2), L, P) Q)) ∧
    (∀ (d : Nat) (l0 : Value) (l1 : Value) (l2 : Value) (l3 : Value)  (h : zMm) (Q : Option Value → zMm → Prop), zWp d zi_127 none 54 [l0, l1, l2, l3] [] h Q = Q none h) :=
  ⟨(fun d l0 l1 l2 l3  h Q => zr_iload_n rfl rfl),
   (fun d l0 l1 l2 l3 x0 h Q => zr_bipush rfl (by decide)),
   (fun d l0 l1 l2 l3 x1 x0 h Q => zr_ic_lt rfl (by decide)),
   (fun d l0 l1 l2 l3  h Q => zr_iload_n rfl rfl),
   (fun d l0 l1 l2 l3 x0 h Q => zr_bipush rfl (by decide)),
   (fun d l0 l1 l2 l3 x1 x0 h Q => zr_ic_ge rfl (by decide)),
   (fun d l0 l1 l2 l3  h Q => zr_iconst rfl (by decide)),
   (fun d l0 l1 l2 l3 x0 h Q => zr_goto rfl (by decide)),
   (fun d l0 l1 l2 l3  h Q => zr_iconst rfl (by decide)),
   (fun d l0 l1 l2 l3 x0 h Q => zr_istore_n (n := 3) rfl (Nat.le_of_ble_eq_true rfl) rfl),
   (fun d l0 l1 l2 l3  h Q => zr_aload_n rfl rfl),
   (fun d l0 l1 l2 l3 x0 I L P Q p0 => zr_getQ rfl lf_10_9 (fun _ _ _ => rfl) p0),
   (fun d l0 l1 l2 l3 x0 h Q => zr_iload_n rfl rfl),
   (fun d l0 l1 l2 l3 x1 x0 h Q => zr_iload_n rfl rfl),
   (fun d l0 l1 l2 l3 x2 x1 x0 h Q => zr_if_eq rfl (by decide)),
   (fun d l0 l1 l2 l3 x1 x0 h Q => zr_iload_n rfl rfl),
   (fun d l0 l1 l2 l3 x2 x1 x0 h Q => zr_aload_n rfl rfl),
   (fun d l0 l1 l2 l3 x3 x2 x1 x0 I L P Q p0 => zr_getQ rfl lf_10_22 (fun _ _ _ => rfl) p0),
   (fun d l0 l1 l2 l3 x3 x2 x1 x0 h Q => zr_iload_n rfl rfl),
   (fun d l0 l1 l2 l3 x4 x3 x2 x1 x0 h Q => zr_bipush rfl (by decide)),
   (fun d l0 l1 l2 l3 x5 x4 x3 x2 x1 x0 h Q => zr_isub rfl),
   (fun d l0 l1 l2 l3 x4 x3 x2 x1 x0 I L P Q p0 => zr_ald rfl p0),
   (fun d l0 l1 l2 l3 x3 x2 x1 x0 h Q => zr_ic_le rfl (by decide)),
   (fun d l0 l1 l2 l3 x1 x0 h Q => zr_aload_n rfl rfl),
   (fun d l0 l1 l2 l3 x2 x1 x0 I L P Q p0 => zr_getQ rfl lf_10_22 (fun _ _ _ => rfl) p0),
   (fun d l0 l1 l2 l3 x2 x1 x0 h Q => zr_iload_n rfl rfl),
   (fun d l0 l1 l2 l3 x3 x2 x1 x0 h Q => zr_bipush rfl (by decide)),
   (fun d l0 l1 l2 l3 x4 x3 x2 x1 x0 h Q => zr_isub rfl),
   (fun d l0 l1 l2 l3 x3 x2 x1 x0 I L P Q p0 => zr_ald rfl p0),
   (fun d l0 l1 l2 l3 x2 x1 x0 h Q => zr_goto rfl (by decide)),
   (fun d l0 l1 l2 l3 x1 x0 h Q => zr_iload_n rfl rfl),
   (fun d l0 l1 l2 l3 x2 x1 x0 I L P Q p0 => zr_ast rfl p0),
   (fun d l0 l1 l2 l3  h Q => zr_vret rfl rfl)⟩
theorem E_X10_undo : ∀ (d : Nat) (a0 : Nat) (h : zMm) (Q : Option Value → zMm → Prop), zWM (d + 1) 128 [.ref a0] h Q = zWp d zi_128 none 0 [.ref a0] [] h Q := fun d a0 h Q => zW_M m_128 (Nat.le_of_ble_eq_true rfl) rfl
set_option maxRecDepth 100000 in
theorem R_X10_undo :
    (∀ (d : Nat) (l0 : Nat)  (h : zMm) (Q : Option Value → zMm → Prop), zWp d zi_128 none 0 [.ref l0] [] h Q = zWp d zi_128 none 1 [.ref l0] [.ref l0] h Q) ∧
    (∀ (d : Nat) (l0 : Value) (x0 : Nat) (I : Nat → Nat → Int32) (L : Nat → Nat → Int64) (P : Nat → Nat → Option Nat) (Q : Option Value → zMm → Prop), zSH[x0]? = some (.inl 10) → zWp d zi_128 none 1 [l0] [.ref x0] (zSH, I, L, P) Q = zWp d zi_128 none 4 [l0] [.int (I x0 5)] (zSH, I, L, P) Q) ∧
    (∀ (d : Nat) (l0 : Value) (x0 : Int32) (h : zMm) (Q : Option Value → zMm → Prop), zWp d zi_128 none 4 [l0] [.int x0] h Q = if x0 = 0 then zWp d zi_128 none 25 [l0] [] h Q else zWp d zi_128 none 7 [l0] [] h Q) ∧
    (∀ (d : Nat) (l0 : Nat)  (h : zMm) (Q : Option Value → zMm → Prop), zWp d zi_128 none 7 [.ref l0] [] h Q = zWp d zi_128 none 8 [.ref l0] [.ref l0] h Q) ∧
    (∀ (d : Nat) (l0 : Nat) (x0 : Nat) (h : zMm) (Q : Option Value → zMm → Prop), zWp d zi_128 none 8 [.ref l0] [.ref x0] h Q = zWp d zi_128 none 9 [.ref l0] [.ref l0, .ref x0] h Q) ∧
    (∀ (d : Nat) (l0 : Value) (x1 : Nat) (x0 : Nat) (I : Nat → Nat → Int32) (L : Nat → Nat → Int64) (P : Nat → Nat → Option Nat) (Q : Option Value → zMm → Prop), zSH[x1]? = some (.inl 10) → zWp d zi_128 none 9 [l0] [.ref x1, .ref x0] (zSH, I, L, P) Q = zWp d zi_128 none 12 [l0] [va_rf (P x1 1), .ref x0] (zSH, I, L, P) Q) ∧
    (∀ (d : Nat) (l0 : Nat) (x1 : Nat) (x0 : Nat) (h : zMm) (Q : Option Value → zMm → Prop), zWp d zi_128 none 12 [.ref l0] [.ref x1, .ref x0] h Q = zWp d zi_128 none 13 [.ref l0] [.ref l0, .ref x1, .ref x0] h Q) ∧
    (∀ (d : Nat) (l0 : Value) (x2 : Nat) (x1 : Nat) (x0 : Nat) (I : Nat → Nat → Int32) (L : Nat → Nat → Int64) (P : Nat → Nat → Option Nat) (Q : Option Value → zMm → Prop), zSH[x2]? = some (.inl 10) → zWp d zi_128 none 13 [l0] [.ref x2, .ref x1, .ref x0] (zSH, I, L, P) Q = zWp d zi_128 none 16 [l0] [.int (I x2 5), .ref x1, .ref x0] (zSH, I, L, P) Q) ∧
    (∀ (d : Nat) (l0 : Value) (x2 : Int32) (x1 : Nat) (x0 : Nat) (h : zMm) (Q : Option Value → zMm → Prop), zWp d zi_128 none 16 [l0] [.int x2, .ref x1, .ref x0] h Q = zWp d zi_128 none 17 [l0] [.int 1, .int x2, .ref x1, .ref x0] h Q) ∧
    (∀ (d : Nat) (l0 : Value) (x3 : Int32) (x2 : Int32) (x1 : Nat) (x0 : Nat) (h : zMm) (Q : Option Value → zMm → Prop), zWp d zi_128 none 17 [l0] [.int x3, .int x2, .ref x1, .ref x0] h Q = zWp d zi_128 none 18 [l0] [.int (x2 - x3), .ref x1, .ref x0] h Q) ∧
    (∀ (d : Nat) (l0 : Value) (x2 : Int32) (x1 : Nat) (x0 : Nat) (I : Nat → Nat → Int32) (L : Nat → Nat → Int64) (P : Nat → Nat → Option Nat) (Q : Option Value → zMm → Prop), zAk zSH x1 = some .int → zWp d zi_128 none 18 [l0] [.int x2, .ref x1, .ref x0] (zSH, I, L, P) Q = (vp_in x2 (zAn zSH x1) ∧ zWp d zi_128 none 19 [l0] [.int (I x1 x2.toNatClampNeg), .ref x0] (zSH, I, L, P) Q)) ∧
    (∀ (d : Nat) (l0 : Value) (x1 : Int32) (x0 : Nat) (I : Nat → Nat → Int32) (L : Nat → Nat → Int64) (P : Nat → Nat → Option Nat) (Q : Option Value → zMm → Prop), zSH[x0]? = some (.inl 10) → zWp d zi_128 none 19 [l0] [.int x1, .ref x0] (zSH, I, L, P) Q = zWM d 126 [.ref x0, .int x1] (zSH, I, L, P) (fun r h1 => zWp d zi_128 none 22 [l0] (r.toList ++ []) h1 Q)) ∧
    (∀ (d : Nat) (l0 : Value) (x0 : Int32) (h : zMm) (Q : Option Value → zMm → Prop), zWp d zi_128 none 22 [l0] [.int x0] h Q = if x0 = 0 then zWp d zi_128 none 25 [l0] [] h Q else zWp d zi_128 none 28 [l0] [] h Q) ∧
    (∀ (d : Nat) (l0 : Value)  (h : zMm) (Q : Option Value → zMm → Prop), zWp d zi_128 none 25 [l0] [] h Q = zWp d zi_128 none 27 [l0] [.int (-5)] h Q) ∧
    (∀ (d : Nat) (l0 : Value) (x0 : Int32) (h : zMm) (Q : Option Value → zMm → Prop), zWp d zi_128 none 27 [l0] [.int x0] h Q = Q (some (.int x0)) h) ∧
    (∀ (d : Nat) (l0 : Nat)  (h : zMm) (Q : Option Value → zMm → Prop), zWp d zi_128 none 28 [.ref l0] [] h Q = zWp d zi_128 none 29 [.ref l0] [.ref l0] h Q) ∧
    (∀ (d : Nat) (l0 : Value) (x0 : Nat) (h : zMm) (Q : Option Value → zMm → Prop), zWp d zi_128 none 29 [l0] [.ref x0] h Q = zWp d zi_128 none 30 [l0] [.ref x0, .ref x0] h Q) ∧
    (∀ (d : Nat) (l0 : Value) (x1 : Nat) (x0 : Nat) (I : Nat → Nat → Int32) (L : Nat → Nat → Int64) (P : Nat → Nat → Option Nat) (Q : Option Value → zMm → Prop), zSH[x1]? = some (.inl 10) → zWp d zi_128 none 30 [l0] [.ref x1, .ref x0] (zSH, I, L, P) Q = zWp d zi_128 none 33 [l0] [.int (I x1 5), .ref x0] (zSH, I, L, P) Q) ∧
    (∀ (d : Nat) (l0 : Value) (x1 : Int32) (x0 : Nat) (h : zMm) (Q : Option Value → zMm → Prop), zWp d zi_128 none 33 [l0] [.int x1, .ref x0] h Q = zWp d zi_128 none 34 [l0] [.int 1, .int x1, .ref x0] h Q) ∧
    (∀ (d : Nat) (l0 : Value) (x2 : Int32) (x1 : Int32) (x0 : Nat) (h : zMm) (Q : Option Value → zMm → Prop), zWp d zi_128 none 34 [l0] [.int x2, .int x1, .ref x0] h Q = zWp d zi_128 none 35 [l0] [.int (x1 - x2), .ref x0] h Q) ∧
    (∀ (d : Nat) (l0 : Value) (x1 : Int32) (x0 : Nat) (I : Nat → Nat → Int32) (L : Nat → Nat → Int64) (P : Nat → Nat → Option Nat) (Q : Option Value → zMm → Prop), zSH[x0]? = some (.inl 10) → zWp d zi_128 none 35 [l0] [.int x1, .ref x0] (zSH, I, L, P) Q = zWp d zi_128 none 38 [l0] [] (zSH, zw I x0 (upd (I x0) 5 x1), L, P) Q) ∧
    (∀ (d : Nat) (l0 : Nat)  (h : zMm) (Q : Option Value → zMm → Prop), zWp d zi_128 none 38 [.ref l0] [] h Q = zWp d zi_128 none 39 [.ref l0] [.ref l0] h Q) ∧
    (∀ (d : Nat) (l0 : Nat) (x0 : Nat) (h : zMm) (Q : Option Value → zMm → Prop), zWp d zi_128 none 39 [.ref l0] [.ref x0] h Q = zWp d zi_128 none 40 [.ref l0] [.ref l0, .ref x0] h Q) ∧
    (∀ (d : Nat) (l0 : Value) (x1 : Nat) (x0 : Nat) (I : Nat → Nat → Int32) (L : Nat → Nat → Int64) (P : Nat → Nat → Option Nat) (Q : Option Value → zMm → Prop), zSH[x1]? = some (.inl 10) → zWp d zi_128 none 40 [l0] [.ref x1, .ref x0] (zSH, I, L, P) Q = zWp d zi_128 none 43 [l0] [va_rf (P x1 1), .ref x0] (zSH, I, L, P) Q) ∧
    (∀ (d : Nat) (l0 : Nat) (x1 : Nat) (x0 : Nat) (h : zMm) (Q : Option Value → zMm → Prop), zWp d zi_128 none 43 [.ref l0] [.ref x1, .ref x0] h Q = zWp d zi_128 none 44 [.ref l0] [.ref l0, .ref x1, .ref x0] h Q) ∧
    (∀ (d : Nat) (l0 : Value) (x2 : Nat) (x1 : Nat) (x0 : Nat) (I : Nat → Nat → Int32) (L : Nat → Nat → Int64) (P : Nat → Nat → Option Nat) (Q : Option Value → zMm → Prop), zSH[x2]? = some (.inl 10) → zWp d zi_128 none 44 [l0] [.ref x2, .ref x1, .ref x0] (zSH, I, L, P) Q = zWp d zi_128 none 47 [l0] [.int (I x2 5), .ref x1, .ref x0] (zSH, I, L, P) Q) ∧
    (∀ (d : Nat) (l0 : Value) (x2 : Int32) (x1 : Nat) (x0 : Nat) (I : Nat → Nat → Int32) (L : Nat → Nat → Int64) (P : Nat → Nat → Option Nat) (Q : Option Value → zMm → Prop), zAk zSH x1 = some .int → zWp d zi_128 none 47 [l0] [.int x2, .ref x1, .ref x0] (zSH, I, L, P) Q = (vp_in x2 (zAn zSH x1) ∧ zWp d zi_128 none 48 [l0] [.int (I x1 x2.toNatClampNeg), .ref x0] (zSH, I, L, P) Q)) ∧
    (∀ (d : Nat) (l0 : Nat) (x1 : Int32) (x0 : Nat) (h : zMm) (Q : Option Value → zMm → Prop), zWp d zi_128 none 48 [.ref l0] [.int x1, .ref x0] h Q = zWp d zi_128 none 49 [.ref l0] [.ref l0, .int x1, .ref x0] h Q) ∧
    (∀ (d : Nat) (l0 : Value) (x2 : Nat) (x1 : Int32) (x0 : Nat) (I : Nat → Nat → Int32) (L : Nat → Nat → Int64) (P : Nat → Nat → Option Nat) (Q : Option Value → zMm → Prop), zSH[x2]? = some (.inl 10) → zWp d zi_128 none 49 [l0] [.ref x2, .int x1, .ref x0] (zSH, I, L, P) Q = zWp d zi_128 none 52 [l0] [va_rf (P x2 2), .int x1, .ref x0] (zSH, I, L, P) Q) ∧
    (∀ (d : Nat) (l0 : Nat) (x2 : Nat) (x1 : Int32) (x0 : Nat) (h : zMm) (Q : Option Value → zMm → Prop), zWp d zi_128 none 52 [.ref l0] [.ref x2, .int x1, .ref x0] h Q = zWp d zi_128 none 53 [.ref l0] [.ref l0, .ref x2, .int x1, .ref x0] h Q) ∧
    (∀ (d : Nat) (l0 : Value) (x3 : Nat) (x2 : Nat) (x1 : Int32) (x0 : Nat) (I : Nat → Nat → Int32) (L : Nat → Nat → Int64) (P : Nat → Nat → Option Nat) (Q : Option Value → zMm → Prop), zSH[x3]? = some (.inl 10) → zWp d zi_128 none 53 [l0] [.ref x3, .ref x2, .int x1, .ref x0] (zSH, I, L, P) Q = zWp d zi_128 none 56 [l0] [.int (I x3 5), .ref x2, .int x1, .ref x0] (zSH, I, L, P) Q) ∧
    (∀ (d : Nat) (l0 : Value) (x3 : Int32) (x2 : Nat) (x1 : Int32) (x0 : Nat) (I : Nat → Nat → Int32) (L : Nat → Nat → Int64) (P : Nat → Nat → Option Nat) (Q : Option Value → zMm → Prop), zAk zSH x2 = some .int → zWp d zi_128 none 56 [l0] [.int x3, .ref x2, .int x1, .ref x0] (zSH, I, L, P) Q = (vp_in x3 (zAn zSH x2) ∧ zWp d zi_128 none 57 [l0] [.int (I x2 x3.toNatClampNeg), .int x1, .ref x0] (zSH, I, L, P) Q)) ∧
    (∀ (d : Nat) (l0 : Value) (x2 : Int32) (x1 : Int32) (x0 : Nat) (I : Nat → Nat → Int32) (L : Nat → Nat → Int64) (P : Nat → Nat → Option Nat) (Q : Option Value → zMm → Prop), zSH[x0]? = some (.inl 10) → zWp d zi_128 none 57 [l0] [.int x2, .int x1, .ref x0] (zSH, I, L, P) Q = zWM d 127 [.ref x0, .int x1, .int x2] (zSH, I, L, P) (fun r h1 => zWp d zi_128 none 60 [l0] (r.toList ++ []) h1 Q)) ∧
    (∀ (d : Nat) (l0 : Nat)  (h : zMm) (Q : Option Value → zMm → Prop), zWp d zi_128 none 60 [.ref l0] [] h Q = zWp d zi_128 none 61 [.ref l0] [.ref l0] h Q) ∧
    (∀ (d : Nat) (l0 : Value) (x0 : Nat) (I : Nat → Nat → Int32) (L : Nat → Nat → Int64) (P : Nat → Nat → Option Nat) (Q : Option Value → zMm → Prop), zSH[x0]? = some (.inl 10) → zWp d zi_128 none 61 [l0] [.ref x0] (zSH, I, L, P) Q = zWp d zi_128 none 64 [l0] [.int (I x0 5)] (zSH, I, L, P) Q) ∧
    (∀ (d : Nat) (l0 : Value) (x0 : Int32) (h : zMm) (Q : Option Value → zMm → Prop), zWp d zi_128 none 64 [l0] [.int x0] h Q = Q (some (.int x0)) h) :=
  ⟨(fun d l0  h Q => zr_aload_n rfl rfl),
   (fun d l0 x0 I L P Q p0 => zr_getI rfl lf_10_93 (fun _ _ _ => rfl) p0),
   (fun d l0 x0 h Q => zr_if_eq rfl (by decide)),
   (fun d l0  h Q => zr_aload_n rfl rfl),
   (fun d l0 x0 h Q => zr_aload_n rfl rfl),
   (fun d l0 x1 x0 I L P Q p0 => zr_getQ rfl lf_10_13 (fun _ _ _ => rfl) p0),
   (fun d l0 x1 x0 h Q => zr_aload_n rfl rfl),
   (fun d l0 x2 x1 x0 I L P Q p0 => zr_getI rfl lf_10_93 (fun _ _ _ => rfl) p0),
   (fun d l0 x2 x1 x0 h Q => zr_iconst rfl (by decide)),
   (fun d l0 x3 x2 x1 x0 h Q => zr_isub rfl),
   (fun d l0 x2 x1 x0 I L P Q p0 => zr_ald rfl p0),
   (fun d l0 x1 x0 I L P Q p0 => zr_vir (as := [.int x1]) (rest := []) rfl lm_10_102 m_126 kd_126 rfl (Nat.le_of_ble_eq_true rfl) p0),
   (fun d l0 x0 h Q => zr_if_ne rfl (by decide)),
   (fun d l0  h Q => zr_bipush rfl (by decide)),
   (fun d l0 x0 h Q => zr_iret rfl rfl),
   (fun d l0  h Q => zr_aload_n rfl rfl),
   (fun d l0 x0 h Q => zr_dup rfl rfl),
   (fun d l0 x1 x0 I L P Q p0 => zr_getI rfl lf_10_93 (fun _ _ _ => rfl) p0),
   (fun d l0 x1 x0 h Q => zr_iconst rfl (by decide)),
   (fun d l0 x2 x1 x0 h Q => zr_isub rfl),
   (fun d l0 x1 x0 I L P Q p0 => zr_putI rfl lf_10_93 (by decide) rfl p0),
   (fun d l0  h Q => zr_aload_n rfl rfl),
   (fun d l0 x0 h Q => zr_aload_n rfl rfl),
   (fun d l0 x1 x0 I L P Q p0 => zr_getQ rfl lf_10_13 (fun _ _ _ => rfl) p0),
   (fun d l0 x1 x0 h Q => zr_aload_n rfl rfl),
   (fun d l0 x2 x1 x0 I L P Q p0 => zr_getI rfl lf_10_93 (fun _ _ _ => rfl) p0),
   (fun d l0 x2 x1 x0 I L P Q p0 => zr_ald rfl p0),
   (fun d l0 x1 x0 h Q => zr_aload_n rfl rfl),
   (fun d l0 x2 x1 x0 I L P Q p0 => zr_getQ rfl lf_10_16 (fun _ _ _ => rfl) p0),
   (fun d l0 x2 x1 x0 h Q => zr_aload_n rfl rfl),
   (fun d l0 x3 x2 x1 x0 I L P Q p0 => zr_getI rfl lf_10_93 (fun _ _ _ => rfl) p0),
   (fun d l0 x3 x2 x1 x0 I L P Q p0 => zr_ald rfl p0),
   (fun d l0 x2 x1 x0 I L P Q p0 => zr_vir (as := [.int x2, .int x1]) (rest := []) rfl lm_10_106 m_127 kd_127 rfl (Nat.le_of_ble_eq_true rfl) p0),
   (fun d l0  h Q => zr_aload_n rfl rfl),
   (fun d l0 x0 I L P Q p0 => zr_getI rfl lf_10_93 (fun _ _ _ => rfl) p0),
   (fun d l0 x0 h Q => zr_iret rfl rfl)⟩
theorem E_X10_redo : ∀ (d : Nat) (a0 : Nat) (h : zMm) (Q : Option Value → zMm → Prop), zWM (d + 1) 129 [.ref a0] h Q = zWp d zi_129 none 0 [.ref a0] [] h Q := fun d a0 h Q => zW_M m_129 (Nat.le_of_ble_eq_true rfl) rfl
set_option maxRecDepth 100000 in
theorem R_X10_redo :
    (∀ (d : Nat) (l0 : Nat)  (h : zMm) (Q : Option Value → zMm → Prop), zWp d zi_129 none 0 [.ref l0] [] h Q = zWp d zi_129 none 1 [.ref l0] [.ref l0] h Q) ∧
    (∀ (d : Nat) (l0 : Value) (x0 : Nat) (I : Nat → Nat → Int32) (L : Nat → Nat → Int64) (P : Nat → Nat → Option Nat) (Q : Option Value → zMm → Prop), zSH[x0]? = some (.inl 10) → zWp d zi_129 none 1 [l0] [.ref x0] (zSH, I, L, P) Q = zWp d zi_129 none 4 [l0] [.int (I x0 5)] (zSH, I, L, P) Q) ∧
    (∀ (d : Nat) (l0 : Nat) (x0 : Int32) (h : zMm) (Q : Option Value → zMm → Prop), zWp d zi_129 none 4 [.ref l0] [.int x0] h Q = zWp d zi_129 none 5 [.ref l0] [.ref l0, .int x0] h Q) ∧
    (∀ (d : Nat) (l0 : Value) (x1 : Nat) (x0 : Int32) (I : Nat → Nat → Int32) (L : Nat → Nat → Int64) (P : Nat → Nat → Option Nat) (Q : Option Value → zMm → Prop), zSH[x1]? = some (.inl 10) → zWp d zi_129 none 5 [l0] [.ref x1, .int x0] (zSH, I, L, P) Q = zWp d zi_129 none 8 [l0] [.int (I x1 4), .int x0] (zSH, I, L, P) Q) ∧
    (∀ (d : Nat) (l0 : Value) (x1 : Int32) (x0 : Int32) (h : zMm) (Q : Option Value → zMm → Prop), zWp d zi_129 none 8 [l0] [.int x1, .int x0] h Q = if x0 = x1 then zWp d zi_129 none 27 [l0] [] h Q else zWp d zi_129 none 11 [l0] [] h Q) ∧
    (∀ (d : Nat) (l0 : Nat)  (h : zMm) (Q : Option Value → zMm → Prop), zWp d zi_129 none 11 [.ref l0] [] h Q = zWp d zi_129 none 12 [.ref l0] [.ref l0] h Q) ∧
    (∀ (d : Nat) (l0 : Nat) (x0 : Nat) (h : zMm) (Q : Option Value → zMm → Prop), zWp d zi_129 none 12 [.ref l0] [.ref x0] h Q = zWp d zi_129 none 13 [.ref l0] [.ref l0, .ref x0] h Q) ∧
    (∀ (d : Nat) (l0 : Value) (x1 : Nat) (x0 : Nat) (I : Nat → Nat → Int32) (L : Nat → Nat → Int64) (P : Nat → Nat → Option Nat) (Q : Option Value → zMm → Prop), zSH[x1]? = some (.inl 10) → zWp d zi_129 none 13 [l0] [.ref x1, .ref x0] (zSH, I, L, P) Q = zWp d zi_129 none 16 [l0] [va_rf (P x1 1), .ref x0] (zSH, I, L, P) Q) ∧
    (∀ (d : Nat) (l0 : Nat) (x1 : Nat) (x0 : Nat) (h : zMm) (Q : Option Value → zMm → Prop), zWp d zi_129 none 16 [.ref l0] [.ref x1, .ref x0] h Q = zWp d zi_129 none 17 [.ref l0] [.ref l0, .ref x1, .ref x0] h Q) ∧
    (∀ (d : Nat) (l0 : Value) (x2 : Nat) (x1 : Nat) (x0 : Nat) (I : Nat → Nat → Int32) (L : Nat → Nat → Int64) (P : Nat → Nat → Option Nat) (Q : Option Value → zMm → Prop), zSH[x2]? = some (.inl 10) → zWp d zi_129 none 17 [l0] [.ref x2, .ref x1, .ref x0] (zSH, I, L, P) Q = zWp d zi_129 none 20 [l0] [.int (I x2 5), .ref x1, .ref x0] (zSH, I, L, P) Q) ∧
    (∀ (d : Nat) (l0 : Value) (x2 : Int32) (x1 : Nat) (x0 : Nat) (I : Nat → Nat → Int32) (L : Nat → Nat → Int64) (P : Nat → Nat → Option Nat) (Q : Option Value → zMm → Prop), zAk zSH x1 = some .int → zWp d zi_129 none 20 [l0] [.int x2, .ref x1, .ref x0] (zSH, I, L, P) Q = (vp_in x2 (zAn zSH x1) ∧ zWp d zi_129 none 21 [l0] [.int (I x1 x2.toNatClampNeg), .ref x0] (zSH, I, L, P) Q)) ∧
    (∀ (d : Nat) (l0 : Value) (x1 : Int32) (x0 : Nat) (I : Nat → Nat → Int32) (L : Nat → Nat → Int64) (P : Nat → Nat → Option Nat) (Q : Option Value → zMm → Prop), zSH[x0]? = some (.inl 10) → zWp d zi_129 none 21 [l0] [.int x1, .ref x0] (zSH, I, L, P) Q = zWM d 126 [.ref x0, .int x1] (zSH, I, L, P) (fun r h1 => zWp d zi_129 none 24 [l0] (r.toList ++ []) h1 Q)) ∧
    (∀ (d : Nat) (l0 : Value) (x0 : Int32) (h : zMm) (Q : Option Value → zMm → Prop), zWp d zi_129 none 24 [l0] [.int x0] h Q = if x0 = 0 then zWp d zi_129 none 27 [l0] [] h Q else zWp d zi_129 none 30 [l0] [] h Q) ∧
    (∀ (d : Nat) (l0 : Value)  (h : zMm) (Q : Option Value → zMm → Prop), zWp d zi_129 none 27 [l0] [] h Q = zWp d zi_129 none 29 [l0] [.int (-5)] h Q) ∧
    (∀ (d : Nat) (l0 : Value) (x0 : Int32) (h : zMm) (Q : Option Value → zMm → Prop), zWp d zi_129 none 29 [l0] [.int x0] h Q = Q (some (.int x0)) h) ∧
    (∀ (d : Nat) (l0 : Nat)  (h : zMm) (Q : Option Value → zMm → Prop), zWp d zi_129 none 30 [.ref l0] [] h Q = zWp d zi_129 none 31 [.ref l0] [.ref l0] h Q) ∧
    (∀ (d : Nat) (l0 : Nat) (x0 : Nat) (h : zMm) (Q : Option Value → zMm → Prop), zWp d zi_129 none 31 [.ref l0] [.ref x0] h Q = zWp d zi_129 none 32 [.ref l0] [.ref l0, .ref x0] h Q) ∧
    (∀ (d : Nat) (l0 : Value) (x1 : Nat) (x0 : Nat) (I : Nat → Nat → Int32) (L : Nat → Nat → Int64) (P : Nat → Nat → Option Nat) (Q : Option Value → zMm → Prop), zSH[x1]? = some (.inl 10) → zWp d zi_129 none 32 [l0] [.ref x1, .ref x0] (zSH, I, L, P) Q = zWp d zi_129 none 35 [l0] [va_rf (P x1 1), .ref x0] (zSH, I, L, P) Q) ∧
    (∀ (d : Nat) (l0 : Nat) (x1 : Nat) (x0 : Nat) (h : zMm) (Q : Option Value → zMm → Prop), zWp d zi_129 none 35 [.ref l0] [.ref x1, .ref x0] h Q = zWp d zi_129 none 36 [.ref l0] [.ref l0, .ref x1, .ref x0] h Q) ∧
    (∀ (d : Nat) (l0 : Value) (x2 : Nat) (x1 : Nat) (x0 : Nat) (I : Nat → Nat → Int32) (L : Nat → Nat → Int64) (P : Nat → Nat → Option Nat) (Q : Option Value → zMm → Prop), zSH[x2]? = some (.inl 10) → zWp d zi_129 none 36 [l0] [.ref x2, .ref x1, .ref x0] (zSH, I, L, P) Q = zWp d zi_129 none 39 [l0] [.int (I x2 5), .ref x1, .ref x0] (zSH, I, L, P) Q) ∧
    (∀ (d : Nat) (l0 : Value) (x2 : Int32) (x1 : Nat) (x0 : Nat) (I : Nat → Nat → Int32) (L : Nat → Nat → Int64) (P : Nat → Nat → Option Nat) (Q : Option Value → zMm → Prop), zAk zSH x1 = some .int → zWp d zi_129 none 39 [l0] [.int x2, .ref x1, .ref x0] (zSH, I, L, P) Q = (vp_in x2 (zAn zSH x1) ∧ zWp d zi_129 none 40 [l0] [.int (I x1 x2.toNatClampNeg), .ref x0] (zSH, I, L, P) Q)) ∧
    (∀ (d : Nat) (l0 : Nat) (x1 : Int32) (x0 : Nat) (h : zMm) (Q : Option Value → zMm → Prop), zWp d zi_129 none 40 [.ref l0] [.int x1, .ref x0] h Q = zWp d zi_129 none 41 [.ref l0] [.ref l0, .int x1, .ref x0] h Q) ∧
    (∀ (d : Nat) (l0 : Value) (x2 : Nat) (x1 : Int32) (x0 : Nat) (I : Nat → Nat → Int32) (L : Nat → Nat → Int64) (P : Nat → Nat → Option Nat) (Q : Option Value → zMm → Prop), zSH[x2]? = some (.inl 10) → zWp d zi_129 none 41 [l0] [.ref x2, .int x1, .ref x0] (zSH, I, L, P) Q = zWp d zi_129 none 44 [l0] [va_rf (P x2 3), .int x1, .ref x0] (zSH, I, L, P) Q) ∧
    (∀ (d : Nat) (l0 : Nat) (x2 : Nat) (x1 : Int32) (x0 : Nat) (h : zMm) (Q : Option Value → zMm → Prop), zWp d zi_129 none 44 [.ref l0] [.ref x2, .int x1, .ref x0] h Q = zWp d zi_129 none 45 [.ref l0] [.ref l0, .ref x2, .int x1, .ref x0] h Q) ∧
    (∀ (d : Nat) (l0 : Value) (x3 : Nat) (x2 : Nat) (x1 : Int32) (x0 : Nat) (I : Nat → Nat → Int32) (L : Nat → Nat → Int64) (P : Nat → Nat → Option Nat) (Q : Option Value → zMm → Prop), zSH[x3]? = some (.inl 10) → zWp d zi_129 none 45 [l0] [.ref x3, .ref x2, .int x1, .ref x0] (zSH, I, L, P) Q = zWp d zi_129 none 48 [l0] [.int (I x3 5), .ref x2, .int x1, .ref x0] (zSH, I, L, P) Q) ∧
    (∀ (d : Nat) (l0 : Value) (x3 : Int32) (x2 : Nat) (x1 : Int32) (x0 : Nat) (I : Nat → Nat → Int32) (L : Nat → Nat → Int64) (P : Nat → Nat → Option Nat) (Q : Option Value → zMm → Prop), zAk zSH x2 = some .int → zWp d zi_129 none 48 [l0] [.int x3, .ref x2, .int x1, .ref x0] (zSH, I, L, P) Q = (vp_in x3 (zAn zSH x2) ∧ zWp d zi_129 none 49 [l0] [.int (I x2 x3.toNatClampNeg), .int x1, .ref x0] (zSH, I, L, P) Q)) ∧
    (∀ (d : Nat) (l0 : Value) (x2 : Int32) (x1 : Int32) (x0 : Nat) (I : Nat → Nat → Int32) (L : Nat → Nat → Int64) (P : Nat → Nat → Option Nat) (Q : Option Value → zMm → Prop), zSH[x0]? = some (.inl 10) → zWp d zi_129 none 49 [l0] [.int x2, .int x1, .ref x0] (zSH, I, L, P) Q = zWM d 127 [.ref x0, .int x1, .int x2] (zSH, I, L, P) (fun r h1 => zWp d zi_129 none 52 [l0] (r.toList ++ []) h1 Q)) ∧
    (∀ (d : Nat) (l0 : Nat)  (h : zMm) (Q : Option Value → zMm → Prop), zWp d zi_129 none 52 [.ref l0] [] h Q = zWp d zi_129 none 53 [.ref l0] [.ref l0] h Q) ∧
    (∀ (d : Nat) (l0 : Value) (x0 : Nat) (h : zMm) (Q : Option Value → zMm → Prop), zWp d zi_129 none 53 [l0] [.ref x0] h Q = zWp d zi_129 none 54 [l0] [.ref x0, .ref x0] h Q) ∧
    (∀ (d : Nat) (l0 : Value) (x1 : Nat) (x0 : Nat) (I : Nat → Nat → Int32) (L : Nat → Nat → Int64) (P : Nat → Nat → Option Nat) (Q : Option Value → zMm → Prop), zSH[x1]? = some (.inl 10) → zWp d zi_129 none 54 [l0] [.ref x1, .ref x0] (zSH, I, L, P) Q = zWp d zi_129 none 57 [l0] [.int (I x1 5), .ref x0] (zSH, I, L, P) Q) ∧
    (∀ (d : Nat) (l0 : Value) (x1 : Int32) (x0 : Nat) (h : zMm) (Q : Option Value → zMm → Prop), zWp d zi_129 none 57 [l0] [.int x1, .ref x0] h Q = zWp d zi_129 none 58 [l0] [.int 1, .int x1, .ref x0] h Q) ∧
    (∀ (d : Nat) (l0 : Value) (x2 : Int32) (x1 : Int32) (x0 : Nat) (h : zMm) (Q : Option Value → zMm → Prop), zWp d zi_129 none 58 [l0] [.int x2, .int x1, .ref x0] h Q = zWp d zi_129 none 59 [l0] [.int (x1 + x2), .ref x0] h Q) ∧
    (∀ (d : Nat) (l0 : Value) (x1 : Int32) (x0 : Nat) (I : Nat → Nat → Int32) (L : Nat → Nat → Int64) (P : Nat → Nat → Option Nat) (Q : Option Value → zMm → Prop), zSH[x0]? = some (.inl 10) → zWp d zi_129 none 59 [l0] [.int x1, .ref x0] (zSH, I, L, P) Q = zWp d zi_129 none 62 [l0] [] (zSH, zw I x0 (upd (I x0) 5 x1), L, P) Q) ∧
    (∀ (d : Nat) (l0 : Nat)  (h : zMm) (Q : Option Value → zMm → Prop), zWp d zi_129 none 62 [.ref l0] [] h Q = zWp d zi_129 none 63 [.ref l0] [.ref l0] h Q) ∧
    (∀ (d : Nat) (l0 : Value) (x0 : Nat) (I : Nat → Nat → Int32) (L : Nat → Nat → Int64) (P : Nat → Nat → Option Nat) (Q : Option Value → zMm → Prop), zSH[x0]? = some (.inl 10) → zWp d zi_129 none 63 [l0] [.ref x0] (zSH, I, L, P) Q = zWp d zi_129 none 66 [l0] [.int (I x0 4)] (zSH, I, L, P) Q) ∧
    (∀ (d : Nat) (l0 : Nat) (x0 : Int32) (h : zMm) (Q : Option Value → zMm → Prop), zWp d zi_129 none 66 [.ref l0] [.int x0] h Q = zWp d zi_129 none 67 [.ref l0] [.ref l0, .int x0] h Q) ∧
    (∀ (d : Nat) (l0 : Value) (x1 : Nat) (x0 : Int32) (I : Nat → Nat → Int32) (L : Nat → Nat → Int64) (P : Nat → Nat → Option Nat) (Q : Option Value → zMm → Prop), zSH[x1]? = some (.inl 10) → zWp d zi_129 none 67 [l0] [.ref x1, .int x0] (zSH, I, L, P) Q = zWp d zi_129 none 70 [l0] [.int (I x1 5), .int x0] (zSH, I, L, P) Q) ∧
    (∀ (d : Nat) (l0 : Value) (x1 : Int32) (x0 : Int32) (h : zMm) (Q : Option Value → zMm → Prop), zWp d zi_129 none 70 [l0] [.int x1, .int x0] h Q = zWp d zi_129 none 71 [l0] [.int (x0 - x1)] h Q) ∧
    (∀ (d : Nat) (l0 : Value) (x0 : Int32) (h : zMm) (Q : Option Value → zMm → Prop), zWp d zi_129 none 71 [l0] [.int x0] h Q = Q (some (.int x0)) h) :=
  ⟨(fun d l0  h Q => zr_aload_n rfl rfl),
   (fun d l0 x0 I L P Q p0 => zr_getI rfl lf_10_93 (fun _ _ _ => rfl) p0),
   (fun d l0 x0 h Q => zr_aload_n rfl rfl),
   (fun d l0 x1 x0 I L P Q p0 => zr_getI rfl lf_10_96 (fun _ _ _ => rfl) p0),
   (fun d l0 x1 x0 h Q => zr_ic_eq rfl (by decide)),
   (fun d l0  h Q => zr_aload_n rfl rfl),
   (fun d l0 x0 h Q => zr_aload_n rfl rfl),
   (fun d l0 x1 x0 I L P Q p0 => zr_getQ rfl lf_10_13 (fun _ _ _ => rfl) p0),
   (fun d l0 x1 x0 h Q => zr_aload_n rfl rfl),
   (fun d l0 x2 x1 x0 I L P Q p0 => zr_getI rfl lf_10_93 (fun _ _ _ => rfl) p0),
   (fun d l0 x2 x1 x0 I L P Q p0 => zr_ald rfl p0),
   (fun d l0 x1 x0 I L P Q p0 => zr_vir (as := [.int x1]) (rest := []) rfl lm_10_102 m_126 kd_126 rfl (Nat.le_of_ble_eq_true rfl) p0),
   (fun d l0 x0 h Q => zr_if_ne rfl (by decide)),
   (fun d l0  h Q => zr_bipush rfl (by decide)),
   (fun d l0 x0 h Q => zr_iret rfl rfl),
   (fun d l0  h Q => zr_aload_n rfl rfl),
   (fun d l0 x0 h Q => zr_aload_n rfl rfl),
   (fun d l0 x1 x0 I L P Q p0 => zr_getQ rfl lf_10_13 (fun _ _ _ => rfl) p0),
   (fun d l0 x1 x0 h Q => zr_aload_n rfl rfl),
   (fun d l0 x2 x1 x0 I L P Q p0 => zr_getI rfl lf_10_93 (fun _ _ _ => rfl) p0),
   (fun d l0 x2 x1 x0 I L P Q p0 => zr_ald rfl p0),
   (fun d l0 x1 x0 h Q => zr_aload_n rfl rfl),
   (fun d l0 x2 x1 x0 I L P Q p0 => zr_getQ rfl lf_10_19 (fun _ _ _ => rfl) p0),
   (fun d l0 x2 x1 x0 h Q => zr_aload_n rfl rfl),
   (fun d l0 x3 x2 x1 x0 I L P Q p0 => zr_getI rfl lf_10_93 (fun _ _ _ => rfl) p0),
   (fun d l0 x3 x2 x1 x0 I L P Q p0 => zr_ald rfl p0),
   (fun d l0 x2 x1 x0 I L P Q p0 => zr_vir (as := [.int x2, .int x1]) (rest := []) rfl lm_10_106 m_127 kd_127 rfl (Nat.le_of_ble_eq_true rfl) p0),
   (fun d l0  h Q => zr_aload_n rfl rfl),
   (fun d l0 x0 h Q => zr_dup rfl rfl),
   (fun d l0 x1 x0 I L P Q p0 => zr_getI rfl lf_10_93 (fun _ _ _ => rfl) p0),
   (fun d l0 x1 x0 h Q => zr_iconst rfl (by decide)),
   (fun d l0 x2 x1 x0 h Q => zr_iadd rfl),
   (fun d l0 x1 x0 I L P Q p0 => zr_putI rfl lf_10_93 (by decide) rfl p0),
   (fun d l0  h Q => zr_aload_n rfl rfl),
   (fun d l0 x0 I L P Q p0 => zr_getI rfl lf_10_96 (fun _ _ _ => rfl) p0),
   (fun d l0 x0 h Q => zr_aload_n rfl rfl),
   (fun d l0 x1 x0 I L P Q p0 => zr_getI rfl lf_10_93 (fun _ _ _ => rfl) p0),
   (fun d l0 x1 x0 h Q => zr_isub rfl),
   (fun d l0 x0 h Q => zr_iret rfl rfl)⟩
theorem E_X10_isRound : ∀ (d : Nat) (a0 : Nat) (a1 : Int32) (h : zMm) (Q : Option Value → zMm → Prop), zWM (d + 1) 130 [.ref a0, .int a1] h Q = zWp d zi_130 none 0 [.ref a0, .int a1] [] h Q := fun d a0 a1 h Q => zW_M m_130 (Nat.le_of_ble_eq_true rfl) rfl
set_option maxRecDepth 100000 in
theorem R_X10_isRound :
    (∀ (d : Nat) (l0 : Value) (l1 : Int32)  (h : zMm) (Q : Option Value → zMm → Prop), zWp d zi_130 none 0 [l0, .int l1] [] h Q = zWp d zi_130 none 1 [l0, .int l1] [.int l1] h Q) ∧
    (∀ (d : Nat) (l0 : Value) (l1 : Value) (x0 : Int32) (h : zMm) (Q : Option Value → zMm → Prop), zWp d zi_130 none 1 [l0, l1] [.int x0] h Q = zWp d zi_130 none 2 [l0, l1] [.long x0.toInt64] h Q) ∧
    (∀ (d : Nat) (l0 : Value) (l1 : Value) (x0 : Int64) (h : zMm) (Q : Option Value → zMm → Prop), zWp d zi_130 none 2 [l0, l1] [.long x0] h Q = zWp d zi_130 none 3 [l0, l1] [.long 0, .long x0] h Q) ∧
    (∀ (d : Nat) (l0 : Nat) (l1 : Value) (x1 : Int64) (x0 : Int64) (h : zMm) (Q : Option Value → zMm → Prop), zWp d zi_130 none 3 [.ref l0, l1] [.long x1, .long x0] h Q = zWp d zi_130 none 4 [.ref l0, l1] [.ref l0, .long x1, .long x0] h Q) ∧
    (∀ (d : Nat) (l0 : Value) (l1 : Value) (x2 : Nat) (x1 : Int64) (x0 : Int64) (I : Nat → Nat → Int32) (L : Nat → Nat → Int64) (P : Nat → Nat → Option Nat) (Q : Option Value → zMm → Prop), zSH[x2]? = some (.inl 10) → zWp d zi_130 none 4 [l0, l1] [.ref x2, .long x1, .long x0] (zSH, I, L, P) Q = zWp d zi_130 none 7 [l0, l1] [.int (I x2 6), .long x1, .long x0] (zSH, I, L, P) Q) ∧
    (∀ (d : Nat) (l0 : Value) (l1 : Value) (x2 : Int32) (x1 : Int64) (x0 : Int64) (h : zMm) (Q : Option Value → zMm → Prop), zWp d zi_130 none 7 [l0, l1] [.int x2, .long x1, .long x0] h Q = zWp d zi_130 none 8 [l0, l1] [.int 1, .int x2, .long x1, .long x0] h Q) ∧
    (∀ (d : Nat) (l0 : Value) (l1 : Value) (x3 : Int32) (x2 : Int32) (x1 : Int64) (x0 : Int64) (h : zMm) (Q : Option Value → zMm → Prop), zWp d zi_130 none 8 [l0, l1] [.int x3, .int x2, .long x1, .long x0] h Q = zWp d zi_130 none 9 [l0, l1] [.int (x2 - x3), .long x1, .long x0] h Q) ∧
    (∀ (d : Nat) (l0 : Value) (l1 : Value) (x2 : Int32) (x1 : Int64) (x0 : Int64) (h : zMm) (Q : Option Value → zMm → Prop), zWp d zi_130 none 9 [l0, l1] [.int x2, .long x1, .long x0] h Q = zWp d zi_130 none 10 [l0, l1] [.long x2.toInt64, .long x1, .long x0] h Q) ∧
    (∀ (d : Nat) (l0 : Value) (l1 : Value) (x2 : Int64) (x1 : Int64) (x0 : Int64) (h : zMm) (Q : Option Value → zMm → Prop), zWp d zi_130 none 10 [l0, l1] [.long x2, .long x1, .long x0] h Q = zWM d 122 [.long x0, .long x1, .long x2] h (fun r h1 => zWp d zi_130 none 13 [l0, l1] (r.toList ++ []) h1 Q)) ∧
    (∀ (d : Nat) (l0 : Value) (l1 : Value) (x0 : Int32) (h : zMm) (Q : Option Value → zMm → Prop), x0 = 0 ∨ x0 = 1 → zWp d zi_130 none 13 [l0, l1] [.int x0] h Q = Q (some (.int x0)) h) :=
  ⟨(fun d l0 l1  h Q => zr_iload_n rfl rfl),
   (fun d l0 l1 x0 h Q => zr_i2l rfl),
   (fun d l0 l1 x0 h Q => zr_lconst rfl (by decide)),
   (fun d l0 l1 x1 x0 h Q => zr_aload_n rfl rfl),
   (fun d l0 l1 x2 x1 x0 I L P Q p0 => zr_getI rfl lf_10_99 (fun _ _ _ => rfl) p0),
   (fun d l0 l1 x2 x1 x0 h Q => zr_iconst rfl (by decide)),
   (fun d l0 l1 x3 x2 x1 x0 h Q => zr_isub rfl),
   (fun d l0 l1 x2 x1 x0 h Q => zr_i2l rfl),
   (fun d l0 l1 x2 x1 x0 h Q => zr_sta (as := [.long x2, .long x1, .long x0]) (rest := []) rfl lm_10_110 (by decide) m_122 kd_122 rfl (Nat.le_of_ble_eq_true rfl)),
   (fun d l0 l1 x0 h Q p0 => zr_zret rfl rfl p0)⟩
theorem E_X10_isPane : ∀ (d : Nat) (a0 : Nat) (a1 : Int32) (h : zMm) (Q : Option Value → zMm → Prop), zWM (d + 1) 131 [.ref a0, .int a1] h Q = zWp d zi_131 none 0 [.ref a0, .int a1] [] h Q := fun d a0 a1 h Q => zW_M m_131 (Nat.le_of_ble_eq_true rfl) rfl
set_option maxRecDepth 100000 in
theorem R_X10_isPane :
    (∀ (d : Nat) (l0 : Value) (l1 : Int32)  (h : zMm) (Q : Option Value → zMm → Prop), zWp d zi_131 none 0 [l0, .int l1] [] h Q = zWp d zi_131 none 1 [l0, .int l1] [.int l1] h Q) ∧
    (∀ (d : Nat) (l0 : Value) (l1 : Value) (x0 : Int32) (h : zMm) (Q : Option Value → zMm → Prop), zWp d zi_131 none 1 [l0, l1] [.int x0] h Q = zWp d zi_131 none 2 [l0, l1] [.long x0.toInt64] h Q) ∧
    (∀ (d : Nat) (l0 : Value) (l1 : Value) (x0 : Int64) (h : zMm) (Q : Option Value → zMm → Prop), zWp d zi_131 none 2 [l0, l1] [.long x0] h Q = zWp d zi_131 none 3 [l0, l1] [.long 0, .long x0] h Q) ∧
    (∀ (d : Nat) (l0 : Nat) (l1 : Value) (x1 : Int64) (x0 : Int64) (h : zMm) (Q : Option Value → zMm → Prop), zWp d zi_131 none 3 [.ref l0, l1] [.long x1, .long x0] h Q = zWp d zi_131 none 4 [.ref l0, l1] [.ref l0, .long x1, .long x0] h Q) ∧
    (∀ (d : Nat) (l0 : Value) (l1 : Value) (x2 : Nat) (x1 : Int64) (x0 : Int64) (I : Nat → Nat → Int32) (L : Nat → Nat → Int64) (P : Nat → Nat → Option Nat) (Q : Option Value → zMm → Prop), zSH[x2]? = some (.inl 10) → zWp d zi_131 none 4 [l0, l1] [.ref x2, .long x1, .long x0] (zSH, I, L, P) Q = zWp d zi_131 none 7 [l0, l1] [.int (I x2 10), .long x1, .long x0] (zSH, I, L, P) Q) ∧
    (∀ (d : Nat) (l0 : Value) (l1 : Value) (x2 : Int32) (x1 : Int64) (x0 : Int64) (h : zMm) (Q : Option Value → zMm → Prop), zWp d zi_131 none 7 [l0, l1] [.int x2, .long x1, .long x0] h Q = zWp d zi_131 none 8 [l0, l1] [.int 1, .int x2, .long x1, .long x0] h Q) ∧
    (∀ (d : Nat) (l0 : Value) (l1 : Value) (x3 : Int32) (x2 : Int32) (x1 : Int64) (x0 : Int64) (h : zMm) (Q : Option Value → zMm → Prop), zWp d zi_131 none 8 [l0, l1] [.int x3, .int x2, .long x1, .long x0] h Q = zWp d zi_131 none 9 [l0, l1] [.int (x2 - x3), .long x1, .long x0] h Q) ∧
    (∀ (d : Nat) (l0 : Value) (l1 : Value) (x2 : Int32) (x1 : Int64) (x0 : Int64) (h : zMm) (Q : Option Value → zMm → Prop), zWp d zi_131 none 9 [l0, l1] [.int x2, .long x1, .long x0] h Q = zWp d zi_131 none 10 [l0, l1] [.long x2.toInt64, .long x1, .long x0] h Q) ∧
    (∀ (d : Nat) (l0 : Value) (l1 : Value) (x2 : Int64) (x1 : Int64) (x0 : Int64) (h : zMm) (Q : Option Value → zMm → Prop), zWp d zi_131 none 10 [l0, l1] [.long x2, .long x1, .long x0] h Q = zWM d 122 [.long x0, .long x1, .long x2] h (fun r h1 => zWp d zi_131 none 13 [l0, l1] (r.toList ++ []) h1 Q)) ∧
    (∀ (d : Nat) (l0 : Value) (l1 : Value) (x0 : Int32) (h : zMm) (Q : Option Value → zMm → Prop), x0 = 0 ∨ x0 = 1 → zWp d zi_131 none 13 [l0, l1] [.int x0] h Q = Q (some (.int x0)) h) :=
  ⟨(fun d l0 l1  h Q => zr_iload_n rfl rfl),
   (fun d l0 l1 x0 h Q => zr_i2l rfl),
   (fun d l0 l1 x0 h Q => zr_lconst rfl (by decide)),
   (fun d l0 l1 x1 x0 h Q => zr_aload_n rfl rfl),
   (fun d l0 l1 x2 x1 x0 I L P Q p0 => zr_getI rfl lf_10_114 (fun _ _ _ => rfl) p0),
   (fun d l0 l1 x2 x1 x0 h Q => zr_iconst rfl (by decide)),
   (fun d l0 l1 x3 x2 x1 x0 h Q => zr_isub rfl),
   (fun d l0 l1 x2 x1 x0 h Q => zr_i2l rfl),
   (fun d l0 l1 x2 x1 x0 h Q => zr_sta (as := [.long x2, .long x1, .long x0]) (rest := []) rfl lm_10_110 (by decide) m_122 kd_122 rfl (Nat.le_of_ble_eq_true rfl)),
   (fun d l0 l1 x0 h Q p0 => zr_zret rfl rfl p0)⟩
theorem E_X10_isOne : ∀ (d : Nat) (a0 : Int64) (a1 : Int64) (a2 : Int64) (a3 : Int64) (h : zMm) (Q : Option Value → zMm → Prop), zWM (d + 1) 132 [.long a0, .long a1, .long a2, .long a3] h Q = zWp d zi_132 none 0 [.long a0, .retAddr 0, .long a1, .retAddr 0, .long a2, .retAddr 0, .long a3, .retAddr 0] [] h Q := fun d a0 a1 a2 a3 h Q => zW_M m_132 (Nat.le_of_ble_eq_true rfl) rfl
set_option maxRecDepth 100000 in
theorem R_X10_isOne :
    (∀ (d : Nat) (l0 : Int64) (l1 : Value) (l2 : Value) (l3 : Value) (l4 : Value) (l5 : Value) (l6 : Value) (l7 : Value)  (h : zMm) (Q : Option Value → zMm → Prop), zWp d zi_132 none 0 [.long l0, l1, l2, l3, l4, l5, l6, l7] [] h Q = zWp d zi_132 none 1 [.long l0, l1, l2, l3, l4, l5, l6, l7] [.long l0] h Q) ∧
    (∀ (d : Nat) (l0 : Value) (l1 : Value) (l2 : Value) (l3 : Value) (l4 : Value) (l5 : Value) (l6 : Value) (l7 : Value) (x0 : Int64) (h : zMm) (Q : Option Value → zMm → Prop), zWp d zi_132 none 1 [l0, l1, l2, l3, l4, l5, l6, l7] [.long x0] h Q = zWp d zi_132 none 2 [l0, l1, l2, l3, l4, l5, l6, l7] [.long 1, .long x0] h Q) ∧
    (∀ (d : Nat) (l0 : Value) (l1 : Value) (l2 : Value) (l3 : Value) (l4 : Value) (l5 : Value) (l6 : Value) (l7 : Value) (x1 : Int64) (x0 : Int64) (h : zMm) (Q : Option Value → zMm → Prop), zWp d zi_132 none 2 [l0, l1, l2, l3, l4, l5, l6, l7] [.long x1, .long x0] h Q = zWp d zi_132 none 5 [l0, l1, l2, l3, l4, l5, l6, l7] [.long 9, .long x1, .long x0] h Q) ∧
    (∀ (d : Nat) (l0 : Value) (l1 : Value) (l2 : Value) (l3 : Value) (l4 : Value) (l5 : Value) (l6 : Value) (l7 : Value) (x2 : Int64) (x1 : Int64) (x0 : Int64) (h : zMm) (Q : Option Value → zMm → Prop), zWp d zi_132 none 5 [l0, l1, l2, l3, l4, l5, l6, l7] [.long x2, .long x1, .long x0] h Q = zWM d 122 [.long x0, .long x1, .long x2] h (fun r h1 => zWp d zi_132 none 8 [l0, l1, l2, l3, l4, l5, l6, l7] (r.toList ++ []) h1 Q)) ∧
    (∀ (d : Nat) (l0 : Value) (l1 : Value) (l2 : Value) (l3 : Value) (l4 : Value) (l5 : Value) (l6 : Value) (l7 : Value) (x0 : Int32) (h : zMm) (Q : Option Value → zMm → Prop), zWp d zi_132 none 8 [l0, l1, l2, l3, l4, l5, l6, l7] [.int x0] h Q = if x0 = 0 then zWp d zi_132 none 52 [l0, l1, l2, l3, l4, l5, l6, l7] [] h Q else zWp d zi_132 none 11 [l0, l1, l2, l3, l4, l5, l6, l7] [] h Q) ∧
    (∀ (d : Nat) (l0 : Value) (l1 : Value) (l2 : Int64) (l3 : Value) (l4 : Value) (l5 : Value) (l6 : Value) (l7 : Value)  (h : zMm) (Q : Option Value → zMm → Prop), zWp d zi_132 none 11 [l0, l1, .long l2, l3, l4, l5, l6, l7] [] h Q = zWp d zi_132 none 12 [l0, l1, .long l2, l3, l4, l5, l6, l7] [.long l2] h Q) ∧
    (∀ (d : Nat) (l0 : Value) (l1 : Value) (l2 : Value) (l3 : Value) (l4 : Value) (l5 : Value) (l6 : Value) (l7 : Value) (x0 : Int64) (h : zMm) (Q : Option Value → zMm → Prop), zWp d zi_132 none 12 [l0, l1, l2, l3, l4, l5, l6, l7] [.long x0] h Q = zWp d zi_132 none 13 [l0, l1, l2, l3, l4, l5, l6, l7] [.long 0, .long x0] h Q) ∧
    (∀ (d : Nat) (l0 : Int64) (l1 : Value) (l2 : Value) (l3 : Value) (l4 : Value) (l5 : Value) (l6 : Value) (l7 : Value) (x1 : Int64) (x0 : Int64) (h : zMm) (Q : Option Value → zMm → Prop), zWp d zi_132 none 13 [.long l0, l1, l2, l3, l4, l5, l6, l7] [.long x1, .long x0] h Q = zWp d zi_132 none 14 [.long l0, l1, l2, l3, l4, l5, l6, l7] [.long l0, .long x1, .long x0] h Q) ∧
    (∀ (d : Nat) (l0 : Value) (l1 : Value) (l2 : Value) (l3 : Value) (l4 : Value) (l5 : Value) (l6 : Value) (l7 : Value) (x2 : Int64) (x1 : Int64) (x0 : Int64) (h : zMm) (Q : Option Value → zMm → Prop), zWp d zi_132 none 14 [l0, l1, l2, l3, l4, l5, l6, l7] [.long x2, .long x1, .long x0] h Q = zWM d 122 [.long x0, .long x1, .long x2] h (fun r h1 => zWp d zi_132 none 17 [l0, l1, l2, l3, l4, l5, l6, l7] (r.toList ++ []) h1 Q)) ∧
    (∀ (d : Nat) (l0 : Value) (l1 : Value) (l2 : Value) (l3 : Value) (l4 : Value) (l5 : Value) (l6 : Value) (l7 : Value) (x0 : Int32) (h : zMm) (Q : Option Value → zMm → Prop), zWp d zi_132 none 17 [l0, l1, l2, l3, l4, l5, l6, l7] [.int x0] h Q = if x0 = 0 then zWp d zi_132 none 52 [l0, l1, l2, l3, l4, l5, l6, l7] [] h Q else zWp d zi_132 none 20 [l0, l1, l2, l3, l4, l5, l6, l7] [] h Q) ∧
    (∀ (d : Nat) (l0 : Value) (l1 : Value) (l2 : Value) (l3 : Value) (l4 : Int64) (l5 : Value) (l6 : Value) (l7 : Value)  (h : zMm) (Q : Option Value → zMm → Prop), zWp d zi_132 none 20 [l0, l1, l2, l3, .long l4, l5, l6, l7] [] h Q = zWp d zi_132 none 22 [l0, l1, l2, l3, .long l4, l5, l6, l7] [.long l4] h Q) ∧
    (∀ (d : Nat) (l0 : Value) (l1 : Value) (l2 : Value) (l3 : Value) (l4 : Value) (l5 : Value) (l6 : Value) (l7 : Value) (x0 : Int64) (h : zMm) (Q : Option Value → zMm → Prop), zWp d zi_132 none 22 [l0, l1, l2, l3, l4, l5, l6, l7] [.long x0] h Q = zWp d zi_132 none 25 [l0, l1, l2, l3, l4, l5, l6, l7] [.long (-4), .long x0] h Q) ∧
    (∀ (d : Nat) (l0 : Value) (l1 : Value) (l2 : Value) (l3 : Value) (l4 : Value) (l5 : Value) (l6 : Value) (l7 : Value) (x1 : Int64) (x0 : Int64) (h : zMm) (Q : Option Value → zMm → Prop), zWp d zi_132 none 25 [l0, l1, l2, l3, l4, l5, l6, l7] [.long x1, .long x0] h Q = zWp d zi_132 none 28 [l0, l1, l2, l3, l4, l5, l6, l7] [.long 4, .long x1, .long x0] h Q) ∧
    (∀ (d : Nat) (l0 : Value) (l1 : Value) (l2 : Value) (l3 : Value) (l4 : Value) (l5 : Value) (l6 : Value) (l7 : Value) (x2 : Int64) (x1 : Int64) (x0 : Int64) (h : zMm) (Q : Option Value → zMm → Prop), zWp d zi_132 none 28 [l0, l1, l2, l3, l4, l5, l6, l7] [.long x2, .long x1, .long x0] h Q = zWM d 122 [.long x0, .long x1, .long x2] h (fun r h1 => zWp d zi_132 none 31 [l0, l1, l2, l3, l4, l5, l6, l7] (r.toList ++ []) h1 Q)) ∧
    (∀ (d : Nat) (l0 : Value) (l1 : Value) (l2 : Value) (l3 : Value) (l4 : Value) (l5 : Value) (l6 : Value) (l7 : Value) (x0 : Int32) (h : zMm) (Q : Option Value → zMm → Prop), zWp d zi_132 none 31 [l0, l1, l2, l3, l4, l5, l6, l7] [.int x0] h Q = if x0 = 0 then zWp d zi_132 none 52 [l0, l1, l2, l3, l4, l5, l6, l7] [] h Q else zWp d zi_132 none 34 [l0, l1, l2, l3, l4, l5, l6, l7] [] h Q) ∧
    (∀ (d : Nat) (l0 : Value) (l1 : Value) (l2 : Value) (l3 : Value) (l4 : Value) (l5 : Value) (l6 : Int64) (l7 : Value)  (h : zMm) (Q : Option Value → zMm → Prop), zWp d zi_132 none 34 [l0, l1, l2, l3, l4, l5, .long l6, l7] [] h Q = zWp d zi_132 none 36 [l0, l1, l2, l3, l4, l5, .long l6, l7] [.long l6] h Q) ∧
    (∀ (d : Nat) (l0 : Value) (l1 : Value) (l2 : Value) (l3 : Value) (l4 : Value) (l5 : Value) (l6 : Value) (l7 : Value) (x0 : Int64) (h : zMm) (Q : Option Value → zMm → Prop), zWp d zi_132 none 36 [l0, l1, l2, l3, l4, l5, l6, l7] [.long x0] h Q = zWp d zi_132 none 39 [l0, l1, l2, l3, l4, l5, l6, l7] [.long (-4), .long x0] h Q) ∧
    (∀ (d : Nat) (l0 : Value) (l1 : Value) (l2 : Value) (l3 : Value) (l4 : Value) (l5 : Value) (l6 : Value) (l7 : Value) (x1 : Int64) (x0 : Int64) (h : zMm) (Q : Option Value → zMm → Prop), zWp d zi_132 none 39 [l0, l1, l2, l3, l4, l5, l6, l7] [.long x1, .long x0] h Q = zWp d zi_132 none 42 [l0, l1, l2, l3, l4, l5, l6, l7] [.long 4, .long x1, .long x0] h Q) ∧
    (∀ (d : Nat) (l0 : Value) (l1 : Value) (l2 : Value) (l3 : Value) (l4 : Value) (l5 : Value) (l6 : Value) (l7 : Value) (x2 : Int64) (x1 : Int64) (x0 : Int64) (h : zMm) (Q : Option Value → zMm → Prop), zWp d zi_132 none 42 [l0, l1, l2, l3, l4, l5, l6, l7] [.long x2, .long x1, .long x0] h Q = zWM d 122 [.long x0, .long x1, .long x2] h (fun r h1 => zWp d zi_132 none 45 [l0, l1, l2, l3, l4, l5, l6, l7] (r.toList ++ []) h1 Q)) ∧
    (∀ (d : Nat) (l0 : Value) (l1 : Value) (l2 : Value) (l3 : Value) (l4 : Value) (l5 : Value) (l6 : Value) (l7 : Value) (x0 : Int32) (h : zMm) (Q : Option Value → zMm → Prop), zWp d zi_132 none 45 [l0, l1, l2, l3, l4, l5, l6, l7] [.int x0] h Q = if x0 = 0 then zWp d zi_132 none 52 [l0, l1, l2, l3, l4, l5, l6, l7] [] h Q else zWp d zi_132 none 48 [l0, l1, l2, l3, l4, l5, l6, l7] [] h Q) ∧
    (∀ (d : Nat) (l0 : Value) (l1 : Value) (l2 : Value) (l3 : Value) (l4 : Value) (l5 : Value) (l6 : Value) (l7 : Value)  (h : zMm) (Q : Option Value → zMm → Prop), zWp d zi_132 none 48 [l0, l1, l2, l3, l4, l5, l6, l7] [] h Q = zWp d zi_132 none 49 [l0, l1, l2, l3, l4, l5, l6, l7] [.int 1] h Q) ∧
    (∀ (d : Nat) (l0 : Value) (l1 : Value) (l2 : Value) (l3 : Value) (l4 : Value) (l5 : Value) (l6 : Value) (l7 : Value) (x0 : Int32) (h : zMm) (Q : Option Value → zMm → Prop), zWp d zi_132 none 49 [l0, l1, l2, l3, l4, l5, l6, l7] [.int x0] h Q = zWp d zi_132 none 53 [l0, l1, l2, l3, l4, l5, l6, l7] [.int x0] h Q) ∧
    (∀ (d : Nat) (l0 : Value) (l1 : Value) (l2 : Value) (l3 : Value) (l4 : Value) (l5 : Value) (l6 : Value) (l7 : Value)  (h : zMm) (Q : Option Value → zMm → Prop), zWp d zi_132 none 52 [l0, l1, l2, l3, l4, l5, l6, l7] [] h Q = zWp d zi_132 none 53 [l0, l1, l2, l3, l4, l5, l6, l7] [.int 0] h Q) ∧
    (∀ (d : Nat) (l0 : Value) (l1 : Value) (l2 : Value) (l3 : Value) (l4 : Value) (l5 : Value) (l6 : Value) (l7 : Value) (x0 : Int32) (h : zMm) (Q : Option Value → zMm → Prop), x0 = 0 ∨ x0 = 1 → zWp d zi_132 none 53 [l0, l1, l2, l3, l4, l5, l6, l7] [.int x0] h Q = Q (some (.int x0)) h) :=
  ⟨(fun d l0 l1 l2 l3 l4 l5 l6 l7  h Q => zr_lload_n rfl rfl),
   (fun d l0 l1 l2 l3 l4 l5 l6 l7 x0 h Q => zr_lconst rfl (by decide)),
   (fun d l0 l1 l2 l3 l4 l5 l6 l7 x1 x0 h Q => zr_ldc2_w rfl lj_10_117),
   (fun d l0 l1 l2 l3 l4 l5 l6 l7 x2 x1 x0 h Q => zr_sta (as := [.long x2, .long x1, .long x0]) (rest := []) rfl lm_10_110 (by decide) m_122 kd_122 rfl (Nat.le_of_ble_eq_true rfl)),
   (fun d l0 l1 l2 l3 l4 l5 l6 l7 x0 h Q => zr_if_eq rfl (by decide)),
   (fun d l0 l1 l2 l3 l4 l5 l6 l7  h Q => zr_lload_n rfl rfl),
   (fun d l0 l1 l2 l3 l4 l5 l6 l7 x0 h Q => zr_lconst rfl (by decide)),
   (fun d l0 l1 l2 l3 l4 l5 l6 l7 x1 x0 h Q => zr_lload_n rfl rfl),
   (fun d l0 l1 l2 l3 l4 l5 l6 l7 x2 x1 x0 h Q => zr_sta (as := [.long x2, .long x1, .long x0]) (rest := []) rfl lm_10_110 (by decide) m_122 kd_122 rfl (Nat.le_of_ble_eq_true rfl)),
   (fun d l0 l1 l2 l3 l4 l5 l6 l7 x0 h Q => zr_if_eq rfl (by decide)),
   (fun d l0 l1 l2 l3 l4 l5 l6 l7  h Q => zr_lload rfl rfl),
   (fun d l0 l1 l2 l3 l4 l5 l6 l7 x0 h Q => zr_ldc2_w rfl lj_10_119),
   (fun d l0 l1 l2 l3 l4 l5 l6 l7 x1 x0 h Q => zr_ldc2_w rfl lj_10_121),
   (fun d l0 l1 l2 l3 l4 l5 l6 l7 x2 x1 x0 h Q => zr_sta (as := [.long x2, .long x1, .long x0]) (rest := []) rfl lm_10_110 (by decide) m_122 kd_122 rfl (Nat.le_of_ble_eq_true rfl)),
   (fun d l0 l1 l2 l3 l4 l5 l6 l7 x0 h Q => zr_if_eq rfl (by decide)),
   (fun d l0 l1 l2 l3 l4 l5 l6 l7  h Q => zr_lload rfl rfl),
   (fun d l0 l1 l2 l3 l4 l5 l6 l7 x0 h Q => zr_ldc2_w rfl lj_10_119),
   (fun d l0 l1 l2 l3 l4 l5 l6 l7 x1 x0 h Q => zr_ldc2_w rfl lj_10_121),
   (fun d l0 l1 l2 l3 l4 l5 l6 l7 x2 x1 x0 h Q => zr_sta (as := [.long x2, .long x1, .long x0]) (rest := []) rfl lm_10_110 (by decide) m_122 kd_122 rfl (Nat.le_of_ble_eq_true rfl)),
   (fun d l0 l1 l2 l3 l4 l5 l6 l7 x0 h Q => zr_if_eq rfl (by decide)),
   (fun d l0 l1 l2 l3 l4 l5 l6 l7  h Q => zr_iconst rfl (by decide)),
   (fun d l0 l1 l2 l3 l4 l5 l6 l7 x0 h Q => zr_goto rfl (by decide)),
   (fun d l0 l1 l2 l3 l4 l5 l6 l7  h Q => zr_iconst rfl (by decide)),
   (fun d l0 l1 l2 l3 l4 l5 l6 l7 x0 h Q p0 => zr_zret rfl rfl p0)⟩
theorem E_X10_adds : ∀ (d : Nat) (a0 : Nat) (a1 : Int32) (a2 : Int32) (a3 : Int32) (a4 : Int32) (h : zMm) (Q : Option Value → zMm → Prop), zWM (d + 1) 133 [.ref a0, .int a1, .int a2, .int a3, .int a4] h Q = zWp d zi_133 none 0 [.ref a0, .int a1, .int a2, .int a3, .int a4] [] h Q := fun d a0 a1 a2 a3 a4 h Q => zW_M m_133 (Nat.le_of_ble_eq_true rfl) rfl
set_option maxRecDepth 100000 in
theorem R_X10_adds :
    (∀ (d : Nat) (l0 : Nat) (l1 : Value) (l2 : Value) (l3 : Value) (l4 : Value)  (h : zMm) (Q : Option Value → zMm → Prop), zWp d zi_133 none 0 [.ref l0, l1, l2, l3, l4] [] h Q = zWp d zi_133 none 1 [.ref l0, l1, l2, l3, l4] [.ref l0] h Q) ∧
    (∀ (d : Nat) (l0 : Value) (l1 : Value) (l2 : Value) (l3 : Value) (l4 : Value) (x0 : Nat) (I : Nat → Nat → Int32) (L : Nat → Nat → Int64) (P : Nat → Nat → Option Nat) (Q : Option Value → zMm → Prop), zSH[x0]? = some (.inl 10) → zWp d zi_133 none 1 [l0, l1, l2, l3, l4] [.ref x0] (zSH, I, L, P) Q = zWp d zi_133 none 4 [l0, l1, l2, l3, l4] [va_rf (P x0 7)] (zSH, I, L, P) Q) ∧
    (∀ (d : Nat) (l0 : Nat) (l1 : Value) (l2 : Value) (l3 : Value) (l4 : Value) (x0 : Nat) (h : zMm) (Q : Option Value → zMm → Prop), zWp d zi_133 none 4 [.ref l0, l1, l2, l3, l4] [.ref x0] h Q = zWp d zi_133 none 5 [.ref l0, l1, l2, l3, l4] [.ref l0, .ref x0] h Q) ∧
    (∀ (d : Nat) (l0 : Value) (l1 : Value) (l2 : Value) (l3 : Value) (l4 : Value) (x1 : Nat) (x0 : Nat) (I : Nat → Nat → Int32) (L : Nat → Nat → Int64) (P : Nat → Nat → Option Nat) (Q : Option Value → zMm → Prop), zSH[x1]? = some (.inl 10) → zWp d zi_133 none 5 [l0, l1, l2, l3, l4] [.ref x1, .ref x0] (zSH, I, L, P) Q = zWp d zi_133 none 8 [l0, l1, l2, l3, l4] [.int (I x1 6), .ref x0] (zSH, I, L, P) Q) ∧
    (∀ (d : Nat) (l0 : Value) (l1 : Int32) (l2 : Value) (l3 : Value) (l4 : Value) (x1 : Int32) (x0 : Nat) (h : zMm) (Q : Option Value → zMm → Prop), zWp d zi_133 none 8 [l0, .int l1, l2, l3, l4] [.int x1, .ref x0] h Q = zWp d zi_133 none 9 [l0, .int l1, l2, l3, l4] [.int l1, .int x1, .ref x0] h Q) ∧
    (∀ (d : Nat) (l0 : Value) (l1 : Value) (l2 : Value) (l3 : Value) (l4 : Value) (x2 : Int32) (x1 : Int32) (x0 : Nat) (I : Nat → Nat → Int32) (L : Nat → Nat → Int64) (P : Nat → Nat → Option Nat) (Q : Option Value → zMm → Prop), zAk zSH x0 = some .int → zWp d zi_133 none 9 [l0, l1, l2, l3, l4] [.int x2, .int x1, .ref x0] (zSH, I, L, P) Q = (vp_in x1 (zAn zSH x0) ∧ zWp d zi_133 none 10 [l0, l1, l2, l3, l4] [] (zSH, zw I x0 (upd (I x0) x1.toNatClampNeg x2), L, P) Q)) ∧
    (∀ (d : Nat) (l0 : Nat) (l1 : Value) (l2 : Value) (l3 : Value) (l4 : Value)  (h : zMm) (Q : Option Value → zMm → Prop), zWp d zi_133 none 10 [.ref l0, l1, l2, l3, l4] [] h Q = zWp d zi_133 none 11 [.ref l0, l1, l2, l3, l4] [.ref l0] h Q) ∧
    (∀ (d : Nat) (l0 : Value) (l1 : Value) (l2 : Value) (l3 : Value) (l4 : Value) (x0 : Nat) (I : Nat → Nat → Int32) (L : Nat → Nat → Int64) (P : Nat → Nat → Option Nat) (Q : Option Value → zMm → Prop), zSH[x0]? = some (.inl 10) → zWp d zi_133 none 11 [l0, l1, l2, l3, l4] [.ref x0] (zSH, I, L, P) Q = zWp d zi_133 none 14 [l0, l1, l2, l3, l4] [va_rf (P x0 0)] (zSH, I, L, P) Q) ∧
    (∀ (d : Nat) (l0 : Nat) (l1 : Value) (l2 : Value) (l3 : Value) (l4 : Value) (x0 : Nat) (h : zMm) (Q : Option Value → zMm → Prop), zWp d zi_133 none 14 [.ref l0, l1, l2, l3, l4] [.ref x0] h Q = zWp d zi_133 none 15 [.ref l0, l1, l2, l3, l4] [.ref l0, .ref x0] h Q) ∧
    (∀ (d : Nat) (l0 : Value) (l1 : Value) (l2 : Value) (l3 : Value) (l4 : Value) (x1 : Nat) (x0 : Nat) (I : Nat → Nat → Int32) (L : Nat → Nat → Int64) (P : Nat → Nat → Option Nat) (Q : Option Value → zMm → Prop), zSH[x1]? = some (.inl 10) → zWp d zi_133 none 15 [l0, l1, l2, l3, l4] [.ref x1, .ref x0] (zSH, I, L, P) Q = zWp d zi_133 none 18 [l0, l1, l2, l3, l4] [.int (I x1 6), .ref x0] (zSH, I, L, P) Q) ∧
    (∀ (d : Nat) (l0 : Value) (l1 : Value) (l2 : Value) (l3 : Int32) (l4 : Value) (x1 : Int32) (x0 : Nat) (h : zMm) (Q : Option Value → zMm → Prop), zWp d zi_133 none 18 [l0, l1, l2, .int l3, l4] [.int x1, .ref x0] h Q = zWp d zi_133 none 19 [l0, l1, l2, .int l3, l4] [.int l3, .int x1, .ref x0] h Q) ∧
    (∀ (d : Nat) (l0 : Value) (l1 : Value) (l2 : Value) (l3 : Value) (l4 : Value) (x2 : Int32) (x1 : Int32) (x0 : Nat) (I : Nat → Nat → Int32) (L : Nat → Nat → Int64) (P : Nat → Nat → Option Nat) (Q : Option Value → zMm → Prop), zAk zSH x0 = some .int → zWp d zi_133 none 19 [l0, l1, l2, l3, l4] [.int x2, .int x1, .ref x0] (zSH, I, L, P) Q = (vp_in x1 (zAn zSH x0) ∧ zWp d zi_133 none 20 [l0, l1, l2, l3, l4] [] (zSH, zw I x0 (upd (I x0) x1.toNatClampNeg x2), L, P) Q)) ∧
    (∀ (d : Nat) (l0 : Nat) (l1 : Value) (l2 : Value) (l3 : Value) (l4 : Value)  (h : zMm) (Q : Option Value → zMm → Prop), zWp d zi_133 none 20 [.ref l0, l1, l2, l3, l4] [] h Q = zWp d zi_133 none 21 [.ref l0, l1, l2, l3, l4] [.ref l0] h Q) ∧
    (∀ (d : Nat) (l0 : Value) (l1 : Value) (l2 : Value) (l3 : Value) (l4 : Value) (x0 : Nat) (I : Nat → Nat → Int32) (L : Nat → Nat → Int64) (P : Nat → Nat → Option Nat) (Q : Option Value → zMm → Prop), zSH[x0]? = some (.inl 10) → zWp d zi_133 none 21 [l0, l1, l2, l3, l4] [.ref x0] (zSH, I, L, P) Q = zWp d zi_133 none 24 [l0, l1, l2, l3, l4] [va_rf (P x0 0)] (zSH, I, L, P) Q) ∧
    (∀ (d : Nat) (l0 : Value) (l1 : Value) (l2 : Value) (l3 : Value) (l4 : Value) (x0 : Nat) (h : zMm) (Q : Option Value → zMm → Prop), zWp d zi_133 none 24 [l0, l1, l2, l3, l4] [.ref x0] h Q = zWp d zi_133 none 26 [l0, l1, l2, l3, l4] [.int 24, .ref x0] h Q) ∧
    (∀ (d : Nat) (l0 : Nat) (l1 : Value) (l2 : Value) (l3 : Value) (l4 : Value) (x1 : Int32) (x0 : Nat) (h : zMm) (Q : Option Value → zMm → Prop), zWp d zi_133 none 26 [.ref l0, l1, l2, l3, l4] [.int x1, .ref x0] h Q = zWp d zi_133 none 27 [.ref l0, l1, l2, l3, l4] [.ref l0, .int x1, .ref x0] h Q) ∧
    (∀ (d : Nat) (l0 : Value) (l1 : Value) (l2 : Value) (l3 : Value) (l4 : Value) (x2 : Nat) (x1 : Int32) (x0 : Nat) (I : Nat → Nat → Int32) (L : Nat → Nat → Int64) (P : Nat → Nat → Option Nat) (Q : Option Value → zMm → Prop), zSH[x2]? = some (.inl 10) → zWp d zi_133 none 27 [l0, l1, l2, l3, l4] [.ref x2, .int x1, .ref x0] (zSH, I, L, P) Q = zWp d zi_133 none 30 [l0, l1, l2, l3, l4] [.int (I x2 6), .int x1, .ref x0] (zSH, I, L, P) Q) ∧
    (∀ (d : Nat) (l0 : Value) (l1 : Value) (l2 : Value) (l3 : Value) (l4 : Value) (x2 : Int32) (x1 : Int32) (x0 : Nat) (h : zMm) (Q : Option Value → zMm → Prop), zWp d zi_133 none 30 [l0, l1, l2, l3, l4] [.int x2, .int x1, .ref x0] h Q = zWp d zi_133 none 31 [l0, l1, l2, l3, l4] [.int (x1 + x2), .ref x0] h Q) ∧
    (∀ (d : Nat) (l0 : Value) (l1 : Value) (l2 : Value) (l3 : Value) (l4 : Int32) (x1 : Int32) (x0 : Nat) (h : zMm) (Q : Option Value → zMm → Prop), zWp d zi_133 none 31 [l0, l1, l2, l3, .int l4] [.int x1, .ref x0] h Q = zWp d zi_133 none 33 [l0, l1, l2, l3, .int l4] [.int l4, .int x1, .ref x0] h Q) ∧
    (∀ (d : Nat) (l0 : Value) (l1 : Value) (l2 : Value) (l3 : Value) (l4 : Value) (x2 : Int32) (x1 : Int32) (x0 : Nat) (I : Nat → Nat → Int32) (L : Nat → Nat → Int64) (P : Nat → Nat → Option Nat) (Q : Option Value → zMm → Prop), zAk zSH x0 = some .int → zWp d zi_133 none 33 [l0, l1, l2, l3, l4] [.int x2, .int x1, .ref x0] (zSH, I, L, P) Q = (vp_in x1 (zAn zSH x0) ∧ zWp d zi_133 none 34 [l0, l1, l2, l3, l4] [] (zSH, zw I x0 (upd (I x0) x1.toNatClampNeg x2), L, P) Q)) ∧
    (∀ (d : Nat) (l0 : Nat) (l1 : Value) (l2 : Value) (l3 : Value) (l4 : Value)  (h : zMm) (Q : Option Value → zMm → Prop), zWp d zi_133 none 34 [.ref l0, l1, l2, l3, l4] [] h Q = zWp d zi_133 none 35 [.ref l0, l1, l2, l3, l4] [.ref l0] h Q) ∧
    (∀ (d : Nat) (l0 : Value) (l1 : Value) (l2 : Value) (l3 : Value) (l4 : Value) (x0 : Nat) (I : Nat → Nat → Int32) (L : Nat → Nat → Int64) (P : Nat → Nat → Option Nat) (Q : Option Value → zMm → Prop), zSH[x0]? = some (.inl 10) → zWp d zi_133 none 35 [l0, l1, l2, l3, l4] [.ref x0] (zSH, I, L, P) Q = zWp d zi_133 none 38 [l0, l1, l2, l3, l4] [va_rf (P x0 0)] (zSH, I, L, P) Q) ∧
    (∀ (d : Nat) (l0 : Value) (l1 : Value) (l2 : Value) (l3 : Value) (l4 : Value) (x0 : Nat) (h : zMm) (Q : Option Value → zMm → Prop), zWp d zi_133 none 38 [l0, l1, l2, l3, l4] [.ref x0] h Q = zWp d zi_133 none 40 [l0, l1, l2, l3, l4] [.int 48, .ref x0] h Q) ∧
    (∀ (d : Nat) (l0 : Nat) (l1 : Value) (l2 : Value) (l3 : Value) (l4 : Value) (x1 : Int32) (x0 : Nat) (h : zMm) (Q : Option Value → zMm → Prop), zWp d zi_133 none 40 [.ref l0, l1, l2, l3, l4] [.int x1, .ref x0] h Q = zWp d zi_133 none 41 [.ref l0, l1, l2, l3, l4] [.ref l0, .int x1, .ref x0] h Q) ∧
    (∀ (d : Nat) (l0 : Value) (l1 : Value) (l2 : Value) (l3 : Value) (l4 : Value) (x2 : Nat) (x1 : Int32) (x0 : Nat) (I : Nat → Nat → Int32) (L : Nat → Nat → Int64) (P : Nat → Nat → Option Nat) (Q : Option Value → zMm → Prop), zSH[x2]? = some (.inl 10) → zWp d zi_133 none 41 [l0, l1, l2, l3, l4] [.ref x2, .int x1, .ref x0] (zSH, I, L, P) Q = zWp d zi_133 none 44 [l0, l1, l2, l3, l4] [.int (I x2 6), .int x1, .ref x0] (zSH, I, L, P) Q) ∧
    (∀ (d : Nat) (l0 : Value) (l1 : Value) (l2 : Value) (l3 : Value) (l4 : Value) (x2 : Int32) (x1 : Int32) (x0 : Nat) (h : zMm) (Q : Option Value → zMm → Prop), zWp d zi_133 none 44 [l0, l1, l2, l3, l4] [.int x2, .int x1, .ref x0] h Q = zWp d zi_133 none 45 [l0, l1, l2, l3, l4] [.int (x1 + x2), .ref x0] h Q) ∧
    (∀ (d : Nat) (l0 : Value) (l1 : Value) (l2 : Int32) (l3 : Value) (l4 : Value) (x1 : Int32) (x0 : Nat) (h : zMm) (Q : Option Value → zMm → Prop), zWp d zi_133 none 45 [l0, l1, .int l2, l3, l4] [.int x1, .ref x0] h Q = zWp d zi_133 none 46 [l0, l1, .int l2, l3, l4] [.int l2, .int x1, .ref x0] h Q) ∧
    (∀ (d : Nat) (l0 : Value) (l1 : Value) (l2 : Value) (l3 : Value) (l4 : Value) (x2 : Int32) (x1 : Int32) (x0 : Nat) (I : Nat → Nat → Int32) (L : Nat → Nat → Int64) (P : Nat → Nat → Option Nat) (Q : Option Value → zMm → Prop), zAk zSH x0 = some .int → zWp d zi_133 none 46 [l0, l1, l2, l3, l4] [.int x2, .int x1, .ref x0] (zSH, I, L, P) Q = (vp_in x1 (zAn zSH x0) ∧ zWp d zi_133 none 47 [l0, l1, l2, l3, l4] [] (zSH, zw I x0 (upd (I x0) x1.toNatClampNeg x2), L, P) Q)) ∧
    (∀ (d : Nat) (l0 : Nat) (l1 : Value) (l2 : Value) (l3 : Value) (l4 : Value)  (h : zMm) (Q : Option Value → zMm → Prop), zWp d zi_133 none 47 [.ref l0, l1, l2, l3, l4] [] h Q = zWp d zi_133 none 48 [.ref l0, l1, l2, l3, l4] [.ref l0] h Q) ∧
    (∀ (d : Nat) (l0 : Value) (l1 : Value) (l2 : Value) (l3 : Value) (l4 : Value) (x0 : Nat) (h : zMm) (Q : Option Value → zMm → Prop), zWp d zi_133 none 48 [l0, l1, l2, l3, l4] [.ref x0] h Q = zWp d zi_133 none 49 [l0, l1, l2, l3, l4] [.ref x0, .ref x0] h Q) ∧
    (∀ (d : Nat) (l0 : Value) (l1 : Value) (l2 : Value) (l3 : Value) (l4 : Value) (x1 : Nat) (x0 : Nat) (I : Nat → Nat → Int32) (L : Nat → Nat → Int64) (P : Nat → Nat → Option Nat) (Q : Option Value → zMm → Prop), zSH[x1]? = some (.inl 10) → zWp d zi_133 none 49 [l0, l1, l2, l3, l4] [.ref x1, .ref x0] (zSH, I, L, P) Q = zWp d zi_133 none 52 [l0, l1, l2, l3, l4] [.int (I x1 6), .ref x0] (zSH, I, L, P) Q) ∧
    (∀ (d : Nat) (l0 : Value) (l1 : Value) (l2 : Value) (l3 : Value) (l4 : Value) (x1 : Int32) (x0 : Nat) (h : zMm) (Q : Option Value → zMm → Prop), zWp d zi_133 none 52 [l0, l1, l2, l3, l4] [.int x1, .ref x0] h Q = zWp d zi_133 none 53 [l0, l1, l2, l3, l4] [.int 1, .int x1, .ref x0] h Q) ∧
    (∀ (d : Nat) (l0 : Value) (l1 : Value) (l2 : Value) (l3 : Value) (l4 : Value) (x2 : Int32) (x1 : Int32) (x0 : Nat) (h : zMm) (Q : Option Value → zMm → Prop), zWp d zi_133 none 53 [l0, l1, l2, l3, l4] [.int x2, .int x1, .ref x0] h Q = zWp d zi_133 none 54 [l0, l1, l2, l3, l4] [.int (x1 + x2), .ref x0] h Q) ∧
    (∀ (d : Nat) (l0 : Value) (l1 : Value) (l2 : Value) (l3 : Value) (l4 : Value) (x1 : Int32) (x0 : Nat) (I : Nat → Nat → Int32) (L : Nat → Nat → Int64) (P : Nat → Nat → Option Nat) (Q : Option Value → zMm → Prop), zSH[x0]? = some (.inl 10) → zWp d zi_133 none 54 [l0, l1, l2, l3, l4] [.int x1, .ref x0] (zSH, I, L, P) Q = zWp d zi_133 none 57 [l0, l1, l2, l3, l4] [] (zSH, zw I x0 (upd (I x0) 6 x1), L, P) Q) ∧
    (∀ (d : Nat) (l0 : Value) (l1 : Value) (l2 : Value) (l3 : Value) (l4 : Value)  (h : zMm) (Q : Option Value → zMm → Prop), zWp d zi_133 none 57 [l0, l1, l2, l3, l4] [] h Q = Q none h) :=
  ⟨(fun d l0 l1 l2 l3 l4  h Q => zr_aload_n rfl rfl),
   (fun d l0 l1 l2 l3 l4 x0 I L P Q p0 => zr_getQ rfl lf_10_22 (fun _ _ _ => rfl) p0),
   (fun d l0 l1 l2 l3 l4 x0 h Q => zr_aload_n rfl rfl),
   (fun d l0 l1 l2 l3 l4 x1 x0 I L P Q p0 => zr_getI rfl lf_10_99 (fun _ _ _ => rfl) p0),
   (fun d l0 l1 l2 l3 l4 x1 x0 h Q => zr_iload_n rfl rfl),
   (fun d l0 l1 l2 l3 l4 x2 x1 x0 I L P Q p0 => zr_ast rfl p0),
   (fun d l0 l1 l2 l3 l4  h Q => zr_aload_n rfl rfl),
   (fun d l0 l1 l2 l3 l4 x0 I L P Q p0 => zr_getQ rfl lf_10_9 (fun _ _ _ => rfl) p0),
   (fun d l0 l1 l2 l3 l4 x0 h Q => zr_aload_n rfl rfl),
   (fun d l0 l1 l2 l3 l4 x1 x0 I L P Q p0 => zr_getI rfl lf_10_99 (fun _ _ _ => rfl) p0),
   (fun d l0 l1 l2 l3 l4 x1 x0 h Q => zr_iload_n rfl rfl),
   (fun d l0 l1 l2 l3 l4 x2 x1 x0 I L P Q p0 => zr_ast rfl p0),
   (fun d l0 l1 l2 l3 l4  h Q => zr_aload_n rfl rfl),
   (fun d l0 l1 l2 l3 l4 x0 I L P Q p0 => zr_getQ rfl lf_10_9 (fun _ _ _ => rfl) p0),
   (fun d l0 l1 l2 l3 l4 x0 h Q => zr_bipush rfl (by decide)),
   (fun d l0 l1 l2 l3 l4 x1 x0 h Q => zr_aload_n rfl rfl),
   (fun d l0 l1 l2 l3 l4 x2 x1 x0 I L P Q p0 => zr_getI rfl lf_10_99 (fun _ _ _ => rfl) p0),
   (fun d l0 l1 l2 l3 l4 x2 x1 x0 h Q => zr_iadd rfl),
   (fun d l0 l1 l2 l3 l4 x1 x0 h Q => zr_iload rfl rfl),
   (fun d l0 l1 l2 l3 l4 x2 x1 x0 I L P Q p0 => zr_ast rfl p0),
   (fun d l0 l1 l2 l3 l4  h Q => zr_aload_n rfl rfl),
   (fun d l0 l1 l2 l3 l4 x0 I L P Q p0 => zr_getQ rfl lf_10_9 (fun _ _ _ => rfl) p0),
   (fun d l0 l1 l2 l3 l4 x0 h Q => zr_bipush rfl (by decide)),
   (fun d l0 l1 l2 l3 l4 x1 x0 h Q => zr_aload_n rfl rfl),
   (fun d l0 l1 l2 l3 l4 x2 x1 x0 I L P Q p0 => zr_getI rfl lf_10_99 (fun _ _ _ => rfl) p0),
   (fun d l0 l1 l2 l3 l4 x2 x1 x0 h Q => zr_iadd rfl),
   (fun d l0 l1 l2 l3 l4 x1 x0 h Q => zr_iload_n rfl rfl),
   (fun d l0 l1 l2 l3 l4 x2 x1 x0 I L P Q p0 => zr_ast rfl p0),
   (fun d l0 l1 l2 l3 l4  h Q => zr_aload_n rfl rfl),
   (fun d l0 l1 l2 l3 l4 x0 h Q => zr_dup rfl rfl),
   (fun d l0 l1 l2 l3 l4 x1 x0 I L P Q p0 => zr_getI rfl lf_10_99 (fun _ _ _ => rfl) p0),
   (fun d l0 l1 l2 l3 l4 x1 x0 h Q => zr_iconst rfl (by decide)),
   (fun d l0 l1 l2 l3 l4 x2 x1 x0 h Q => zr_iadd rfl),
   (fun d l0 l1 l2 l3 l4 x1 x0 I L P Q p0 => zr_putI rfl lf_10_99 (by decide) rfl p0),
   (fun d l0 l1 l2 l3 l4  h Q => zr_vret rfl rfl)⟩
theorem E_X10_build : ∀ (d : Nat) (a0 : Nat) (a1 : Int32) (a2 : Int32) (h : zMm) (Q : Option Value → zMm → Prop), zWM (d + 1) 134 [.ref a0, .int a1, .int a2] h Q = zWp d zi_134 none 0 [.ref a0, .int a1, .int a2] [] h Q := fun d a0 a1 a2 h Q => zW_M m_134 (Nat.le_of_ble_eq_true rfl) rfl
set_option maxRecDepth 100000 in
theorem R_X10_build :
    (∀ (d : Nat) (l0 : Value) (l1 : Int32) (l2 : Value)  (h : zMm) (Q : Option Value → zMm → Prop), zWp d zi_134 none 0 [l0, .int l1, l2] [] h Q = zWp d zi_134 none 1 [l0, .int l1, l2] [.int l1] h Q) ∧
    (∀ (d : Nat) (l0 : Value) (l1 : Value) (l2 : Value) (x0 : Int32) (h : zMm) (Q : Option Value → zMm → Prop), zWp d zi_134 none 1 [l0, l1, l2] [.int x0] h Q = if x0 < 0 then zWp d zi_134 none 38 [l0, l1, l2] [] h Q else zWp d zi_134 none 4 [l0, l1, l2] [] h Q) ∧
    (∀ (d : Nat) (l0 : Value) (l1 : Value) (l2 : Int32)  (h : zMm) (Q : Option Value → zMm → Prop), zWp d zi_134 none 4 [l0, l1, .int l2] [] h Q = zWp d zi_134 none 5 [l0, l1, .int l2] [.int l2] h Q) ∧
    (∀ (d : Nat) (l0 : Value) (l1 : Value) (l2 : Value) (x0 : Int32) (h : zMm) (Q : Option Value → zMm → Prop), zWp d zi_134 none 5 [l0, l1, l2] [.int x0] h Q = if x0 < 0 then zWp d zi_134 none 38 [l0, l1, l2] [] h Q else zWp d zi_134 none 8 [l0, l1, l2] [] h Q) ∧
    (∀ (d : Nat) (l0 : Value) (l1 : Int32) (l2 : Value)  (h : zMm) (Q : Option Value → zMm → Prop), zWp d zi_134 none 8 [l0, .int l1, l2] [] h Q = zWp d zi_134 none 9 [l0, .int l1, l2] [.int l1] h Q) ∧
    (∀ (d : Nat) (l0 : Value) (l1 : Value) (l2 : Value) (x0 : Int32) (h : zMm) (Q : Option Value → zMm → Prop), zWp d zi_134 none 9 [l0, l1, l2] [.int x0] h Q = zWp d zi_134 none 11 [l0, l1, l2] [.int 10, .int x0] h Q) ∧
    (∀ (d : Nat) (l0 : Value) (l1 : Value) (l2 : Value) (x1 : Int32) (x0 : Int32) (h : zMm) (Q : Option Value → zMm → Prop), zWp d zi_134 none 11 [l0, l1, l2] [.int x1, .int x0] h Q = (¬ x1 = 0 ∧ zWp d zi_134 none 12 [l0, l1, l2] [.int (x0 / x1)] h Q)) ∧
    (∀ (d : Nat) (l0 : Value) (l1 : Value) (l2 : Value) (x0 : Int32) (h : zMm) (Q : Option Value → zMm → Prop), zWp d zi_134 none 12 [l0, l1, l2] [.int x0] h Q = zWp d zi_134 none 13 [l0, l1, l2] [.long x0.toInt64] h Q) ∧
    (∀ (d : Nat) (l0 : Value) (l1 : Int32) (l2 : Value) (x0 : Int64) (h : zMm) (Q : Option Value → zMm → Prop), zWp d zi_134 none 13 [l0, .int l1, l2] [.long x0] h Q = zWp d zi_134 none 14 [l0, .int l1, l2] [.int l1, .long x0] h Q) ∧
    (∀ (d : Nat) (l0 : Value) (l1 : Value) (l2 : Value) (x1 : Int32) (x0 : Int64) (h : zMm) (Q : Option Value → zMm → Prop), zWp d zi_134 none 14 [l0, l1, l2] [.int x1, .long x0] h Q = zWp d zi_134 none 16 [l0, l1, l2] [.int 10, .int x1, .long x0] h Q) ∧
    (∀ (d : Nat) (l0 : Value) (l1 : Value) (l2 : Value) (x2 : Int32) (x1 : Int32) (x0 : Int64) (h : zMm) (Q : Option Value → zMm → Prop), zWp d zi_134 none 16 [l0, l1, l2] [.int x2, .int x1, .long x0] h Q = (¬ x2 = 0 ∧ zWp d zi_134 none 17 [l0, l1, l2] [.int (x1 - x1 / x2 * x2), .long x0] h Q)) ∧
    (∀ (d : Nat) (l0 : Value) (l1 : Value) (l2 : Value) (x1 : Int32) (x0 : Int64) (h : zMm) (Q : Option Value → zMm → Prop), zWp d zi_134 none 17 [l0, l1, l2] [.int x1, .long x0] h Q = zWp d zi_134 none 18 [l0, l1, l2] [.long x1.toInt64, .long x0] h Q) ∧
    (∀ (d : Nat) (l0 : Value) (l1 : Value) (l2 : Int32) (x1 : Int64) (x0 : Int64) (h : zMm) (Q : Option Value → zMm → Prop), zWp d zi_134 none 18 [l0, l1, .int l2] [.long x1, .long x0] h Q = zWp d zi_134 none 19 [l0, l1, .int l2] [.int l2, .long x1, .long x0] h Q) ∧
    (∀ (d : Nat) (l0 : Value) (l1 : Value) (l2 : Value) (x2 : Int32) (x1 : Int64) (x0 : Int64) (h : zMm) (Q : Option Value → zMm → Prop), zWp d zi_134 none 19 [l0, l1, l2] [.int x2, .long x1, .long x0] h Q = zWp d zi_134 none 21 [l0, l1, l2] [.int 10, .int x2, .long x1, .long x0] h Q) ∧
    (∀ (d : Nat) (l0 : Value) (l1 : Value) (l2 : Value) (x3 : Int32) (x2 : Int32) (x1 : Int64) (x0 : Int64) (h : zMm) (Q : Option Value → zMm → Prop), zWp d zi_134 none 21 [l0, l1, l2] [.int x3, .int x2, .long x1, .long x0] h Q = (¬ x3 = 0 ∧ zWp d zi_134 none 22 [l0, l1, l2] [.int (x2 / x3), .long x1, .long x0] h Q)) ∧
    (∀ (d : Nat) (l0 : Value) (l1 : Value) (l2 : Value) (x2 : Int32) (x1 : Int64) (x0 : Int64) (h : zMm) (Q : Option Value → zMm → Prop), zWp d zi_134 none 22 [l0, l1, l2] [.int x2, .long x1, .long x0] h Q = zWp d zi_134 none 23 [l0, l1, l2] [.int 4, .int x2, .long x1, .long x0] h Q) ∧
    (∀ (d : Nat) (l0 : Value) (l1 : Value) (l2 : Value) (x3 : Int32) (x2 : Int32) (x1 : Int64) (x0 : Int64) (h : zMm) (Q : Option Value → zMm → Prop), zWp d zi_134 none 23 [l0, l1, l2] [.int x3, .int x2, .long x1, .long x0] h Q = zWp d zi_134 none 24 [l0, l1, l2] [.int (x2 - x3), .long x1, .long x0] h Q) ∧
    (∀ (d : Nat) (l0 : Value) (l1 : Value) (l2 : Value) (x2 : Int32) (x1 : Int64) (x0 : Int64) (h : zMm) (Q : Option Value → zMm → Prop), zWp d zi_134 none 24 [l0, l1, l2] [.int x2, .long x1, .long x0] h Q = zWp d zi_134 none 25 [l0, l1, l2] [.long x2.toInt64, .long x1, .long x0] h Q) ∧
    (∀ (d : Nat) (l0 : Value) (l1 : Value) (l2 : Int32) (x2 : Int64) (x1 : Int64) (x0 : Int64) (h : zMm) (Q : Option Value → zMm → Prop), zWp d zi_134 none 25 [l0, l1, .int l2] [.long x2, .long x1, .long x0] h Q = zWp d zi_134 none 26 [l0, l1, .int l2] [.int l2, .long x2, .long x1, .long x0] h Q) ∧
    (∀ (d : Nat) (l0 : Value) (l1 : Value) (l2 : Value) (x3 : Int32) (x2 : Int64) (x1 : Int64) (x0 : Int64) (h : zMm) (Q : Option Value → zMm → Prop), zWp d zi_134 none 26 [l0, l1, l2] [.int x3, .long x2, .long x1, .long x0] h Q = zWp d zi_134 none 28 [l0, l1, l2] [.int 10, .int x3, .long x2, .long x1, .long x0] h Q) ∧
    (∀ (d : Nat) (l0 : Value) (l1 : Value) (l2 : Value) (x4 : Int32) (x3 : Int32) (x2 : Int64) (x1 : Int64) (x0 : Int64) (h : zMm) (Q : Option Value → zMm → Prop), zWp d zi_134 none 28 [l0, l1, l2] [.int x4, .int x3, .long x2, .long x1, .long x0] h Q = (¬ x4 = 0 ∧ zWp d zi_134 none 29 [l0, l1, l2] [.int (x3 - x3 / x4 * x4), .long x2, .long x1, .long x0] h Q)) ∧
    (∀ (d : Nat) (l0 : Value) (l1 : Value) (l2 : Value) (x3 : Int32) (x2 : Int64) (x1 : Int64) (x0 : Int64) (h : zMm) (Q : Option Value → zMm → Prop), zWp d zi_134 none 29 [l0, l1, l2] [.int x3, .long x2, .long x1, .long x0] h Q = zWp d zi_134 none 30 [l0, l1, l2] [.int 4, .int x3, .long x2, .long x1, .long x0] h Q) ∧
    (∀ (d : Nat) (l0 : Value) (l1 : Value) (l2 : Value) (x4 : Int32) (x3 : Int32) (x2 : Int64) (x1 : Int64) (x0 : Int64) (h : zMm) (Q : Option Value → zMm → Prop), zWp d zi_134 none 30 [l0, l1, l2] [.int x4, .int x3, .long x2, .long x1, .long x0] h Q = zWp d zi_134 none 31 [l0, l1, l2] [.int (x3 - x4), .long x2, .long x1, .long x0] h Q) ∧
    (∀ (d : Nat) (l0 : Value) (l1 : Value) (l2 : Value) (x3 : Int32) (x2 : Int64) (x1 : Int64) (x0 : Int64) (h : zMm) (Q : Option Value → zMm → Prop), zWp d zi_134 none 31 [l0, l1, l2] [.int x3, .long x2, .long x1, .long x0] h Q = zWp d zi_134 none 32 [l0, l1, l2] [.long x3.toInt64, .long x2, .long x1, .long x0] h Q) ∧
    (∀ (d : Nat) (l0 : Value) (l1 : Value) (l2 : Value) (x3 : Int64) (x2 : Int64) (x1 : Int64) (x0 : Int64) (h : zMm) (Q : Option Value → zMm → Prop), zWp d zi_134 none 32 [l0, l1, l2] [.long x3, .long x2, .long x1, .long x0] h Q = zWM d 132 [.long x0, .long x1, .long x2, .long x3] h (fun r h1 => zWp d zi_134 none 35 [l0, l1, l2] (r.toList ++ []) h1 Q)) ∧
    (∀ (d : Nat) (l0 : Value) (l1 : Value) (l2 : Value) (x0 : Int32) (h : zMm) (Q : Option Value → zMm → Prop), zWp d zi_134 none 35 [l0, l1, l2] [.int x0] h Q = if x0 = 0 then zWp d zi_134 none 38 [l0, l1, l2] [] h Q else zWp d zi_134 none 40 [l0, l1, l2] [] h Q) ∧
    (∀ (d : Nat) (l0 : Value) (l1 : Value) (l2 : Value)  (h : zMm) (Q : Option Value → zMm → Prop), zWp d zi_134 none 38 [l0, l1, l2] [] h Q = zWp d zi_134 none 39 [l0, l1, l2] [.int (-1)] h Q) ∧
    (∀ (d : Nat) (l0 : Value) (l1 : Value) (l2 : Value) (x0 : Int32) (h : zMm) (Q : Option Value → zMm → Prop), zWp d zi_134 none 39 [l0, l1, l2] [.int x0] h Q = Q (some (.int x0)) h) ∧
    (∀ (d : Nat) (l0 : Nat) (l1 : Value) (l2 : Value)  (h : zMm) (Q : Option Value → zMm → Prop), zWp d zi_134 none 40 [.ref l0, l1, l2] [] h Q = zWp d zi_134 none 41 [.ref l0, l1, l2] [.ref l0] h Q) ∧
    (∀ (d : Nat) (l0 : Value) (l1 : Value) (l2 : Value) (x0 : Nat) (I : Nat → Nat → Int32) (L : Nat → Nat → Int64) (P : Nat → Nat → Option Nat) (Q : Option Value → zMm → Prop), zSH[x0]? = some (.inl 10) → zWp d zi_134 none 41 [l0, l1, l2] [.ref x0] (zSH, I, L, P) Q = zWp d zi_134 none 44 [l0, l1, l2] [.int (I x0 6)] (zSH, I, L, P) Q) ∧
    (∀ (d : Nat) (l0 : Value) (l1 : Value) (l2 : Value) (x0 : Int32) (h : zMm) (Q : Option Value → zMm → Prop), zWp d zi_134 none 44 [l0, l1, l2] [.int x0] h Q = zWp d zi_134 none 46 [l0, l1, l2] [.int 24, .int x0] h Q) ∧
    (∀ (d : Nat) (l0 : Value) (l1 : Value) (l2 : Value) (x1 : Int32) (x0 : Int32) (h : zMm) (Q : Option Value → zMm → Prop), zWp d zi_134 none 46 [l0, l1, l2] [.int x1, .int x0] h Q = if x0 = x1 then zWp d zi_134 none 49 [l0, l1, l2] [] h Q else zWp d zi_134 none 52 [l0, l1, l2] [] h Q) ∧
    (∀ (d : Nat) (l0 : Value) (l1 : Value) (l2 : Value)  (h : zMm) (Q : Option Value → zMm → Prop), zWp d zi_134 none 49 [l0, l1, l2] [] h Q = zWp d zi_134 none 51 [l0, l1, l2] [.int (-3)] h Q) ∧
    (∀ (d : Nat) (l0 : Value) (l1 : Value) (l2 : Value) (x0 : Int32) (h : zMm) (Q : Option Value → zMm → Prop), zWp d zi_134 none 51 [l0, l1, l2] [.int x0] h Q = Q (some (.int x0)) h) ∧
    (∀ (d : Nat) (l0 : Value) (l1 : Int32) (l2 : Value)  (h : zMm) (Q : Option Value → zMm → Prop), zWp d zi_134 none 52 [l0, .int l1, l2] [] h Q = zWp d zi_134 none 53 [l0, .int l1, l2] [.int l1] h Q) ∧
    (∀ (d : Nat) (l0 : Value) (l1 : Value) (l2 : Value) (x0 : Int32) (h : zMm) (Q : Option Value → zMm → Prop), zWp d zi_134 none 53 [l0, l1, l2] [.int x0] h Q = zWp d zi_134 none 55 [l0, l1, l2] [.int 10, .int x0] h Q) ∧
    (∀ (d : Nat) (l0 : Value) (l1 : Value) (l2 : Value) (x1 : Int32) (x0 : Int32) (h : zMm) (Q : Option Value → zMm → Prop), zWp d zi_134 none 55 [l0, l1, l2] [.int x1, .int x0] h Q = (¬ x1 = 0 ∧ zWp d zi_134 none 56 [l0, l1, l2] [.int (x0 / x1)] h Q)) ∧
    (∀ (d : Nat) (l0 : Value) (l1 : Int32) (l2 : Value) (x0 : Int32) (h : zMm) (Q : Option Value → zMm → Prop), zWp d zi_134 none 56 [l0, .int l1, l2] [.int x0] h Q = zWp d zi_134 none 57 [l0, .int l1, l2] [.int l1, .int x0] h Q) ∧
    (∀ (d : Nat) (l0 : Value) (l1 : Value) (l2 : Value) (x1 : Int32) (x0 : Int32) (h : zMm) (Q : Option Value → zMm → Prop), zWp d zi_134 none 57 [l0, l1, l2] [.int x1, .int x0] h Q = zWp d zi_134 none 59 [l0, l1, l2] [.int 10, .int x1, .int x0] h Q) ∧
    (∀ (d : Nat) (l0 : Value) (l1 : Value) (l2 : Value) (x2 : Int32) (x1 : Int32) (x0 : Int32) (h : zMm) (Q : Option Value → zMm → Prop), zWp d zi_134 none 59 [l0, l1, l2] [.int x2, .int x1, .int x0] h Q = (¬ x2 = 0 ∧ zWp d zi_134 none 60 [l0, l1, l2] [.int (x1 - x1 / x2 * x2), .int x0] h Q)) ∧
    (∀ (d : Nat) (l0 : Value) (l1 : Value) (l2 : Value) (x1 : Int32) (x0 : Int32) (h : zMm) (Q : Option Value → zMm → Prop), zWp d zi_134 none 60 [l0, l1, l2] [.int x1, .int x0] h Q = zWp d zi_134 none 61 [l0, l1, l2] [.int (x0 - x1)] h Q) ∧
    (∀ (d : Nat) (l0 : Nat) (l1 : Value) (l2 : Value) (x0 : Int32) (h : zMm) (Q : Option Value → zMm → Prop), zWp d zi_134 none 61 [.ref l0, l1, l2] [.int x0] h Q = zWp d zi_134 none 62 [.ref l0, l1, l2] [.ref l0, .int x0] h Q) ∧
    (∀ (d : Nat) (l0 : Value) (l1 : Value) (l2 : Value) (x1 : Nat) (x0 : Int32) (I : Nat → Nat → Int32) (L : Nat → Nat → Int64) (P : Nat → Nat → Option Nat) (Q : Option Value → zMm → Prop), zSH[x1]? = some (.inl 10) → zWp d zi_134 none 62 [l0, l1, l2] [.ref x1, .int x0] (zSH, I, L, P) Q = zWp d zi_134 none 65 [l0, l1, l2] [.int (I x1 8), .int x0] (zSH, I, L, P) Q) ∧
    (∀ (d : Nat) (l0 : Value) (l1 : Value) (l2 : Value) (x1 : Int32) (x0 : Int32) (h : zMm) (Q : Option Value → zMm → Prop), zWp d zi_134 none 65 [l0, l1, l2] [.int x1, .int x0] h Q = if x1 < x0 then zWp d zi_134 none 79 [l0, l1, l2] [] h Q else zWp d zi_134 none 68 [l0, l1, l2] [] h Q) ∧
    (∀ (d : Nat) (l0 : Value) (l1 : Int32) (l2 : Value)  (h : zMm) (Q : Option Value → zMm → Prop), zWp d zi_134 none 68 [l0, .int l1, l2] [] h Q = zWp d zi_134 none 69 [l0, .int l1, l2] [.int l1] h Q) ∧
    (∀ (d : Nat) (l0 : Value) (l1 : Value) (l2 : Value) (x0 : Int32) (h : zMm) (Q : Option Value → zMm → Prop), zWp d zi_134 none 69 [l0, l1, l2] [.int x0] h Q = zWp d zi_134 none 71 [l0, l1, l2] [.int 10, .int x0] h Q) ∧
    (∀ (d : Nat) (l0 : Value) (l1 : Value) (l2 : Value) (x1 : Int32) (x0 : Int32) (h : zMm) (Q : Option Value → zMm → Prop), zWp d zi_134 none 71 [l0, l1, l2] [.int x1, .int x0] h Q = (¬ x1 = 0 ∧ zWp d zi_134 none 72 [l0, l1, l2] [.int (x0 - x0 / x1 * x1)] h Q)) ∧
    (∀ (d : Nat) (l0 : Nat) (l1 : Value) (l2 : Value) (x0 : Int32) (h : zMm) (Q : Option Value → zMm → Prop), zWp d zi_134 none 72 [.ref l0, l1, l2] [.int x0] h Q = zWp d zi_134 none 73 [.ref l0, l1, l2] [.ref l0, .int x0] h Q) ∧
    (∀ (d : Nat) (l0 : Value) (l1 : Value) (l2 : Value) (x1 : Nat) (x0 : Int32) (I : Nat → Nat → Int32) (L : Nat → Nat → Int64) (P : Nat → Nat → Option Nat) (Q : Option Value → zMm → Prop), zSH[x1]? = some (.inl 10) → zWp d zi_134 none 73 [l0, l1, l2] [.ref x1, .int x0] (zSH, I, L, P) Q = zWp d zi_134 none 76 [l0, l1, l2] [.int (I x1 9), .int x0] (zSH, I, L, P) Q) ∧
    (∀ (d : Nat) (l0 : Value) (l1 : Value) (l2 : Value) (x1 : Int32) (x0 : Int32) (h : zMm) (Q : Option Value → zMm → Prop), zWp d zi_134 none 76 [l0, l1, l2] [.int x1, .int x0] h Q = if x0 ≤ x1 then zWp d zi_134 none 82 [l0, l1, l2] [] h Q else zWp d zi_134 none 79 [l0, l1, l2] [] h Q) ∧
    (∀ (d : Nat) (l0 : Value) (l1 : Value) (l2 : Value)  (h : zMm) (Q : Option Value → zMm → Prop), zWp d zi_134 none 79 [l0, l1, l2] [] h Q = zWp d zi_134 none 81 [l0, l1, l2] [.int (-5)] h Q) ∧
    (∀ (d : Nat) (l0 : Value) (l1 : Value) (l2 : Value) (x0 : Int32) (h : zMm) (Q : Option Value → zMm → Prop), zWp d zi_134 none 81 [l0, l1, l2] [.int x0] h Q = Q (some (.int x0)) h) ∧
    (∀ (d : Nat) (l0 : Nat) (l1 : Value) (l2 : Value)  (h : zMm) (Q : Option Value → zMm → Prop), zWp d zi_134 none 82 [.ref l0, l1, l2] [] h Q = zWp d zi_134 none 83 [.ref l0, l1, l2] [.ref l0] h Q) ∧
    (∀ (d : Nat) (l0 : Value) (l1 : Value) (l2 : Value) (x0 : Nat) (h : zMm) (Q : Option Value → zMm → Prop), zWp d zi_134 none 83 [l0, l1, l2] [.ref x0] h Q = zWp d zi_134 none 84 [l0, l1, l2] [.ref x0, .ref x0] h Q) ∧
    (∀ (d : Nat) (l0 : Value) (l1 : Value) (l2 : Value) (x1 : Nat) (x0 : Nat) (I : Nat → Nat → Int32) (L : Nat → Nat → Int64) (P : Nat → Nat → Option Nat) (Q : Option Value → zMm → Prop), zSH[x1]? = some (.inl 10) → zWp d zi_134 none 84 [l0, l1, l2] [.ref x1, .ref x0] (zSH, I, L, P) Q = zWp d zi_134 none 87 [l0, l1, l2] [.int (I x1 8), .ref x0] (zSH, I, L, P) Q) ∧
    (∀ (d : Nat) (l0 : Value) (l1 : Int32) (l2 : Value) (x1 : Int32) (x0 : Nat) (h : zMm) (Q : Option Value → zMm → Prop), zWp d zi_134 none 87 [l0, .int l1, l2] [.int x1, .ref x0] h Q = zWp d zi_134 none 88 [l0, .int l1, l2] [.int l1, .int x1, .ref x0] h Q) ∧
    (∀ (d : Nat) (l0 : Value) (l1 : Value) (l2 : Value) (x2 : Int32) (x1 : Int32) (x0 : Nat) (h : zMm) (Q : Option Value → zMm → Prop), zWp d zi_134 none 88 [l0, l1, l2] [.int x2, .int x1, .ref x0] h Q = zWp d zi_134 none 90 [l0, l1, l2] [.int 10, .int x2, .int x1, .ref x0] h Q) ∧
    (∀ (d : Nat) (l0 : Value) (l1 : Value) (l2 : Value) (x3 : Int32) (x2 : Int32) (x1 : Int32) (x0 : Nat) (h : zMm) (Q : Option Value → zMm → Prop), zWp d zi_134 none 90 [l0, l1, l2] [.int x3, .int x2, .int x1, .ref x0] h Q = (¬ x3 = 0 ∧ zWp d zi_134 none 91 [l0, l1, l2] [.int (x2 / x3), .int x1, .ref x0] h Q)) ∧
    (∀ (d : Nat) (l0 : Value) (l1 : Int32) (l2 : Value) (x2 : Int32) (x1 : Int32) (x0 : Nat) (h : zMm) (Q : Option Value → zMm → Prop), zWp d zi_134 none 91 [l0, .int l1, l2] [.int x2, .int x1, .ref x0] h Q = zWp d zi_134 none 92 [l0, .int l1, l2] [.int l1, .int x2, .int x1, .ref x0] h Q) ∧
    (∀ (d : Nat) (l0 : Value) (l1 : Value) (l2 : Value) (x3 : Int32) (x2 : Int32) (x1 : Int32) (x0 : Nat) (h : zMm) (Q : Option Value → zMm → Prop), zWp d zi_134 none 92 [l0, l1, l2] [.int x3, .int x2, .int x1, .ref x0] h Q = zWp d zi_134 none 94 [l0, l1, l2] [.int 10, .int x3, .int x2, .int x1, .ref x0] h Q) ∧
    (∀ (d : Nat) (l0 : Value) (l1 : Value) (l2 : Value) (x4 : Int32) (x3 : Int32) (x2 : Int32) (x1 : Int32) (x0 : Nat) (h : zMm) (Q : Option Value → zMm → Prop), zWp d zi_134 none 94 [l0, l1, l2] [.int x4, .int x3, .int x2, .int x1, .ref x0] h Q = (¬ x4 = 0 ∧ zWp d zi_134 none 95 [l0, l1, l2] [.int (x3 - x3 / x4 * x4), .int x2, .int x1, .ref x0] h Q)) ∧
    (∀ (d : Nat) (l0 : Value) (l1 : Value) (l2 : Value) (x3 : Int32) (x2 : Int32) (x1 : Int32) (x0 : Nat) (h : zMm) (Q : Option Value → zMm → Prop), zWp d zi_134 none 95 [l0, l1, l2] [.int x3, .int x2, .int x1, .ref x0] h Q = zWp d zi_134 none 96 [l0, l1, l2] [.int (x2 - x3), .int x1, .ref x0] h Q) ∧
    (∀ (d : Nat) (l0 : Value) (l1 : Value) (l2 : Value) (x2 : Int32) (x1 : Int32) (x0 : Nat) (h : zMm) (Q : Option Value → zMm → Prop), zWp d zi_134 none 96 [l0, l1, l2] [.int x2, .int x1, .ref x0] h Q = zWp d zi_134 none 97 [l0, l1, l2] [.int (x1 - x2), .ref x0] h Q) ∧
    (∀ (d : Nat) (l0 : Value) (l1 : Value) (l2 : Value) (x1 : Int32) (x0 : Nat) (I : Nat → Nat → Int32) (L : Nat → Nat → Int64) (P : Nat → Nat → Option Nat) (Q : Option Value → zMm → Prop), zSH[x0]? = some (.inl 10) → zWp d zi_134 none 97 [l0, l1, l2] [.int x1, .ref x0] (zSH, I, L, P) Q = zWp d zi_134 none 100 [l0, l1, l2] [] (zSH, zw I x0 (upd (I x0) 8 x1), L, P) Q) ∧
    (∀ (d : Nat) (l0 : Nat) (l1 : Value) (l2 : Value)  (h : zMm) (Q : Option Value → zMm → Prop), zWp d zi_134 none 100 [.ref l0, l1, l2] [] h Q = zWp d zi_134 none 101 [.ref l0, l1, l2] [.ref l0] h Q) ∧
    (∀ (d : Nat) (l0 : Value) (l1 : Value) (l2 : Value) (x0 : Nat) (h : zMm) (Q : Option Value → zMm → Prop), zWp d zi_134 none 101 [l0, l1, l2] [.ref x0] h Q = zWp d zi_134 none 102 [l0, l1, l2] [.ref x0, .ref x0] h Q) ∧
    (∀ (d : Nat) (l0 : Value) (l1 : Value) (l2 : Value) (x1 : Nat) (x0 : Nat) (I : Nat → Nat → Int32) (L : Nat → Nat → Int64) (P : Nat → Nat → Option Nat) (Q : Option Value → zMm → Prop), zSH[x1]? = some (.inl 10) → zWp d zi_134 none 102 [l0, l1, l2] [.ref x1, .ref x0] (zSH, I, L, P) Q = zWp d zi_134 none 105 [l0, l1, l2] [.int (I x1 9), .ref x0] (zSH, I, L, P) Q) ∧
    (∀ (d : Nat) (l0 : Value) (l1 : Int32) (l2 : Value) (x1 : Int32) (x0 : Nat) (h : zMm) (Q : Option Value → zMm → Prop), zWp d zi_134 none 105 [l0, .int l1, l2] [.int x1, .ref x0] h Q = zWp d zi_134 none 106 [l0, .int l1, l2] [.int l1, .int x1, .ref x0] h Q) ∧
    (∀ (d : Nat) (l0 : Value) (l1 : Value) (l2 : Value) (x2 : Int32) (x1 : Int32) (x0 : Nat) (h : zMm) (Q : Option Value → zMm → Prop), zWp d zi_134 none 106 [l0, l1, l2] [.int x2, .int x1, .ref x0] h Q = zWp d zi_134 none 108 [l0, l1, l2] [.int 10, .int x2, .int x1, .ref x0] h Q) ∧
    (∀ (d : Nat) (l0 : Value) (l1 : Value) (l2 : Value) (x3 : Int32) (x2 : Int32) (x1 : Int32) (x0 : Nat) (h : zMm) (Q : Option Value → zMm → Prop), zWp d zi_134 none 108 [l0, l1, l2] [.int x3, .int x2, .int x1, .ref x0] h Q = (¬ x3 = 0 ∧ zWp d zi_134 none 109 [l0, l1, l2] [.int (x2 - x2 / x3 * x3), .int x1, .ref x0] h Q)) ∧
    (∀ (d : Nat) (l0 : Value) (l1 : Value) (l2 : Value) (x2 : Int32) (x1 : Int32) (x0 : Nat) (h : zMm) (Q : Option Value → zMm → Prop), zWp d zi_134 none 109 [l0, l1, l2] [.int x2, .int x1, .ref x0] h Q = zWp d zi_134 none 110 [l0, l1, l2] [.int (x1 - x2), .ref x0] h Q) ∧
    (∀ (d : Nat) (l0 : Value) (l1 : Value) (l2 : Value) (x1 : Int32) (x0 : Nat) (I : Nat → Nat → Int32) (L : Nat → Nat → Int64) (P : Nat → Nat → Option Nat) (Q : Option Value → zMm → Prop), zSH[x0]? = some (.inl 10) → zWp d zi_134 none 110 [l0, l1, l2] [.int x1, .ref x0] (zSH, I, L, P) Q = zWp d zi_134 none 113 [l0, l1, l2] [] (zSH, zw I x0 (upd (I x0) 9 x1), L, P) Q) ∧
    (∀ (d : Nat) (l0 : Nat) (l1 : Value) (l2 : Value)  (h : zMm) (Q : Option Value → zMm → Prop), zWp d zi_134 none 113 [.ref l0, l1, l2] [] h Q = zWp d zi_134 none 114 [.ref l0, l1, l2] [.ref l0] h Q) ∧
    (∀ (d : Nat) (l0 : Value) (l1 : Int32) (l2 : Value) (x0 : Nat) (h : zMm) (Q : Option Value → zMm → Prop), zWp d zi_134 none 114 [l0, .int l1, l2] [.ref x0] h Q = zWp d zi_134 none 115 [l0, .int l1, l2] [.int l1, .ref x0] h Q) ∧
    (∀ (d : Nat) (l0 : Value) (l1 : Value) (l2 : Value) (x1 : Int32) (x0 : Nat) (h : zMm) (Q : Option Value → zMm → Prop), zWp d zi_134 none 115 [l0, l1, l2] [.int x1, .ref x0] h Q = zWp d zi_134 none 117 [l0, l1, l2] [.int 10, .int x1, .ref x0] h Q) ∧
    (∀ (d : Nat) (l0 : Value) (l1 : Value) (l2 : Value) (x2 : Int32) (x1 : Int32) (x0 : Nat) (h : zMm) (Q : Option Value → zMm → Prop), zWp d zi_134 none 117 [l0, l1, l2] [.int x2, .int x1, .ref x0] h Q = (¬ x2 = 0 ∧ zWp d zi_134 none 118 [l0, l1, l2] [.int (x1 / x2), .ref x0] h Q)) ∧
    (∀ (d : Nat) (l0 : Value) (l1 : Int32) (l2 : Value) (x1 : Int32) (x0 : Nat) (h : zMm) (Q : Option Value → zMm → Prop), zWp d zi_134 none 118 [l0, .int l1, l2] [.int x1, .ref x0] h Q = zWp d zi_134 none 119 [l0, .int l1, l2] [.int l1, .int x1, .ref x0] h Q) ∧
    (∀ (d : Nat) (l0 : Value) (l1 : Value) (l2 : Value) (x2 : Int32) (x1 : Int32) (x0 : Nat) (h : zMm) (Q : Option Value → zMm → Prop), zWp d zi_134 none 119 [l0, l1, l2] [.int x2, .int x1, .ref x0] h Q = zWp d zi_134 none 121 [l0, l1, l2] [.int 10, .int x2, .int x1, .ref x0] h Q) ∧
    (∀ (d : Nat) (l0 : Value) (l1 : Value) (l2 : Value) (x3 : Int32) (x2 : Int32) (x1 : Int32) (x0 : Nat) (h : zMm) (Q : Option Value → zMm → Prop), zWp d zi_134 none 121 [l0, l1, l2] [.int x3, .int x2, .int x1, .ref x0] h Q = (¬ x3 = 0 ∧ zWp d zi_134 none 122 [l0, l1, l2] [.int (x2 - x2 / x3 * x3), .int x1, .ref x0] h Q)) ∧
    (∀ (d : Nat) (l0 : Value) (l1 : Value) (l2 : Int32) (x2 : Int32) (x1 : Int32) (x0 : Nat) (h : zMm) (Q : Option Value → zMm → Prop), zWp d zi_134 none 122 [l0, l1, .int l2] [.int x2, .int x1, .ref x0] h Q = zWp d zi_134 none 123 [l0, l1, .int l2] [.int l2, .int x2, .int x1, .ref x0] h Q) ∧
    (∀ (d : Nat) (l0 : Value) (l1 : Value) (l2 : Value) (x3 : Int32) (x2 : Int32) (x1 : Int32) (x0 : Nat) (h : zMm) (Q : Option Value → zMm → Prop), zWp d zi_134 none 123 [l0, l1, l2] [.int x3, .int x2, .int x1, .ref x0] h Q = zWp d zi_134 none 125 [l0, l1, l2] [.int 10, .int x3, .int x2, .int x1, .ref x0] h Q) ∧
    (∀ (d : Nat) (l0 : Value) (l1 : Value) (l2 : Value) (x4 : Int32) (x3 : Int32) (x2 : Int32) (x1 : Int32) (x0 : Nat) (h : zMm) (Q : Option Value → zMm → Prop), zWp d zi_134 none 125 [l0, l1, l2] [.int x4, .int x3, .int x2, .int x1, .ref x0] h Q = (¬ x4 = 0 ∧ zWp d zi_134 none 126 [l0, l1, l2] [.int (x3 / x4), .int x2, .int x1, .ref x0] h Q)) ∧
    (∀ (d : Nat) (l0 : Value) (l1 : Value) (l2 : Value) (x3 : Int32) (x2 : Int32) (x1 : Int32) (x0 : Nat) (h : zMm) (Q : Option Value → zMm → Prop), zWp d zi_134 none 126 [l0, l1, l2] [.int x3, .int x2, .int x1, .ref x0] h Q = zWp d zi_134 none 127 [l0, l1, l2] [.int 4, .int x3, .int x2, .int x1, .ref x0] h Q) ∧
    (∀ (d : Nat) (l0 : Value) (l1 : Value) (l2 : Value) (x4 : Int32) (x3 : Int32) (x2 : Int32) (x1 : Int32) (x0 : Nat) (h : zMm) (Q : Option Value → zMm → Prop), zWp d zi_134 none 127 [l0, l1, l2] [.int x4, .int x3, .int x2, .int x1, .ref x0] h Q = zWp d zi_134 none 128 [l0, l1, l2] [.int (x3 - x4), .int x2, .int x1, .ref x0] h Q) ∧
    (∀ (d : Nat) (l0 : Value) (l1 : Value) (l2 : Int32) (x3 : Int32) (x2 : Int32) (x1 : Int32) (x0 : Nat) (h : zMm) (Q : Option Value → zMm → Prop), zWp d zi_134 none 128 [l0, l1, .int l2] [.int x3, .int x2, .int x1, .ref x0] h Q = zWp d zi_134 none 129 [l0, l1, .int l2] [.int l2, .int x3, .int x2, .int x1, .ref x0] h Q) ∧
    (∀ (d : Nat) (l0 : Value) (l1 : Value) (l2 : Value) (x4 : Int32) (x3 : Int32) (x2 : Int32) (x1 : Int32) (x0 : Nat) (h : zMm) (Q : Option Value → zMm → Prop), zWp d zi_134 none 129 [l0, l1, l2] [.int x4, .int x3, .int x2, .int x1, .ref x0] h Q = zWp d zi_134 none 131 [l0, l1, l2] [.int 10, .int x4, .int x3, .int x2, .int x1, .ref x0] h Q) ∧
    (∀ (d : Nat) (l0 : Value) (l1 : Value) (l2 : Value) (x5 : Int32) (x4 : Int32) (x3 : Int32) (x2 : Int32) (x1 : Int32) (x0 : Nat) (h : zMm) (Q : Option Value → zMm → Prop), zWp d zi_134 none 131 [l0, l1, l2] [.int x5, .int x4, .int x3, .int x2, .int x1, .ref x0] h Q = (¬ x5 = 0 ∧ zWp d zi_134 none 132 [l0, l1, l2] [.int (x4 - x4 / x5 * x5), .int x3, .int x2, .int x1, .ref x0] h Q)) ∧
    (∀ (d : Nat) (l0 : Value) (l1 : Value) (l2 : Value) (x4 : Int32) (x3 : Int32) (x2 : Int32) (x1 : Int32) (x0 : Nat) (h : zMm) (Q : Option Value → zMm → Prop), zWp d zi_134 none 132 [l0, l1, l2] [.int x4, .int x3, .int x2, .int x1, .ref x0] h Q = zWp d zi_134 none 133 [l0, l1, l2] [.int 4, .int x4, .int x3, .int x2, .int x1, .ref x0] h Q) ∧
    (∀ (d : Nat) (l0 : Value) (l1 : Value) (l2 : Value) (x5 : Int32) (x4 : Int32) (x3 : Int32) (x2 : Int32) (x1 : Int32) (x0 : Nat) (h : zMm) (Q : Option Value → zMm → Prop), zWp d zi_134 none 133 [l0, l1, l2] [.int x5, .int x4, .int x3, .int x2, .int x1, .ref x0] h Q = zWp d zi_134 none 134 [l0, l1, l2] [.int (x4 - x5), .int x3, .int x2, .int x1, .ref x0] h Q) ∧
    (∀ (d : Nat) (l0 : Value) (l1 : Value) (l2 : Value) (x4 : Int32) (x3 : Int32) (x2 : Int32) (x1 : Int32) (x0 : Nat) (I : Nat → Nat → Int32) (L : Nat → Nat → Int64) (P : Nat → Nat → Option Nat) (Q : Option Value → zMm → Prop), zSH[x0]? = some (.inl 10) → zWp d zi_134 none 134 [l0, l1, l2] [.int x4, .int x3, .int x2, .int x1, .ref x0] (zSH, I, L, P) Q = zWM d 133 [.ref x0, .int x1, .int x2, .int x3, .int x4] (zSH, I, L, P) (fun r h1 => zWp d zi_134 none 137 [l0, l1, l2] (r.toList ++ []) h1 Q)) ∧
    (∀ (d : Nat) (l0 : Nat) (l1 : Value) (l2 : Value)  (h : zMm) (Q : Option Value → zMm → Prop), zWp d zi_134 none 137 [.ref l0, l1, l2] [] h Q = zWp d zi_134 none 138 [.ref l0, l1, l2] [.ref l0] h Q) ∧
    (∀ (d : Nat) (l0 : Value) (l1 : Value) (l2 : Value) (x0 : Nat) (I : Nat → Nat → Int32) (L : Nat → Nat → Int64) (P : Nat → Nat → Option Nat) (Q : Option Value → zMm → Prop), zSH[x0]? = some (.inl 10) → zWp d zi_134 none 138 [l0, l1, l2] [.ref x0] (zSH, I, L, P) Q = zWp d zi_134 none 141 [l0, l1, l2] [.int (I x0 6)] (zSH, I, L, P) Q) ∧
    (∀ (d : Nat) (l0 : Value) (l1 : Value) (l2 : Value) (x0 : Int32) (h : zMm) (Q : Option Value → zMm → Prop), zWp d zi_134 none 141 [l0, l1, l2] [.int x0] h Q = zWp d zi_134 none 142 [l0, l1, l2] [.int 1, .int x0] h Q) ∧
    (∀ (d : Nat) (l0 : Value) (l1 : Value) (l2 : Value) (x1 : Int32) (x0 : Int32) (h : zMm) (Q : Option Value → zMm → Prop), zWp d zi_134 none 142 [l0, l1, l2] [.int x1, .int x0] h Q = zWp d zi_134 none 143 [l0, l1, l2] [.int (x0 - x1)] h Q) ∧
    (∀ (d : Nat) (l0 : Value) (l1 : Value) (l2 : Value) (x0 : Int32) (h : zMm) (Q : Option Value → zMm → Prop), zWp d zi_134 none 143 [l0, l1, l2] [.int x0] h Q = Q (some (.int x0)) h) :=
  ⟨(fun d l0 l1 l2  h Q => zr_iload_n rfl rfl),
   (fun d l0 l1 l2 x0 h Q => zr_if_lt rfl (by decide)),
   (fun d l0 l1 l2  h Q => zr_iload_n rfl rfl),
   (fun d l0 l1 l2 x0 h Q => zr_if_lt rfl (by decide)),
   (fun d l0 l1 l2  h Q => zr_iload_n rfl rfl),
   (fun d l0 l1 l2 x0 h Q => zr_bipush rfl (by decide)),
   (fun d l0 l1 l2 x1 x0 h Q => zr_idiv rfl),
   (fun d l0 l1 l2 x0 h Q => zr_i2l rfl),
   (fun d l0 l1 l2 x0 h Q => zr_iload_n rfl rfl),
   (fun d l0 l1 l2 x1 x0 h Q => zr_bipush rfl (by decide)),
   (fun d l0 l1 l2 x2 x1 x0 h Q => zr_irem rfl),
   (fun d l0 l1 l2 x1 x0 h Q => zr_i2l rfl),
   (fun d l0 l1 l2 x1 x0 h Q => zr_iload_n rfl rfl),
   (fun d l0 l1 l2 x2 x1 x0 h Q => zr_bipush rfl (by decide)),
   (fun d l0 l1 l2 x3 x2 x1 x0 h Q => zr_idiv rfl),
   (fun d l0 l1 l2 x2 x1 x0 h Q => zr_iconst rfl (by decide)),
   (fun d l0 l1 l2 x3 x2 x1 x0 h Q => zr_isub rfl),
   (fun d l0 l1 l2 x2 x1 x0 h Q => zr_i2l rfl),
   (fun d l0 l1 l2 x2 x1 x0 h Q => zr_iload_n rfl rfl),
   (fun d l0 l1 l2 x3 x2 x1 x0 h Q => zr_bipush rfl (by decide)),
   (fun d l0 l1 l2 x4 x3 x2 x1 x0 h Q => zr_irem rfl),
   (fun d l0 l1 l2 x3 x2 x1 x0 h Q => zr_iconst rfl (by decide)),
   (fun d l0 l1 l2 x4 x3 x2 x1 x0 h Q => zr_isub rfl),
   (fun d l0 l1 l2 x3 x2 x1 x0 h Q => zr_i2l rfl),
   (fun d l0 l1 l2 x3 x2 x1 x0 h Q => zr_sta (as := [.long x3, .long x2, .long x1, .long x0]) (rest := []) rfl lm_10_123 (by decide) m_132 kd_132 rfl (Nat.le_of_ble_eq_true rfl)),
   (fun d l0 l1 l2 x0 h Q => zr_if_ne rfl (by decide)),
   (fun d l0 l1 l2  h Q => zr_iconst rfl (by decide)),
   (fun d l0 l1 l2 x0 h Q => zr_iret rfl rfl),
   (fun d l0 l1 l2  h Q => zr_aload_n rfl rfl),
   (fun d l0 l1 l2 x0 I L P Q p0 => zr_getI rfl lf_10_99 (fun _ _ _ => rfl) p0),
   (fun d l0 l1 l2 x0 h Q => zr_bipush rfl (by decide)),
   (fun d l0 l1 l2 x1 x0 h Q => zr_ic_ne rfl (by decide)),
   (fun d l0 l1 l2  h Q => zr_bipush rfl (by decide)),
   (fun d l0 l1 l2 x0 h Q => zr_iret rfl rfl),
   (fun d l0 l1 l2  h Q => zr_iload_n rfl rfl),
   (fun d l0 l1 l2 x0 h Q => zr_bipush rfl (by decide)),
   (fun d l0 l1 l2 x1 x0 h Q => zr_idiv rfl),
   (fun d l0 l1 l2 x0 h Q => zr_iload_n rfl rfl),
   (fun d l0 l1 l2 x1 x0 h Q => zr_bipush rfl (by decide)),
   (fun d l0 l1 l2 x2 x1 x0 h Q => zr_irem rfl),
   (fun d l0 l1 l2 x1 x0 h Q => zr_isub rfl),
   (fun d l0 l1 l2 x0 h Q => zr_aload_n rfl rfl),
   (fun d l0 l1 l2 x1 x0 I L P Q p0 => zr_getI rfl lf_10_84 (fun _ _ _ => rfl) p0),
   (fun d l0 l1 l2 x1 x0 h Q => zr_ic_gt rfl (by decide)),
   (fun d l0 l1 l2  h Q => zr_iload_n rfl rfl),
   (fun d l0 l1 l2 x0 h Q => zr_bipush rfl (by decide)),
   (fun d l0 l1 l2 x1 x0 h Q => zr_irem rfl),
   (fun d l0 l1 l2 x0 h Q => zr_aload_n rfl rfl),
   (fun d l0 l1 l2 x1 x0 I L P Q p0 => zr_getI rfl lf_10_87 (fun _ _ _ => rfl) p0),
   (fun d l0 l1 l2 x1 x0 h Q => zr_ic_le rfl (by decide)),
   (fun d l0 l1 l2  h Q => zr_bipush rfl (by decide)),
   (fun d l0 l1 l2 x0 h Q => zr_iret rfl rfl),
   (fun d l0 l1 l2  h Q => zr_aload_n rfl rfl),
   (fun d l0 l1 l2 x0 h Q => zr_dup rfl rfl),
   (fun d l0 l1 l2 x1 x0 I L P Q p0 => zr_getI rfl lf_10_84 (fun _ _ _ => rfl) p0),
   (fun d l0 l1 l2 x1 x0 h Q => zr_iload_n rfl rfl),
   (fun d l0 l1 l2 x2 x1 x0 h Q => zr_bipush rfl (by decide)),
   (fun d l0 l1 l2 x3 x2 x1 x0 h Q => zr_idiv rfl),
   (fun d l0 l1 l2 x2 x1 x0 h Q => zr_iload_n rfl rfl),
   (fun d l0 l1 l2 x3 x2 x1 x0 h Q => zr_bipush rfl (by decide)),
   (fun d l0 l1 l2 x4 x3 x2 x1 x0 h Q => zr_irem rfl),
   (fun d l0 l1 l2 x3 x2 x1 x0 h Q => zr_isub rfl),
   (fun d l0 l1 l2 x2 x1 x0 h Q => zr_isub rfl),
   (fun d l0 l1 l2 x1 x0 I L P Q p0 => zr_putI rfl lf_10_84 (by decide) rfl p0),
   (fun d l0 l1 l2  h Q => zr_aload_n rfl rfl),
   (fun d l0 l1 l2 x0 h Q => zr_dup rfl rfl),
   (fun d l0 l1 l2 x1 x0 I L P Q p0 => zr_getI rfl lf_10_87 (fun _ _ _ => rfl) p0),
   (fun d l0 l1 l2 x1 x0 h Q => zr_iload_n rfl rfl),
   (fun d l0 l1 l2 x2 x1 x0 h Q => zr_bipush rfl (by decide)),
   (fun d l0 l1 l2 x3 x2 x1 x0 h Q => zr_irem rfl),
   (fun d l0 l1 l2 x2 x1 x0 h Q => zr_isub rfl),
   (fun d l0 l1 l2 x1 x0 I L P Q p0 => zr_putI rfl lf_10_87 (by decide) rfl p0),
   (fun d l0 l1 l2  h Q => zr_aload_n rfl rfl),
   (fun d l0 l1 l2 x0 h Q => zr_iload_n rfl rfl),
   (fun d l0 l1 l2 x1 x0 h Q => zr_bipush rfl (by decide)),
   (fun d l0 l1 l2 x2 x1 x0 h Q => zr_idiv rfl),
   (fun d l0 l1 l2 x1 x0 h Q => zr_iload_n rfl rfl),
   (fun d l0 l1 l2 x2 x1 x0 h Q => zr_bipush rfl (by decide)),
   (fun d l0 l1 l2 x3 x2 x1 x0 h Q => zr_irem rfl),
   (fun d l0 l1 l2 x2 x1 x0 h Q => zr_iload_n rfl rfl),
   (fun d l0 l1 l2 x3 x2 x1 x0 h Q => zr_bipush rfl (by decide)),
   (fun d l0 l1 l2 x4 x3 x2 x1 x0 h Q => zr_idiv rfl),
   (fun d l0 l1 l2 x3 x2 x1 x0 h Q => zr_iconst rfl (by decide)),
   (fun d l0 l1 l2 x4 x3 x2 x1 x0 h Q => zr_isub rfl),
   (fun d l0 l1 l2 x3 x2 x1 x0 h Q => zr_iload_n rfl rfl),
   (fun d l0 l1 l2 x4 x3 x2 x1 x0 h Q => zr_bipush rfl (by decide)),
   (fun d l0 l1 l2 x5 x4 x3 x2 x1 x0 h Q => zr_irem rfl),
   (fun d l0 l1 l2 x4 x3 x2 x1 x0 h Q => zr_iconst rfl (by decide)),
   (fun d l0 l1 l2 x5 x4 x3 x2 x1 x0 h Q => zr_isub rfl),
   (fun d l0 l1 l2 x4 x3 x2 x1 x0 I L P Q p0 => zr_vir (as := [.int x4, .int x3, .int x2, .int x1]) (rest := []) rfl lm_10_127 m_133 kd_133 rfl (Nat.le_of_ble_eq_true rfl) p0),
   (fun d l0 l1 l2  h Q => zr_aload_n rfl rfl),
   (fun d l0 l1 l2 x0 I L P Q p0 => zr_getI rfl lf_10_99 (fun _ _ _ => rfl) p0),
   (fun d l0 l1 l2 x0 h Q => zr_iconst rfl (by decide)),
   (fun d l0 l1 l2 x1 x0 h Q => zr_isub rfl),
   (fun d l0 l1 l2 x0 h Q => zr_iret rfl rfl)⟩
theorem E_X10_stored : ∀ (d : Nat) (a0 : Int32) (h : zMm) (Q : Option Value → zMm → Prop), zWM (d + 1) 135 [.int a0] h Q = zWp d zi_135 none 0 [.int a0] [] h Q := fun d a0 h Q => zW_M m_135 (Nat.le_of_ble_eq_true rfl) rfl
set_option maxRecDepth 100000 in
theorem R_X10_stored :
    (∀ (d : Nat) (l0 : Int32)  (h : zMm) (Q : Option Value → zMm → Prop), zWp d zi_135 none 0 [.int l0] [] h Q = zWp d zi_135 none 1 [.int l0] [.int l0] h Q) ∧
    (∀ (d : Nat) (l0 : Value) (x0 : Int32) (h : zMm) (Q : Option Value → zMm → Prop), zWp d zi_135 none 1 [l0] [.int x0] h Q = zWp d zi_135 none 3 [l0] [.int 99, .int x0] h Q) ∧
    (∀ (d : Nat) (l0 : Value) (x1 : Int32) (x0 : Int32) (h : zMm) (Q : Option Value → zMm → Prop), zWp d zi_135 none 3 [l0] [.int x1, .int x0] h Q = if x0 ≤ x1 then zWp d zi_135 none 11 [l0] [] h Q else zWp d zi_135 none 6 [l0] [] h Q) ∧
    (∀ (d : Nat) (l0 : Value)  (h : zMm) (Q : Option Value → zMm → Prop), zWp d zi_135 none 6 [l0] [] h Q = zWp d zi_135 none 8 [l0] [.int 99] h Q) ∧
    (∀ (d : Nat) (l0 : Value) (x0 : Int32) (h : zMm) (Q : Option Value → zMm → Prop), zWp d zi_135 none 8 [l0] [.int x0] h Q = zWp d zi_135 none 12 [l0] [.int x0] h Q) ∧
    (∀ (d : Nat) (l0 : Int32)  (h : zMm) (Q : Option Value → zMm → Prop), zWp d zi_135 none 11 [.int l0] [] h Q = zWp d zi_135 none 12 [.int l0] [.int l0] h Q) ∧
    (∀ (d : Nat) (l0 : Value) (x0 : Int32) (h : zMm) (Q : Option Value → zMm → Prop), zWp d zi_135 none 12 [l0] [.int x0] h Q = Q (some (.int x0)) h) :=
  ⟨(fun d l0  h Q => zr_iload_n rfl rfl),
   (fun d l0 x0 h Q => zr_bipush rfl (by decide)),
   (fun d l0 x1 x0 h Q => zr_ic_le rfl (by decide)),
   (fun d l0  h Q => zr_bipush rfl (by decide)),
   (fun d l0 x0 h Q => zr_goto rfl (by decide)),
   (fun d l0  h Q => zr_iload_n rfl rfl),
   (fun d l0 x0 h Q => zr_iret rfl rfl)⟩
theorem E_X10_unbuild : ∀ (d : Nat) (a0 : Nat) (h : zMm) (Q : Option Value → zMm → Prop), zWM (d + 1) 136 [.ref a0] h Q = zWp d zi_136 none 0 [.ref a0] [] h Q := fun d a0 h Q => zW_M m_136 (Nat.le_of_ble_eq_true rfl) rfl
set_option maxRecDepth 100000 in
theorem R_X10_unbuild :
    (∀ (d : Nat) (l0 : Nat)  (h : zMm) (Q : Option Value → zMm → Prop), zWp d zi_136 none 0 [.ref l0] [] h Q = zWp d zi_136 none 1 [.ref l0] [.ref l0] h Q) ∧
    (∀ (d : Nat) (l0 : Value) (x0 : Nat) (I : Nat → Nat → Int32) (L : Nat → Nat → Int64) (P : Nat → Nat → Option Nat) (Q : Option Value → zMm → Prop), zSH[x0]? = some (.inl 10) → zWp d zi_136 none 1 [l0] [.ref x0] (zSH, I, L, P) Q = zWp d zi_136 none 4 [l0] [.int (I x0 6)] (zSH, I, L, P) Q) ∧
    (∀ (d : Nat) (l0 : Value) (x0 : Int32) (h : zMm) (Q : Option Value → zMm → Prop), zWp d zi_136 none 4 [l0] [.int x0] h Q = if x0 = 0 then zWp d zi_136 none 7 [l0] [] h Q else zWp d zi_136 none 10 [l0] [] h Q) ∧
    (∀ (d : Nat) (l0 : Value)  (h : zMm) (Q : Option Value → zMm → Prop), zWp d zi_136 none 7 [l0] [] h Q = zWp d zi_136 none 9 [l0] [.int (-5)] h Q) ∧
    (∀ (d : Nat) (l0 : Value) (x0 : Int32) (h : zMm) (Q : Option Value → zMm → Prop), zWp d zi_136 none 9 [l0] [.int x0] h Q = Q (some (.int x0)) h) ∧
    (∀ (d : Nat) (l0 : Nat)  (h : zMm) (Q : Option Value → zMm → Prop), zWp d zi_136 none 10 [.ref l0] [] h Q = zWp d zi_136 none 11 [.ref l0] [.ref l0] h Q) ∧
    (∀ (d : Nat) (l0 : Value) (x0 : Nat) (h : zMm) (Q : Option Value → zMm → Prop), zWp d zi_136 none 11 [l0] [.ref x0] h Q = zWp d zi_136 none 12 [l0] [.ref x0, .ref x0] h Q) ∧
    (∀ (d : Nat) (l0 : Value) (x1 : Nat) (x0 : Nat) (I : Nat → Nat → Int32) (L : Nat → Nat → Int64) (P : Nat → Nat → Option Nat) (Q : Option Value → zMm → Prop), zSH[x1]? = some (.inl 10) → zWp d zi_136 none 12 [l0] [.ref x1, .ref x0] (zSH, I, L, P) Q = zWp d zi_136 none 15 [l0] [.int (I x1 6), .ref x0] (zSH, I, L, P) Q) ∧
    (∀ (d : Nat) (l0 : Value) (x1 : Int32) (x0 : Nat) (h : zMm) (Q : Option Value → zMm → Prop), zWp d zi_136 none 15 [l0] [.int x1, .ref x0] h Q = zWp d zi_136 none 16 [l0] [.int 1, .int x1, .ref x0] h Q) ∧
    (∀ (d : Nat) (l0 : Value) (x2 : Int32) (x1 : Int32) (x0 : Nat) (h : zMm) (Q : Option Value → zMm → Prop), zWp d zi_136 none 16 [l0] [.int x2, .int x1, .ref x0] h Q = zWp d zi_136 none 17 [l0] [.int (x1 - x2), .ref x0] h Q) ∧
    (∀ (d : Nat) (l0 : Value) (x1 : Int32) (x0 : Nat) (I : Nat → Nat → Int32) (L : Nat → Nat → Int64) (P : Nat → Nat → Option Nat) (Q : Option Value → zMm → Prop), zSH[x0]? = some (.inl 10) → zWp d zi_136 none 17 [l0] [.int x1, .ref x0] (zSH, I, L, P) Q = zWp d zi_136 none 20 [l0] [] (zSH, zw I x0 (upd (I x0) 6 x1), L, P) Q) ∧
    (∀ (d : Nat) (l0 : Nat)  (h : zMm) (Q : Option Value → zMm → Prop), zWp d zi_136 none 20 [.ref l0] [] h Q = zWp d zi_136 none 21 [.ref l0] [.ref l0] h Q) ∧
    (∀ (d : Nat) (l0 : Nat) (x0 : Nat) (h : zMm) (Q : Option Value → zMm → Prop), zWp d zi_136 none 21 [.ref l0] [.ref x0] h Q = zWp d zi_136 none 22 [.ref l0] [.ref l0, .ref x0] h Q) ∧
    (∀ (d : Nat) (l0 : Value) (x1 : Nat) (x0 : Nat) (I : Nat → Nat → Int32) (L : Nat → Nat → Int64) (P : Nat → Nat → Option Nat) (Q : Option Value → zMm → Prop), zSH[x1]? = some (.inl 10) → zWp d zi_136 none 22 [l0] [.ref x1, .ref x0] (zSH, I, L, P) Q = zWp d zi_136 none 25 [l0] [.int (I x1 8), .ref x0] (zSH, I, L, P) Q) ∧
    (∀ (d : Nat) (l0 : Nat) (x1 : Int32) (x0 : Nat) (h : zMm) (Q : Option Value → zMm → Prop), zWp d zi_136 none 25 [.ref l0] [.int x1, .ref x0] h Q = zWp d zi_136 none 26 [.ref l0] [.ref l0, .int x1, .ref x0] h Q) ∧
    (∀ (d : Nat) (l0 : Value) (x2 : Nat) (x1 : Int32) (x0 : Nat) (I : Nat → Nat → Int32) (L : Nat → Nat → Int64) (P : Nat → Nat → Option Nat) (Q : Option Value → zMm → Prop), zSH[x2]? = some (.inl 10) → zWp d zi_136 none 26 [l0] [.ref x2, .int x1, .ref x0] (zSH, I, L, P) Q = zWp d zi_136 none 29 [l0] [va_rf (P x2 7), .int x1, .ref x0] (zSH, I, L, P) Q) ∧
    (∀ (d : Nat) (l0 : Nat) (x2 : Nat) (x1 : Int32) (x0 : Nat) (h : zMm) (Q : Option Value → zMm → Prop), zWp d zi_136 none 29 [.ref l0] [.ref x2, .int x1, .ref x0] h Q = zWp d zi_136 none 30 [.ref l0] [.ref l0, .ref x2, .int x1, .ref x0] h Q) ∧
    (∀ (d : Nat) (l0 : Value) (x3 : Nat) (x2 : Nat) (x1 : Int32) (x0 : Nat) (I : Nat → Nat → Int32) (L : Nat → Nat → Int64) (P : Nat → Nat → Option Nat) (Q : Option Value → zMm → Prop), zSH[x3]? = some (.inl 10) → zWp d zi_136 none 30 [l0] [.ref x3, .ref x2, .int x1, .ref x0] (zSH, I, L, P) Q = zWp d zi_136 none 33 [l0] [.int (I x3 6), .ref x2, .int x1, .ref x0] (zSH, I, L, P) Q) ∧
    (∀ (d : Nat) (l0 : Value) (x3 : Int32) (x2 : Nat) (x1 : Int32) (x0 : Nat) (I : Nat → Nat → Int32) (L : Nat → Nat → Int64) (P : Nat → Nat → Option Nat) (Q : Option Value → zMm → Prop), zAk zSH x2 = some .int → zWp d zi_136 none 33 [l0] [.int x3, .ref x2, .int x1, .ref x0] (zSH, I, L, P) Q = (vp_in x3 (zAn zSH x2) ∧ zWp d zi_136 none 34 [l0] [.int (I x2 x3.toNatClampNeg), .int x1, .ref x0] (zSH, I, L, P) Q)) ∧
    (∀ (d : Nat) (l0 : Value) (x2 : Int32) (x1 : Int32) (x0 : Nat) (h : zMm) (Q : Option Value → zMm → Prop), zWp d zi_136 none 34 [l0] [.int x2, .int x1, .ref x0] h Q = zWp d zi_136 none 35 [l0] [.int (x1 + x2), .ref x0] h Q) ∧
    (∀ (d : Nat) (l0 : Nat) (x1 : Int32) (x0 : Nat) (h : zMm) (Q : Option Value → zMm → Prop), zWp d zi_136 none 35 [.ref l0] [.int x1, .ref x0] h Q = zWp d zi_136 none 36 [.ref l0] [.ref l0, .int x1, .ref x0] h Q) ∧
    (∀ (d : Nat) (l0 : Value) (x2 : Nat) (x1 : Int32) (x0 : Nat) (I : Nat → Nat → Int32) (L : Nat → Nat → Int64) (P : Nat → Nat → Option Nat) (Q : Option Value → zMm → Prop), zSH[x2]? = some (.inl 10) → zWp d zi_136 none 36 [l0] [.ref x2, .int x1, .ref x0] (zSH, I, L, P) Q = zWp d zi_136 none 39 [l0] [va_rf (P x2 0), .int x1, .ref x0] (zSH, I, L, P) Q) ∧
    (∀ (d : Nat) (l0 : Value) (x2 : Nat) (x1 : Int32) (x0 : Nat) (h : zMm) (Q : Option Value → zMm → Prop), zWp d zi_136 none 39 [l0] [.ref x2, .int x1, .ref x0] h Q = zWp d zi_136 none 41 [l0] [.int 48, .ref x2, .int x1, .ref x0] h Q) ∧
    (∀ (d : Nat) (l0 : Nat) (x3 : Int32) (x2 : Nat) (x1 : Int32) (x0 : Nat) (h : zMm) (Q : Option Value → zMm → Prop), zWp d zi_136 none 41 [.ref l0] [.int x3, .ref x2, .int x1, .ref x0] h Q = zWp d zi_136 none 42 [.ref l0] [.ref l0, .int x3, .ref x2, .int x1, .ref x0] h Q) ∧
    (∀ (d : Nat) (l0 : Value) (x4 : Nat) (x3 : Int32) (x2 : Nat) (x1 : Int32) (x0 : Nat) (I : Nat → Nat → Int32) (L : Nat → Nat → Int64) (P : Nat → Nat → Option Nat) (Q : Option Value → zMm → Prop), zSH[x4]? = some (.inl 10) → zWp d zi_136 none 42 [l0] [.ref x4, .int x3, .ref x2, .int x1, .ref x0] (zSH, I, L, P) Q = zWp d zi_136 none 45 [l0] [.int (I x4 6), .int x3, .ref x2, .int x1, .ref x0] (zSH, I, L, P) Q) ∧
    (∀ (d : Nat) (l0 : Value) (x4 : Int32) (x3 : Int32) (x2 : Nat) (x1 : Int32) (x0 : Nat) (h : zMm) (Q : Option Value → zMm → Prop), zWp d zi_136 none 45 [l0] [.int x4, .int x3, .ref x2, .int x1, .ref x0] h Q = zWp d zi_136 none 46 [l0] [.int (x3 + x4), .ref x2, .int x1, .ref x0] h Q) ∧
    (∀ (d : Nat) (l0 : Value) (x3 : Int32) (x2 : Nat) (x1 : Int32) (x0 : Nat) (I : Nat → Nat → Int32) (L : Nat → Nat → Int64) (P : Nat → Nat → Option Nat) (Q : Option Value → zMm → Prop), zAk zSH x2 = some .int → zWp d zi_136 none 46 [l0] [.int x3, .ref x2, .int x1, .ref x0] (zSH, I, L, P) Q = (vp_in x3 (zAn zSH x2) ∧ zWp d zi_136 none 47 [l0] [.int (I x2 x3.toNatClampNeg), .int x1, .ref x0] (zSH, I, L, P) Q)) ∧
    (∀ (d : Nat) (l0 : Value) (x2 : Int32) (x1 : Int32) (x0 : Nat) (h : zMm) (Q : Option Value → zMm → Prop), zWp d zi_136 none 47 [l0] [.int x2, .int x1, .ref x0] h Q = zWp d zi_136 none 48 [l0] [.int (x1 - x2), .ref x0] h Q) ∧
    (∀ (d : Nat) (l0 : Value) (x1 : Int32) (x0 : Nat) (h : zMm) (Q : Option Value → zMm → Prop), zWp d zi_136 none 48 [l0] [.int x1, .ref x0] h Q = zWM d 135 [.int x1] h (fun r h1 => zWp d zi_136 none 51 [l0] (r.toList ++ [.ref x0]) h1 Q)) ∧
    (∀ (d : Nat) (l0 : Value) (x1 : Int32) (x0 : Nat) (I : Nat → Nat → Int32) (L : Nat → Nat → Int64) (P : Nat → Nat → Option Nat) (Q : Option Value → zMm → Prop), zSH[x0]? = some (.inl 10) → zWp d zi_136 none 51 [l0] [.int x1, .ref x0] (zSH, I, L, P) Q = zWp d zi_136 none 54 [l0] [] (zSH, zw I x0 (upd (I x0) 8 x1), L, P) Q) ∧
    (∀ (d : Nat) (l0 : Nat)  (h : zMm) (Q : Option Value → zMm → Prop), zWp d zi_136 none 54 [.ref l0] [] h Q = zWp d zi_136 none 55 [.ref l0] [.ref l0] h Q) ∧
    (∀ (d : Nat) (l0 : Nat) (x0 : Nat) (h : zMm) (Q : Option Value → zMm → Prop), zWp d zi_136 none 55 [.ref l0] [.ref x0] h Q = zWp d zi_136 none 56 [.ref l0] [.ref l0, .ref x0] h Q) ∧
    (∀ (d : Nat) (l0 : Value) (x1 : Nat) (x0 : Nat) (I : Nat → Nat → Int32) (L : Nat → Nat → Int64) (P : Nat → Nat → Option Nat) (Q : Option Value → zMm → Prop), zSH[x1]? = some (.inl 10) → zWp d zi_136 none 56 [l0] [.ref x1, .ref x0] (zSH, I, L, P) Q = zWp d zi_136 none 59 [l0] [.int (I x1 9), .ref x0] (zSH, I, L, P) Q) ∧
    (∀ (d : Nat) (l0 : Nat) (x1 : Int32) (x0 : Nat) (h : zMm) (Q : Option Value → zMm → Prop), zWp d zi_136 none 59 [.ref l0] [.int x1, .ref x0] h Q = zWp d zi_136 none 60 [.ref l0] [.ref l0, .int x1, .ref x0] h Q) ∧
    (∀ (d : Nat) (l0 : Value) (x2 : Nat) (x1 : Int32) (x0 : Nat) (I : Nat → Nat → Int32) (L : Nat → Nat → Int64) (P : Nat → Nat → Option Nat) (Q : Option Value → zMm → Prop), zSH[x2]? = some (.inl 10) → zWp d zi_136 none 60 [l0] [.ref x2, .int x1, .ref x0] (zSH, I, L, P) Q = zWp d zi_136 none 63 [l0] [va_rf (P x2 0), .int x1, .ref x0] (zSH, I, L, P) Q) ∧
    (∀ (d : Nat) (l0 : Value) (x2 : Nat) (x1 : Int32) (x0 : Nat) (h : zMm) (Q : Option Value → zMm → Prop), zWp d zi_136 none 63 [l0] [.ref x2, .int x1, .ref x0] h Q = zWp d zi_136 none 65 [l0] [.int 48, .ref x2, .int x1, .ref x0] h Q) ∧
    (∀ (d : Nat) (l0 : Nat) (x3 : Int32) (x2 : Nat) (x1 : Int32) (x0 : Nat) (h : zMm) (Q : Option Value → zMm → Prop), zWp d zi_136 none 65 [.ref l0] [.int x3, .ref x2, .int x1, .ref x0] h Q = zWp d zi_136 none 66 [.ref l0] [.ref l0, .int x3, .ref x2, .int x1, .ref x0] h Q) ∧
    (∀ (d : Nat) (l0 : Value) (x4 : Nat) (x3 : Int32) (x2 : Nat) (x1 : Int32) (x0 : Nat) (I : Nat → Nat → Int32) (L : Nat → Nat → Int64) (P : Nat → Nat → Option Nat) (Q : Option Value → zMm → Prop), zSH[x4]? = some (.inl 10) → zWp d zi_136 none 66 [l0] [.ref x4, .int x3, .ref x2, .int x1, .ref x0] (zSH, I, L, P) Q = zWp d zi_136 none 69 [l0] [.int (I x4 6), .int x3, .ref x2, .int x1, .ref x0] (zSH, I, L, P) Q) ∧
    (∀ (d : Nat) (l0 : Value) (x4 : Int32) (x3 : Int32) (x2 : Nat) (x1 : Int32) (x0 : Nat) (h : zMm) (Q : Option Value → zMm → Prop), zWp d zi_136 none 69 [l0] [.int x4, .int x3, .ref x2, .int x1, .ref x0] h Q = zWp d zi_136 none 70 [l0] [.int (x3 + x4), .ref x2, .int x1, .ref x0] h Q) ∧
    (∀ (d : Nat) (l0 : Value) (x3 : Int32) (x2 : Nat) (x1 : Int32) (x0 : Nat) (I : Nat → Nat → Int32) (L : Nat → Nat → Int64) (P : Nat → Nat → Option Nat) (Q : Option Value → zMm → Prop), zAk zSH x2 = some .int → zWp d zi_136 none 70 [l0] [.int x3, .ref x2, .int x1, .ref x0] (zSH, I, L, P) Q = (vp_in x3 (zAn zSH x2) ∧ zWp d zi_136 none 71 [l0] [.int (I x2 x3.toNatClampNeg), .int x1, .ref x0] (zSH, I, L, P) Q)) ∧
    (∀ (d : Nat) (l0 : Value) (x2 : Int32) (x1 : Int32) (x0 : Nat) (h : zMm) (Q : Option Value → zMm → Prop), zWp d zi_136 none 71 [l0] [.int x2, .int x1, .ref x0] h Q = zWp d zi_136 none 72 [l0] [.int (x1 + x2), .ref x0] h Q) ∧
    (∀ (d : Nat) (l0 : Value) (x1 : Int32) (x0 : Nat) (h : zMm) (Q : Option Value → zMm → Prop), zWp d zi_136 none 72 [l0] [.int x1, .ref x0] h Q = zWM d 135 [.int x1] h (fun r h1 => zWp d zi_136 none 75 [l0] (r.toList ++ [.ref x0]) h1 Q)) ∧
    (∀ (d : Nat) (l0 : Value) (x1 : Int32) (x0 : Nat) (I : Nat → Nat → Int32) (L : Nat → Nat → Int64) (P : Nat → Nat → Option Nat) (Q : Option Value → zMm → Prop), zSH[x0]? = some (.inl 10) → zWp d zi_136 none 75 [l0] [.int x1, .ref x0] (zSH, I, L, P) Q = zWp d zi_136 none 78 [l0] [] (zSH, zw I x0 (upd (I x0) 9 x1), L, P) Q) ∧
    (∀ (d : Nat) (l0 : Nat)  (h : zMm) (Q : Option Value → zMm → Prop), zWp d zi_136 none 78 [.ref l0] [] h Q = zWp d zi_136 none 79 [.ref l0] [.ref l0] h Q) ∧
    (∀ (d : Nat) (l0 : Value) (x0 : Nat) (I : Nat → Nat → Int32) (L : Nat → Nat → Int64) (P : Nat → Nat → Option Nat) (Q : Option Value → zMm → Prop), zSH[x0]? = some (.inl 10) → zWp d zi_136 none 79 [l0] [.ref x0] (zSH, I, L, P) Q = zWp d zi_136 none 82 [l0] [.int (I x0 6)] (zSH, I, L, P) Q) ∧
    (∀ (d : Nat) (l0 : Value) (x0 : Int32) (h : zMm) (Q : Option Value → zMm → Prop), zWp d zi_136 none 82 [l0] [.int x0] h Q = Q (some (.int x0)) h) :=
  ⟨(fun d l0  h Q => zr_aload_n rfl rfl),
   (fun d l0 x0 I L P Q p0 => zr_getI rfl lf_10_99 (fun _ _ _ => rfl) p0),
   (fun d l0 x0 h Q => zr_if_ne rfl (by decide)),
   (fun d l0  h Q => zr_bipush rfl (by decide)),
   (fun d l0 x0 h Q => zr_iret rfl rfl),
   (fun d l0  h Q => zr_aload_n rfl rfl),
   (fun d l0 x0 h Q => zr_dup rfl rfl),
   (fun d l0 x1 x0 I L P Q p0 => zr_getI rfl lf_10_99 (fun _ _ _ => rfl) p0),
   (fun d l0 x1 x0 h Q => zr_iconst rfl (by decide)),
   (fun d l0 x2 x1 x0 h Q => zr_isub rfl),
   (fun d l0 x1 x0 I L P Q p0 => zr_putI rfl lf_10_99 (by decide) rfl p0),
   (fun d l0  h Q => zr_aload_n rfl rfl),
   (fun d l0 x0 h Q => zr_aload_n rfl rfl),
   (fun d l0 x1 x0 I L P Q p0 => zr_getI rfl lf_10_84 (fun _ _ _ => rfl) p0),
   (fun d l0 x1 x0 h Q => zr_aload_n rfl rfl),
   (fun d l0 x2 x1 x0 I L P Q p0 => zr_getQ rfl lf_10_22 (fun _ _ _ => rfl) p0),
   (fun d l0 x2 x1 x0 h Q => zr_aload_n rfl rfl),
   (fun d l0 x3 x2 x1 x0 I L P Q p0 => zr_getI rfl lf_10_99 (fun _ _ _ => rfl) p0),
   (fun d l0 x3 x2 x1 x0 I L P Q p0 => zr_ald rfl p0),
   (fun d l0 x2 x1 x0 h Q => zr_iadd rfl),
   (fun d l0 x1 x0 h Q => zr_aload_n rfl rfl),
   (fun d l0 x2 x1 x0 I L P Q p0 => zr_getQ rfl lf_10_9 (fun _ _ _ => rfl) p0),
   (fun d l0 x2 x1 x0 h Q => zr_bipush rfl (by decide)),
   (fun d l0 x3 x2 x1 x0 h Q => zr_aload_n rfl rfl),
   (fun d l0 x4 x3 x2 x1 x0 I L P Q p0 => zr_getI rfl lf_10_99 (fun _ _ _ => rfl) p0),
   (fun d l0 x4 x3 x2 x1 x0 h Q => zr_iadd rfl),
   (fun d l0 x3 x2 x1 x0 I L P Q p0 => zr_ald rfl p0),
   (fun d l0 x2 x1 x0 h Q => zr_isub rfl),
   (fun d l0 x1 x0 h Q => zr_sta (as := [.int x1]) (rest := [.ref x0]) rfl lm_10_131 (by decide) m_135 kd_135 rfl (Nat.le_of_ble_eq_true rfl)),
   (fun d l0 x1 x0 I L P Q p0 => zr_putI rfl lf_10_84 (by decide) rfl p0),
   (fun d l0  h Q => zr_aload_n rfl rfl),
   (fun d l0 x0 h Q => zr_aload_n rfl rfl),
   (fun d l0 x1 x0 I L P Q p0 => zr_getI rfl lf_10_87 (fun _ _ _ => rfl) p0),
   (fun d l0 x1 x0 h Q => zr_aload_n rfl rfl),
   (fun d l0 x2 x1 x0 I L P Q p0 => zr_getQ rfl lf_10_9 (fun _ _ _ => rfl) p0),
   (fun d l0 x2 x1 x0 h Q => zr_bipush rfl (by decide)),
   (fun d l0 x3 x2 x1 x0 h Q => zr_aload_n rfl rfl),
   (fun d l0 x4 x3 x2 x1 x0 I L P Q p0 => zr_getI rfl lf_10_99 (fun _ _ _ => rfl) p0),
   (fun d l0 x4 x3 x2 x1 x0 h Q => zr_iadd rfl),
   (fun d l0 x3 x2 x1 x0 I L P Q p0 => zr_ald rfl p0),
   (fun d l0 x2 x1 x0 h Q => zr_iadd rfl),
   (fun d l0 x1 x0 h Q => zr_sta (as := [.int x1]) (rest := [.ref x0]) rfl lm_10_131 (by decide) m_135 kd_135 rfl (Nat.le_of_ble_eq_true rfl)),
   (fun d l0 x1 x0 I L P Q p0 => zr_putI rfl lf_10_87 (by decide) rfl p0),
   (fun d l0  h Q => zr_aload_n rfl rfl),
   (fun d l0 x0 I L P Q p0 => zr_getI rfl lf_10_99 (fun _ _ _ => rfl) p0),
   (fun d l0 x0 h Q => zr_iret rfl rfl)⟩
theorem E_X10_rounds : ∀ (d : Nat) (a0 : Nat) (a1 : Int32) (a2 : Int32) (a3 : Int32) (h : zMm) (Q : Option Value → zMm → Prop), zWM (d + 1) 137 [.ref a0, .int a1, .int a2, .int a3] h Q = zWp d zi_137 none 0 [.ref a0, .int a1, .int a2, .int a3, .retAddr 0, .retAddr 0, .retAddr 0] [] h Q := fun d a0 a1 a2 a3 h Q => zW_M m_137 (Nat.le_of_ble_eq_true rfl) rfl
set_option maxRecDepth 100000 in
theorem R_X10_rounds :
    (∀ (d : Nat) (l0 : Value) (l1 : Int32) (l2 : Value) (l3 : Value) (l4 : Value) (l5 : Value) (l6 : Value)  (h : zMm) (Q : Option Value → zMm → Prop), zWp d zi_137 none 0 [l0, .int l1, l2, l3, l4, l5, l6] [] h Q = zWp d zi_137 none 1 [l0, .int l1, l2, l3, l4, l5, l6] [.int l1] h Q) ∧
    (∀ (d : Nat) (l0 : Value) (l1 : Value) (l2 : Value) (l3 : Value) (l4 : Value) (l5 : Value) (l6 : Value) (x0 : Int32) (h : zMm) (Q : Option Value → zMm → Prop), zWp d zi_137 none 1 [l0, l1, l2, l3, l4, l5, l6] [.int x0] h Q = zWM d 206 [.int x0] h (fun r h1 => zWp d zi_137 none 4 [l0, l1, l2, l3, l4, l5, l6] (r.toList ++ []) h1 Q)) ∧
    (∀ (d : Nat) (l0 : Value) (l1 : Value) (l2 : Value) (l3 : Value) (l4 : Value) (l5 : Value) (l6 : Value) (x0 : Int32) (h : zMm) (Q : Option Value → zMm → Prop), zWp d zi_137 none 4 [l0, l1, l2, l3, l4, l5, l6] [.int x0] h Q = if x0 = 0 then zWp d zi_137 none 19 [l0, l1, l2, l3, l4, l5, l6] [] h Q else zWp d zi_137 none 7 [l0, l1, l2, l3, l4, l5, l6] [] h Q) ∧
    (∀ (d : Nat) (l0 : Value) (l1 : Value) (l2 : Value) (l3 : Int32) (l4 : Value) (l5 : Value) (l6 : Value)  (h : zMm) (Q : Option Value → zMm → Prop), zWp d zi_137 none 7 [l0, l1, l2, .int l3, l4, l5, l6] [] h Q = zWp d zi_137 none 8 [l0, l1, l2, .int l3, l4, l5, l6] [.int l3] h Q) ∧
    (∀ (d : Nat) (l0 : Value) (l1 : Value) (l2 : Value) (l3 : Value) (l4 : Value) (l5 : Value) (l6 : Value) (x0 : Int32) (h : zMm) (Q : Option Value → zMm → Prop), zWp d zi_137 none 8 [l0, l1, l2, l3, l4, l5, l6] [.int x0] h Q = zWp d zi_137 none 9 [l0, l1, l2, l3, l4, l5, l6] [.long x0.toInt64] h Q) ∧
    (∀ (d : Nat) (l0 : Value) (l1 : Value) (l2 : Value) (l3 : Value) (l4 : Value) (l5 : Value) (l6 : Value) (x0 : Int64) (h : zMm) (Q : Option Value → zMm → Prop), zWp d zi_137 none 9 [l0, l1, l2, l3, l4, l5, l6] [.long x0] h Q = zWp d zi_137 none 10 [l0, l1, l2, l3, l4, l5, l6] [.long 1, .long x0] h Q) ∧
    (∀ (d : Nat) (l0 : Value) (l1 : Value) (l2 : Value) (l3 : Value) (l4 : Value) (l5 : Value) (l6 : Value) (x1 : Int64) (x0 : Int64) (h : zMm) (Q : Option Value → zMm → Prop), zWp d zi_137 none 10 [l0, l1, l2, l3, l4, l5, l6] [.long x1, .long x0] h Q = zWp d zi_137 none 13 [l0, l1, l2, l3, l4, l5, l6] [.long 15, .long x1, .long x0] h Q) ∧
    (∀ (d : Nat) (l0 : Value) (l1 : Value) (l2 : Value) (l3 : Value) (l4 : Value) (l5 : Value) (l6 : Value) (x2 : Int64) (x1 : Int64) (x0 : Int64) (h : zMm) (Q : Option Value → zMm → Prop), zWp d zi_137 none 13 [l0, l1, l2, l3, l4, l5, l6] [.long x2, .long x1, .long x0] h Q = zWM d 122 [.long x0, .long x1, .long x2] h (fun r h1 => zWp d zi_137 none 16 [l0, l1, l2, l3, l4, l5, l6] (r.toList ++ []) h1 Q)) ∧
    (∀ (d : Nat) (l0 : Value) (l1 : Value) (l2 : Value) (l3 : Value) (l4 : Value) (l5 : Value) (l6 : Value) (x0 : Int32) (h : zMm) (Q : Option Value → zMm → Prop), zWp d zi_137 none 16 [l0, l1, l2, l3, l4, l5, l6] [.int x0] h Q = if x0 = 0 then zWp d zi_137 none 19 [l0, l1, l2, l3, l4, l5, l6] [] h Q else zWp d zi_137 none 21 [l0, l1, l2, l3, l4, l5, l6] [] h Q) ∧
    (∀ (d : Nat) (l0 : Value) (l1 : Value) (l2 : Value) (l3 : Value) (l4 : Value) (l5 : Value) (l6 : Value)  (h : zMm) (Q : Option Value → zMm → Prop), zWp d zi_137 none 19 [l0, l1, l2, l3, l4, l5, l6] [] h Q = zWp d zi_137 none 20 [l0, l1, l2, l3, l4, l5, l6] [.int (-1)] h Q) ∧
    (∀ (d : Nat) (l0 : Value) (l1 : Value) (l2 : Value) (l3 : Value) (l4 : Value) (l5 : Value) (l6 : Value) (x0 : Int32) (h : zMm) (Q : Option Value → zMm → Prop), zWp d zi_137 none 20 [l0, l1, l2, l3, l4, l5, l6] [.int x0] h Q = Q (some (.int x0)) h) ∧
    (∀ (d : Nat) (l0 : Nat) (l1 : Value) (l2 : Value) (l3 : Value) (l4 : Value) (l5 : Value) (l6 : Value)  (h : zMm) (Q : Option Value → zMm → Prop), zWp d zi_137 none 21 [.ref l0, l1, l2, l3, l4, l5, l6] [] h Q = zWp d zi_137 none 22 [.ref l0, l1, l2, l3, l4, l5, l6] [.ref l0] h Q) ∧
    (∀ (d : Nat) (l0 : Value) (l1 : Value) (l2 : Value) (l3 : Value) (l4 : Value) (l5 : Value) (l6 : Value) (x0 : Nat) (I : Nat → Nat → Int32) (L : Nat → Nat → Int64) (P : Nat → Nat → Option Nat) (Q : Option Value → zMm → Prop), zSH[x0]? = some (.inl 10) → zWp d zi_137 none 22 [l0, l1, l2, l3, l4, l5, l6] [.ref x0] (zSH, I, L, P) Q = zWp d zi_137 none 25 [l0, l1, l2, l3, l4, l5, l6] [va_rf (P x0 46)] (zSH, I, L, P) Q) ∧
    (∀ (d : Nat) (l0 : Value) (l1 : Int32) (l2 : Value) (l3 : Value) (l4 : Value) (l5 : Value) (l6 : Value) (x0 : Nat) (h : zMm) (Q : Option Value → zMm → Prop), zWp d zi_137 none 25 [l0, .int l1, l2, l3, l4, l5, l6] [.ref x0] h Q = zWp d zi_137 none 26 [l0, .int l1, l2, l3, l4, l5, l6] [.int l1, .ref x0] h Q) ∧
    (∀ (d : Nat) (l0 : Value) (l1 : Value) (l2 : Value) (l3 : Value) (l4 : Value) (l5 : Value) (l6 : Value) (x1 : Int32) (x0 : Nat) (I : Nat → Nat → Int32) (L : Nat → Nat → Int64) (P : Nat → Nat → Option Nat) (Q : Option Value → zMm → Prop), zAk zSH x0 = some .int → zWp d zi_137 none 26 [l0, l1, l2, l3, l4, l5, l6] [.int x1, .ref x0] (zSH, I, L, P) Q = (vp_in x1 (zAn zSH x0) ∧ zWp d zi_137 none 27 [l0, l1, l2, l3, l4, l5, l6] [.int (I x0 x1.toNatClampNeg)] (zSH, I, L, P) Q)) ∧
    (∀ (d : Nat) (l0 : Value) (l1 : Value) (l2 : Value) (l3 : Value) (l4 : Value) (l5 : Value) (l6 : Value) (x0 : Int32) (h : zMm) (Q : Option Value → zMm → Prop), zWp d zi_137 none 27 [l0, l1, l2, l3, l4, l5, l6] [.int x0] h Q = if x0 < 0 then zWp d zi_137 none 44 [l0, l1, l2, l3, l4, l5, l6] [] h Q else zWp d zi_137 none 30 [l0, l1, l2, l3, l4, l5, l6] [] h Q) ∧
    (∀ (d : Nat) (l0 : Nat) (l1 : Value) (l2 : Value) (l3 : Value) (l4 : Value) (l5 : Value) (l6 : Value)  (h : zMm) (Q : Option Value → zMm → Prop), zWp d zi_137 none 30 [.ref l0, l1, l2, l3, l4, l5, l6] [] h Q = zWp d zi_137 none 31 [.ref l0, l1, l2, l3, l4, l5, l6] [.ref l0] h Q) ∧
    (∀ (d : Nat) (l0 : Value) (l1 : Value) (l2 : Value) (l3 : Value) (l4 : Value) (l5 : Value) (l6 : Value) (x0 : Nat) (I : Nat → Nat → Int32) (L : Nat → Nat → Int64) (P : Nat → Nat → Option Nat) (Q : Option Value → zMm → Prop), zSH[x0]? = some (.inl 10) → zWp d zi_137 none 31 [l0, l1, l2, l3, l4, l5, l6] [.ref x0] (zSH, I, L, P) Q = zWp d zi_137 none 34 [l0, l1, l2, l3, l4, l5, l6] [va_rf (P x0 46)] (zSH, I, L, P) Q) ∧
    (∀ (d : Nat) (l0 : Value) (l1 : Int32) (l2 : Value) (l3 : Value) (l4 : Value) (l5 : Value) (l6 : Value) (x0 : Nat) (h : zMm) (Q : Option Value → zMm → Prop), zWp d zi_137 none 34 [l0, .int l1, l2, l3, l4, l5, l6] [.ref x0] h Q = zWp d zi_137 none 35 [l0, .int l1, l2, l3, l4, l5, l6] [.int l1, .ref x0] h Q) ∧
    (∀ (d : Nat) (l0 : Value) (l1 : Value) (l2 : Value) (l3 : Value) (l4 : Value) (l5 : Value) (l6 : Value) (x1 : Int32) (x0 : Nat) (I : Nat → Nat → Int32) (L : Nat → Nat → Int64) (P : Nat → Nat → Option Nat) (Q : Option Value → zMm → Prop), zAk zSH x0 = some .int → zWp d zi_137 none 35 [l0, l1, l2, l3, l4, l5, l6] [.int x1, .ref x0] (zSH, I, L, P) Q = (vp_in x1 (zAn zSH x0) ∧ zWp d zi_137 none 36 [l0, l1, l2, l3, l4, l5, l6] [.int (I x0 x1.toNatClampNeg)] (zSH, I, L, P) Q)) ∧
    (∀ (d : Nat) (l0 : Value) (l1 : Value) (l2 : Value) (l3 : Value) (l4 : Value) (l5 : Value) (l6 : Value) (x0 : Int32) (h : zMm) (Q : Option Value → zMm → Prop), zWp d zi_137 none 36 [l0, l1, l2, l3, l4, l5, l6] [.int x0] h Q = zWp d zi_137 none 38 [l0, l1, l2, l3, l4, l5, l6] [.int 50, .int x0] h Q) ∧
    (∀ (d : Nat) (l0 : Value) (l1 : Value) (l2 : Value) (l3 : Value) (l4 : Value) (l5 : Value) (l6 : Value) (x1 : Int32) (x0 : Int32) (h : zMm) (Q : Option Value → zMm → Prop), zWp d zi_137 none 38 [l0, l1, l2, l3, l4, l5, l6] [.int x1, .int x0] h Q = if x0 = x1 then zWp d zi_137 none 44 [l0, l1, l2, l3, l4, l5, l6] [] h Q else zWp d zi_137 none 41 [l0, l1, l2, l3, l4, l5, l6] [] h Q) ∧
    (∀ (d : Nat) (l0 : Value) (l1 : Value) (l2 : Value) (l3 : Value) (l4 : Value) (l5 : Value) (l6 : Value)  (h : zMm) (Q : Option Value → zMm → Prop), zWp d zi_137 none 41 [l0, l1, l2, l3, l4, l5, l6] [] h Q = zWp d zi_137 none 43 [l0, l1, l2, l3, l4, l5, l6] [.int (-12)] h Q) ∧
    (∀ (d : Nat) (l0 : Value) (l1 : Value) (l2 : Value) (l3 : Value) (l4 : Value) (l5 : Value) (l6 : Value) (x0 : Int32) (h : zMm) (Q : Option Value → zMm → Prop), zWp d zi_137 none 43 [l0, l1, l2, l3, l4, l5, l6] [.int x0] h Q = Q (some (.int x0)) h) ∧
    (∀ (d : Nat) (l0 : Value) (l1 : Value) (l2 : Value) (l3 : Value) (l4 : Value) (l5 : Value) (l6 : Value)  (h : zMm) (Q : Option Value → zMm → Prop), zWp d zi_137 none 44 [l0, l1, l2, l3, l4, l5, l6] [] h Q = zWp d zi_137 none 45 [l0, l1, l2, l3, l4, l5, l6] [.int 0] h Q) ∧
    (∀ (d : Nat) (l0 : Value) (l1 : Value) (l2 : Value) (l3 : Int32) (l4 : Value) (l5 : Value) (l6 : Value) (x0 : Int32) (h : zMm) (Q : Option Value → zMm → Prop), zWp d zi_137 none 45 [l0, l1, l2, .int l3, l4, l5, l6] [.int x0] h Q = zWp d zi_137 none 47 [l0, l1, l2, .int l3, .int x0, l5, l6] [] h Q) ∧
    (∀ (d : Nat) (l0 : Nat) (l1 : Value) (l2 : Value) (l3 : Value) (l4 : Value) (l5 : Value) (l6 : Value)  (h : zMm) (Q : Option Value → zMm → Prop), zWp d zi_137 none 47 [.ref l0, l1, l2, l3, l4, l5, l6] [] h Q = zWp d zi_137 none 48 [.ref l0, l1, l2, l3, l4, l5, l6] [.ref l0] h Q) ∧
    (∀ (d : Nat) (l0 : Value) (l1 : Value) (l2 : Value) (l3 : Value) (l4 : Value) (l5 : Value) (l6 : Value) (x0 : Nat) (I : Nat → Nat → Int32) (L : Nat → Nat → Int64) (P : Nat → Nat → Option Nat) (Q : Option Value → zMm → Prop), zSH[x0]? = some (.inl 10) → zWp d zi_137 none 48 [l0, l1, l2, l3, l4, l5, l6] [.ref x0] (zSH, I, L, P) Q = zWp d zi_137 none 51 [l0, l1, l2, l3, l4, l5, l6] [va_rf (P x0 46)] (zSH, I, L, P) Q) ∧
    (∀ (d : Nat) (l0 : Value) (l1 : Int32) (l2 : Value) (l3 : Value) (l4 : Value) (l5 : Value) (l6 : Value) (x0 : Nat) (h : zMm) (Q : Option Value → zMm → Prop), zWp d zi_137 none 51 [l0, .int l1, l2, l3, l4, l5, l6] [.ref x0] h Q = zWp d zi_137 none 52 [l0, .int l1, l2, l3, l4, l5, l6] [.int l1, .ref x0] h Q) ∧
    (∀ (d : Nat) (l0 : Value) (l1 : Value) (l2 : Value) (l3 : Value) (l4 : Value) (l5 : Value) (l6 : Value) (x1 : Int32) (x0 : Nat) (I : Nat → Nat → Int32) (L : Nat → Nat → Int64) (P : Nat → Nat → Option Nat) (Q : Option Value → zMm → Prop), zAk zSH x0 = some .int → zWp d zi_137 none 52 [l0, l1, l2, l3, l4, l5, l6] [.int x1, .ref x0] (zSH, I, L, P) Q = (vp_in x1 (zAn zSH x0) ∧ zWp d zi_137 none 53 [l0, l1, l2, l3, l4, l5, l6] [.int (I x0 x1.toNatClampNeg)] (zSH, I, L, P) Q)) ∧
    (∀ (d : Nat) (l0 : Value) (l1 : Value) (l2 : Value) (l3 : Value) (l4 : Value) (l5 : Value) (l6 : Value) (x0 : Int32) (h : zMm) (Q : Option Value → zMm → Prop), zWp d zi_137 none 53 [l0, l1, l2, l3, l4, l5, l6] [.int x0] h Q = zWp d zi_137 none 55 [l0, l1, l2, l3, l4, l5, l6] [.int 50, .int x0] h Q) ∧
    (∀ (d : Nat) (l0 : Value) (l1 : Value) (l2 : Value) (l3 : Value) (l4 : Value) (l5 : Value) (l6 : Value) (x1 : Int32) (x0 : Int32) (h : zMm) (Q : Option Value → zMm → Prop), zWp d zi_137 none 55 [l0, l1, l2, l3, l4, l5, l6] [.int x1, .int x0] h Q = if x0 = x1 then zWp d zi_137 none 58 [l0, l1, l2, l3, l4, l5, l6] [] h Q else zWp d zi_137 none 66 [l0, l1, l2, l3, l4, l5, l6] [] h Q) ∧
    (∀ (d : Nat) (l0 : Value) (l1 : Value) (l2 : Int32) (l3 : Value) (l4 : Value) (l5 : Value) (l6 : Value)  (h : zMm) (Q : Option Value → zMm → Prop), zWp d zi_137 none 58 [l0, l1, .int l2, l3, l4, l5, l6] [] h Q = zWp d zi_137 none 59 [l0, l1, .int l2, l3, l4, l5, l6] [.int l2] h Q) ∧
    (∀ (d : Nat) (l0 : Value) (l1 : Value) (l2 : Value) (l3 : Value) (l4 : Value) (l5 : Value) (l6 : Value) (x0 : Int32) (h : zMm) (Q : Option Value → zMm → Prop), zWp d zi_137 none 59 [l0, l1, l2, l3, l4, l5, l6] [.int x0] h Q = if x0 < 0 then zWp d zi_137 none 66 [l0, l1, l2, l3, l4, l5, l6] [] h Q else zWp d zi_137 none 62 [l0, l1, l2, l3, l4, l5, l6] [] h Q) ∧
    (∀ (d : Nat) (l0 : Value) (l1 : Value) (l2 : Value) (l3 : Value) (l4 : Value) (l5 : Value) (l6 : Value)  (h : zMm) (Q : Option Value → zMm → Prop), zWp d zi_137 none 62 [l0, l1, l2, l3, l4, l5, l6] [] h Q = zWp d zi_137 none 63 [l0, l1, l2, l3, l4, l5, l6] [.int 1] h Q) ∧
    (∀ (d : Nat) (l0 : Value) (l1 : Value) (l2 : Value) (l3 : Value) (l4 : Value) (l5 : Value) (l6 : Value) (x0 : Int32) (h : zMm) (Q : Option Value → zMm → Prop), zWp d zi_137 none 63 [l0, l1, l2, l3, l4, l5, l6] [.int x0] h Q = zWp d zi_137 none 67 [l0, l1, l2, l3, l4, l5, l6] [.int x0] h Q) ∧
    (∀ (d : Nat) (l0 : Value) (l1 : Value) (l2 : Value) (l3 : Value) (l4 : Value) (l5 : Value) (l6 : Value)  (h : zMm) (Q : Option Value → zMm → Prop), zWp d zi_137 none 66 [l0, l1, l2, l3, l4, l5, l6] [] h Q = zWp d zi_137 none 67 [l0, l1, l2, l3, l4, l5, l6] [.int 0] h Q) ∧
    (∀ (d : Nat) (l0 : Value) (l1 : Value) (l2 : Value) (l3 : Value) (l4 : Int32) (l5 : Value) (l6 : Value) (x0 : Int32) (h : zMm) (Q : Option Value → zMm → Prop), zWp d zi_137 none 67 [l0, l1, l2, l3, .int l4, l5, l6] [.int x0] h Q = zWp d zi_137 none 69 [l0, l1, l2, l3, .int l4, .int x0, l6] [] h Q) ∧
    (∀ (d : Nat) (l0 : Value) (l1 : Value) (l2 : Value) (l3 : Value) (l4 : Value) (l5 : Value) (l6 : Value) (x0 : Int32) (h : zMm) (Q : Option Value → zMm → Prop), zWp d zi_137 none 71 [l0, l1, l2, l3, l4, l5, l6] [.int x0] h Q = if x0 = 0 then zWp d zi_137 none 231 [l0, l1, l2, l3, l4, l5, l6] [] h Q else zWp d zi_137 none 74 [l0, l1, l2, l3, l4, l5, l6] [] h Q) ∧
    (∀ (d : Nat) (l0 : Value) (l1 : Value) (l2 : Value) (l3 : Value) (l4 : Int32) (l5 : Value) (l6 : Value)  (h : zMm) (Q : Option Value → zMm → Prop), zWp d zi_137 none 74 [l0, l1, l2, l3, .int l4, l5, l6] [] h Q = zWp d zi_137 none 76 [l0, l1, l2, l3, .int l4, l5, l6] [.int l4] h Q) ∧
    (∀ (d : Nat) (l0 : Value) (l1 : Value) (l2 : Value) (l3 : Int32) (l4 : Value) (l5 : Value) (l6 : Value) (x0 : Int32) (h : zMm) (Q : Option Value → zMm → Prop), zWp d zi_137 none 76 [l0, l1, l2, .int l3, l4, l5, l6] [.int x0] h Q = zWp d zi_137 none 77 [l0, l1, l2, .int l3, l4, l5, l6] [.int l3, .int x0] h Q) ∧
    (∀ (d : Nat) (l0 : Value) (l1 : Value) (l2 : Value) (l3 : Value) (l4 : Value) (l5 : Value) (l6 : Value) (x1 : Int32) (x0 : Int32) (h : zMm) (Q : Option Value → zMm → Prop), zWp d zi_137 none 77 [l0, l1, l2, l3, l4, l5, l6] [.int x1, .int x0] h Q = if x1 ≤ x0 then zWp d zi_137 none 231 [l0, l1, l2, l3, l4, l5, l6] [] h Q else zWp d zi_137 none 80 [l0, l1, l2, l3, l4, l5, l6] [] h Q) ∧
    (∀ (d : Nat) (l0 : Value) (l1 : Value) (l2 : Int32) (l3 : Value) (l4 : Value) (l5 : Value) (l6 : Value)  (h : zMm) (Q : Option Value → zMm → Prop), zWp d zi_137 none 80 [l0, l1, .int l2, l3, l4, l5, l6] [] h Q = zWp d zi_137 none 81 [l0, l1, .int l2, l3, l4, l5, l6] [.int l2] h Q) ∧
    (∀ (d : Nat) (l0 : Nat) (l1 : Value) (l2 : Value) (l3 : Value) (l4 : Value) (l5 : Value) (l6 : Value) (x0 : Int32) (h : zMm) (Q : Option Value → zMm → Prop), zWp d zi_137 none 81 [.ref l0, l1, l2, l3, l4, l5, l6] [.int x0] h Q = zWp d zi_137 none 82 [.ref l0, l1, l2, l3, l4, l5, l6] [.ref l0, .int x0] h Q) ∧
    (∀ (d : Nat) (l0 : Value) (l1 : Value) (l2 : Value) (l3 : Value) (l4 : Value) (l5 : Value) (l6 : Value) (x1 : Nat) (x0 : Int32) (I : Nat → Nat → Int32) (L : Nat → Nat → Int64) (P : Nat → Nat → Option Nat) (Q : Option Value → zMm → Prop), zSH[x1]? = some (.inl 10) → zWp d zi_137 none 82 [l0, l1, l2, l3, l4, l5, l6] [.ref x1, .int x0] (zSH, I, L, P) Q = zWp d zi_137 none 85 [l0, l1, l2, l3, l4, l5, l6] [va_rf (P x1 47), .int x0] (zSH, I, L, P) Q) ∧
    (∀ (d : Nat) (l0 : Value) (l1 : Int32) (l2 : Value) (l3 : Value) (l4 : Value) (l5 : Value) (l6 : Value) (x1 : Nat) (x0 : Int32) (h : zMm) (Q : Option Value → zMm → Prop), zWp d zi_137 none 85 [l0, .int l1, l2, l3, l4, l5, l6] [.ref x1, .int x0] h Q = zWp d zi_137 none 86 [l0, .int l1, l2, l3, l4, l5, l6] [.int l1, .ref x1, .int x0] h Q) ∧
    (∀ (d : Nat) (l0 : Value) (l1 : Value) (l2 : Value) (l3 : Value) (l4 : Value) (l5 : Value) (l6 : Value) (x2 : Int32) (x1 : Nat) (x0 : Int32) (I : Nat → Nat → Int32) (L : Nat → Nat → Int64) (P : Nat → Nat → Option Nat) (Q : Option Value → zMm → Prop), zAk zSH x1 = some .int → zWp d zi_137 none 86 [l0, l1, l2, l3, l4, l5, l6] [.int x2, .ref x1, .int x0] (zSH, I, L, P) Q = (vp_in x2 (zAn zSH x1) ∧ zWp d zi_137 none 87 [l0, l1, l2, l3, l4, l5, l6] [.int (I x1 x2.toNatClampNeg), .int x0] (zSH, I, L, P) Q)) ∧
    (∀ (d : Nat) (l0 : Value) (l1 : Value) (l2 : Value) (l3 : Value) (l4 : Value) (l5 : Value) (l6 : Value) (x1 : Int32) (x0 : Int32) (h : zMm) (Q : Option Value → zMm → Prop), zWp d zi_137 none 87 [l0, l1, l2, l3, l4, l5, l6] [.int x1, .int x0] h Q = zWp d zi_137 none 88 [l0, l1, l2, l3, l4, l5, l6] [.int 4, .int x1, .int x0] h Q) ∧
    (∀ (d : Nat) (l0 : Value) (l1 : Value) (l2 : Value) (l3 : Value) (l4 : Value) (l5 : Value) (l6 : Value) (x2 : Int32) (x1 : Int32) (x0 : Int32) (h : zMm) (Q : Option Value → zMm → Prop), zWp d zi_137 none 88 [l0, l1, l2, l3, l4, l5, l6] [.int x2, .int x1, .int x0] h Q = zWp d zi_137 none 89 [l0, l1, l2, l3, l4, l5, l6] [.int (x1 - x2), .int x0] h Q) ∧
    (∀ (d : Nat) (l0 : Value) (l1 : Value) (l2 : Value) (l3 : Value) (l4 : Value) (l5 : Value) (l6 : Value) (x1 : Int32) (x0 : Int32) (h : zMm) (Q : Option Value → zMm → Prop), zWp d zi_137 none 89 [l0, l1, l2, l3, l4, l5, l6] [.int x1, .int x0] h Q = zWp d zi_137 none 90 [l0, l1, l2, l3, l4, l5, l6] [.int 4, .int x1, .int x0] h Q) ∧
    (∀ (d : Nat) (l0 : Value) (l1 : Value) (l2 : Value) (l3 : Value) (l4 : Int32) (l5 : Value) (l6 : Value) (x2 : Int32) (x1 : Int32) (x0 : Int32) (h : zMm) (Q : Option Value → zMm → Prop), zWp d zi_137 none 90 [l0, l1, l2, l3, .int l4, l5, l6] [.int x2, .int x1, .int x0] h Q = zWp d zi_137 none 92 [l0, l1, l2, l3, .int l4, l5, l6] [.int l4, .int x2, .int x1, .int x0] h Q) ∧
    (∀ (d : Nat) (l0 : Value) (l1 : Value) (l2 : Value) (l3 : Value) (l4 : Value) (l5 : Value) (l6 : Value) (x3 : Int32) (x2 : Int32) (x1 : Int32) (x0 : Int32) (h : zMm) (Q : Option Value → zMm → Prop), zWp d zi_137 none 92 [l0, l1, l2, l3, l4, l5, l6] [.int x3, .int x2, .int x1, .int x0] h Q = zWp d zi_137 none 93 [l0, l1, l2, l3, l4, l5, l6] [.int (x2 * x3), .int x1, .int x0] h Q) ∧
    (∀ (d : Nat) (l0 : Value) (l1 : Value) (l2 : Value) (l3 : Value) (l4 : Value) (l5 : Value) (l6 : Value) (x2 : Int32) (x1 : Int32) (x0 : Int32) (h : zMm) (Q : Option Value → zMm → Prop), zWp d zi_137 none 93 [l0, l1, l2, l3, l4, l5, l6] [.int x2, .int x1, .int x0] h Q = zWp d zi_137 none 94 [l0, l1, l2, l3, l4, l5, l6] [.int (x1 - x2), .int x0] h Q) ∧
    (∀ (d : Nat) (l0 : Value) (l1 : Value) (l2 : Value) (l3 : Value) (l4 : Value) (l5 : Value) (l6 : Value) (x1 : Int32) (x0 : Int32) (h : zMm) (Q : Option Value → zMm → Prop), zWp d zi_137 none 94 [l0, l1, l2, l3, l4, l5, l6] [.int x1, .int x0] h Q = if x1 < x0 then zWp d zi_137 none 110 [l0, l1, l2, l3, l4, l5, l6] [] h Q else zWp d zi_137 none 97 [l0, l1, l2, l3, l4, l5, l6] [] h Q) ∧
    (∀ (d : Nat) (l0 : Nat) (l1 : Value) (l2 : Value) (l3 : Value) (l4 : Value) (l5 : Value) (l6 : Value)  (h : zMm) (Q : Option Value → zMm → Prop), zWp d zi_137 none 97 [.ref l0, l1, l2, l3, l4, l5, l6] [] h Q = zWp d zi_137 none 98 [.ref l0, l1, l2, l3, l4, l5, l6] [.ref l0] h Q) ∧
    (∀ (d : Nat) (l0 : Value) (l1 : Value) (l2 : Value) (l3 : Value) (l4 : Value) (l5 : Value) (l6 : Value) (x0 : Nat) (I : Nat → Nat → Int32) (L : Nat → Nat → Int64) (P : Nat → Nat → Option Nat) (Q : Option Value → zMm → Prop), zSH[x0]? = some (.inl 10) → zWp d zi_137 none 98 [l0, l1, l2, l3, l4, l5, l6] [.ref x0] (zSH, I, L, P) Q = zWp d zi_137 none 101 [l0, l1, l2, l3, l4, l5, l6] [.int (I x0 6)] (zSH, I, L, P) Q) ∧
    (∀ (d : Nat) (l0 : Value) (l1 : Value) (l2 : Value) (l3 : Value) (l4 : Value) (l5 : Value) (l6 : Value) (x0 : Int32) (h : zMm) (Q : Option Value → zMm → Prop), zWp d zi_137 none 101 [l0, l1, l2, l3, l4, l5, l6] [.int x0] h Q = zWp d zi_137 none 103 [l0, l1, l2, l3, l4, l5, l6] [.int 24, .int x0] h Q) ∧
    (∀ (d : Nat) (l0 : Value) (l1 : Value) (l2 : Value) (l3 : Value) (l4 : Value) (l5 : Value) (l6 : Value) (x1 : Int32) (x0 : Int32) (h : zMm) (Q : Option Value → zMm → Prop), zWp d zi_137 none 103 [l0, l1, l2, l3, l4, l5, l6] [.int x1, .int x0] h Q = if x1 ≤ x0 then zWp d zi_137 none 110 [l0, l1, l2, l3, l4, l5, l6] [] h Q else zWp d zi_137 none 106 [l0, l1, l2, l3, l4, l5, l6] [] h Q) ∧
    (∀ (d : Nat) (l0 : Value) (l1 : Value) (l2 : Value) (l3 : Value) (l4 : Value) (l5 : Value) (l6 : Value)  (h : zMm) (Q : Option Value → zMm → Prop), zWp d zi_137 none 106 [l0, l1, l2, l3, l4, l5, l6] [] h Q = zWp d zi_137 none 107 [l0, l1, l2, l3, l4, l5, l6] [.int 1] h Q) ∧
    (∀ (d : Nat) (l0 : Value) (l1 : Value) (l2 : Value) (l3 : Value) (l4 : Value) (l5 : Value) (l6 : Value) (x0 : Int32) (h : zMm) (Q : Option Value → zMm → Prop), zWp d zi_137 none 107 [l0, l1, l2, l3, l4, l5, l6] [.int x0] h Q = zWp d zi_137 none 111 [l0, l1, l2, l3, l4, l5, l6] [.int x0] h Q) ∧
    (∀ (d : Nat) (l0 : Value) (l1 : Value) (l2 : Value) (l3 : Value) (l4 : Value) (l5 : Value) (l6 : Value)  (h : zMm) (Q : Option Value → zMm → Prop), zWp d zi_137 none 110 [l0, l1, l2, l3, l4, l5, l6] [] h Q = zWp d zi_137 none 111 [l0, l1, l2, l3, l4, l5, l6] [.int 0] h Q) ∧
    (∀ (d : Nat) (l0 : Value) (l1 : Value) (l2 : Value) (l3 : Value) (l4 : Int32) (l5 : Value) (l6 : Value) (x0 : Int32) (h : zMm) (Q : Option Value → zMm → Prop), zWp d zi_137 none 111 [l0, l1, l2, l3, .int l4, l5, l6] [.int x0] h Q = zWp d zi_137 none 113 [l0, l1, l2, l3, .int l4, .int x0, l6] [] h Q) ∧
    (∀ (d : Nat) (l0 : Value) (l1 : Value) (l2 : Value) (l3 : Value) (l4 : Value) (l5 : Value) (l6 : Value)  (h : zMm) (Q : Option Value → zMm → Prop), zWp d zi_137 none 113 [l0, l1, l2, l3, l4, l5, l6] [] h Q = zWp d zi_137 none 115 [l0, l1, l2, l3, l4, l5, l6] [.int 60] h Q) ∧
    (∀ (d : Nat) (l0 : Value) (l1 : Int32) (l2 : Value) (l3 : Value) (l4 : Value) (l5 : Value) (l6 : Value) (x0 : Int32) (h : zMm) (Q : Option Value → zMm → Prop), zWp d zi_137 none 115 [l0, .int l1, l2, l3, l4, l5, l6] [.int x0] h Q = zWp d zi_137 none 116 [l0, .int l1, l2, l3, l4, l5, l6] [.int l1, .int x0] h Q) ∧
    (∀ (d : Nat) (l0 : Value) (l1 : Value) (l2 : Value) (l3 : Value) (l4 : Value) (l5 : Value) (l6 : Value) (x1 : Int32) (x0 : Int32) (h : zMm) (Q : Option Value → zMm → Prop), zWp d zi_137 none 116 [l0, l1, l2, l3, l4, l5, l6] [.int x1, .int x0] h Q = zWp d zi_137 none 117 [l0, l1, l2, l3, l4, l5, l6] [.int (x0 * x1)] h Q) ∧
    (∀ (d : Nat) (l0 : Value) (l1 : Value) (l2 : Int32) (l3 : Value) (l4 : Value) (l5 : Value) (l6 : Value) (x0 : Int32) (h : zMm) (Q : Option Value → zMm → Prop), zWp d zi_137 none 117 [l0, l1, .int l2, l3, l4, l5, l6] [.int x0] h Q = zWp d zi_137 none 118 [l0, l1, .int l2, l3, l4, l5, l6] [.int l2, .int x0] h Q) ∧
    (∀ (d : Nat) (l0 : Value) (l1 : Value) (l2 : Value) (l3 : Value) (l4 : Value) (l5 : Value) (l6 : Value) (x1 : Int32) (x0 : Int32) (h : zMm) (Q : Option Value → zMm → Prop), zWp d zi_137 none 118 [l0, l1, l2, l3, l4, l5, l6] [.int x1, .int x0] h Q = zWp d zi_137 none 119 [l0, l1, l2, l3, l4, l5, l6] [.int (x0 + x1)] h Q) ∧
    (∀ (d : Nat) (l0 : Value) (l1 : Value) (l2 : Value) (l3 : Value) (l4 : Value) (l5 : Value) (l6 : Value) (x0 : Int32) (h : zMm) (Q : Option Value → zMm → Prop), zWp d zi_137 none 119 [l0, l1, l2, l3, l4, l5, l6] [.int x0] h Q = zWp d zi_137 none 120 [l0, l1, l2, l3, l4, l5, l6] [.int 4, .int x0] h Q) ∧
    (∀ (d : Nat) (l0 : Value) (l1 : Value) (l2 : Value) (l3 : Value) (l4 : Int32) (l5 : Value) (l6 : Value) (x1 : Int32) (x0 : Int32) (h : zMm) (Q : Option Value → zMm → Prop), zWp d zi_137 none 120 [l0, l1, l2, l3, .int l4, l5, l6] [.int x1, .int x0] h Q = zWp d zi_137 none 122 [l0, l1, l2, l3, .int l4, l5, l6] [.int l4, .int x1, .int x0] h Q) ∧
    (∀ (d : Nat) (l0 : Value) (l1 : Value) (l2 : Value) (l3 : Value) (l4 : Value) (l5 : Value) (l6 : Value) (x2 : Int32) (x1 : Int32) (x0 : Int32) (h : zMm) (Q : Option Value → zMm → Prop), zWp d zi_137 none 122 [l0, l1, l2, l3, l4, l5, l6] [.int x2, .int x1, .int x0] h Q = zWp d zi_137 none 123 [l0, l1, l2, l3, l4, l5, l6] [.int (x1 * x2), .int x0] h Q) ∧
    (∀ (d : Nat) (l0 : Value) (l1 : Value) (l2 : Value) (l3 : Value) (l4 : Value) (l5 : Value) (l6 : Value) (x1 : Int32) (x0 : Int32) (h : zMm) (Q : Option Value → zMm → Prop), zWp d zi_137 none 123 [l0, l1, l2, l3, l4, l5, l6] [.int x1, .int x0] h Q = zWp d zi_137 none 124 [l0, l1, l2, l3, l4, l5, l6] [.int (x0 + x1)] h Q) ∧
    (∀ (d : Nat) (l0 : Value) (l1 : Value) (l2 : Value) (l3 : Value) (l4 : Value) (l5 : Int32) (l6 : Value) (x0 : Int32) (h : zMm) (Q : Option Value → zMm → Prop), zWp d zi_137 none 124 [l0, l1, l2, l3, l4, .int l5, l6] [.int x0] h Q = zWp d zi_137 none 126 [l0, l1, l2, l3, l4, .int l5, .int x0] [] h Q) ∧
    (∀ (d : Nat) (l0 : Value) (l1 : Value) (l2 : Value) (l3 : Value) (l4 : Value) (l5 : Int32) (l6 : Value)  (h : zMm) (Q : Option Value → zMm → Prop), zWp d zi_137 none 126 [l0, l1, l2, l3, l4, .int l5, l6] [] h Q = zWp d zi_137 none 128 [l0, l1, l2, l3, l4, .int l5, l6] [.int l5] h Q) ∧
    (∀ (d : Nat) (l0 : Value) (l1 : Value) (l2 : Value) (l3 : Value) (l4 : Value) (l5 : Value) (l6 : Value) (x0 : Int32) (h : zMm) (Q : Option Value → zMm → Prop), zWp d zi_137 none 128 [l0, l1, l2, l3, l4, l5, l6] [.int x0] h Q = if x0 = 0 then zWp d zi_137 none 175 [l0, l1, l2, l3, l4, l5, l6] [] h Q else zWp d zi_137 none 131 [l0, l1, l2, l3, l4, l5, l6] [] h Q) ∧
    (∀ (d : Nat) (l0 : Nat) (l1 : Value) (l2 : Value) (l3 : Value) (l4 : Value) (l5 : Value) (l6 : Value)  (h : zMm) (Q : Option Value → zMm → Prop), zWp d zi_137 none 131 [.ref l0, l1, l2, l3, l4, l5, l6] [] h Q = zWp d zi_137 none 132 [.ref l0, l1, l2, l3, l4, l5, l6] [.ref l0] h Q) ∧
    (∀ (d : Nat) (l0 : Value) (l1 : Value) (l2 : Value) (l3 : Value) (l4 : Value) (l5 : Value) (l6 : Value) (x0 : Nat) (I : Nat → Nat → Int32) (L : Nat → Nat → Int64) (P : Nat → Nat → Option Nat) (Q : Option Value → zMm → Prop), zSH[x0]? = some (.inl 10) → zWp d zi_137 none 132 [l0, l1, l2, l3, l4, l5, l6] [.ref x0] (zSH, I, L, P) Q = zWp d zi_137 none 135 [l0, l1, l2, l3, l4, l5, l6] [va_rf (P x0 48)] (zSH, I, L, P) Q) ∧
    (∀ (d : Nat) (l0 : Value) (l1 : Value) (l2 : Value) (l3 : Value) (l4 : Value) (l5 : Value) (l6 : Int32) (x0 : Nat) (h : zMm) (Q : Option Value → zMm → Prop), zWp d zi_137 none 135 [l0, l1, l2, l3, l4, l5, .int l6] [.ref x0] h Q = zWp d zi_137 none 137 [l0, l1, l2, l3, l4, l5, .int l6] [.int l6, .ref x0] h Q) ∧
    (∀ (d : Nat) (l0 : Value) (l1 : Value) (l2 : Value) (l3 : Value) (l4 : Value) (l5 : Value) (l6 : Value) (x1 : Int32) (x0 : Nat) (I : Nat → Nat → Int32) (L : Nat → Nat → Int64) (P : Nat → Nat → Option Nat) (Q : Option Value → zMm → Prop), zAk zSH x0 = some .long → zWp d zi_137 none 137 [l0, l1, l2, l3, l4, l5, l6] [.int x1, .ref x0] (zSH, I, L, P) Q = (vp_in x1 (zAn zSH x0) ∧ zWp d zi_137 none 138 [l0, l1, l2, l3, l4, l5, l6] [.long (L x0 x1.toNatClampNeg)] (zSH, I, L, P) Q)) ∧
    (∀ (d : Nat) (l0 : Nat) (l1 : Value) (l2 : Value) (l3 : Value) (l4 : Value) (l5 : Value) (l6 : Value) (x0 : Int64) (h : zMm) (Q : Option Value → zMm → Prop), zWp d zi_137 none 138 [.ref l0, l1, l2, l3, l4, l5, l6] [.long x0] h Q = zWp d zi_137 none 139 [.ref l0, l1, l2, l3, l4, l5, l6] [.ref l0, .long x0] h Q) ∧
    (∀ (d : Nat) (l0 : Value) (l1 : Value) (l2 : Value) (l3 : Value) (l4 : Value) (l5 : Value) (l6 : Value) (x1 : Nat) (x0 : Int64) (I : Nat → Nat → Int32) (L : Nat → Nat → Int64) (P : Nat → Nat → Option Nat) (Q : Option Value → zMm → Prop), zSH[x1]? = some (.inl 10) → zWp d zi_137 none 139 [l0, l1, l2, l3, l4, l5, l6] [.ref x1, .long x0] (zSH, I, L, P) Q = zWp d zi_137 none 142 [l0, l1, l2, l3, l4, l5, l6] [va_rf (P x1 48), .long x0] (zSH, I, L, P) Q) ∧
    (∀ (d : Nat) (l0 : Value) (l1 : Value) (l2 : Value) (l3 : Value) (l4 : Value) (l5 : Value) (l6 : Int32) (x1 : Nat) (x0 : Int64) (h : zMm) (Q : Option Value → zMm → Prop), zWp d zi_137 none 142 [l0, l1, l2, l3, l4, l5, .int l6] [.ref x1, .long x0] h Q = zWp d zi_137 none 144 [l0, l1, l2, l3, l4, l5, .int l6] [.int l6, .ref x1, .long x0] h Q) ∧
    (∀ (d : Nat) (l0 : Value) (l1 : Value) (l2 : Value) (l3 : Value) (l4 : Value) (l5 : Value) (l6 : Value) (x2 : Int32) (x1 : Nat) (x0 : Int64) (h : zMm) (Q : Option Value → zMm → Prop), zWp d zi_137 none 144 [l0, l1, l2, l3, l4, l5, l6] [.int x2, .ref x1, .long x0] h Q = zWp d zi_137 none 145 [l0, l1, l2, l3, l4, l5, l6] [.int 1, .int x2, .ref x1, .long x0] h Q) ∧
    (∀ (d : Nat) (l0 : Value) (l1 : Value) (l2 : Value) (l3 : Value) (l4 : Value) (l5 : Value) (l6 : Value) (x3 : Int32) (x2 : Int32) (x1 : Nat) (x0 : Int64) (h : zMm) (Q : Option Value → zMm → Prop), zWp d zi_137 none 145 [l0, l1, l2, l3, l4, l5, l6] [.int x3, .int x2, .ref x1, .long x0] h Q = zWp d zi_137 none 146 [l0, l1, l2, l3, l4, l5, l6] [.int (x2 + x3), .ref x1, .long x0] h Q) ∧
    (∀ (d : Nat) (l0 : Value) (l1 : Value) (l2 : Value) (l3 : Value) (l4 : Value) (l5 : Value) (l6 : Value) (x2 : Int32) (x1 : Nat) (x0 : Int64) (I : Nat → Nat → Int32) (L : Nat → Nat → Int64) (P : Nat → Nat → Option Nat) (Q : Option Value → zMm → Prop), zAk zSH x1 = some .long → zWp d zi_137 none 146 [l0, l1, l2, l3, l4, l5, l6] [.int x2, .ref x1, .long x0] (zSH, I, L, P) Q = (vp_in x2 (zAn zSH x1) ∧ zWp d zi_137 none 147 [l0, l1, l2, l3, l4, l5, l6] [.long (L x1 x2.toNatClampNeg), .long x0] (zSH, I, L, P) Q)) ∧
    (∀ (d : Nat) (l0 : Nat) (l1 : Value) (l2 : Value) (l3 : Value) (l4 : Value) (l5 : Value) (l6 : Value) (x1 : Int64) (x0 : Int64) (h : zMm) (Q : Option Value → zMm → Prop), zWp d zi_137 none 147 [.ref l0, l1, l2, l3, l4, l5, l6] [.long x1, .long x0] h Q = zWp d zi_137 none 148 [.ref l0, l1, l2, l3, l4, l5, l6] [.ref l0, .long x1, .long x0] h Q) ∧
    (∀ (d : Nat) (l0 : Value) (l1 : Value) (l2 : Value) (l3 : Value) (l4 : Value) (l5 : Value) (l6 : Value) (x2 : Nat) (x1 : Int64) (x0 : Int64) (I : Nat → Nat → Int32) (L : Nat → Nat → Int64) (P : Nat → Nat → Option Nat) (Q : Option Value → zMm → Prop), zSH[x2]? = some (.inl 10) → zWp d zi_137 none 148 [l0, l1, l2, l3, l4, l5, l6] [.ref x2, .long x1, .long x0] (zSH, I, L, P) Q = zWp d zi_137 none 151 [l0, l1, l2, l3, l4, l5, l6] [va_rf (P x2 48), .long x1, .long x0] (zSH, I, L, P) Q) ∧
    (∀ (d : Nat) (l0 : Value) (l1 : Value) (l2 : Value) (l3 : Value) (l4 : Value) (l5 : Value) (l6 : Int32) (x2 : Nat) (x1 : Int64) (x0 : Int64) (h : zMm) (Q : Option Value → zMm → Prop), zWp d zi_137 none 151 [l0, l1, l2, l3, l4, l5, .int l6] [.ref x2, .long x1, .long x0] h Q = zWp d zi_137 none 153 [l0, l1, l2, l3, l4, l5, .int l6] [.int l6, .ref x2, .long x1, .long x0] h Q) ∧
    (∀ (d : Nat) (l0 : Value) (l1 : Value) (l2 : Value) (l3 : Value) (l4 : Value) (l5 : Value) (l6 : Value) (x3 : Int32) (x2 : Nat) (x1 : Int64) (x0 : Int64) (h : zMm) (Q : Option Value → zMm → Prop), zWp d zi_137 none 153 [l0, l1, l2, l3, l4, l5, l6] [.int x3, .ref x2, .long x1, .long x0] h Q = zWp d zi_137 none 154 [l0, l1, l2, l3, l4, l5, l6] [.int 2, .int x3, .ref x2, .long x1, .long x0] h Q) ∧
    (∀ (d : Nat) (l0 : Value) (l1 : Value) (l2 : Value) (l3 : Value) (l4 : Value) (l5 : Value) (l6 : Value) (x4 : Int32) (x3 : Int32) (x2 : Nat) (x1 : Int64) (x0 : Int64) (h : zMm) (Q : Option Value → zMm → Prop), zWp d zi_137 none 154 [l0, l1, l2, l3, l4, l5, l6] [.int x4, .int x3, .ref x2, .long x1, .long x0] h Q = zWp d zi_137 none 155 [l0, l1, l2, l3, l4, l5, l6] [.int (x3 + x4), .ref x2, .long x1, .long x0] h Q) ∧
    (∀ (d : Nat) (l0 : Value) (l1 : Value) (l2 : Value) (l3 : Value) (l4 : Value) (l5 : Value) (l6 : Value) (x3 : Int32) (x2 : Nat) (x1 : Int64) (x0 : Int64) (I : Nat → Nat → Int32) (L : Nat → Nat → Int64) (P : Nat → Nat → Option Nat) (Q : Option Value → zMm → Prop), zAk zSH x2 = some .long → zWp d zi_137 none 155 [l0, l1, l2, l3, l4, l5, l6] [.int x3, .ref x2, .long x1, .long x0] (zSH, I, L, P) Q = (vp_in x3 (zAn zSH x2) ∧ zWp d zi_137 none 156 [l0, l1, l2, l3, l4, l5, l6] [.long (L x2 x3.toNatClampNeg), .long x1, .long x0] (zSH, I, L, P) Q)) ∧
    (∀ (d : Nat) (l0 : Nat) (l1 : Value) (l2 : Value) (l3 : Value) (l4 : Value) (l5 : Value) (l6 : Value) (x2 : Int64) (x1 : Int64) (x0 : Int64) (h : zMm) (Q : Option Value → zMm → Prop), zWp d zi_137 none 156 [.ref l0, l1, l2, l3, l4, l5, l6] [.long x2, .long x1, .long x0] h Q = zWp d zi_137 none 157 [.ref l0, l1, l2, l3, l4, l5, l6] [.ref l0, .long x2, .long x1, .long x0] h Q) ∧
    (∀ (d : Nat) (l0 : Value) (l1 : Value) (l2 : Value) (l3 : Value) (l4 : Value) (l5 : Value) (l6 : Value) (x3 : Nat) (x2 : Int64) (x1 : Int64) (x0 : Int64) (I : Nat → Nat → Int32) (L : Nat → Nat → Int64) (P : Nat → Nat → Option Nat) (Q : Option Value → zMm → Prop), zSH[x3]? = some (.inl 10) → zWp d zi_137 none 157 [l0, l1, l2, l3, l4, l5, l6] [.ref x3, .long x2, .long x1, .long x0] (zSH, I, L, P) Q = zWp d zi_137 none 160 [l0, l1, l2, l3, l4, l5, l6] [va_rf (P x3 48), .long x2, .long x1, .long x0] (zSH, I, L, P) Q) ∧
    (∀ (d : Nat) (l0 : Value) (l1 : Value) (l2 : Value) (l3 : Value) (l4 : Value) (l5 : Value) (l6 : Int32) (x3 : Nat) (x2 : Int64) (x1 : Int64) (x0 : Int64) (h : zMm) (Q : Option Value → zMm → Prop), zWp d zi_137 none 160 [l0, l1, l2, l3, l4, l5, .int l6] [.ref x3, .long x2, .long x1, .long x0] h Q = zWp d zi_137 none 162 [l0, l1, l2, l3, l4, l5, .int l6] [.int l6, .ref x3, .long x2, .long x1, .long x0] h Q) ∧
    (∀ (d : Nat) (l0 : Value) (l1 : Value) (l2 : Value) (l3 : Value) (l4 : Value) (l5 : Value) (l6 : Value) (x4 : Int32) (x3 : Nat) (x2 : Int64) (x1 : Int64) (x0 : Int64) (h : zMm) (Q : Option Value → zMm → Prop), zWp d zi_137 none 162 [l0, l1, l2, l3, l4, l5, l6] [.int x4, .ref x3, .long x2, .long x1, .long x0] h Q = zWp d zi_137 none 163 [l0, l1, l2, l3, l4, l5, l6] [.int 3, .int x4, .ref x3, .long x2, .long x1, .long x0] h Q) ∧
    (∀ (d : Nat) (l0 : Value) (l1 : Value) (l2 : Value) (l3 : Value) (l4 : Value) (l5 : Value) (l6 : Value) (x5 : Int32) (x4 : Int32) (x3 : Nat) (x2 : Int64) (x1 : Int64) (x0 : Int64) (h : zMm) (Q : Option Value → zMm → Prop), zWp d zi_137 none 163 [l0, l1, l2, l3, l4, l5, l6] [.int x5, .int x4, .ref x3, .long x2, .long x1, .long x0] h Q = zWp d zi_137 none 164 [l0, l1, l2, l3, l4, l5, l6] [.int (x4 + x5), .ref x3, .long x2, .long x1, .long x0] h Q) ∧
    (∀ (d : Nat) (l0 : Value) (l1 : Value) (l2 : Value) (l3 : Value) (l4 : Value) (l5 : Value) (l6 : Value) (x4 : Int32) (x3 : Nat) (x2 : Int64) (x1 : Int64) (x0 : Int64) (I : Nat → Nat → Int32) (L : Nat → Nat → Int64) (P : Nat → Nat → Option Nat) (Q : Option Value → zMm → Prop), zAk zSH x3 = some .long → zWp d zi_137 none 164 [l0, l1, l2, l3, l4, l5, l6] [.int x4, .ref x3, .long x2, .long x1, .long x0] (zSH, I, L, P) Q = (vp_in x4 (zAn zSH x3) ∧ zWp d zi_137 none 165 [l0, l1, l2, l3, l4, l5, l6] [.long (L x3 x4.toNatClampNeg), .long x2, .long x1, .long x0] (zSH, I, L, P) Q)) ∧
    (∀ (d : Nat) (l0 : Value) (l1 : Value) (l2 : Value) (l3 : Value) (l4 : Value) (l5 : Value) (l6 : Value) (x3 : Int64) (x2 : Int64) (x1 : Int64) (x0 : Int64) (h : zMm) (Q : Option Value → zMm → Prop), zWp d zi_137 none 165 [l0, l1, l2, l3, l4, l5, l6] [.long x3, .long x2, .long x1, .long x0] h Q = zWM d 132 [.long x0, .long x1, .long x2, .long x3] h (fun r h1 => zWp d zi_137 none 168 [l0, l1, l2, l3, l4, l5, l6] (r.toList ++ []) h1 Q)) ∧
    (∀ (d : Nat) (l0 : Value) (l1 : Value) (l2 : Value) (l3 : Value) (l4 : Value) (l5 : Value) (l6 : Value) (x0 : Int32) (h : zMm) (Q : Option Value → zMm → Prop), zWp d zi_137 none 168 [l0, l1, l2, l3, l4, l5, l6] [.int x0] h Q = if x0 = 0 then zWp d zi_137 none 175 [l0, l1, l2, l3, l4, l5, l6] [] h Q else zWp d zi_137 none 171 [l0, l1, l2, l3, l4, l5, l6] [] h Q) ∧
    (∀ (d : Nat) (l0 : Value) (l1 : Value) (l2 : Value) (l3 : Value) (l4 : Value) (l5 : Value) (l6 : Value)  (h : zMm) (Q : Option Value → zMm → Prop), zWp d zi_137 none 171 [l0, l1, l2, l3, l4, l5, l6] [] h Q = zWp d zi_137 none 172 [l0, l1, l2, l3, l4, l5, l6] [.int 1] h Q) ∧
    (∀ (d : Nat) (l0 : Value) (l1 : Value) (l2 : Value) (l3 : Value) (l4 : Value) (l5 : Value) (l6 : Value) (x0 : Int32) (h : zMm) (Q : Option Value → zMm → Prop), zWp d zi_137 none 172 [l0, l1, l2, l3, l4, l5, l6] [.int x0] h Q = zWp d zi_137 none 176 [l0, l1, l2, l3, l4, l5, l6] [.int x0] h Q) ∧
    (∀ (d : Nat) (l0 : Value) (l1 : Value) (l2 : Value) (l3 : Value) (l4 : Value) (l5 : Value) (l6 : Value)  (h : zMm) (Q : Option Value → zMm → Prop), zWp d zi_137 none 175 [l0, l1, l2, l3, l4, l5, l6] [] h Q = zWp d zi_137 none 176 [l0, l1, l2, l3, l4, l5, l6] [.int 0] h Q) ∧
    (∀ (d : Nat) (l0 : Value) (l1 : Value) (l2 : Value) (l3 : Value) (l4 : Int32) (l5 : Value) (l6 : Value) (x0 : Int32) (h : zMm) (Q : Option Value → zMm → Prop), zWp d zi_137 none 176 [l0, l1, l2, l3, .int l4, l5, l6] [.int x0] h Q = zWp d zi_137 none 178 [l0, l1, l2, l3, .int l4, .int x0, l6] [] h Q) ∧
    (∀ (d : Nat) (l0 : Value) (l1 : Value) (l2 : Value) (l3 : Value) (l4 : Value) (l5 : Int32) (l6 : Value)  (h : zMm) (Q : Option Value → zMm → Prop), zWp d zi_137 none 178 [l0, l1, l2, l3, l4, .int l5, l6] [] h Q = zWp d zi_137 none 180 [l0, l1, l2, l3, l4, .int l5, l6] [.int l5] h Q) ∧
    (∀ (d : Nat) (l0 : Value) (l1 : Value) (l2 : Value) (l3 : Value) (l4 : Value) (l5 : Value) (l6 : Value) (x0 : Int32) (h : zMm) (Q : Option Value → zMm → Prop), zWp d zi_137 none 180 [l0, l1, l2, l3, l4, l5, l6] [.int x0] h Q = if x0 = 0 then zWp d zi_137 none 228 [l0, l1, l2, l3, l4, l5, l6] [] h Q else zWp d zi_137 none 183 [l0, l1, l2, l3, l4, l5, l6] [] h Q) ∧
    (∀ (d : Nat) (l0 : Nat) (l1 : Value) (l2 : Value) (l3 : Value) (l4 : Value) (l5 : Value) (l6 : Value)  (h : zMm) (Q : Option Value → zMm → Prop), zWp d zi_137 none 183 [.ref l0, l1, l2, l3, l4, l5, l6] [] h Q = zWp d zi_137 none 184 [.ref l0, l1, l2, l3, l4, l5, l6] [.ref l0] h Q) ∧
    (∀ (d : Nat) (l0 : Nat) (l1 : Value) (l2 : Value) (l3 : Value) (l4 : Value) (l5 : Value) (l6 : Value) (x0 : Nat) (h : zMm) (Q : Option Value → zMm → Prop), zWp d zi_137 none 184 [.ref l0, l1, l2, l3, l4, l5, l6] [.ref x0] h Q = zWp d zi_137 none 185 [.ref l0, l1, l2, l3, l4, l5, l6] [.ref l0, .ref x0] h Q) ∧
    (∀ (d : Nat) (l0 : Value) (l1 : Value) (l2 : Value) (l3 : Value) (l4 : Value) (l5 : Value) (l6 : Value) (x1 : Nat) (x0 : Nat) (I : Nat → Nat → Int32) (L : Nat → Nat → Int64) (P : Nat → Nat → Option Nat) (Q : Option Value → zMm → Prop), zSH[x1]? = some (.inl 10) → zWp d zi_137 none 185 [l0, l1, l2, l3, l4, l5, l6] [.ref x1, .ref x0] (zSH, I, L, P) Q = zWp d zi_137 none 188 [l0, l1, l2, l3, l4, l5, l6] [va_rf (P x1 48), .ref x0] (zSH, I, L, P) Q) ∧
    (∀ (d : Nat) (l0 : Value) (l1 : Value) (l2 : Value) (l3 : Value) (l4 : Value) (l5 : Value) (l6 : Int32) (x1 : Nat) (x0 : Nat) (h : zMm) (Q : Option Value → zMm → Prop), zWp d zi_137 none 188 [l0, l1, l2, l3, l4, l5, .int l6] [.ref x1, .ref x0] h Q = zWp d zi_137 none 190 [l0, l1, l2, l3, l4, l5, .int l6] [.int l6, .ref x1, .ref x0] h Q) ∧
    (∀ (d : Nat) (l0 : Value) (l1 : Value) (l2 : Value) (l3 : Value) (l4 : Value) (l5 : Value) (l6 : Value) (x2 : Int32) (x1 : Nat) (x0 : Nat) (I : Nat → Nat → Int32) (L : Nat → Nat → Int64) (P : Nat → Nat → Option Nat) (Q : Option Value → zMm → Prop), zAk zSH x1 = some .long → zWp d zi_137 none 190 [l0, l1, l2, l3, l4, l5, l6] [.int x2, .ref x1, .ref x0] (zSH, I, L, P) Q = (vp_in x2 (zAn zSH x1) ∧ zWp d zi_137 none 191 [l0, l1, l2, l3, l4, l5, l6] [.long (L x1 x2.toNatClampNeg), .ref x0] (zSH, I, L, P) Q)) ∧
    (∀ (d : Nat) (l0 : Value) (l1 : Value) (l2 : Value) (l3 : Value) (l4 : Value) (l5 : Value) (l6 : Value) (x1 : Int64) (x0 : Nat) (h : zMm) (Q : Option Value → zMm → Prop), zWp d zi_137 none 191 [l0, l1, l2, l3, l4, l5, l6] [.long x1, .ref x0] h Q = zWp d zi_137 none 192 [l0, l1, l2, l3, l4, l5, l6] [.int x1.toInt32, .ref x0] h Q) ∧
    (∀ (d : Nat) (l0 : Nat) (l1 : Value) (l2 : Value) (l3 : Value) (l4 : Value) (l5 : Value) (l6 : Value) (x1 : Int32) (x0 : Nat) (h : zMm) (Q : Option Value → zMm → Prop), zWp d zi_137 none 192 [.ref l0, l1, l2, l3, l4, l5, l6] [.int x1, .ref x0] h Q = zWp d zi_137 none 193 [.ref l0, l1, l2, l3, l4, l5, l6] [.ref l0, .int x1, .ref x0] h Q) ∧
    (∀ (d : Nat) (l0 : Value) (l1 : Value) (l2 : Value) (l3 : Value) (l4 : Value) (l5 : Value) (l6 : Value) (x2 : Nat) (x1 : Int32) (x0 : Nat) (I : Nat → Nat → Int32) (L : Nat → Nat → Int64) (P : Nat → Nat → Option Nat) (Q : Option Value → zMm → Prop), zSH[x2]? = some (.inl 10) → zWp d zi_137 none 193 [l0, l1, l2, l3, l4, l5, l6] [.ref x2, .int x1, .ref x0] (zSH, I, L, P) Q = zWp d zi_137 none 196 [l0, l1, l2, l3, l4, l5, l6] [va_rf (P x2 48), .int x1, .ref x0] (zSH, I, L, P) Q) ∧
    (∀ (d : Nat) (l0 : Value) (l1 : Value) (l2 : Value) (l3 : Value) (l4 : Value) (l5 : Value) (l6 : Int32) (x2 : Nat) (x1 : Int32) (x0 : Nat) (h : zMm) (Q : Option Value → zMm → Prop), zWp d zi_137 none 196 [l0, l1, l2, l3, l4, l5, .int l6] [.ref x2, .int x1, .ref x0] h Q = zWp d zi_137 none 198 [l0, l1, l2, l3, l4, l5, .int l6] [.int l6, .ref x2, .int x1, .ref x0] h Q) ∧
    (∀ (d : Nat) (l0 : Value) (l1 : Value) (l2 : Value) (l3 : Value) (l4 : Value) (l5 : Value) (l6 : Value) (x3 : Int32) (x2 : Nat) (x1 : Int32) (x0 : Nat) (h : zMm) (Q : Option Value → zMm → Prop), zWp d zi_137 none 198 [l0, l1, l2, l3, l4, l5, l6] [.int x3, .ref x2, .int x1, .ref x0] h Q = zWp d zi_137 none 199 [l0, l1, l2, l3, l4, l5, l6] [.int 1, .int x3, .ref x2, .int x1, .ref x0] h Q) ∧
    (∀ (d : Nat) (l0 : Value) (l1 : Value) (l2 : Value) (l3 : Value) (l4 : Value) (l5 : Value) (l6 : Value) (x4 : Int32) (x3 : Int32) (x2 : Nat) (x1 : Int32) (x0 : Nat) (h : zMm) (Q : Option Value → zMm → Prop), zWp d zi_137 none 199 [l0, l1, l2, l3, l4, l5, l6] [.int x4, .int x3, .ref x2, .int x1, .ref x0] h Q = zWp d zi_137 none 200 [l0, l1, l2, l3, l4, l5, l6] [.int (x3 + x4), .ref x2, .int x1, .ref x0] h Q) ∧
    (∀ (d : Nat) (l0 : Value) (l1 : Value) (l2 : Value) (l3 : Value) (l4 : Value) (l5 : Value) (l6 : Value) (x3 : Int32) (x2 : Nat) (x1 : Int32) (x0 : Nat) (I : Nat → Nat → Int32) (L : Nat → Nat → Int64) (P : Nat → Nat → Option Nat) (Q : Option Value → zMm → Prop), zAk zSH x2 = some .long → zWp d zi_137 none 200 [l0, l1, l2, l3, l4, l5, l6] [.int x3, .ref x2, .int x1, .ref x0] (zSH, I, L, P) Q = (vp_in x3 (zAn zSH x2) ∧ zWp d zi_137 none 201 [l0, l1, l2, l3, l4, l5, l6] [.long (L x2 x3.toNatClampNeg), .int x1, .ref x0] (zSH, I, L, P) Q)) ∧
    (∀ (d : Nat) (l0 : Value) (l1 : Value) (l2 : Value) (l3 : Value) (l4 : Value) (l5 : Value) (l6 : Value) (x2 : Int64) (x1 : Int32) (x0 : Nat) (h : zMm) (Q : Option Value → zMm → Prop), zWp d zi_137 none 201 [l0, l1, l2, l3, l4, l5, l6] [.long x2, .int x1, .ref x0] h Q = zWp d zi_137 none 202 [l0, l1, l2, l3, l4, l5, l6] [.int x2.toInt32, .int x1, .ref x0] h Q) ∧
    (∀ (d : Nat) (l0 : Nat) (l1 : Value) (l2 : Value) (l3 : Value) (l4 : Value) (l5 : Value) (l6 : Value) (x2 : Int32) (x1 : Int32) (x0 : Nat) (h : zMm) (Q : Option Value → zMm → Prop), zWp d zi_137 none 202 [.ref l0, l1, l2, l3, l4, l5, l6] [.int x2, .int x1, .ref x0] h Q = zWp d zi_137 none 203 [.ref l0, l1, l2, l3, l4, l5, l6] [.ref l0, .int x2, .int x1, .ref x0] h Q) ∧
    (∀ (d : Nat) (l0 : Value) (l1 : Value) (l2 : Value) (l3 : Value) (l4 : Value) (l5 : Value) (l6 : Value) (x3 : Nat) (x2 : Int32) (x1 : Int32) (x0 : Nat) (I : Nat → Nat → Int32) (L : Nat → Nat → Int64) (P : Nat → Nat → Option Nat) (Q : Option Value → zMm → Prop), zSH[x3]? = some (.inl 10) → zWp d zi_137 none 203 [l0, l1, l2, l3, l4, l5, l6] [.ref x3, .int x2, .int x1, .ref x0] (zSH, I, L, P) Q = zWp d zi_137 none 206 [l0, l1, l2, l3, l4, l5, l6] [va_rf (P x3 48), .int x2, .int x1, .ref x0] (zSH, I, L, P) Q) ∧
    (∀ (d : Nat) (l0 : Value) (l1 : Value) (l2 : Value) (l3 : Value) (l4 : Value) (l5 : Value) (l6 : Int32) (x3 : Nat) (x2 : Int32) (x1 : Int32) (x0 : Nat) (h : zMm) (Q : Option Value → zMm → Prop), zWp d zi_137 none 206 [l0, l1, l2, l3, l4, l5, .int l6] [.ref x3, .int x2, .int x1, .ref x0] h Q = zWp d zi_137 none 208 [l0, l1, l2, l3, l4, l5, .int l6] [.int l6, .ref x3, .int x2, .int x1, .ref x0] h Q) ∧
    (∀ (d : Nat) (l0 : Value) (l1 : Value) (l2 : Value) (l3 : Value) (l4 : Value) (l5 : Value) (l6 : Value) (x4 : Int32) (x3 : Nat) (x2 : Int32) (x1 : Int32) (x0 : Nat) (h : zMm) (Q : Option Value → zMm → Prop), zWp d zi_137 none 208 [l0, l1, l2, l3, l4, l5, l6] [.int x4, .ref x3, .int x2, .int x1, .ref x0] h Q = zWp d zi_137 none 209 [l0, l1, l2, l3, l4, l5, l6] [.int 2, .int x4, .ref x3, .int x2, .int x1, .ref x0] h Q) ∧
    (∀ (d : Nat) (l0 : Value) (l1 : Value) (l2 : Value) (l3 : Value) (l4 : Value) (l5 : Value) (l6 : Value) (x5 : Int32) (x4 : Int32) (x3 : Nat) (x2 : Int32) (x1 : Int32) (x0 : Nat) (h : zMm) (Q : Option Value → zMm → Prop), zWp d zi_137 none 209 [l0, l1, l2, l3, l4, l5, l6] [.int x5, .int x4, .ref x3, .int x2, .int x1, .ref x0] h Q = zWp d zi_137 none 210 [l0, l1, l2, l3, l4, l5, l6] [.int (x4 + x5), .ref x3, .int x2, .int x1, .ref x0] h Q) ∧
    (∀ (d : Nat) (l0 : Value) (l1 : Value) (l2 : Value) (l3 : Value) (l4 : Value) (l5 : Value) (l6 : Value) (x4 : Int32) (x3 : Nat) (x2 : Int32) (x1 : Int32) (x0 : Nat) (I : Nat → Nat → Int32) (L : Nat → Nat → Int64) (P : Nat → Nat → Option Nat) (Q : Option Value → zMm → Prop), zAk zSH x3 = some .long → zWp d zi_137 none 210 [l0, l1, l2, l3, l4, l5, l6] [.int x4, .ref x3, .int x2, .int x1, .ref x0] (zSH, I, L, P) Q = (vp_in x4 (zAn zSH x3) ∧ zWp d zi_137 none 211 [l0, l1, l2, l3, l4, l5, l6] [.long (L x3 x4.toNatClampNeg), .int x2, .int x1, .ref x0] (zSH, I, L, P) Q)) ∧
    (∀ (d : Nat) (l0 : Value) (l1 : Value) (l2 : Value) (l3 : Value) (l4 : Value) (l5 : Value) (l6 : Value) (x3 : Int64) (x2 : Int32) (x1 : Int32) (x0 : Nat) (h : zMm) (Q : Option Value → zMm → Prop), zWp d zi_137 none 211 [l0, l1, l2, l3, l4, l5, l6] [.long x3, .int x2, .int x1, .ref x0] h Q = zWp d zi_137 none 212 [l0, l1, l2, l3, l4, l5, l6] [.int x3.toInt32, .int x2, .int x1, .ref x0] h Q) ∧
    (∀ (d : Nat) (l0 : Nat) (l1 : Value) (l2 : Value) (l3 : Value) (l4 : Value) (l5 : Value) (l6 : Value) (x3 : Int32) (x2 : Int32) (x1 : Int32) (x0 : Nat) (h : zMm) (Q : Option Value → zMm → Prop), zWp d zi_137 none 212 [.ref l0, l1, l2, l3, l4, l5, l6] [.int x3, .int x2, .int x1, .ref x0] h Q = zWp d zi_137 none 213 [.ref l0, l1, l2, l3, l4, l5, l6] [.ref l0, .int x3, .int x2, .int x1, .ref x0] h Q) ∧
    (∀ (d : Nat) (l0 : Value) (l1 : Value) (l2 : Value) (l3 : Value) (l4 : Value) (l5 : Value) (l6 : Value) (x4 : Nat) (x3 : Int32) (x2 : Int32) (x1 : Int32) (x0 : Nat) (I : Nat → Nat → Int32) (L : Nat → Nat → Int64) (P : Nat → Nat → Option Nat) (Q : Option Value → zMm → Prop), zSH[x4]? = some (.inl 10) → zWp d zi_137 none 213 [l0, l1, l2, l3, l4, l5, l6] [.ref x4, .int x3, .int x2, .int x1, .ref x0] (zSH, I, L, P) Q = zWp d zi_137 none 216 [l0, l1, l2, l3, l4, l5, l6] [va_rf (P x4 48), .int x3, .int x2, .int x1, .ref x0] (zSH, I, L, P) Q) ∧
    (∀ (d : Nat) (l0 : Value) (l1 : Value) (l2 : Value) (l3 : Value) (l4 : Value) (l5 : Value) (l6 : Int32) (x4 : Nat) (x3 : Int32) (x2 : Int32) (x1 : Int32) (x0 : Nat) (h : zMm) (Q : Option Value → zMm → Prop), zWp d zi_137 none 216 [l0, l1, l2, l3, l4, l5, .int l6] [.ref x4, .int x3, .int x2, .int x1, .ref x0] h Q = zWp d zi_137 none 218 [l0, l1, l2, l3, l4, l5, .int l6] [.int l6, .ref x4, .int x3, .int x2, .int x1, .ref x0] h Q) ∧
    (∀ (d : Nat) (l0 : Value) (l1 : Value) (l2 : Value) (l3 : Value) (l4 : Value) (l5 : Value) (l6 : Value) (x5 : Int32) (x4 : Nat) (x3 : Int32) (x2 : Int32) (x1 : Int32) (x0 : Nat) (h : zMm) (Q : Option Value → zMm → Prop), zWp d zi_137 none 218 [l0, l1, l2, l3, l4, l5, l6] [.int x5, .ref x4, .int x3, .int x2, .int x1, .ref x0] h Q = zWp d zi_137 none 219 [l0, l1, l2, l3, l4, l5, l6] [.int 3, .int x5, .ref x4, .int x3, .int x2, .int x1, .ref x0] h Q) ∧
    (∀ (d : Nat) (l0 : Value) (l1 : Value) (l2 : Value) (l3 : Value) (l4 : Value) (l5 : Value) (l6 : Value) (x6 : Int32) (x5 : Int32) (x4 : Nat) (x3 : Int32) (x2 : Int32) (x1 : Int32) (x0 : Nat) (h : zMm) (Q : Option Value → zMm → Prop), zWp d zi_137 none 219 [l0, l1, l2, l3, l4, l5, l6] [.int x6, .int x5, .ref x4, .int x3, .int x2, .int x1, .ref x0] h Q = zWp d zi_137 none 220 [l0, l1, l2, l3, l4, l5, l6] [.int (x5 + x6), .ref x4, .int x3, .int x2, .int x1, .ref x0] h Q) ∧
    (∀ (d : Nat) (l0 : Value) (l1 : Value) (l2 : Value) (l3 : Value) (l4 : Value) (l5 : Value) (l6 : Value) (x5 : Int32) (x4 : Nat) (x3 : Int32) (x2 : Int32) (x1 : Int32) (x0 : Nat) (I : Nat → Nat → Int32) (L : Nat → Nat → Int64) (P : Nat → Nat → Option Nat) (Q : Option Value → zMm → Prop), zAk zSH x4 = some .long → zWp d zi_137 none 220 [l0, l1, l2, l3, l4, l5, l6] [.int x5, .ref x4, .int x3, .int x2, .int x1, .ref x0] (zSH, I, L, P) Q = (vp_in x5 (zAn zSH x4) ∧ zWp d zi_137 none 221 [l0, l1, l2, l3, l4, l5, l6] [.long (L x4 x5.toNatClampNeg), .int x3, .int x2, .int x1, .ref x0] (zSH, I, L, P) Q)) ∧
    (∀ (d : Nat) (l0 : Value) (l1 : Value) (l2 : Value) (l3 : Value) (l4 : Value) (l5 : Value) (l6 : Value) (x4 : Int64) (x3 : Int32) (x2 : Int32) (x1 : Int32) (x0 : Nat) (h : zMm) (Q : Option Value → zMm → Prop), zWp d zi_137 none 221 [l0, l1, l2, l3, l4, l5, l6] [.long x4, .int x3, .int x2, .int x1, .ref x0] h Q = zWp d zi_137 none 222 [l0, l1, l2, l3, l4, l5, l6] [.int x4.toInt32, .int x3, .int x2, .int x1, .ref x0] h Q) ∧
    (∀ (d : Nat) (l0 : Value) (l1 : Value) (l2 : Value) (l3 : Value) (l4 : Value) (l5 : Value) (l6 : Value) (x4 : Int32) (x3 : Int32) (x2 : Int32) (x1 : Int32) (x0 : Nat) (I : Nat → Nat → Int32) (L : Nat → Nat → Int64) (P : Nat → Nat → Option Nat) (Q : Option Value → zMm → Prop), zSH[x0]? = some (.inl 10) → zWp d zi_137 none 222 [l0, l1, l2, l3, l4, l5, l6] [.int x4, .int x3, .int x2, .int x1, .ref x0] (zSH, I, L, P) Q = zWM d 133 [.ref x0, .int x1, .int x2, .int x3, .int x4] (zSH, I, L, P) (fun r h1 => zWp d zi_137 none 225 [l0, l1, l2, l3, l4, l5, l6] (r.toList ++ []) h1 Q)) ∧
    (∀ (d : Nat) (l0 : Value) (l1 : Value) (l2 : Value) (l3 : Int32) (l4 : Int32) (l5 : Value) (l6 : Value)  (h : zMm) (Q : Option Value → zMm → Prop), zWp d zi_137 none 225 [l0, l1, l2, .int l3, .int l4, l5, l6] [] h Q = zWp d zi_137 none 228 [l0, l1, l2, .int l3, .int (l4 + 1), l5, l6] [] h Q) ∧
    (∀ (d : Nat) (l0 : Value) (l1 : Value) (l2 : Value) (l3 : Value) (l4 : Value) (l5 : Value) (l6 : Value)  (h : zMm) (Q : Option Value → zMm → Prop), zWp d zi_137 none 228 [l0, l1, l2, l3, l4, l5, l6] [] h Q = zWp d zi_137 none 69 [l0, l1, l2, l3, l4, l5, l6] [] h Q) ∧
    (∀ (d : Nat) (l0 : Value) (l1 : Value) (l2 : Value) (l3 : Value) (l4 : Int32) (l5 : Value) (l6 : Value)  (h : zMm) (Q : Option Value → zMm → Prop), zWp d zi_137 none 231 [l0, l1, l2, l3, .int l4, l5, l6] [] h Q = zWp d zi_137 none 233 [l0, l1, l2, l3, .int l4, l5, l6] [.int l4] h Q) ∧
    (∀ (d : Nat) (l0 : Value) (l1 : Value) (l2 : Value) (l3 : Value) (l4 : Value) (l5 : Value) (l6 : Value) (x0 : Int32) (h : zMm) (Q : Option Value → zMm → Prop), zWp d zi_137 none 233 [l0, l1, l2, l3, l4, l5, l6] [.int x0] h Q = Q (some (.int x0)) h) :=
  ⟨(fun d l0 l1 l2 l3 l4 l5 l6  h Q => zr_iload_n rfl rfl),
   (fun d l0 l1 l2 l3 l4 l5 l6 x0 h Q => zr_sta (as := [.int x0]) (rest := []) rfl lm_10_135 (by decide) m_206 kd_206 rfl (Nat.le_of_ble_eq_true rfl)),
   (fun d l0 l1 l2 l3 l4 l5 l6 x0 h Q => zr_if_eq rfl (by decide)),
   (fun d l0 l1 l2 l3 l4 l5 l6  h Q => zr_iload_n rfl rfl),
   (fun d l0 l1 l2 l3 l4 l5 l6 x0 h Q => zr_i2l rfl),
   (fun d l0 l1 l2 l3 l4 l5 l6 x0 h Q => zr_lconst rfl (by decide)),
   (fun d l0 l1 l2 l3 l4 l5 l6 x1 x0 h Q => zr_ldc2_w rfl lj_10_138),
   (fun d l0 l1 l2 l3 l4 l5 l6 x2 x1 x0 h Q => zr_sta (as := [.long x2, .long x1, .long x0]) (rest := []) rfl lm_10_110 (by decide) m_122 kd_122 rfl (Nat.le_of_ble_eq_true rfl)),
   (fun d l0 l1 l2 l3 l4 l5 l6 x0 h Q => zr_if_ne rfl (by decide)),
   (fun d l0 l1 l2 l3 l4 l5 l6  h Q => zr_iconst rfl (by decide)),
   (fun d l0 l1 l2 l3 l4 l5 l6 x0 h Q => zr_iret rfl rfl),
   (fun d l0 l1 l2 l3 l4 l5 l6  h Q => zr_aload_n rfl rfl),
   (fun d l0 l1 l2 l3 l4 l5 l6 x0 I L P Q p0 => zr_getQ rfl lf_10_67 (fun _ _ _ => rfl) p0),
   (fun d l0 l1 l2 l3 l4 l5 l6 x0 h Q => zr_iload_n rfl rfl),
   (fun d l0 l1 l2 l3 l4 l5 l6 x1 x0 I L P Q p0 => zr_ald rfl p0),
   (fun d l0 l1 l2 l3 l4 l5 l6 x0 h Q => zr_if_lt rfl (by decide)),
   (fun d l0 l1 l2 l3 l4 l5 l6  h Q => zr_aload_n rfl rfl),
   (fun d l0 l1 l2 l3 l4 l5 l6 x0 I L P Q p0 => zr_getQ rfl lf_10_67 (fun _ _ _ => rfl) p0),
   (fun d l0 l1 l2 l3 l4 l5 l6 x0 h Q => zr_iload_n rfl rfl),
   (fun d l0 l1 l2 l3 l4 l5 l6 x1 x0 I L P Q p0 => zr_ald rfl p0),
   (fun d l0 l1 l2 l3 l4 l5 l6 x0 h Q => zr_bipush rfl (by decide)),
   (fun d l0 l1 l2 l3 l4 l5 l6 x1 x0 h Q => zr_ic_eq rfl (by decide)),
   (fun d l0 l1 l2 l3 l4 l5 l6  h Q => zr_bipush rfl (by decide)),
   (fun d l0 l1 l2 l3 l4 l5 l6 x0 h Q => zr_iret rfl rfl),
   (fun d l0 l1 l2 l3 l4 l5 l6  h Q => zr_iconst rfl (by decide)),
   (fun d l0 l1 l2 l3 l4 l5 l6 x0 h Q => zr_istore (n := 4) rfl (Nat.le_of_ble_eq_true rfl) rfl),
   (fun d l0 l1 l2 l3 l4 l5 l6  h Q => zr_aload_n rfl rfl),
   (fun d l0 l1 l2 l3 l4 l5 l6 x0 I L P Q p0 => zr_getQ rfl lf_10_67 (fun _ _ _ => rfl) p0),
   (fun d l0 l1 l2 l3 l4 l5 l6 x0 h Q => zr_iload_n rfl rfl),
   (fun d l0 l1 l2 l3 l4 l5 l6 x1 x0 I L P Q p0 => zr_ald rfl p0),
   (fun d l0 l1 l2 l3 l4 l5 l6 x0 h Q => zr_bipush rfl (by decide)),
   (fun d l0 l1 l2 l3 l4 l5 l6 x1 x0 h Q => zr_ic_ne rfl (by decide)),
   (fun d l0 l1 l2 l3 l4 l5 l6  h Q => zr_iload_n rfl rfl),
   (fun d l0 l1 l2 l3 l4 l5 l6 x0 h Q => zr_if_lt rfl (by decide)),
   (fun d l0 l1 l2 l3 l4 l5 l6  h Q => zr_iconst rfl (by decide)),
   (fun d l0 l1 l2 l3 l4 l5 l6 x0 h Q => zr_goto rfl (by decide)),
   (fun d l0 l1 l2 l3 l4 l5 l6  h Q => zr_iconst rfl (by decide)),
   (fun d l0 l1 l2 l3 l4 l5 l6 x0 h Q => zr_istore (n := 5) rfl (Nat.le_of_ble_eq_true rfl) rfl),
   (fun d l0 l1 l2 l3 l4 l5 l6 x0 h Q => zr_if_eq rfl (by decide)),
   (fun d l0 l1 l2 l3 l4 l5 l6  h Q => zr_iload rfl rfl),
   (fun d l0 l1 l2 l3 l4 l5 l6 x0 h Q => zr_iload_n rfl rfl),
   (fun d l0 l1 l2 l3 l4 l5 l6 x1 x0 h Q => zr_ic_ge rfl (by decide)),
   (fun d l0 l1 l2 l3 l4 l5 l6  h Q => zr_iload_n rfl rfl),
   (fun d l0 l1 l2 l3 l4 l5 l6 x0 h Q => zr_aload_n rfl rfl),
   (fun d l0 l1 l2 l3 l4 l5 l6 x1 x0 I L P Q p0 => zr_getQ rfl lf_10_70 (fun _ _ _ => rfl) p0),
   (fun d l0 l1 l2 l3 l4 l5 l6 x1 x0 h Q => zr_iload_n rfl rfl),
   (fun d l0 l1 l2 l3 l4 l5 l6 x2 x1 x0 I L P Q p0 => zr_ald rfl p0),
   (fun d l0 l1 l2 l3 l4 l5 l6 x1 x0 h Q => zr_iconst rfl (by decide)),
   (fun d l0 l1 l2 l3 l4 l5 l6 x2 x1 x0 h Q => zr_isub rfl),
   (fun d l0 l1 l2 l3 l4 l5 l6 x1 x0 h Q => zr_iconst rfl (by decide)),
   (fun d l0 l1 l2 l3 l4 l5 l6 x2 x1 x0 h Q => zr_iload rfl rfl),
   (fun d l0 l1 l2 l3 l4 l5 l6 x3 x2 x1 x0 h Q => zr_imul rfl),
   (fun d l0 l1 l2 l3 l4 l5 l6 x2 x1 x0 h Q => zr_isub rfl),
   (fun d l0 l1 l2 l3 l4 l5 l6 x1 x0 h Q => zr_ic_gt rfl (by decide)),
   (fun d l0 l1 l2 l3 l4 l5 l6  h Q => zr_aload_n rfl rfl),
   (fun d l0 l1 l2 l3 l4 l5 l6 x0 I L P Q p0 => zr_getI rfl lf_10_99 (fun _ _ _ => rfl) p0),
   (fun d l0 l1 l2 l3 l4 l5 l6 x0 h Q => zr_bipush rfl (by decide)),
   (fun d l0 l1 l2 l3 l4 l5 l6 x1 x0 h Q => zr_ic_ge rfl (by decide)),
   (fun d l0 l1 l2 l3 l4 l5 l6  h Q => zr_iconst rfl (by decide)),
   (fun d l0 l1 l2 l3 l4 l5 l6 x0 h Q => zr_goto rfl (by decide)),
   (fun d l0 l1 l2 l3 l4 l5 l6  h Q => zr_iconst rfl (by decide)),
   (fun d l0 l1 l2 l3 l4 l5 l6 x0 h Q => zr_istore (n := 5) rfl (Nat.le_of_ble_eq_true rfl) rfl),
   (fun d l0 l1 l2 l3 l4 l5 l6  h Q => zr_bipush rfl (by decide)),
   (fun d l0 l1 l2 l3 l4 l5 l6 x0 h Q => zr_iload_n rfl rfl),
   (fun d l0 l1 l2 l3 l4 l5 l6 x1 x0 h Q => zr_imul rfl),
   (fun d l0 l1 l2 l3 l4 l5 l6 x0 h Q => zr_iload_n rfl rfl),
   (fun d l0 l1 l2 l3 l4 l5 l6 x1 x0 h Q => zr_iadd rfl),
   (fun d l0 l1 l2 l3 l4 l5 l6 x0 h Q => zr_iconst rfl (by decide)),
   (fun d l0 l1 l2 l3 l4 l5 l6 x1 x0 h Q => zr_iload rfl rfl),
   (fun d l0 l1 l2 l3 l4 l5 l6 x2 x1 x0 h Q => zr_imul rfl),
   (fun d l0 l1 l2 l3 l4 l5 l6 x1 x0 h Q => zr_iadd rfl),
   (fun d l0 l1 l2 l3 l4 l5 l6 x0 h Q => zr_istore (n := 6) rfl (Nat.le_of_ble_eq_true rfl) rfl),
   (fun d l0 l1 l2 l3 l4 l5 l6  h Q => zr_iload rfl rfl),
   (fun d l0 l1 l2 l3 l4 l5 l6 x0 h Q => zr_if_eq rfl (by decide)),
   (fun d l0 l1 l2 l3 l4 l5 l6  h Q => zr_aload_n rfl rfl),
   (fun d l0 l1 l2 l3 l4 l5 l6 x0 I L P Q p0 => zr_getQ rfl lf_10_73 (fun _ _ _ => rfl) p0),
   (fun d l0 l1 l2 l3 l4 l5 l6 x0 h Q => zr_iload rfl rfl),
   (fun d l0 l1 l2 l3 l4 l5 l6 x1 x0 I L P Q p0 => zr_lld rfl p0),
   (fun d l0 l1 l2 l3 l4 l5 l6 x0 h Q => zr_aload_n rfl rfl),
   (fun d l0 l1 l2 l3 l4 l5 l6 x1 x0 I L P Q p0 => zr_getQ rfl lf_10_73 (fun _ _ _ => rfl) p0),
   (fun d l0 l1 l2 l3 l4 l5 l6 x1 x0 h Q => zr_iload rfl rfl),
   (fun d l0 l1 l2 l3 l4 l5 l6 x2 x1 x0 h Q => zr_iconst rfl (by decide)),
   (fun d l0 l1 l2 l3 l4 l5 l6 x3 x2 x1 x0 h Q => zr_iadd rfl),
   (fun d l0 l1 l2 l3 l4 l5 l6 x2 x1 x0 I L P Q p0 => zr_lld rfl p0),
   (fun d l0 l1 l2 l3 l4 l5 l6 x1 x0 h Q => zr_aload_n rfl rfl),
   (fun d l0 l1 l2 l3 l4 l5 l6 x2 x1 x0 I L P Q p0 => zr_getQ rfl lf_10_73 (fun _ _ _ => rfl) p0),
   (fun d l0 l1 l2 l3 l4 l5 l6 x2 x1 x0 h Q => zr_iload rfl rfl),
   (fun d l0 l1 l2 l3 l4 l5 l6 x3 x2 x1 x0 h Q => zr_iconst rfl (by decide)),
   (fun d l0 l1 l2 l3 l4 l5 l6 x4 x3 x2 x1 x0 h Q => zr_iadd rfl),
   (fun d l0 l1 l2 l3 l4 l5 l6 x3 x2 x1 x0 I L P Q p0 => zr_lld rfl p0),
   (fun d l0 l1 l2 l3 l4 l5 l6 x2 x1 x0 h Q => zr_aload_n rfl rfl),
   (fun d l0 l1 l2 l3 l4 l5 l6 x3 x2 x1 x0 I L P Q p0 => zr_getQ rfl lf_10_73 (fun _ _ _ => rfl) p0),
   (fun d l0 l1 l2 l3 l4 l5 l6 x3 x2 x1 x0 h Q => zr_iload rfl rfl),
   (fun d l0 l1 l2 l3 l4 l5 l6 x4 x3 x2 x1 x0 h Q => zr_iconst rfl (by decide)),
   (fun d l0 l1 l2 l3 l4 l5 l6 x5 x4 x3 x2 x1 x0 h Q => zr_iadd rfl),
   (fun d l0 l1 l2 l3 l4 l5 l6 x4 x3 x2 x1 x0 I L P Q p0 => zr_lld rfl p0),
   (fun d l0 l1 l2 l3 l4 l5 l6 x3 x2 x1 x0 h Q => zr_sta (as := [.long x3, .long x2, .long x1, .long x0]) (rest := []) rfl lm_10_123 (by decide) m_132 kd_132 rfl (Nat.le_of_ble_eq_true rfl)),
   (fun d l0 l1 l2 l3 l4 l5 l6 x0 h Q => zr_if_eq rfl (by decide)),
   (fun d l0 l1 l2 l3 l4 l5 l6  h Q => zr_iconst rfl (by decide)),
   (fun d l0 l1 l2 l3 l4 l5 l6 x0 h Q => zr_goto rfl (by decide)),
   (fun d l0 l1 l2 l3 l4 l5 l6  h Q => zr_iconst rfl (by decide)),
   (fun d l0 l1 l2 l3 l4 l5 l6 x0 h Q => zr_istore (n := 5) rfl (Nat.le_of_ble_eq_true rfl) rfl),
   (fun d l0 l1 l2 l3 l4 l5 l6  h Q => zr_iload rfl rfl),
   (fun d l0 l1 l2 l3 l4 l5 l6 x0 h Q => zr_if_eq rfl (by decide)),
   (fun d l0 l1 l2 l3 l4 l5 l6  h Q => zr_aload_n rfl rfl),
   (fun d l0 l1 l2 l3 l4 l5 l6 x0 h Q => zr_aload_n rfl rfl),
   (fun d l0 l1 l2 l3 l4 l5 l6 x1 x0 I L P Q p0 => zr_getQ rfl lf_10_73 (fun _ _ _ => rfl) p0),
   (fun d l0 l1 l2 l3 l4 l5 l6 x1 x0 h Q => zr_iload rfl rfl),
   (fun d l0 l1 l2 l3 l4 l5 l6 x2 x1 x0 I L P Q p0 => zr_lld rfl p0),
   (fun d l0 l1 l2 l3 l4 l5 l6 x1 x0 h Q => zr_l2i rfl),
   (fun d l0 l1 l2 l3 l4 l5 l6 x1 x0 h Q => zr_aload_n rfl rfl),
   (fun d l0 l1 l2 l3 l4 l5 l6 x2 x1 x0 I L P Q p0 => zr_getQ rfl lf_10_73 (fun _ _ _ => rfl) p0),
   (fun d l0 l1 l2 l3 l4 l5 l6 x2 x1 x0 h Q => zr_iload rfl rfl),
   (fun d l0 l1 l2 l3 l4 l5 l6 x3 x2 x1 x0 h Q => zr_iconst rfl (by decide)),
   (fun d l0 l1 l2 l3 l4 l5 l6 x4 x3 x2 x1 x0 h Q => zr_iadd rfl),
   (fun d l0 l1 l2 l3 l4 l5 l6 x3 x2 x1 x0 I L P Q p0 => zr_lld rfl p0),
   (fun d l0 l1 l2 l3 l4 l5 l6 x2 x1 x0 h Q => zr_l2i rfl),
   (fun d l0 l1 l2 l3 l4 l5 l6 x2 x1 x0 h Q => zr_aload_n rfl rfl),
   (fun d l0 l1 l2 l3 l4 l5 l6 x3 x2 x1 x0 I L P Q p0 => zr_getQ rfl lf_10_73 (fun _ _ _ => rfl) p0),
   (fun d l0 l1 l2 l3 l4 l5 l6 x3 x2 x1 x0 h Q => zr_iload rfl rfl),
   (fun d l0 l1 l2 l3 l4 l5 l6 x4 x3 x2 x1 x0 h Q => zr_iconst rfl (by decide)),
   (fun d l0 l1 l2 l3 l4 l5 l6 x5 x4 x3 x2 x1 x0 h Q => zr_iadd rfl),
   (fun d l0 l1 l2 l3 l4 l5 l6 x4 x3 x2 x1 x0 I L P Q p0 => zr_lld rfl p0),
   (fun d l0 l1 l2 l3 l4 l5 l6 x3 x2 x1 x0 h Q => zr_l2i rfl),
   (fun d l0 l1 l2 l3 l4 l5 l6 x3 x2 x1 x0 h Q => zr_aload_n rfl rfl),
   (fun d l0 l1 l2 l3 l4 l5 l6 x4 x3 x2 x1 x0 I L P Q p0 => zr_getQ rfl lf_10_73 (fun _ _ _ => rfl) p0),
   (fun d l0 l1 l2 l3 l4 l5 l6 x4 x3 x2 x1 x0 h Q => zr_iload rfl rfl),
   (fun d l0 l1 l2 l3 l4 l5 l6 x5 x4 x3 x2 x1 x0 h Q => zr_iconst rfl (by decide)),
   (fun d l0 l1 l2 l3 l4 l5 l6 x6 x5 x4 x3 x2 x1 x0 h Q => zr_iadd rfl),
   (fun d l0 l1 l2 l3 l4 l5 l6 x5 x4 x3 x2 x1 x0 I L P Q p0 => zr_lld rfl p0),
   (fun d l0 l1 l2 l3 l4 l5 l6 x4 x3 x2 x1 x0 h Q => zr_l2i rfl),
   (fun d l0 l1 l2 l3 l4 l5 l6 x4 x3 x2 x1 x0 I L P Q p0 => zr_vir (as := [.int x4, .int x3, .int x2, .int x1]) (rest := []) rfl lm_10_127 m_133 kd_133 rfl (Nat.le_of_ble_eq_true rfl) p0),
   (fun d l0 l1 l2 l3 l4 l5 l6  h Q => zr_iinc (n := 4) (kc := 1) rfl rfl (Nat.le_of_ble_eq_true rfl) rfl (by decide)),
   (fun d l0 l1 l2 l3 l4 l5 l6  h Q => zr_goto rfl (by decide)),
   (fun d l0 l1 l2 l3 l4 l5 l6  h Q => zr_iload rfl rfl),
   (fun d l0 l1 l2 l3 l4 l5 l6 x0 h Q => zr_iret rfl rfl)⟩
theorem H_X10_rounds_69 : ∀ (d : Nat) (l0 : Value) (l1 : Value) (l2 : Value) (l3 : Value) (l4 : Value) (l5 : Int32) (l6 : Value)  (h : zMm) (Q : Option Value → zMm → Prop), zWp d zi_137 none 69 [l0, l1, l2, l3, l4, .int l5, l6] [] h Q = zWp d zi_137 none 71 [l0, l1, l2, l3, l4, .int l5, l6] [.int l5] h Q := fun d l0 l1 l2 l3 l4 l5 l6  h Q => zr_iload rfl rfl
theorem E_X10_pane : ∀ (d : Nat) (a0 : Nat) (a1 : Int32) (h : zMm) (Q : Option Value → zMm → Prop), zWM (d + 1) 138 [.ref a0, .int a1] h Q = zWp d zi_138 none 0 [.ref a0, .int a1] [] h Q := fun d a0 a1 h Q => zW_M m_138 (Nat.le_of_ble_eq_true rfl) rfl
set_option maxRecDepth 100000 in
theorem R_X10_pane :
    (∀ (d : Nat) (l0 : Value) (l1 : Int32)  (h : zMm) (Q : Option Value → zMm → Prop), zWp d zi_138 none 0 [l0, .int l1] [] h Q = zWp d zi_138 none 1 [l0, .int l1] [.int l1] h Q) ∧
    (∀ (d : Nat) (l0 : Value) (l1 : Value) (x0 : Int32) (h : zMm) (Q : Option Value → zMm → Prop), zWp d zi_138 none 1 [l0, l1] [.int x0] h Q = if x0 < 0 then zWp d zi_138 none 28 [l0, l1] [] h Q else zWp d zi_138 none 4 [l0, l1] [] h Q) ∧
    (∀ (d : Nat) (l0 : Value) (l1 : Int32)  (h : zMm) (Q : Option Value → zMm → Prop), zWp d zi_138 none 4 [l0, .int l1] [] h Q = zWp d zi_138 none 5 [l0, .int l1] [.int l1] h Q) ∧
    (∀ (d : Nat) (l0 : Value) (l1 : Value) (x0 : Int32) (h : zMm) (Q : Option Value → zMm → Prop), zWp d zi_138 none 5 [l0, l1] [.int x0] h Q = zWp d zi_138 none 7 [l0, l1] [.int 100, .int x0] h Q) ∧
    (∀ (d : Nat) (l0 : Value) (l1 : Value) (x1 : Int32) (x0 : Int32) (h : zMm) (Q : Option Value → zMm → Prop), zWp d zi_138 none 7 [l0, l1] [.int x1, .int x0] h Q = (¬ x1 = 0 ∧ zWp d zi_138 none 8 [l0, l1] [.int (x0 / x1)] h Q)) ∧
    (∀ (d : Nat) (l0 : Value) (l1 : Value) (x0 : Int32) (h : zMm) (Q : Option Value → zMm → Prop), zWp d zi_138 none 8 [l0, l1] [.int x0] h Q = zWp d zi_138 none 9 [l0, l1] [.long x0.toInt64] h Q) ∧
    (∀ (d : Nat) (l0 : Value) (l1 : Value) (x0 : Int64) (h : zMm) (Q : Option Value → zMm → Prop), zWp d zi_138 none 9 [l0, l1] [.long x0] h Q = zWp d zi_138 none 10 [l0, l1] [.long 1, .long x0] h Q) ∧
    (∀ (d : Nat) (l0 : Value) (l1 : Value) (x1 : Int64) (x0 : Int64) (h : zMm) (Q : Option Value → zMm → Prop), zWp d zi_138 none 10 [l0, l1] [.long x1, .long x0] h Q = zWp d zi_138 none 13 [l0, l1] [.long 99, .long x1, .long x0] h Q) ∧
    (∀ (d : Nat) (l0 : Value) (l1 : Value) (x2 : Int64) (x1 : Int64) (x0 : Int64) (h : zMm) (Q : Option Value → zMm → Prop), zWp d zi_138 none 13 [l0, l1] [.long x2, .long x1, .long x0] h Q = zWM d 122 [.long x0, .long x1, .long x2] h (fun r h1 => zWp d zi_138 none 16 [l0, l1] (r.toList ++ []) h1 Q)) ∧
    (∀ (d : Nat) (l0 : Value) (l1 : Value) (x0 : Int32) (h : zMm) (Q : Option Value → zMm → Prop), zWp d zi_138 none 16 [l0, l1] [.int x0] h Q = if x0 = 0 then zWp d zi_138 none 28 [l0, l1] [] h Q else zWp d zi_138 none 19 [l0, l1] [] h Q) ∧
    (∀ (d : Nat) (l0 : Value) (l1 : Int32)  (h : zMm) (Q : Option Value → zMm → Prop), zWp d zi_138 none 19 [l0, .int l1] [] h Q = zWp d zi_138 none 20 [l0, .int l1] [.int l1] h Q) ∧
    (∀ (d : Nat) (l0 : Value) (l1 : Value) (x0 : Int32) (h : zMm) (Q : Option Value → zMm → Prop), zWp d zi_138 none 20 [l0, l1] [.int x0] h Q = zWp d zi_138 none 22 [l0, l1] [.int 100, .int x0] h Q) ∧
    (∀ (d : Nat) (l0 : Value) (l1 : Value) (x1 : Int32) (x0 : Int32) (h : zMm) (Q : Option Value → zMm → Prop), zWp d zi_138 none 22 [l0, l1] [.int x1, .int x0] h Q = (¬ x1 = 0 ∧ zWp d zi_138 none 23 [l0, l1] [.int (x0 - x0 / x1 * x1)] h Q)) ∧
    (∀ (d : Nat) (l0 : Value) (l1 : Value) (x0 : Int32) (h : zMm) (Q : Option Value → zMm → Prop), zWp d zi_138 none 23 [l0, l1] [.int x0] h Q = zWp d zi_138 none 25 [l0, l1] [.int 24, .int x0] h Q) ∧
    (∀ (d : Nat) (l0 : Value) (l1 : Value) (x1 : Int32) (x0 : Int32) (h : zMm) (Q : Option Value → zMm → Prop), zWp d zi_138 none 25 [l0, l1] [.int x1, .int x0] h Q = if x0 < x1 then zWp d zi_138 none 30 [l0, l1] [] h Q else zWp d zi_138 none 28 [l0, l1] [] h Q) ∧
    (∀ (d : Nat) (l0 : Value) (l1 : Value)  (h : zMm) (Q : Option Value → zMm → Prop), zWp d zi_138 none 28 [l0, l1] [] h Q = zWp d zi_138 none 29 [l0, l1] [.int (-1)] h Q) ∧
    (∀ (d : Nat) (l0 : Value) (l1 : Value) (x0 : Int32) (h : zMm) (Q : Option Value → zMm → Prop), zWp d zi_138 none 29 [l0, l1] [.int x0] h Q = Q (some (.int x0)) h) ∧
    (∀ (d : Nat) (l0 : Nat) (l1 : Value)  (h : zMm) (Q : Option Value → zMm → Prop), zWp d zi_138 none 30 [.ref l0, l1] [] h Q = zWp d zi_138 none 31 [.ref l0, l1] [.ref l0] h Q) ∧
    (∀ (d : Nat) (l0 : Value) (l1 : Value) (x0 : Nat) (I : Nat → Nat → Int32) (L : Nat → Nat → Int64) (P : Nat → Nat → Option Nat) (Q : Option Value → zMm → Prop), zSH[x0]? = some (.inl 10) → zWp d zi_138 none 31 [l0, l1] [.ref x0] (zSH, I, L, P) Q = zWp d zi_138 none 34 [l0, l1] [.int (I x0 10)] (zSH, I, L, P) Q) ∧
    (∀ (d : Nat) (l0 : Value) (l1 : Value) (x0 : Int32) (h : zMm) (Q : Option Value → zMm → Prop), zWp d zi_138 none 34 [l0, l1] [.int x0] h Q = zWp d zi_138 none 36 [l0, l1] [.int 8, .int x0] h Q) ∧
    (∀ (d : Nat) (l0 : Value) (l1 : Value) (x1 : Int32) (x0 : Int32) (h : zMm) (Q : Option Value → zMm → Prop), zWp d zi_138 none 36 [l0, l1] [.int x1, .int x0] h Q = if x0 = x1 then zWp d zi_138 none 39 [l0, l1] [] h Q else zWp d zi_138 none 42 [l0, l1] [] h Q) ∧
    (∀ (d : Nat) (l0 : Value) (l1 : Value)  (h : zMm) (Q : Option Value → zMm → Prop), zWp d zi_138 none 39 [l0, l1] [] h Q = zWp d zi_138 none 41 [l0, l1] [.int (-3)] h Q) ∧
    (∀ (d : Nat) (l0 : Value) (l1 : Value) (x0 : Int32) (h : zMm) (Q : Option Value → zMm → Prop), zWp d zi_138 none 41 [l0, l1] [.int x0] h Q = Q (some (.int x0)) h) ∧
    (∀ (d : Nat) (l0 : Nat) (l1 : Value)  (h : zMm) (Q : Option Value → zMm → Prop), zWp d zi_138 none 42 [.ref l0, l1] [] h Q = zWp d zi_138 none 43 [.ref l0, l1] [.ref l0] h Q) ∧
    (∀ (d : Nat) (l0 : Value) (l1 : Value) (x0 : Nat) (I : Nat → Nat → Int32) (L : Nat → Nat → Int64) (P : Nat → Nat → Option Nat) (Q : Option Value → zMm → Prop), zSH[x0]? = some (.inl 10) → zWp d zi_138 none 43 [l0, l1] [.ref x0] (zSH, I, L, P) Q = zWp d zi_138 none 46 [l0, l1] [va_rf (P x0 11)] (zSH, I, L, P) Q) ∧
    (∀ (d : Nat) (l0 : Nat) (l1 : Value) (x0 : Nat) (h : zMm) (Q : Option Value → zMm → Prop), zWp d zi_138 none 46 [.ref l0, l1] [.ref x0] h Q = zWp d zi_138 none 47 [.ref l0, l1] [.ref l0, .ref x0] h Q) ∧
    (∀ (d : Nat) (l0 : Value) (l1 : Value) (x1 : Nat) (x0 : Nat) (I : Nat → Nat → Int32) (L : Nat → Nat → Int64) (P : Nat → Nat → Option Nat) (Q : Option Value → zMm → Prop), zSH[x1]? = some (.inl 10) → zWp d zi_138 none 47 [l0, l1] [.ref x1, .ref x0] (zSH, I, L, P) Q = zWp d zi_138 none 50 [l0, l1] [.int (I x1 10), .ref x0] (zSH, I, L, P) Q) ∧
    (∀ (d : Nat) (l0 : Value) (l1 : Int32) (x1 : Int32) (x0 : Nat) (h : zMm) (Q : Option Value → zMm → Prop), zWp d zi_138 none 50 [l0, .int l1] [.int x1, .ref x0] h Q = zWp d zi_138 none 51 [l0, .int l1] [.int l1, .int x1, .ref x0] h Q) ∧
    (∀ (d : Nat) (l0 : Value) (l1 : Value) (x2 : Int32) (x1 : Int32) (x0 : Nat) (h : zMm) (Q : Option Value → zMm → Prop), zWp d zi_138 none 51 [l0, l1] [.int x2, .int x1, .ref x0] h Q = zWp d zi_138 none 53 [l0, l1] [.int 100, .int x2, .int x1, .ref x0] h Q) ∧
    (∀ (d : Nat) (l0 : Value) (l1 : Value) (x3 : Int32) (x2 : Int32) (x1 : Int32) (x0 : Nat) (h : zMm) (Q : Option Value → zMm → Prop), zWp d zi_138 none 53 [l0, l1] [.int x3, .int x2, .int x1, .ref x0] h Q = (¬ x3 = 0 ∧ zWp d zi_138 none 54 [l0, l1] [.int (x2 / x3), .int x1, .ref x0] h Q)) ∧
    (∀ (d : Nat) (l0 : Value) (l1 : Value) (x2 : Int32) (x1 : Int32) (x0 : Nat) (I : Nat → Nat → Int32) (L : Nat → Nat → Int64) (P : Nat → Nat → Option Nat) (Q : Option Value → zMm → Prop), zAk zSH x0 = some .int → zWp d zi_138 none 54 [l0, l1] [.int x2, .int x1, .ref x0] (zSH, I, L, P) Q = (vp_in x1 (zAn zSH x0) ∧ zWp d zi_138 none 55 [l0, l1] [] (zSH, zw I x0 (upd (I x0) x1.toNatClampNeg x2), L, P) Q)) ∧
    (∀ (d : Nat) (l0 : Nat) (l1 : Value)  (h : zMm) (Q : Option Value → zMm → Prop), zWp d zi_138 none 55 [.ref l0, l1] [] h Q = zWp d zi_138 none 56 [.ref l0, l1] [.ref l0] h Q) ∧
    (∀ (d : Nat) (l0 : Value) (l1 : Value) (x0 : Nat) (I : Nat → Nat → Int32) (L : Nat → Nat → Int64) (P : Nat → Nat → Option Nat) (Q : Option Value → zMm → Prop), zSH[x0]? = some (.inl 10) → zWp d zi_138 none 56 [l0, l1] [.ref x0] (zSH, I, L, P) Q = zWp d zi_138 none 59 [l0, l1] [va_rf (P x0 12)] (zSH, I, L, P) Q) ∧
    (∀ (d : Nat) (l0 : Nat) (l1 : Value) (x0 : Nat) (h : zMm) (Q : Option Value → zMm → Prop), zWp d zi_138 none 59 [.ref l0, l1] [.ref x0] h Q = zWp d zi_138 none 60 [.ref l0, l1] [.ref l0, .ref x0] h Q) ∧
    (∀ (d : Nat) (l0 : Value) (l1 : Value) (x1 : Nat) (x0 : Nat) (I : Nat → Nat → Int32) (L : Nat → Nat → Int64) (P : Nat → Nat → Option Nat) (Q : Option Value → zMm → Prop), zSH[x1]? = some (.inl 10) → zWp d zi_138 none 60 [l0, l1] [.ref x1, .ref x0] (zSH, I, L, P) Q = zWp d zi_138 none 63 [l0, l1] [.int (I x1 10), .ref x0] (zSH, I, L, P) Q) ∧
    (∀ (d : Nat) (l0 : Value) (l1 : Int32) (x1 : Int32) (x0 : Nat) (h : zMm) (Q : Option Value → zMm → Prop), zWp d zi_138 none 63 [l0, .int l1] [.int x1, .ref x0] h Q = zWp d zi_138 none 64 [l0, .int l1] [.int l1, .int x1, .ref x0] h Q) ∧
    (∀ (d : Nat) (l0 : Value) (l1 : Value) (x2 : Int32) (x1 : Int32) (x0 : Nat) (h : zMm) (Q : Option Value → zMm → Prop), zWp d zi_138 none 64 [l0, l1] [.int x2, .int x1, .ref x0] h Q = zWp d zi_138 none 66 [l0, l1] [.int 100, .int x2, .int x1, .ref x0] h Q) ∧
    (∀ (d : Nat) (l0 : Value) (l1 : Value) (x3 : Int32) (x2 : Int32) (x1 : Int32) (x0 : Nat) (h : zMm) (Q : Option Value → zMm → Prop), zWp d zi_138 none 66 [l0, l1] [.int x3, .int x2, .int x1, .ref x0] h Q = (¬ x3 = 0 ∧ zWp d zi_138 none 67 [l0, l1] [.int (x2 - x2 / x3 * x3), .int x1, .ref x0] h Q)) ∧
    (∀ (d : Nat) (l0 : Value) (l1 : Value) (x2 : Int32) (x1 : Int32) (x0 : Nat) (I : Nat → Nat → Int32) (L : Nat → Nat → Int64) (P : Nat → Nat → Option Nat) (Q : Option Value → zMm → Prop), zAk zSH x0 = some .int → zWp d zi_138 none 67 [l0, l1] [.int x2, .int x1, .ref x0] (zSH, I, L, P) Q = (vp_in x1 (zAn zSH x0) ∧ zWp d zi_138 none 68 [l0, l1] [] (zSH, zw I x0 (upd (I x0) x1.toNatClampNeg x2), L, P) Q)) ∧
    (∀ (d : Nat) (l0 : Nat) (l1 : Value)  (h : zMm) (Q : Option Value → zMm → Prop), zWp d zi_138 none 68 [.ref l0, l1] [] h Q = zWp d zi_138 none 69 [.ref l0, l1] [.ref l0] h Q) ∧
    (∀ (d : Nat) (l0 : Value) (l1 : Value) (x0 : Nat) (h : zMm) (Q : Option Value → zMm → Prop), zWp d zi_138 none 69 [l0, l1] [.ref x0] h Q = zWp d zi_138 none 70 [l0, l1] [.ref x0, .ref x0] h Q) ∧
    (∀ (d : Nat) (l0 : Value) (l1 : Value) (x1 : Nat) (x0 : Nat) (I : Nat → Nat → Int32) (L : Nat → Nat → Int64) (P : Nat → Nat → Option Nat) (Q : Option Value → zMm → Prop), zSH[x1]? = some (.inl 10) → zWp d zi_138 none 70 [l0, l1] [.ref x1, .ref x0] (zSH, I, L, P) Q = zWp d zi_138 none 73 [l0, l1] [.int (I x1 10), .ref x0] (zSH, I, L, P) Q) ∧
    (∀ (d : Nat) (l0 : Value) (l1 : Value) (x1 : Int32) (x0 : Nat) (h : zMm) (Q : Option Value → zMm → Prop), zWp d zi_138 none 73 [l0, l1] [.int x1, .ref x0] h Q = zWp d zi_138 none 74 [l0, l1] [.int 1, .int x1, .ref x0] h Q) ∧
    (∀ (d : Nat) (l0 : Value) (l1 : Value) (x2 : Int32) (x1 : Int32) (x0 : Nat) (h : zMm) (Q : Option Value → zMm → Prop), zWp d zi_138 none 74 [l0, l1] [.int x2, .int x1, .ref x0] h Q = zWp d zi_138 none 75 [l0, l1] [.int (x1 + x2), .ref x0] h Q) ∧
    (∀ (d : Nat) (l0 : Value) (l1 : Value) (x1 : Int32) (x0 : Nat) (I : Nat → Nat → Int32) (L : Nat → Nat → Int64) (P : Nat → Nat → Option Nat) (Q : Option Value → zMm → Prop), zSH[x0]? = some (.inl 10) → zWp d zi_138 none 75 [l0, l1] [.int x1, .ref x0] (zSH, I, L, P) Q = zWp d zi_138 none 78 [l0, l1] [] (zSH, zw I x0 (upd (I x0) 10 x1), L, P) Q) ∧
    (∀ (d : Nat) (l0 : Nat) (l1 : Value)  (h : zMm) (Q : Option Value → zMm → Prop), zWp d zi_138 none 78 [.ref l0, l1] [] h Q = zWp d zi_138 none 79 [.ref l0, l1] [.ref l0] h Q) ∧
    (∀ (d : Nat) (l0 : Value) (l1 : Value) (x0 : Nat) (I : Nat → Nat → Int32) (L : Nat → Nat → Int64) (P : Nat → Nat → Option Nat) (Q : Option Value → zMm → Prop), zSH[x0]? = some (.inl 10) → zWp d zi_138 none 79 [l0, l1] [.ref x0] (zSH, I, L, P) Q = zWp d zi_138 none 82 [l0, l1] [.int (I x0 10)] (zSH, I, L, P) Q) ∧
    (∀ (d : Nat) (l0 : Value) (l1 : Value) (x0 : Int32) (h : zMm) (Q : Option Value → zMm → Prop), zWp d zi_138 none 82 [l0, l1] [.int x0] h Q = zWp d zi_138 none 83 [l0, l1] [.int 1, .int x0] h Q) ∧
    (∀ (d : Nat) (l0 : Value) (l1 : Value) (x1 : Int32) (x0 : Int32) (h : zMm) (Q : Option Value → zMm → Prop), zWp d zi_138 none 83 [l0, l1] [.int x1, .int x0] h Q = zWp d zi_138 none 84 [l0, l1] [.int (x0 - x1)] h Q) ∧
    (∀ (d : Nat) (l0 : Value) (l1 : Value) (x0 : Int32) (h : zMm) (Q : Option Value → zMm → Prop), zWp d zi_138 none 84 [l0, l1] [.int x0] h Q = Q (some (.int x0)) h) :=
  ⟨(fun d l0 l1  h Q => zr_iload_n rfl rfl),
   (fun d l0 l1 x0 h Q => zr_if_lt rfl (by decide)),
   (fun d l0 l1  h Q => zr_iload_n rfl rfl),
   (fun d l0 l1 x0 h Q => zr_bipush rfl (by decide)),
   (fun d l0 l1 x1 x0 h Q => zr_idiv rfl),
   (fun d l0 l1 x0 h Q => zr_i2l rfl),
   (fun d l0 l1 x0 h Q => zr_lconst rfl (by decide)),
   (fun d l0 l1 x1 x0 h Q => zr_ldc2_w rfl lj_10_140),
   (fun d l0 l1 x2 x1 x0 h Q => zr_sta (as := [.long x2, .long x1, .long x0]) (rest := []) rfl lm_10_110 (by decide) m_122 kd_122 rfl (Nat.le_of_ble_eq_true rfl)),
   (fun d l0 l1 x0 h Q => zr_if_eq rfl (by decide)),
   (fun d l0 l1  h Q => zr_iload_n rfl rfl),
   (fun d l0 l1 x0 h Q => zr_bipush rfl (by decide)),
   (fun d l0 l1 x1 x0 h Q => zr_irem rfl),
   (fun d l0 l1 x0 h Q => zr_bipush rfl (by decide)),
   (fun d l0 l1 x1 x0 h Q => zr_ic_lt rfl (by decide)),
   (fun d l0 l1  h Q => zr_iconst rfl (by decide)),
   (fun d l0 l1 x0 h Q => zr_iret rfl rfl),
   (fun d l0 l1  h Q => zr_aload_n rfl rfl),
   (fun d l0 l1 x0 I L P Q p0 => zr_getI rfl lf_10_114 (fun _ _ _ => rfl) p0),
   (fun d l0 l1 x0 h Q => zr_bipush rfl (by decide)),
   (fun d l0 l1 x1 x0 h Q => zr_ic_ne rfl (by decide)),
   (fun d l0 l1  h Q => zr_bipush rfl (by decide)),
   (fun d l0 l1 x0 h Q => zr_iret rfl rfl),
   (fun d l0 l1  h Q => zr_aload_n rfl rfl),
   (fun d l0 l1 x0 I L P Q p0 => zr_getQ rfl lf_10_25 (fun _ _ _ => rfl) p0),
   (fun d l0 l1 x0 h Q => zr_aload_n rfl rfl),
   (fun d l0 l1 x1 x0 I L P Q p0 => zr_getI rfl lf_10_114 (fun _ _ _ => rfl) p0),
   (fun d l0 l1 x1 x0 h Q => zr_iload_n rfl rfl),
   (fun d l0 l1 x2 x1 x0 h Q => zr_bipush rfl (by decide)),
   (fun d l0 l1 x3 x2 x1 x0 h Q => zr_idiv rfl),
   (fun d l0 l1 x2 x1 x0 I L P Q p0 => zr_ast rfl p0),
   (fun d l0 l1  h Q => zr_aload_n rfl rfl),
   (fun d l0 l1 x0 I L P Q p0 => zr_getQ rfl lf_10_28 (fun _ _ _ => rfl) p0),
   (fun d l0 l1 x0 h Q => zr_aload_n rfl rfl),
   (fun d l0 l1 x1 x0 I L P Q p0 => zr_getI rfl lf_10_114 (fun _ _ _ => rfl) p0),
   (fun d l0 l1 x1 x0 h Q => zr_iload_n rfl rfl),
   (fun d l0 l1 x2 x1 x0 h Q => zr_bipush rfl (by decide)),
   (fun d l0 l1 x3 x2 x1 x0 h Q => zr_irem rfl),
   (fun d l0 l1 x2 x1 x0 I L P Q p0 => zr_ast rfl p0),
   (fun d l0 l1  h Q => zr_aload_n rfl rfl),
   (fun d l0 l1 x0 h Q => zr_dup rfl rfl),
   (fun d l0 l1 x1 x0 I L P Q p0 => zr_getI rfl lf_10_114 (fun _ _ _ => rfl) p0),
   (fun d l0 l1 x1 x0 h Q => zr_iconst rfl (by decide)),
   (fun d l0 l1 x2 x1 x0 h Q => zr_iadd rfl),
   (fun d l0 l1 x1 x0 I L P Q p0 => zr_putI rfl lf_10_114 (by decide) rfl p0),
   (fun d l0 l1  h Q => zr_aload_n rfl rfl),
   (fun d l0 l1 x0 I L P Q p0 => zr_getI rfl lf_10_114 (fun _ _ _ => rfl) p0),
   (fun d l0 l1 x0 h Q => zr_iconst rfl (by decide)),
   (fun d l0 l1 x1 x0 h Q => zr_isub rfl),
   (fun d l0 l1 x0 h Q => zr_iret rfl rfl)⟩
theorem E_X10_mend : ∀ (d : Nat) (a0 : Nat) (a1 : Int32) (a2 : Int32) (a3 : Int32) (h : zMm) (Q : Option Value → zMm → Prop), zWM (d + 1) 139 [.ref a0, .int a1, .int a2, .int a3] h Q = zWp d zi_139 none 0 [.ref a0, .int a1, .int a2, .int a3] [] h Q := fun d a0 a1 a2 a3 h Q => zW_M m_139 (Nat.le_of_ble_eq_true rfl) rfl
set_option maxRecDepth 100000 in
theorem R_X10_mend :
    (∀ (d : Nat) (l0 : Value) (l1 : Value) (l2 : Int32) (l3 : Value)  (h : zMm) (Q : Option Value → zMm → Prop), zWp d zi_139 none 0 [l0, l1, .int l2, l3] [] h Q = zWp d zi_139 none 1 [l0, l1, .int l2, l3] [.int l2] h Q) ∧
    (∀ (d : Nat) (l0 : Value) (l1 : Value) (l2 : Value) (l3 : Value) (x0 : Int32) (h : zMm) (Q : Option Value → zMm → Prop), zWp d zi_139 none 1 [l0, l1, l2, l3] [.int x0] h Q = if x0 = 0 then zWp d zi_139 none 48 [l0, l1, l2, l3] [] h Q else if x0 = 1 then zWp d zi_139 none 48 [l0, l1, l2, l3] [] h Q else if x0 = 2 then zWp d zi_139 none 87 [l0, l1, l2, l3] [] h Q else if x0 = 3 then zWp d zi_139 none 126 [l0, l1, l2, l3] [] h Q else if x0 = 4 then zWp d zi_139 none 126 [l0, l1, l2, l3] [] h Q else if x0 = 5 then zWp d zi_139 none 161 [l0, l1, l2, l3] [] h Q else if x0 = 6 then zWp d zi_139 none 196 [l0, l1, l2, l3] [] h Q else if x0 = 7 then zWp d zi_139 none 225 [l0, l1, l2, l3] [] h Q else zWp d zi_139 none 254 [l0, l1, l2, l3] [] h Q) ∧
    (∀ (d : Nat) (l0 : Nat) (l1 : Value) (l2 : Value) (l3 : Value)  (h : zMm) (Q : Option Value → zMm → Prop), zWp d zi_139 none 48 [.ref l0, l1, l2, l3] [] h Q = zWp d zi_139 none 49 [.ref l0, l1, l2, l3] [.ref l0] h Q) ∧
    (∀ (d : Nat) (l0 : Value) (l1 : Int32) (l2 : Value) (l3 : Value) (x0 : Nat) (h : zMm) (Q : Option Value → zMm → Prop), zWp d zi_139 none 49 [l0, .int l1, l2, l3] [.ref x0] h Q = zWp d zi_139 none 50 [l0, .int l1, l2, l3] [.int l1, .ref x0] h Q) ∧
    (∀ (d : Nat) (l0 : Value) (l1 : Value) (l2 : Value) (l3 : Value) (x1 : Int32) (x0 : Nat) (I : Nat → Nat → Int32) (L : Nat → Nat → Int64) (P : Nat → Nat → Option Nat) (Q : Option Value → zMm → Prop), zSH[x0]? = some (.inl 10) → zWp d zi_139 none 50 [l0, l1, l2, l3] [.int x1, .ref x0] (zSH, I, L, P) Q = zWM d 130 [.ref x0, .int x1] (zSH, I, L, P) (fun r h1 => zWp d zi_139 none 53 [l0, l1, l2, l3] (r.toList ++ []) h1 Q)) ∧
    (∀ (d : Nat) (l0 : Value) (l1 : Value) (l2 : Value) (l3 : Value) (x0 : Int32) (h : zMm) (Q : Option Value → zMm → Prop), zWp d zi_139 none 53 [l0, l1, l2, l3] [.int x0] h Q = if x0 = 0 then zWp d zi_139 none 84 [l0, l1, l2, l3] [] h Q else zWp d zi_139 none 56 [l0, l1, l2, l3] [] h Q) ∧
    (∀ (d : Nat) (l0 : Value) (l1 : Value) (l2 : Value) (l3 : Int32)  (h : zMm) (Q : Option Value → zMm → Prop), zWp d zi_139 none 56 [l0, l1, l2, .int l3] [] h Q = zWp d zi_139 none 57 [l0, l1, l2, .int l3] [.int l3] h Q) ∧
    (∀ (d : Nat) (l0 : Value) (l1 : Value) (l2 : Value) (l3 : Value) (x0 : Int32) (h : zMm) (Q : Option Value → zMm → Prop), zWp d zi_139 none 57 [l0, l1, l2, l3] [.int x0] h Q = zWp d zi_139 none 58 [l0, l1, l2, l3] [.long x0.toInt64] h Q) ∧
    (∀ (d : Nat) (l0 : Value) (l1 : Value) (l2 : Value) (l3 : Value) (x0 : Int64) (h : zMm) (Q : Option Value → zMm → Prop), zWp d zi_139 none 58 [l0, l1, l2, l3] [.long x0] h Q = zWp d zi_139 none 61 [l0, l1, l2, l3] [.long (-4), .long x0] h Q) ∧
    (∀ (d : Nat) (l0 : Value) (l1 : Value) (l2 : Value) (l3 : Value) (x1 : Int64) (x0 : Int64) (h : zMm) (Q : Option Value → zMm → Prop), zWp d zi_139 none 61 [l0, l1, l2, l3] [.long x1, .long x0] h Q = zWp d zi_139 none 64 [l0, l1, l2, l3] [.long 4, .long x1, .long x0] h Q) ∧
    (∀ (d : Nat) (l0 : Value) (l1 : Value) (l2 : Value) (l3 : Value) (x2 : Int64) (x1 : Int64) (x0 : Int64) (h : zMm) (Q : Option Value → zMm → Prop), zWp d zi_139 none 64 [l0, l1, l2, l3] [.long x2, .long x1, .long x0] h Q = zWM d 122 [.long x0, .long x1, .long x2] h (fun r h1 => zWp d zi_139 none 67 [l0, l1, l2, l3] (r.toList ++ []) h1 Q)) ∧
    (∀ (d : Nat) (l0 : Value) (l1 : Value) (l2 : Value) (l3 : Value) (x0 : Int32) (h : zMm) (Q : Option Value → zMm → Prop), zWp d zi_139 none 67 [l0, l1, l2, l3] [.int x0] h Q = if x0 = 0 then zWp d zi_139 none 84 [l0, l1, l2, l3] [] h Q else zWp d zi_139 none 70 [l0, l1, l2, l3] [] h Q) ∧
    (∀ (d : Nat) (l0 : Nat) (l1 : Value) (l2 : Value) (l3 : Value)  (h : zMm) (Q : Option Value → zMm → Prop), zWp d zi_139 none 70 [.ref l0, l1, l2, l3] [] h Q = zWp d zi_139 none 71 [.ref l0, l1, l2, l3] [.ref l0] h Q) ∧
    (∀ (d : Nat) (l0 : Value) (l1 : Value) (l2 : Value) (l3 : Value) (x0 : Nat) (h : zMm) (Q : Option Value → zMm → Prop), zWp d zi_139 none 71 [l0, l1, l2, l3] [.ref x0] h Q = zWp d zi_139 none 73 [l0, l1, l2, l3] [.int 24, .ref x0] h Q) ∧
    (∀ (d : Nat) (l0 : Value) (l1 : Value) (l2 : Int32) (l3 : Value) (x1 : Int32) (x0 : Nat) (h : zMm) (Q : Option Value → zMm → Prop), zWp d zi_139 none 73 [l0, l1, .int l2, l3] [.int x1, .ref x0] h Q = zWp d zi_139 none 74 [l0, l1, .int l2, l3] [.int l2, .int x1, .ref x0] h Q) ∧
    (∀ (d : Nat) (l0 : Value) (l1 : Value) (l2 : Value) (l3 : Value) (x2 : Int32) (x1 : Int32) (x0 : Nat) (h : zMm) (Q : Option Value → zMm → Prop), zWp d zi_139 none 74 [l0, l1, l2, l3] [.int x2, .int x1, .ref x0] h Q = zWp d zi_139 none 75 [l0, l1, l2, l3] [.int (x1 * x2), .ref x0] h Q) ∧
    (∀ (d : Nat) (l0 : Value) (l1 : Int32) (l2 : Value) (l3 : Value) (x1 : Int32) (x0 : Nat) (h : zMm) (Q : Option Value → zMm → Prop), zWp d zi_139 none 75 [l0, .int l1, l2, l3] [.int x1, .ref x0] h Q = zWp d zi_139 none 76 [l0, .int l1, l2, l3] [.int l1, .int x1, .ref x0] h Q) ∧
    (∀ (d : Nat) (l0 : Value) (l1 : Value) (l2 : Value) (l3 : Value) (x2 : Int32) (x1 : Int32) (x0 : Nat) (h : zMm) (Q : Option Value → zMm → Prop), zWp d zi_139 none 76 [l0, l1, l2, l3] [.int x2, .int x1, .ref x0] h Q = zWp d zi_139 none 77 [l0, l1, l2, l3] [.int (x1 + x2), .ref x0] h Q) ∧
    (∀ (d : Nat) (l0 : Value) (l1 : Value) (l2 : Value) (l3 : Int32) (x1 : Int32) (x0 : Nat) (h : zMm) (Q : Option Value → zMm → Prop), zWp d zi_139 none 77 [l0, l1, l2, .int l3] [.int x1, .ref x0] h Q = zWp d zi_139 none 78 [l0, l1, l2, .int l3] [.int l3, .int x1, .ref x0] h Q) ∧
    (∀ (d : Nat) (l0 : Value) (l1 : Value) (l2 : Value) (l3 : Value) (x2 : Int32) (x1 : Int32) (x0 : Nat) (I : Nat → Nat → Int32) (L : Nat → Nat → Int64) (P : Nat → Nat → Option Nat) (Q : Option Value → zMm → Prop), zSH[x0]? = some (.inl 10) → zWp d zi_139 none 78 [l0, l1, l2, l3] [.int x2, .int x1, .ref x0] (zSH, I, L, P) Q = zWM d 125 [.ref x0, .int x1, .int x2] (zSH, I, L, P) (fun r h1 => zWp d zi_139 none 81 [l0, l1, l2, l3] (r.toList ++ []) h1 Q)) ∧
    (∀ (d : Nat) (l0 : Value) (l1 : Value) (l2 : Value) (l3 : Value) (x0 : Int32) (h : zMm) (Q : Option Value → zMm → Prop), zWp d zi_139 none 81 [l0, l1, l2, l3] [.int x0] h Q = zWp d zi_139 none 86 [l0, l1, l2, l3] [.int x0] h Q) ∧
    (∀ (d : Nat) (l0 : Value) (l1 : Value) (l2 : Value) (l3 : Value)  (h : zMm) (Q : Option Value → zMm → Prop), zWp d zi_139 none 84 [l0, l1, l2, l3] [] h Q = zWp d zi_139 none 86 [l0, l1, l2, l3] [.int (-2000000000)] h Q) ∧
    (∀ (d : Nat) (l0 : Value) (l1 : Value) (l2 : Value) (l3 : Value) (x0 : Int32) (h : zMm) (Q : Option Value → zMm → Prop), zWp d zi_139 none 86 [l0, l1, l2, l3] [.int x0] h Q = Q (some (.int x0)) h) ∧
    (∀ (d : Nat) (l0 : Nat) (l1 : Value) (l2 : Value) (l3 : Value)  (h : zMm) (Q : Option Value → zMm → Prop), zWp d zi_139 none 87 [.ref l0, l1, l2, l3] [] h Q = zWp d zi_139 none 88 [.ref l0, l1, l2, l3] [.ref l0] h Q) ∧
    (∀ (d : Nat) (l0 : Value) (l1 : Int32) (l2 : Value) (l3 : Value) (x0 : Nat) (h : zMm) (Q : Option Value → zMm → Prop), zWp d zi_139 none 88 [l0, .int l1, l2, l3] [.ref x0] h Q = zWp d zi_139 none 89 [l0, .int l1, l2, l3] [.int l1, .ref x0] h Q) ∧
    (∀ (d : Nat) (l0 : Value) (l1 : Value) (l2 : Value) (l3 : Value) (x1 : Int32) (x0 : Nat) (I : Nat → Nat → Int32) (L : Nat → Nat → Int64) (P : Nat → Nat → Option Nat) (Q : Option Value → zMm → Prop), zSH[x0]? = some (.inl 10) → zWp d zi_139 none 89 [l0, l1, l2, l3] [.int x1, .ref x0] (zSH, I, L, P) Q = zWM d 130 [.ref x0, .int x1] (zSH, I, L, P) (fun r h1 => zWp d zi_139 none 92 [l0, l1, l2, l3] (r.toList ++ []) h1 Q)) ∧
    (∀ (d : Nat) (l0 : Value) (l1 : Value) (l2 : Value) (l3 : Value) (x0 : Int32) (h : zMm) (Q : Option Value → zMm → Prop), zWp d zi_139 none 92 [l0, l1, l2, l3] [.int x0] h Q = if x0 = 0 then zWp d zi_139 none 123 [l0, l1, l2, l3] [] h Q else zWp d zi_139 none 95 [l0, l1, l2, l3] [] h Q) ∧
    (∀ (d : Nat) (l0 : Value) (l1 : Value) (l2 : Value) (l3 : Int32)  (h : zMm) (Q : Option Value → zMm → Prop), zWp d zi_139 none 95 [l0, l1, l2, .int l3] [] h Q = zWp d zi_139 none 96 [l0, l1, l2, .int l3] [.int l3] h Q) ∧
    (∀ (d : Nat) (l0 : Value) (l1 : Value) (l2 : Value) (l3 : Value) (x0 : Int32) (h : zMm) (Q : Option Value → zMm → Prop), zWp d zi_139 none 96 [l0, l1, l2, l3] [.int x0] h Q = zWp d zi_139 none 97 [l0, l1, l2, l3] [.long x0.toInt64] h Q) ∧
    (∀ (d : Nat) (l0 : Value) (l1 : Value) (l2 : Value) (l3 : Value) (x0 : Int64) (h : zMm) (Q : Option Value → zMm → Prop), zWp d zi_139 none 97 [l0, l1, l2, l3] [.long x0] h Q = zWp d zi_139 none 98 [l0, l1, l2, l3] [.long 0, .long x0] h Q) ∧
    (∀ (d : Nat) (l0 : Nat) (l1 : Value) (l2 : Value) (l3 : Value) (x1 : Int64) (x0 : Int64) (h : zMm) (Q : Option Value → zMm → Prop), zWp d zi_139 none 98 [.ref l0, l1, l2, l3] [.long x1, .long x0] h Q = zWp d zi_139 none 99 [.ref l0, l1, l2, l3] [.ref l0, .long x1, .long x0] h Q) ∧
    (∀ (d : Nat) (l0 : Value) (l1 : Value) (l2 : Value) (l3 : Value) (x2 : Nat) (x1 : Int64) (x0 : Int64) (I : Nat → Nat → Int32) (L : Nat → Nat → Int64) (P : Nat → Nat → Option Nat) (Q : Option Value → zMm → Prop), zSH[x2]? = some (.inl 10) → zWp d zi_139 none 99 [l0, l1, l2, l3] [.ref x2, .long x1, .long x0] (zSH, I, L, P) Q = zWp d zi_139 none 102 [l0, l1, l2, l3] [va_rf (P x2 7), .long x1, .long x0] (zSH, I, L, P) Q) ∧
    (∀ (d : Nat) (l0 : Value) (l1 : Int32) (l2 : Value) (l3 : Value) (x2 : Nat) (x1 : Int64) (x0 : Int64) (h : zMm) (Q : Option Value → zMm → Prop), zWp d zi_139 none 102 [l0, .int l1, l2, l3] [.ref x2, .long x1, .long x0] h Q = zWp d zi_139 none 103 [l0, .int l1, l2, l3] [.int l1, .ref x2, .long x1, .long x0] h Q) ∧
    (∀ (d : Nat) (l0 : Value) (l1 : Value) (l2 : Value) (l3 : Value) (x3 : Int32) (x2 : Nat) (x1 : Int64) (x0 : Int64) (I : Nat → Nat → Int32) (L : Nat → Nat → Int64) (P : Nat → Nat → Option Nat) (Q : Option Value → zMm → Prop), zAk zSH x2 = some .int → zWp d zi_139 none 103 [l0, l1, l2, l3] [.int x3, .ref x2, .long x1, .long x0] (zSH, I, L, P) Q = (vp_in x3 (zAn zSH x2) ∧ zWp d zi_139 none 104 [l0, l1, l2, l3] [.int (I x2 x3.toNatClampNeg), .long x1, .long x0] (zSH, I, L, P) Q)) ∧
    (∀ (d : Nat) (l0 : Value) (l1 : Value) (l2 : Value) (l3 : Value) (x2 : Int32) (x1 : Int64) (x0 : Int64) (h : zMm) (Q : Option Value → zMm → Prop), zWp d zi_139 none 104 [l0, l1, l2, l3] [.int x2, .long x1, .long x0] h Q = zWp d zi_139 none 105 [l0, l1, l2, l3] [.long x2.toInt64, .long x1, .long x0] h Q) ∧
    (∀ (d : Nat) (l0 : Value) (l1 : Value) (l2 : Value) (l3 : Value) (x2 : Int64) (x1 : Int64) (x0 : Int64) (h : zMm) (Q : Option Value → zMm → Prop), zWp d zi_139 none 105 [l0, l1, l2, l3] [.long x2, .long x1, .long x0] h Q = zWM d 122 [.long x0, .long x1, .long x2] h (fun r h1 => zWp d zi_139 none 108 [l0, l1, l2, l3] (r.toList ++ []) h1 Q)) ∧
    (∀ (d : Nat) (l0 : Value) (l1 : Value) (l2 : Value) (l3 : Value) (x0 : Int32) (h : zMm) (Q : Option Value → zMm → Prop), zWp d zi_139 none 108 [l0, l1, l2, l3] [.int x0] h Q = if x0 = 0 then zWp d zi_139 none 123 [l0, l1, l2, l3] [] h Q else zWp d zi_139 none 111 [l0, l1, l2, l3] [] h Q) ∧
    (∀ (d : Nat) (l0 : Nat) (l1 : Value) (l2 : Value) (l3 : Value)  (h : zMm) (Q : Option Value → zMm → Prop), zWp d zi_139 none 111 [.ref l0, l1, l2, l3] [] h Q = zWp d zi_139 none 112 [.ref l0, l1, l2, l3] [.ref l0] h Q) ∧
    (∀ (d : Nat) (l0 : Value) (l1 : Value) (l2 : Value) (l3 : Value) (x0 : Nat) (h : zMm) (Q : Option Value → zMm → Prop), zWp d zi_139 none 112 [l0, l1, l2, l3] [.ref x0] h Q = zWp d zi_139 none 114 [l0, l1, l2, l3] [.int 48, .ref x0] h Q) ∧
    (∀ (d : Nat) (l0 : Value) (l1 : Int32) (l2 : Value) (l3 : Value) (x1 : Int32) (x0 : Nat) (h : zMm) (Q : Option Value → zMm → Prop), zWp d zi_139 none 114 [l0, .int l1, l2, l3] [.int x1, .ref x0] h Q = zWp d zi_139 none 115 [l0, .int l1, l2, l3] [.int l1, .int x1, .ref x0] h Q) ∧
    (∀ (d : Nat) (l0 : Value) (l1 : Value) (l2 : Value) (l3 : Value) (x2 : Int32) (x1 : Int32) (x0 : Nat) (h : zMm) (Q : Option Value → zMm → Prop), zWp d zi_139 none 115 [l0, l1, l2, l3] [.int x2, .int x1, .ref x0] h Q = zWp d zi_139 none 116 [l0, l1, l2, l3] [.int (x1 + x2), .ref x0] h Q) ∧
    (∀ (d : Nat) (l0 : Value) (l1 : Value) (l2 : Value) (l3 : Int32) (x1 : Int32) (x0 : Nat) (h : zMm) (Q : Option Value → zMm → Prop), zWp d zi_139 none 116 [l0, l1, l2, .int l3] [.int x1, .ref x0] h Q = zWp d zi_139 none 117 [l0, l1, l2, .int l3] [.int l3, .int x1, .ref x0] h Q) ∧
    (∀ (d : Nat) (l0 : Value) (l1 : Value) (l2 : Value) (l3 : Value) (x2 : Int32) (x1 : Int32) (x0 : Nat) (I : Nat → Nat → Int32) (L : Nat → Nat → Int64) (P : Nat → Nat → Option Nat) (Q : Option Value → zMm → Prop), zSH[x0]? = some (.inl 10) → zWp d zi_139 none 117 [l0, l1, l2, l3] [.int x2, .int x1, .ref x0] (zSH, I, L, P) Q = zWM d 125 [.ref x0, .int x1, .int x2] (zSH, I, L, P) (fun r h1 => zWp d zi_139 none 120 [l0, l1, l2, l3] (r.toList ++ []) h1 Q)) ∧
    (∀ (d : Nat) (l0 : Value) (l1 : Value) (l2 : Value) (l3 : Value) (x0 : Int32) (h : zMm) (Q : Option Value → zMm → Prop), zWp d zi_139 none 120 [l0, l1, l2, l3] [.int x0] h Q = zWp d zi_139 none 125 [l0, l1, l2, l3] [.int x0] h Q) ∧
    (∀ (d : Nat) (l0 : Value) (l1 : Value) (l2 : Value) (l3 : Value)  (h : zMm) (Q : Option Value → zMm → Prop), zWp d zi_139 none 123 [l0, l1, l2, l3] [] h Q = zWp d zi_139 none 125 [l0, l1, l2, l3] [.int (-2000000000)] h Q) ∧
    (∀ (d : Nat) (l0 : Value) (l1 : Value) (l2 : Value) (l3 : Value) (x0 : Int32) (h : zMm) (Q : Option Value → zMm → Prop), zWp d zi_139 none 125 [l0, l1, l2, l3] [.int x0] h Q = Q (some (.int x0)) h) ∧
    (∀ (d : Nat) (l0 : Value) (l1 : Int32) (l2 : Value) (l3 : Value)  (h : zMm) (Q : Option Value → zMm → Prop), zWp d zi_139 none 126 [l0, .int l1, l2, l3] [] h Q = zWp d zi_139 none 127 [l0, .int l1, l2, l3] [.int l1] h Q) ∧
    (∀ (d : Nat) (l0 : Value) (l1 : Value) (l2 : Value) (l3 : Value) (x0 : Int32) (h : zMm) (Q : Option Value → zMm → Prop), zWp d zi_139 none 127 [l0, l1, l2, l3] [.int x0] h Q = if x0 = 0 then zWp d zi_139 none 130 [l0, l1, l2, l3] [] h Q else zWp d zi_139 none 158 [l0, l1, l2, l3] [] h Q) ∧
    (∀ (d : Nat) (l0 : Value) (l1 : Value) (l2 : Value) (l3 : Int32)  (h : zMm) (Q : Option Value → zMm → Prop), zWp d zi_139 none 130 [l0, l1, l2, .int l3] [] h Q = zWp d zi_139 none 131 [l0, l1, l2, .int l3] [.int l3] h Q) ∧
    (∀ (d : Nat) (l0 : Value) (l1 : Value) (l2 : Value) (l3 : Value) (x0 : Int32) (h : zMm) (Q : Option Value → zMm → Prop), zWp d zi_139 none 131 [l0, l1, l2, l3] [.int x0] h Q = zWp d zi_139 none 132 [l0, l1, l2, l3] [.long x0.toInt64] h Q) ∧
    (∀ (d : Nat) (l0 : Value) (l1 : Value) (l2 : Value) (l3 : Value) (x0 : Int64) (h : zMm) (Q : Option Value → zMm → Prop), zWp d zi_139 none 132 [l0, l1, l2, l3] [.long x0] h Q = zWp d zi_139 none 135 [l0, l1, l2, l3] [.long (-9), .long x0] h Q) ∧
    (∀ (d : Nat) (l0 : Value) (l1 : Value) (l2 : Value) (l3 : Value) (x1 : Int64) (x0 : Int64) (h : zMm) (Q : Option Value → zMm → Prop), zWp d zi_139 none 135 [l0, l1, l2, l3] [.long x1, .long x0] h Q = zWp d zi_139 none 138 [l0, l1, l2, l3] [.long 9, .long x1, .long x0] h Q) ∧
    (∀ (d : Nat) (l0 : Value) (l1 : Value) (l2 : Value) (l3 : Value) (x2 : Int64) (x1 : Int64) (x0 : Int64) (h : zMm) (Q : Option Value → zMm → Prop), zWp d zi_139 none 138 [l0, l1, l2, l3] [.long x2, .long x1, .long x0] h Q = zWM d 122 [.long x0, .long x1, .long x2] h (fun r h1 => zWp d zi_139 none 141 [l0, l1, l2, l3] (r.toList ++ []) h1 Q)) ∧
    (∀ (d : Nat) (l0 : Value) (l1 : Value) (l2 : Value) (l3 : Value) (x0 : Int32) (h : zMm) (Q : Option Value → zMm → Prop), zWp d zi_139 none 141 [l0, l1, l2, l3] [.int x0] h Q = if x0 = 0 then zWp d zi_139 none 158 [l0, l1, l2, l3] [] h Q else zWp d zi_139 none 144 [l0, l1, l2, l3] [] h Q) ∧
    (∀ (d : Nat) (l0 : Nat) (l1 : Value) (l2 : Value) (l3 : Value)  (h : zMm) (Q : Option Value → zMm → Prop), zWp d zi_139 none 144 [.ref l0, l1, l2, l3] [] h Q = zWp d zi_139 none 145 [.ref l0, l1, l2, l3] [.ref l0] h Q) ∧
    (∀ (d : Nat) (l0 : Value) (l1 : Value) (l2 : Value) (l3 : Value) (x0 : Nat) (h : zMm) (Q : Option Value → zMm → Prop), zWp d zi_139 none 145 [l0, l1, l2, l3] [.ref x0] h Q = zWp d zi_139 none 147 [l0, l1, l2, l3] [.int 72, .ref x0] h Q) ∧
    (∀ (d : Nat) (l0 : Value) (l1 : Value) (l2 : Int32) (l3 : Value) (x1 : Int32) (x0 : Nat) (h : zMm) (Q : Option Value → zMm → Prop), zWp d zi_139 none 147 [l0, l1, .int l2, l3] [.int x1, .ref x0] h Q = zWp d zi_139 none 148 [l0, l1, .int l2, l3] [.int l2, .int x1, .ref x0] h Q) ∧
    (∀ (d : Nat) (l0 : Value) (l1 : Value) (l2 : Value) (l3 : Value) (x2 : Int32) (x1 : Int32) (x0 : Nat) (h : zMm) (Q : Option Value → zMm → Prop), zWp d zi_139 none 148 [l0, l1, l2, l3] [.int x2, .int x1, .ref x0] h Q = zWp d zi_139 none 149 [l0, l1, l2, l3] [.int (x1 + x2), .ref x0] h Q) ∧
    (∀ (d : Nat) (l0 : Value) (l1 : Value) (l2 : Value) (l3 : Value) (x1 : Int32) (x0 : Nat) (h : zMm) (Q : Option Value → zMm → Prop), zWp d zi_139 none 149 [l0, l1, l2, l3] [.int x1, .ref x0] h Q = zWp d zi_139 none 150 [l0, l1, l2, l3] [.int 3, .int x1, .ref x0] h Q) ∧
    (∀ (d : Nat) (l0 : Value) (l1 : Value) (l2 : Value) (l3 : Value) (x2 : Int32) (x1 : Int32) (x0 : Nat) (h : zMm) (Q : Option Value → zMm → Prop), zWp d zi_139 none 150 [l0, l1, l2, l3] [.int x2, .int x1, .ref x0] h Q = zWp d zi_139 none 151 [l0, l1, l2, l3] [.int (x1 - x2), .ref x0] h Q) ∧
    (∀ (d : Nat) (l0 : Value) (l1 : Value) (l2 : Value) (l3 : Int32) (x1 : Int32) (x0 : Nat) (h : zMm) (Q : Option Value → zMm → Prop), zWp d zi_139 none 151 [l0, l1, l2, .int l3] [.int x1, .ref x0] h Q = zWp d zi_139 none 152 [l0, l1, l2, .int l3] [.int l3, .int x1, .ref x0] h Q) ∧
    (∀ (d : Nat) (l0 : Value) (l1 : Value) (l2 : Value) (l3 : Value) (x2 : Int32) (x1 : Int32) (x0 : Nat) (I : Nat → Nat → Int32) (L : Nat → Nat → Int64) (P : Nat → Nat → Option Nat) (Q : Option Value → zMm → Prop), zSH[x0]? = some (.inl 10) → zWp d zi_139 none 152 [l0, l1, l2, l3] [.int x2, .int x1, .ref x0] (zSH, I, L, P) Q = zWM d 125 [.ref x0, .int x1, .int x2] (zSH, I, L, P) (fun r h1 => zWp d zi_139 none 155 [l0, l1, l2, l3] (r.toList ++ []) h1 Q)) ∧
    (∀ (d : Nat) (l0 : Value) (l1 : Value) (l2 : Value) (l3 : Value) (x0 : Int32) (h : zMm) (Q : Option Value → zMm → Prop), zWp d zi_139 none 155 [l0, l1, l2, l3] [.int x0] h Q = zWp d zi_139 none 160 [l0, l1, l2, l3] [.int x0] h Q) ∧
    (∀ (d : Nat) (l0 : Value) (l1 : Value) (l2 : Value) (l3 : Value)  (h : zMm) (Q : Option Value → zMm → Prop), zWp d zi_139 none 158 [l0, l1, l2, l3] [] h Q = zWp d zi_139 none 160 [l0, l1, l2, l3] [.int (-2000000000)] h Q) ∧
    (∀ (d : Nat) (l0 : Value) (l1 : Value) (l2 : Value) (l3 : Value) (x0 : Int32) (h : zMm) (Q : Option Value → zMm → Prop), zWp d zi_139 none 160 [l0, l1, l2, l3] [.int x0] h Q = Q (some (.int x0)) h) ∧
    (∀ (d : Nat) (l0 : Nat) (l1 : Value) (l2 : Value) (l3 : Value)  (h : zMm) (Q : Option Value → zMm → Prop), zWp d zi_139 none 161 [.ref l0, l1, l2, l3] [] h Q = zWp d zi_139 none 162 [.ref l0, l1, l2, l3] [.ref l0] h Q) ∧
    (∀ (d : Nat) (l0 : Value) (l1 : Int32) (l2 : Value) (l3 : Value) (x0 : Nat) (h : zMm) (Q : Option Value → zMm → Prop), zWp d zi_139 none 162 [l0, .int l1, l2, l3] [.ref x0] h Q = zWp d zi_139 none 163 [l0, .int l1, l2, l3] [.int l1, .ref x0] h Q) ∧
    (∀ (d : Nat) (l0 : Value) (l1 : Value) (l2 : Value) (l3 : Value) (x1 : Int32) (x0 : Nat) (I : Nat → Nat → Int32) (L : Nat → Nat → Int64) (P : Nat → Nat → Option Nat) (Q : Option Value → zMm → Prop), zSH[x0]? = some (.inl 10) → zWp d zi_139 none 163 [l0, l1, l2, l3] [.int x1, .ref x0] (zSH, I, L, P) Q = zWM d 131 [.ref x0, .int x1] (zSH, I, L, P) (fun r h1 => zWp d zi_139 none 166 [l0, l1, l2, l3] (r.toList ++ []) h1 Q)) ∧
    (∀ (d : Nat) (l0 : Value) (l1 : Value) (l2 : Value) (l3 : Value) (x0 : Int32) (h : zMm) (Q : Option Value → zMm → Prop), zWp d zi_139 none 166 [l0, l1, l2, l3] [.int x0] h Q = if x0 = 0 then zWp d zi_139 none 193 [l0, l1, l2, l3] [] h Q else zWp d zi_139 none 169 [l0, l1, l2, l3] [] h Q) ∧
    (∀ (d : Nat) (l0 : Value) (l1 : Value) (l2 : Value) (l3 : Int32)  (h : zMm) (Q : Option Value → zMm → Prop), zWp d zi_139 none 169 [l0, l1, l2, .int l3] [] h Q = zWp d zi_139 none 170 [l0, l1, l2, .int l3] [.int l3] h Q) ∧
    (∀ (d : Nat) (l0 : Value) (l1 : Value) (l2 : Value) (l3 : Value) (x0 : Int32) (h : zMm) (Q : Option Value → zMm → Prop), zWp d zi_139 none 170 [l0, l1, l2, l3] [.int x0] h Q = zWp d zi_139 none 171 [l0, l1, l2, l3] [.long x0.toInt64] h Q) ∧
    (∀ (d : Nat) (l0 : Value) (l1 : Value) (l2 : Value) (l3 : Value) (x0 : Int64) (h : zMm) (Q : Option Value → zMm → Prop), zWp d zi_139 none 171 [l0, l1, l2, l3] [.long x0] h Q = zWp d zi_139 none 172 [l0, l1, l2, l3] [.long 0, .long x0] h Q) ∧
    (∀ (d : Nat) (l0 : Value) (l1 : Value) (l2 : Value) (l3 : Value) (x1 : Int64) (x0 : Int64) (h : zMm) (Q : Option Value → zMm → Prop), zWp d zi_139 none 172 [l0, l1, l2, l3] [.long x1, .long x0] h Q = zWp d zi_139 none 175 [l0, l1, l2, l3] [.long 9, .long x1, .long x0] h Q) ∧
    (∀ (d : Nat) (l0 : Value) (l1 : Value) (l2 : Value) (l3 : Value) (x2 : Int64) (x1 : Int64) (x0 : Int64) (h : zMm) (Q : Option Value → zMm → Prop), zWp d zi_139 none 175 [l0, l1, l2, l3] [.long x2, .long x1, .long x0] h Q = zWM d 122 [.long x0, .long x1, .long x2] h (fun r h1 => zWp d zi_139 none 178 [l0, l1, l2, l3] (r.toList ++ []) h1 Q)) ∧
    (∀ (d : Nat) (l0 : Value) (l1 : Value) (l2 : Value) (l3 : Value) (x0 : Int32) (h : zMm) (Q : Option Value → zMm → Prop), zWp d zi_139 none 178 [l0, l1, l2, l3] [.int x0] h Q = if x0 = 0 then zWp d zi_139 none 193 [l0, l1, l2, l3] [] h Q else zWp d zi_139 none 181 [l0, l1, l2, l3] [] h Q) ∧
    (∀ (d : Nat) (l0 : Nat) (l1 : Value) (l2 : Value) (l3 : Value)  (h : zMm) (Q : Option Value → zMm → Prop), zWp d zi_139 none 181 [.ref l0, l1, l2, l3] [] h Q = zWp d zi_139 none 182 [.ref l0, l1, l2, l3] [.ref l0] h Q) ∧
    (∀ (d : Nat) (l0 : Value) (l1 : Value) (l2 : Value) (l3 : Value) (x0 : Nat) (h : zMm) (Q : Option Value → zMm → Prop), zWp d zi_139 none 182 [l0, l1, l2, l3] [.ref x0] h Q = zWp d zi_139 none 184 [l0, l1, l2, l3] [.int 74, .ref x0] h Q) ∧
    (∀ (d : Nat) (l0 : Value) (l1 : Int32) (l2 : Value) (l3 : Value) (x1 : Int32) (x0 : Nat) (h : zMm) (Q : Option Value → zMm → Prop), zWp d zi_139 none 184 [l0, .int l1, l2, l3] [.int x1, .ref x0] h Q = zWp d zi_139 none 185 [l0, .int l1, l2, l3] [.int l1, .int x1, .ref x0] h Q) ∧
    (∀ (d : Nat) (l0 : Value) (l1 : Value) (l2 : Value) (l3 : Value) (x2 : Int32) (x1 : Int32) (x0 : Nat) (h : zMm) (Q : Option Value → zMm → Prop), zWp d zi_139 none 185 [l0, l1, l2, l3] [.int x2, .int x1, .ref x0] h Q = zWp d zi_139 none 186 [l0, l1, l2, l3] [.int (x1 + x2), .ref x0] h Q) ∧
    (∀ (d : Nat) (l0 : Value) (l1 : Value) (l2 : Value) (l3 : Int32) (x1 : Int32) (x0 : Nat) (h : zMm) (Q : Option Value → zMm → Prop), zWp d zi_139 none 186 [l0, l1, l2, .int l3] [.int x1, .ref x0] h Q = zWp d zi_139 none 187 [l0, l1, l2, .int l3] [.int l3, .int x1, .ref x0] h Q) ∧
    (∀ (d : Nat) (l0 : Value) (l1 : Value) (l2 : Value) (l3 : Value) (x2 : Int32) (x1 : Int32) (x0 : Nat) (I : Nat → Nat → Int32) (L : Nat → Nat → Int64) (P : Nat → Nat → Option Nat) (Q : Option Value → zMm → Prop), zSH[x0]? = some (.inl 10) → zWp d zi_139 none 187 [l0, l1, l2, l3] [.int x2, .int x1, .ref x0] (zSH, I, L, P) Q = zWM d 125 [.ref x0, .int x1, .int x2] (zSH, I, L, P) (fun r h1 => zWp d zi_139 none 190 [l0, l1, l2, l3] (r.toList ++ []) h1 Q)) ∧
    (∀ (d : Nat) (l0 : Value) (l1 : Value) (l2 : Value) (l3 : Value) (x0 : Int32) (h : zMm) (Q : Option Value → zMm → Prop), zWp d zi_139 none 190 [l0, l1, l2, l3] [.int x0] h Q = zWp d zi_139 none 195 [l0, l1, l2, l3] [.int x0] h Q) ∧
    (∀ (d : Nat) (l0 : Value) (l1 : Value) (l2 : Value) (l3 : Value)  (h : zMm) (Q : Option Value → zMm → Prop), zWp d zi_139 none 193 [l0, l1, l2, l3] [] h Q = zWp d zi_139 none 195 [l0, l1, l2, l3] [.int (-2000000000)] h Q) ∧
    (∀ (d : Nat) (l0 : Value) (l1 : Value) (l2 : Value) (l3 : Value) (x0 : Int32) (h : zMm) (Q : Option Value → zMm → Prop), zWp d zi_139 none 195 [l0, l1, l2, l3] [.int x0] h Q = Q (some (.int x0)) h) ∧
    (∀ (d : Nat) (l0 : Value) (l1 : Int32) (l2 : Value) (l3 : Value)  (h : zMm) (Q : Option Value → zMm → Prop), zWp d zi_139 none 196 [l0, .int l1, l2, l3] [] h Q = zWp d zi_139 none 197 [l0, .int l1, l2, l3] [.int l1] h Q) ∧
    (∀ (d : Nat) (l0 : Value) (l1 : Value) (l2 : Value) (l3 : Value) (x0 : Int32) (h : zMm) (Q : Option Value → zMm → Prop), zWp d zi_139 none 197 [l0, l1, l2, l3] [.int x0] h Q = if x0 = 0 then zWp d zi_139 none 200 [l0, l1, l2, l3] [] h Q else zWp d zi_139 none 222 [l0, l1, l2, l3] [] h Q) ∧
    (∀ (d : Nat) (l0 : Value) (l1 : Value) (l2 : Value) (l3 : Int32)  (h : zMm) (Q : Option Value → zMm → Prop), zWp d zi_139 none 200 [l0, l1, l2, .int l3] [] h Q = zWp d zi_139 none 201 [l0, l1, l2, .int l3] [.int l3] h Q) ∧
    (∀ (d : Nat) (l0 : Value) (l1 : Value) (l2 : Value) (l3 : Value) (x0 : Int32) (h : zMm) (Q : Option Value → zMm → Prop), zWp d zi_139 none 201 [l0, l1, l2, l3] [.int x0] h Q = zWp d zi_139 none 202 [l0, l1, l2, l3] [.long x0.toInt64] h Q) ∧
    (∀ (d : Nat) (l0 : Value) (l1 : Value) (l2 : Value) (l3 : Value) (x0 : Int64) (h : zMm) (Q : Option Value → zMm → Prop), zWp d zi_139 none 202 [l0, l1, l2, l3] [.long x0] h Q = zWp d zi_139 none 203 [l0, l1, l2, l3] [.long 1, .long x0] h Q) ∧
    (∀ (d : Nat) (l0 : Value) (l1 : Value) (l2 : Value) (l3 : Value) (x1 : Int64) (x0 : Int64) (h : zMm) (Q : Option Value → zMm → Prop), zWp d zi_139 none 203 [l0, l1, l2, l3] [.long x1, .long x0] h Q = zWp d zi_139 none 206 [l0, l1, l2, l3] [.long 999, .long x1, .long x0] h Q) ∧
    (∀ (d : Nat) (l0 : Value) (l1 : Value) (l2 : Value) (l3 : Value) (x2 : Int64) (x1 : Int64) (x0 : Int64) (h : zMm) (Q : Option Value → zMm → Prop), zWp d zi_139 none 206 [l0, l1, l2, l3] [.long x2, .long x1, .long x0] h Q = zWM d 122 [.long x0, .long x1, .long x2] h (fun r h1 => zWp d zi_139 none 209 [l0, l1, l2, l3] (r.toList ++ []) h1 Q)) ∧
    (∀ (d : Nat) (l0 : Value) (l1 : Value) (l2 : Value) (l3 : Value) (x0 : Int32) (h : zMm) (Q : Option Value → zMm → Prop), zWp d zi_139 none 209 [l0, l1, l2, l3] [.int x0] h Q = if x0 = 0 then zWp d zi_139 none 222 [l0, l1, l2, l3] [] h Q else zWp d zi_139 none 212 [l0, l1, l2, l3] [] h Q) ∧
    (∀ (d : Nat) (l0 : Nat) (l1 : Value) (l2 : Value) (l3 : Value)  (h : zMm) (Q : Option Value → zMm → Prop), zWp d zi_139 none 212 [.ref l0, l1, l2, l3] [] h Q = zWp d zi_139 none 213 [.ref l0, l1, l2, l3] [.ref l0] h Q) ∧
    (∀ (d : Nat) (l0 : Value) (l1 : Value) (l2 : Value) (l3 : Value) (x0 : Nat) (h : zMm) (Q : Option Value → zMm → Prop), zWp d zi_139 none 213 [l0, l1, l2, l3] [.ref x0] h Q = zWp d zi_139 none 215 [l0, l1, l2, l3] [.int 82, .ref x0] h Q) ∧
    (∀ (d : Nat) (l0 : Value) (l1 : Value) (l2 : Value) (l3 : Int32) (x1 : Int32) (x0 : Nat) (h : zMm) (Q : Option Value → zMm → Prop), zWp d zi_139 none 215 [l0, l1, l2, .int l3] [.int x1, .ref x0] h Q = zWp d zi_139 none 216 [l0, l1, l2, .int l3] [.int l3, .int x1, .ref x0] h Q) ∧
    (∀ (d : Nat) (l0 : Value) (l1 : Value) (l2 : Value) (l3 : Value) (x2 : Int32) (x1 : Int32) (x0 : Nat) (I : Nat → Nat → Int32) (L : Nat → Nat → Int64) (P : Nat → Nat → Option Nat) (Q : Option Value → zMm → Prop), zSH[x0]? = some (.inl 10) → zWp d zi_139 none 216 [l0, l1, l2, l3] [.int x2, .int x1, .ref x0] (zSH, I, L, P) Q = zWM d 125 [.ref x0, .int x1, .int x2] (zSH, I, L, P) (fun r h1 => zWp d zi_139 none 219 [l0, l1, l2, l3] (r.toList ++ []) h1 Q)) ∧
    (∀ (d : Nat) (l0 : Value) (l1 : Value) (l2 : Value) (l3 : Value) (x0 : Int32) (h : zMm) (Q : Option Value → zMm → Prop), zWp d zi_139 none 219 [l0, l1, l2, l3] [.int x0] h Q = zWp d zi_139 none 224 [l0, l1, l2, l3] [.int x0] h Q) ∧
    (∀ (d : Nat) (l0 : Value) (l1 : Value) (l2 : Value) (l3 : Value)  (h : zMm) (Q : Option Value → zMm → Prop), zWp d zi_139 none 222 [l0, l1, l2, l3] [] h Q = zWp d zi_139 none 224 [l0, l1, l2, l3] [.int (-2000000000)] h Q) ∧
    (∀ (d : Nat) (l0 : Value) (l1 : Value) (l2 : Value) (l3 : Value) (x0 : Int32) (h : zMm) (Q : Option Value → zMm → Prop), zWp d zi_139 none 224 [l0, l1, l2, l3] [.int x0] h Q = Q (some (.int x0)) h) ∧
    (∀ (d : Nat) (l0 : Value) (l1 : Int32) (l2 : Value) (l3 : Value)  (h : zMm) (Q : Option Value → zMm → Prop), zWp d zi_139 none 225 [l0, .int l1, l2, l3] [] h Q = zWp d zi_139 none 226 [l0, .int l1, l2, l3] [.int l1] h Q) ∧
    (∀ (d : Nat) (l0 : Value) (l1 : Value) (l2 : Value) (l3 : Value) (x0 : Int32) (h : zMm) (Q : Option Value → zMm → Prop), zWp d zi_139 none 226 [l0, l1, l2, l3] [.int x0] h Q = if x0 = 0 then zWp d zi_139 none 229 [l0, l1, l2, l3] [] h Q else zWp d zi_139 none 251 [l0, l1, l2, l3] [] h Q) ∧
    (∀ (d : Nat) (l0 : Value) (l1 : Value) (l2 : Value) (l3 : Int32)  (h : zMm) (Q : Option Value → zMm → Prop), zWp d zi_139 none 229 [l0, l1, l2, .int l3] [] h Q = zWp d zi_139 none 230 [l0, l1, l2, .int l3] [.int l3] h Q) ∧
    (∀ (d : Nat) (l0 : Value) (l1 : Value) (l2 : Value) (l3 : Value) (x0 : Int32) (h : zMm) (Q : Option Value → zMm → Prop), zWp d zi_139 none 230 [l0, l1, l2, l3] [.int x0] h Q = zWp d zi_139 none 231 [l0, l1, l2, l3] [.long x0.toInt64] h Q) ∧
    (∀ (d : Nat) (l0 : Value) (l1 : Value) (l2 : Value) (l3 : Value) (x0 : Int64) (h : zMm) (Q : Option Value → zMm → Prop), zWp d zi_139 none 231 [l0, l1, l2, l3] [.long x0] h Q = zWp d zi_139 none 232 [l0, l1, l2, l3] [.long 0, .long x0] h Q) ∧
    (∀ (d : Nat) (l0 : Value) (l1 : Value) (l2 : Value) (l3 : Value) (x1 : Int64) (x0 : Int64) (h : zMm) (Q : Option Value → zMm → Prop), zWp d zi_139 none 232 [l0, l1, l2, l3] [.long x1, .long x0] h Q = zWp d zi_139 none 235 [l0, l1, l2, l3] [.long 12, .long x1, .long x0] h Q) ∧
    (∀ (d : Nat) (l0 : Value) (l1 : Value) (l2 : Value) (l3 : Value) (x2 : Int64) (x1 : Int64) (x0 : Int64) (h : zMm) (Q : Option Value → zMm → Prop), zWp d zi_139 none 235 [l0, l1, l2, l3] [.long x2, .long x1, .long x0] h Q = zWM d 122 [.long x0, .long x1, .long x2] h (fun r h1 => zWp d zi_139 none 238 [l0, l1, l2, l3] (r.toList ++ []) h1 Q)) ∧
    (∀ (d : Nat) (l0 : Value) (l1 : Value) (l2 : Value) (l3 : Value) (x0 : Int32) (h : zMm) (Q : Option Value → zMm → Prop), zWp d zi_139 none 238 [l0, l1, l2, l3] [.int x0] h Q = if x0 = 0 then zWp d zi_139 none 251 [l0, l1, l2, l3] [] h Q else zWp d zi_139 none 241 [l0, l1, l2, l3] [] h Q) ∧
    (∀ (d : Nat) (l0 : Nat) (l1 : Value) (l2 : Value) (l3 : Value)  (h : zMm) (Q : Option Value → zMm → Prop), zWp d zi_139 none 241 [.ref l0, l1, l2, l3] [] h Q = zWp d zi_139 none 242 [.ref l0, l1, l2, l3] [.ref l0] h Q) ∧
    (∀ (d : Nat) (l0 : Value) (l1 : Value) (l2 : Value) (l3 : Value) (x0 : Nat) (h : zMm) (Q : Option Value → zMm → Prop), zWp d zi_139 none 242 [l0, l1, l2, l3] [.ref x0] h Q = zWp d zi_139 none 244 [l0, l1, l2, l3] [.int 83, .ref x0] h Q) ∧
    (∀ (d : Nat) (l0 : Value) (l1 : Value) (l2 : Value) (l3 : Int32) (x1 : Int32) (x0 : Nat) (h : zMm) (Q : Option Value → zMm → Prop), zWp d zi_139 none 244 [l0, l1, l2, .int l3] [.int x1, .ref x0] h Q = zWp d zi_139 none 245 [l0, l1, l2, .int l3] [.int l3, .int x1, .ref x0] h Q) ∧
    (∀ (d : Nat) (l0 : Value) (l1 : Value) (l2 : Value) (l3 : Value) (x2 : Int32) (x1 : Int32) (x0 : Nat) (I : Nat → Nat → Int32) (L : Nat → Nat → Int64) (P : Nat → Nat → Option Nat) (Q : Option Value → zMm → Prop), zSH[x0]? = some (.inl 10) → zWp d zi_139 none 245 [l0, l1, l2, l3] [.int x2, .int x1, .ref x0] (zSH, I, L, P) Q = zWM d 125 [.ref x0, .int x1, .int x2] (zSH, I, L, P) (fun r h1 => zWp d zi_139 none 248 [l0, l1, l2, l3] (r.toList ++ []) h1 Q)) ∧
    (∀ (d : Nat) (l0 : Value) (l1 : Value) (l2 : Value) (l3 : Value) (x0 : Int32) (h : zMm) (Q : Option Value → zMm → Prop), zWp d zi_139 none 248 [l0, l1, l2, l3] [.int x0] h Q = zWp d zi_139 none 253 [l0, l1, l2, l3] [.int x0] h Q) ∧
    (∀ (d : Nat) (l0 : Value) (l1 : Value) (l2 : Value) (l3 : Value)  (h : zMm) (Q : Option Value → zMm → Prop), zWp d zi_139 none 251 [l0, l1, l2, l3] [] h Q = zWp d zi_139 none 253 [l0, l1, l2, l3] [.int (-2000000000)] h Q) ∧
    (∀ (d : Nat) (l0 : Value) (l1 : Value) (l2 : Value) (l3 : Value) (x0 : Int32) (h : zMm) (Q : Option Value → zMm → Prop), zWp d zi_139 none 253 [l0, l1, l2, l3] [.int x0] h Q = Q (some (.int x0)) h) ∧
    (∀ (d : Nat) (l0 : Value) (l1 : Value) (l2 : Value) (l3 : Value)  (h : zMm) (Q : Option Value → zMm → Prop), zWp d zi_139 none 254 [l0, l1, l2, l3] [] h Q = zWp d zi_139 none 256 [l0, l1, l2, l3] [.int (-2000000000)] h Q) ∧
    (∀ (d : Nat) (l0 : Value) (l1 : Value) (l2 : Value) (l3 : Value) (x0 : Int32) (h : zMm) (Q : Option Value → zMm → Prop), zWp d zi_139 none 256 [l0, l1, l2, l3] [.int x0] h Q = Q (some (.int x0)) h) :=
  ⟨(fun d l0 l1 l2 l3  h Q => zr_iload_n rfl rfl),
   (fun d l0 l1 l2 l3 x0 h Q => by
      by_cases e0 : x0 = 0
      · subst e0; rw [if_pos rfl]; exact zr_tabI rfl (by decide) rfl (by decide)
      rw [if_neg e0]
      have n0 : ¬ x0.toInt = 0 := fun z => e0 (Int32.toInt_inj.mp z)
      by_cases e1 : x0 = 1
      · subst e1; rw [if_pos rfl]; exact zr_tabI rfl (by decide) rfl (by decide)
      rw [if_neg e1]
      have n1 : ¬ x0.toInt = 1 := fun z => e1 (Int32.toInt_inj.mp z)
      by_cases e2 : x0 = 2
      · subst e2; rw [if_pos rfl]; exact zr_tabI rfl (by decide) rfl (by decide)
      rw [if_neg e2]
      have n2 : ¬ x0.toInt = 2 := fun z => e2 (Int32.toInt_inj.mp z)
      by_cases e3 : x0 = 3
      · subst e3; rw [if_pos rfl]; exact zr_tabI rfl (by decide) rfl (by decide)
      rw [if_neg e3]
      have n3 : ¬ x0.toInt = 3 := fun z => e3 (Int32.toInt_inj.mp z)
      by_cases e4 : x0 = 4
      · subst e4; rw [if_pos rfl]; exact zr_tabI rfl (by decide) rfl (by decide)
      rw [if_neg e4]
      have n4 : ¬ x0.toInt = 4 := fun z => e4 (Int32.toInt_inj.mp z)
      by_cases e5 : x0 = 5
      · subst e5; rw [if_pos rfl]; exact zr_tabI rfl (by decide) rfl (by decide)
      rw [if_neg e5]
      have n5 : ¬ x0.toInt = 5 := fun z => e5 (Int32.toInt_inj.mp z)
      by_cases e6 : x0 = 6
      · subst e6; rw [if_pos rfl]; exact zr_tabI rfl (by decide) rfl (by decide)
      rw [if_neg e6]
      have n6 : ¬ x0.toInt = 6 := fun z => e6 (Int32.toInt_inj.mp z)
      by_cases e7 : x0 = 7
      · subst e7; rw [if_pos rfl]; exact zr_tabI rfl (by decide) rfl (by decide)
      rw [if_neg e7]
      have n7 : ¬ x0.toInt = 7 := fun z => e7 (Int32.toInt_inj.mp z)
      exact zr_tabD rfl (by omega) (by decide)),
   (fun d l0 l1 l2 l3  h Q => zr_aload_n rfl rfl),
   (fun d l0 l1 l2 l3 x0 h Q => zr_iload_n rfl rfl),
   (fun d l0 l1 l2 l3 x1 x0 I L P Q p0 => zr_vir (as := [.int x1]) (rest := []) rfl lm_10_142 m_130 kd_130 rfl (Nat.le_of_ble_eq_true rfl) p0),
   (fun d l0 l1 l2 l3 x0 h Q => zr_if_eq rfl (by decide)),
   (fun d l0 l1 l2 l3  h Q => zr_iload_n rfl rfl),
   (fun d l0 l1 l2 l3 x0 h Q => zr_i2l rfl),
   (fun d l0 l1 l2 l3 x0 h Q => zr_ldc2_w rfl lj_10_119),
   (fun d l0 l1 l2 l3 x1 x0 h Q => zr_ldc2_w rfl lj_10_121),
   (fun d l0 l1 l2 l3 x2 x1 x0 h Q => zr_sta (as := [.long x2, .long x1, .long x0]) (rest := []) rfl lm_10_110 (by decide) m_122 kd_122 rfl (Nat.le_of_ble_eq_true rfl)),
   (fun d l0 l1 l2 l3 x0 h Q => zr_if_eq rfl (by decide)),
   (fun d l0 l1 l2 l3  h Q => zr_aload_n rfl rfl),
   (fun d l0 l1 l2 l3 x0 h Q => zr_bipush rfl (by decide)),
   (fun d l0 l1 l2 l3 x1 x0 h Q => zr_iload_n rfl rfl),
   (fun d l0 l1 l2 l3 x2 x1 x0 h Q => zr_imul rfl),
   (fun d l0 l1 l2 l3 x1 x0 h Q => zr_iload_n rfl rfl),
   (fun d l0 l1 l2 l3 x2 x1 x0 h Q => zr_iadd rfl),
   (fun d l0 l1 l2 l3 x1 x0 h Q => zr_iload_n rfl rfl),
   (fun d l0 l1 l2 l3 x2 x1 x0 I L P Q p0 => zr_vir (as := [.int x2, .int x1]) (rest := []) rfl lm_10_145 m_125 kd_125 rfl (Nat.le_of_ble_eq_true rfl) p0),
   (fun d l0 l1 l2 l3 x0 h Q => zr_goto rfl (by decide)),
   (fun d l0 l1 l2 l3  h Q => zr_ldc rfl lk_10_149),
   (fun d l0 l1 l2 l3 x0 h Q => zr_iret rfl rfl),
   (fun d l0 l1 l2 l3  h Q => zr_aload_n rfl rfl),
   (fun d l0 l1 l2 l3 x0 h Q => zr_iload_n rfl rfl),
   (fun d l0 l1 l2 l3 x1 x0 I L P Q p0 => zr_vir (as := [.int x1]) (rest := []) rfl lm_10_142 m_130 kd_130 rfl (Nat.le_of_ble_eq_true rfl) p0),
   (fun d l0 l1 l2 l3 x0 h Q => zr_if_eq rfl (by decide)),
   (fun d l0 l1 l2 l3  h Q => zr_iload_n rfl rfl),
   (fun d l0 l1 l2 l3 x0 h Q => zr_i2l rfl),
   (fun d l0 l1 l2 l3 x0 h Q => zr_lconst rfl (by decide)),
   (fun d l0 l1 l2 l3 x1 x0 h Q => zr_aload_n rfl rfl),
   (fun d l0 l1 l2 l3 x2 x1 x0 I L P Q p0 => zr_getQ rfl lf_10_22 (fun _ _ _ => rfl) p0),
   (fun d l0 l1 l2 l3 x2 x1 x0 h Q => zr_iload_n rfl rfl),
   (fun d l0 l1 l2 l3 x3 x2 x1 x0 I L P Q p0 => zr_ald rfl p0),
   (fun d l0 l1 l2 l3 x2 x1 x0 h Q => zr_i2l rfl),
   (fun d l0 l1 l2 l3 x2 x1 x0 h Q => zr_sta (as := [.long x2, .long x1, .long x0]) (rest := []) rfl lm_10_110 (by decide) m_122 kd_122 rfl (Nat.le_of_ble_eq_true rfl)),
   (fun d l0 l1 l2 l3 x0 h Q => zr_if_eq rfl (by decide)),
   (fun d l0 l1 l2 l3  h Q => zr_aload_n rfl rfl),
   (fun d l0 l1 l2 l3 x0 h Q => zr_bipush rfl (by decide)),
   (fun d l0 l1 l2 l3 x1 x0 h Q => zr_iload_n rfl rfl),
   (fun d l0 l1 l2 l3 x2 x1 x0 h Q => zr_iadd rfl),
   (fun d l0 l1 l2 l3 x1 x0 h Q => zr_iload_n rfl rfl),
   (fun d l0 l1 l2 l3 x2 x1 x0 I L P Q p0 => zr_vir (as := [.int x2, .int x1]) (rest := []) rfl lm_10_145 m_125 kd_125 rfl (Nat.le_of_ble_eq_true rfl) p0),
   (fun d l0 l1 l2 l3 x0 h Q => zr_goto rfl (by decide)),
   (fun d l0 l1 l2 l3  h Q => zr_ldc rfl lk_10_149),
   (fun d l0 l1 l2 l3 x0 h Q => zr_iret rfl rfl),
   (fun d l0 l1 l2 l3  h Q => zr_iload_n rfl rfl),
   (fun d l0 l1 l2 l3 x0 h Q => zr_if_ne rfl (by decide)),
   (fun d l0 l1 l2 l3  h Q => zr_iload_n rfl rfl),
   (fun d l0 l1 l2 l3 x0 h Q => zr_i2l rfl),
   (fun d l0 l1 l2 l3 x0 h Q => zr_ldc2_w rfl lj_10_150),
   (fun d l0 l1 l2 l3 x1 x0 h Q => zr_ldc2_w rfl lj_10_117),
   (fun d l0 l1 l2 l3 x2 x1 x0 h Q => zr_sta (as := [.long x2, .long x1, .long x0]) (rest := []) rfl lm_10_110 (by decide) m_122 kd_122 rfl (Nat.le_of_ble_eq_true rfl)),
   (fun d l0 l1 l2 l3 x0 h Q => zr_if_eq rfl (by decide)),
   (fun d l0 l1 l2 l3  h Q => zr_aload_n rfl rfl),
   (fun d l0 l1 l2 l3 x0 h Q => zr_bipush rfl (by decide)),
   (fun d l0 l1 l2 l3 x1 x0 h Q => zr_iload_n rfl rfl),
   (fun d l0 l1 l2 l3 x2 x1 x0 h Q => zr_iadd rfl),
   (fun d l0 l1 l2 l3 x1 x0 h Q => zr_iconst rfl (by decide)),
   (fun d l0 l1 l2 l3 x2 x1 x0 h Q => zr_isub rfl),
   (fun d l0 l1 l2 l3 x1 x0 h Q => zr_iload_n rfl rfl),
   (fun d l0 l1 l2 l3 x2 x1 x0 I L P Q p0 => zr_vir (as := [.int x2, .int x1]) (rest := []) rfl lm_10_145 m_125 kd_125 rfl (Nat.le_of_ble_eq_true rfl) p0),
   (fun d l0 l1 l2 l3 x0 h Q => zr_goto rfl (by decide)),
   (fun d l0 l1 l2 l3  h Q => zr_ldc rfl lk_10_149),
   (fun d l0 l1 l2 l3 x0 h Q => zr_iret rfl rfl),
   (fun d l0 l1 l2 l3  h Q => zr_aload_n rfl rfl),
   (fun d l0 l1 l2 l3 x0 h Q => zr_iload_n rfl rfl),
   (fun d l0 l1 l2 l3 x1 x0 I L P Q p0 => zr_vir (as := [.int x1]) (rest := []) rfl lm_10_152 m_131 kd_131 rfl (Nat.le_of_ble_eq_true rfl) p0),
   (fun d l0 l1 l2 l3 x0 h Q => zr_if_eq rfl (by decide)),
   (fun d l0 l1 l2 l3  h Q => zr_iload_n rfl rfl),
   (fun d l0 l1 l2 l3 x0 h Q => zr_i2l rfl),
   (fun d l0 l1 l2 l3 x0 h Q => zr_lconst rfl (by decide)),
   (fun d l0 l1 l2 l3 x1 x0 h Q => zr_ldc2_w rfl lj_10_117),
   (fun d l0 l1 l2 l3 x2 x1 x0 h Q => zr_sta (as := [.long x2, .long x1, .long x0]) (rest := []) rfl lm_10_110 (by decide) m_122 kd_122 rfl (Nat.le_of_ble_eq_true rfl)),
   (fun d l0 l1 l2 l3 x0 h Q => zr_if_eq rfl (by decide)),
   (fun d l0 l1 l2 l3  h Q => zr_aload_n rfl rfl),
   (fun d l0 l1 l2 l3 x0 h Q => zr_bipush rfl (by decide)),
   (fun d l0 l1 l2 l3 x1 x0 h Q => zr_iload_n rfl rfl),
   (fun d l0 l1 l2 l3 x2 x1 x0 h Q => zr_iadd rfl),
   (fun d l0 l1 l2 l3 x1 x0 h Q => zr_iload_n rfl rfl),
   (fun d l0 l1 l2 l3 x2 x1 x0 I L P Q p0 => zr_vir (as := [.int x2, .int x1]) (rest := []) rfl lm_10_145 m_125 kd_125 rfl (Nat.le_of_ble_eq_true rfl) p0),
   (fun d l0 l1 l2 l3 x0 h Q => zr_goto rfl (by decide)),
   (fun d l0 l1 l2 l3  h Q => zr_ldc rfl lk_10_149),
   (fun d l0 l1 l2 l3 x0 h Q => zr_iret rfl rfl),
   (fun d l0 l1 l2 l3  h Q => zr_iload_n rfl rfl),
   (fun d l0 l1 l2 l3 x0 h Q => zr_if_ne rfl (by decide)),
   (fun d l0 l1 l2 l3  h Q => zr_iload_n rfl rfl),
   (fun d l0 l1 l2 l3 x0 h Q => zr_i2l rfl),
   (fun d l0 l1 l2 l3 x0 h Q => zr_lconst rfl (by decide)),
   (fun d l0 l1 l2 l3 x1 x0 h Q => zr_ldc2_w rfl lj_10_155),
   (fun d l0 l1 l2 l3 x2 x1 x0 h Q => zr_sta (as := [.long x2, .long x1, .long x0]) (rest := []) rfl lm_10_110 (by decide) m_122 kd_122 rfl (Nat.le_of_ble_eq_true rfl)),
   (fun d l0 l1 l2 l3 x0 h Q => zr_if_eq rfl (by decide)),
   (fun d l0 l1 l2 l3  h Q => zr_aload_n rfl rfl),
   (fun d l0 l1 l2 l3 x0 h Q => zr_bipush rfl (by decide)),
   (fun d l0 l1 l2 l3 x1 x0 h Q => zr_iload_n rfl rfl),
   (fun d l0 l1 l2 l3 x2 x1 x0 I L P Q p0 => zr_vir (as := [.int x2, .int x1]) (rest := []) rfl lm_10_145 m_125 kd_125 rfl (Nat.le_of_ble_eq_true rfl) p0),
   (fun d l0 l1 l2 l3 x0 h Q => zr_goto rfl (by decide)),
   (fun d l0 l1 l2 l3  h Q => zr_ldc rfl lk_10_149),
   (fun d l0 l1 l2 l3 x0 h Q => zr_iret rfl rfl),
   (fun d l0 l1 l2 l3  h Q => zr_iload_n rfl rfl),
   (fun d l0 l1 l2 l3 x0 h Q => zr_if_ne rfl (by decide)),
   (fun d l0 l1 l2 l3  h Q => zr_iload_n rfl rfl),
   (fun d l0 l1 l2 l3 x0 h Q => zr_i2l rfl),
   (fun d l0 l1 l2 l3 x0 h Q => zr_lconst rfl (by decide)),
   (fun d l0 l1 l2 l3 x1 x0 h Q => zr_ldc2_w rfl lj_10_157),
   (fun d l0 l1 l2 l3 x2 x1 x0 h Q => zr_sta (as := [.long x2, .long x1, .long x0]) (rest := []) rfl lm_10_110 (by decide) m_122 kd_122 rfl (Nat.le_of_ble_eq_true rfl)),
   (fun d l0 l1 l2 l3 x0 h Q => zr_if_eq rfl (by decide)),
   (fun d l0 l1 l2 l3  h Q => zr_aload_n rfl rfl),
   (fun d l0 l1 l2 l3 x0 h Q => zr_bipush rfl (by decide)),
   (fun d l0 l1 l2 l3 x1 x0 h Q => zr_iload_n rfl rfl),
   (fun d l0 l1 l2 l3 x2 x1 x0 I L P Q p0 => zr_vir (as := [.int x2, .int x1]) (rest := []) rfl lm_10_145 m_125 kd_125 rfl (Nat.le_of_ble_eq_true rfl) p0),
   (fun d l0 l1 l2 l3 x0 h Q => zr_goto rfl (by decide)),
   (fun d l0 l1 l2 l3  h Q => zr_ldc rfl lk_10_149),
   (fun d l0 l1 l2 l3 x0 h Q => zr_iret rfl rfl),
   (fun d l0 l1 l2 l3  h Q => zr_ldc rfl lk_10_149),
   (fun d l0 l1 l2 l3 x0 h Q => zr_iret rfl rfl)⟩
theorem E_X10_middleOf : ∀ (d : Nat) (a0 : Nat) (a1 : Int32) (a2 : Int32) (h : zMm) (Q : Option Value → zMm → Prop), zWM (d + 1) 140 [.ref a0, .int a1, .int a2] h Q = zWp d zi_140 none 0 [.ref a0, .int a1, .int a2, .retAddr 0, .retAddr 0] [] h Q := fun d a0 a1 a2 h Q => zW_M m_140 (Nat.le_of_ble_eq_true rfl) rfl
set_option maxRecDepth 100000 in
theorem R_X10_middleOf :
    (∀ (d : Nat) (l0 : Value) (l1 : Value) (l2 : Value) (l3 : Value) (l4 : Value)  (h : zMm) (Q : Option Value → zMm → Prop), zWp d zi_140 none 0 [l0, l1, l2, l3, l4] [] h Q = zWp d zi_140 none 1 [l0, l1, l2, l3, l4] [.int 0] h Q) ∧
    (∀ (d : Nat) (l0 : Value) (l1 : Value) (l2 : Int32) (l3 : Value) (l4 : Value) (x0 : Int32) (h : zMm) (Q : Option Value → zMm → Prop), zWp d zi_140 none 1 [l0, l1, .int l2, l3, l4] [.int x0] h Q = zWp d zi_140 none 2 [l0, l1, .int l2, .int x0, l4] [] h Q) ∧
    (∀ (d : Nat) (l0 : Value) (l1 : Value) (l2 : Value) (l3 : Value) (l4 : Value)  (h : zMm) (Q : Option Value → zMm → Prop), zWp d zi_140 none 2 [l0, l1, l2, l3, l4] [] h Q = zWp d zi_140 none 3 [l0, l1, l2, l3, l4] [.int 0] h Q) ∧
    (∀ (d : Nat) (l0 : Value) (l1 : Value) (l2 : Value) (l3 : Int32) (l4 : Value) (x0 : Int32) (h : zMm) (Q : Option Value → zMm → Prop), zWp d zi_140 none 3 [l0, l1, l2, .int l3, l4] [.int x0] h Q = zWp d zi_140 none 5 [l0, l1, l2, .int l3, .int x0] [] h Q) ∧
    (∀ (d : Nat) (l0 : Value) (l1 : Int32) (l2 : Value) (l3 : Value) (l4 : Value) (x0 : Int32) (h : zMm) (Q : Option Value → zMm → Prop), zWp d zi_140 none 7 [l0, .int l1, l2, l3, l4] [.int x0] h Q = zWp d zi_140 none 8 [l0, .int l1, l2, l3, l4] [.int l1, .int x0] h Q) ∧
    (∀ (d : Nat) (l0 : Value) (l1 : Value) (l2 : Value) (l3 : Value) (l4 : Value) (x1 : Int32) (x0 : Int32) (h : zMm) (Q : Option Value → zMm → Prop), zWp d zi_140 none 8 [l0, l1, l2, l3, l4] [.int x1, .int x0] h Q = if x1 < x0 then zWp d zi_140 none 32 [l0, l1, l2, l3, l4] [] h Q else zWp d zi_140 none 11 [l0, l1, l2, l3, l4] [] h Q) ∧
    (∀ (d : Nat) (l0 : Value) (l1 : Value) (l2 : Value) (l3 : Int32) (l4 : Value)  (h : zMm) (Q : Option Value → zMm → Prop), zWp d zi_140 none 11 [l0, l1, l2, .int l3, l4] [] h Q = zWp d zi_140 none 12 [l0, l1, l2, .int l3, l4] [.int l3] h Q) ∧
    (∀ (d : Nat) (l0 : Nat) (l1 : Value) (l2 : Value) (l3 : Value) (l4 : Value) (x0 : Int32) (h : zMm) (Q : Option Value → zMm → Prop), zWp d zi_140 none 12 [.ref l0, l1, l2, l3, l4] [.int x0] h Q = zWp d zi_140 none 13 [.ref l0, l1, l2, l3, l4] [.ref l0, .int x0] h Q) ∧
    (∀ (d : Nat) (l0 : Value) (l1 : Value) (l2 : Value) (l3 : Value) (l4 : Value) (x1 : Nat) (x0 : Int32) (I : Nat → Nat → Int32) (L : Nat → Nat → Int64) (P : Nat → Nat → Option Nat) (Q : Option Value → zMm → Prop), zSH[x1]? = some (.inl 10) → zWp d zi_140 none 13 [l0, l1, l2, l3, l4] [.ref x1, .int x0] (zSH, I, L, P) Q = zWp d zi_140 none 16 [l0, l1, l2, l3, l4] [va_rf (P x1 0), .int x0] (zSH, I, L, P) Q) ∧
    (∀ (d : Nat) (l0 : Value) (l1 : Value) (l2 : Value) (l3 : Value) (l4 : Value) (x1 : Nat) (x0 : Int32) (h : zMm) (Q : Option Value → zMm → Prop), zWp d zi_140 none 16 [l0, l1, l2, l3, l4] [.ref x1, .int x0] h Q = zWp d zi_140 none 18 [l0, l1, l2, l3, l4] [.int 24, .ref x1, .int x0] h Q) ∧
    (∀ (d : Nat) (l0 : Value) (l1 : Value) (l2 : Int32) (l3 : Value) (l4 : Value) (x2 : Int32) (x1 : Nat) (x0 : Int32) (h : zMm) (Q : Option Value → zMm → Prop), zWp d zi_140 none 18 [l0, l1, .int l2, l3, l4] [.int x2, .ref x1, .int x0] h Q = zWp d zi_140 none 19 [l0, l1, .int l2, l3, l4] [.int l2, .int x2, .ref x1, .int x0] h Q) ∧
    (∀ (d : Nat) (l0 : Value) (l1 : Value) (l2 : Value) (l3 : Value) (l4 : Value) (x3 : Int32) (x2 : Int32) (x1 : Nat) (x0 : Int32) (h : zMm) (Q : Option Value → zMm → Prop), zWp d zi_140 none 19 [l0, l1, l2, l3, l4] [.int x3, .int x2, .ref x1, .int x0] h Q = zWp d zi_140 none 20 [l0, l1, l2, l3, l4] [.int (x2 * x3), .ref x1, .int x0] h Q) ∧
    (∀ (d : Nat) (l0 : Value) (l1 : Value) (l2 : Value) (l3 : Value) (l4 : Int32) (x2 : Int32) (x1 : Nat) (x0 : Int32) (h : zMm) (Q : Option Value → zMm → Prop), zWp d zi_140 none 20 [l0, l1, l2, l3, .int l4] [.int x2, .ref x1, .int x0] h Q = zWp d zi_140 none 22 [l0, l1, l2, l3, .int l4] [.int l4, .int x2, .ref x1, .int x0] h Q) ∧
    (∀ (d : Nat) (l0 : Value) (l1 : Value) (l2 : Value) (l3 : Value) (l4 : Value) (x3 : Int32) (x2 : Int32) (x1 : Nat) (x0 : Int32) (h : zMm) (Q : Option Value → zMm → Prop), zWp d zi_140 none 22 [l0, l1, l2, l3, l4] [.int x3, .int x2, .ref x1, .int x0] h Q = zWp d zi_140 none 23 [l0, l1, l2, l3, l4] [.int (x2 + x3), .ref x1, .int x0] h Q) ∧
    (∀ (d : Nat) (l0 : Value) (l1 : Value) (l2 : Value) (l3 : Value) (l4 : Value) (x2 : Int32) (x1 : Nat) (x0 : Int32) (I : Nat → Nat → Int32) (L : Nat → Nat → Int64) (P : Nat → Nat → Option Nat) (Q : Option Value → zMm → Prop), zAk zSH x1 = some .int → zWp d zi_140 none 23 [l0, l1, l2, l3, l4] [.int x2, .ref x1, .int x0] (zSH, I, L, P) Q = (vp_in x2 (zAn zSH x1) ∧ zWp d zi_140 none 24 [l0, l1, l2, l3, l4] [.int (I x1 x2.toNatClampNeg), .int x0] (zSH, I, L, P) Q)) ∧
    (∀ (d : Nat) (l0 : Value) (l1 : Value) (l2 : Value) (l3 : Value) (l4 : Value) (x1 : Int32) (x0 : Int32) (h : zMm) (Q : Option Value → zMm → Prop), zWp d zi_140 none 24 [l0, l1, l2, l3, l4] [.int x1, .int x0] h Q = zWp d zi_140 none 25 [l0, l1, l2, l3, l4] [.int (x0 + x1)] h Q) ∧
    (∀ (d : Nat) (l0 : Value) (l1 : Value) (l2 : Int32) (l3 : Value) (l4 : Value) (x0 : Int32) (h : zMm) (Q : Option Value → zMm → Prop), zWp d zi_140 none 25 [l0, l1, .int l2, l3, l4] [.int x0] h Q = zWp d zi_140 none 26 [l0, l1, .int l2, .int x0, l4] [] h Q) ∧
    (∀ (d : Nat) (l0 : Value) (l1 : Value) (l2 : Value) (l3 : Int32) (l4 : Int32)  (h : zMm) (Q : Option Value → zMm → Prop), zWp d zi_140 none 26 [l0, l1, l2, .int l3, .int l4] [] h Q = zWp d zi_140 none 29 [l0, l1, l2, .int l3, .int (l4 + 1)] [] h Q) ∧
    (∀ (d : Nat) (l0 : Value) (l1 : Value) (l2 : Value) (l3 : Value) (l4 : Value)  (h : zMm) (Q : Option Value → zMm → Prop), zWp d zi_140 none 29 [l0, l1, l2, l3, l4] [] h Q = zWp d zi_140 none 5 [l0, l1, l2, l3, l4] [] h Q) ∧
    (∀ (d : Nat) (l0 : Value) (l1 : Value) (l2 : Value) (l3 : Int32) (l4 : Value)  (h : zMm) (Q : Option Value → zMm → Prop), zWp d zi_140 none 32 [l0, l1, l2, .int l3, l4] [] h Q = zWp d zi_140 none 33 [l0, l1, l2, .int l3, l4] [.int l3] h Q) ∧
    (∀ (d : Nat) (l0 : Value) (l1 : Value) (l2 : Value) (l3 : Value) (l4 : Value) (x0 : Int32) (h : zMm) (Q : Option Value → zMm → Prop), zWp d zi_140 none 33 [l0, l1, l2, l3, l4] [.int x0] h Q = Q (some (.int x0)) h) :=
  ⟨(fun d l0 l1 l2 l3 l4  h Q => zr_iconst rfl (by decide)),
   (fun d l0 l1 l2 l3 l4 x0 h Q => zr_istore_n (n := 3) rfl (Nat.le_of_ble_eq_true rfl) rfl),
   (fun d l0 l1 l2 l3 l4  h Q => zr_iconst rfl (by decide)),
   (fun d l0 l1 l2 l3 l4 x0 h Q => zr_istore (n := 4) rfl (Nat.le_of_ble_eq_true rfl) rfl),
   (fun d l0 l1 l2 l3 l4 x0 h Q => zr_iload_n rfl rfl),
   (fun d l0 l1 l2 l3 l4 x1 x0 h Q => zr_ic_gt rfl (by decide)),
   (fun d l0 l1 l2 l3 l4  h Q => zr_iload_n rfl rfl),
   (fun d l0 l1 l2 l3 l4 x0 h Q => zr_aload_n rfl rfl),
   (fun d l0 l1 l2 l3 l4 x1 x0 I L P Q p0 => zr_getQ rfl lf_10_9 (fun _ _ _ => rfl) p0),
   (fun d l0 l1 l2 l3 l4 x1 x0 h Q => zr_bipush rfl (by decide)),
   (fun d l0 l1 l2 l3 l4 x2 x1 x0 h Q => zr_iload_n rfl rfl),
   (fun d l0 l1 l2 l3 l4 x3 x2 x1 x0 h Q => zr_imul rfl),
   (fun d l0 l1 l2 l3 l4 x2 x1 x0 h Q => zr_iload rfl rfl),
   (fun d l0 l1 l2 l3 l4 x3 x2 x1 x0 h Q => zr_iadd rfl),
   (fun d l0 l1 l2 l3 l4 x2 x1 x0 I L P Q p0 => zr_ald rfl p0),
   (fun d l0 l1 l2 l3 l4 x1 x0 h Q => zr_iadd rfl),
   (fun d l0 l1 l2 l3 l4 x0 h Q => zr_istore_n (n := 3) rfl (Nat.le_of_ble_eq_true rfl) rfl),
   (fun d l0 l1 l2 l3 l4  h Q => zr_iinc (n := 4) (kc := 1) rfl rfl (Nat.le_of_ble_eq_true rfl) rfl (by decide)),
   (fun d l0 l1 l2 l3 l4  h Q => zr_goto rfl (by decide)),
   (fun d l0 l1 l2 l3 l4  h Q => zr_iload_n rfl rfl),
   (fun d l0 l1 l2 l3 l4 x0 h Q => zr_iret rfl rfl)⟩
theorem H_X10_middleOf_5 : ∀ (d : Nat) (l0 : Value) (l1 : Value) (l2 : Value) (l3 : Value) (l4 : Int32)  (h : zMm) (Q : Option Value → zMm → Prop), zWp d zi_140 none 5 [l0, l1, l2, l3, .int l4] [] h Q = zWp d zi_140 none 7 [l0, l1, l2, l3, .int l4] [.int l4] h Q := fun d l0 l1 l2 l3 l4  h Q => zr_iload rfl rfl
theorem E_X10_ofRound : ∀ (d : Nat) (a0 : Nat) (a1 : Int32) (a2 : Int32) (h : zMm) (Q : Option Value → zMm → Prop), zWM (d + 1) 141 [.ref a0, .int a1, .int a2] h Q = zWp d zi_141 none 0 [.ref a0, .int a1, .int a2] [] h Q := fun d a0 a1 a2 h Q => zW_M m_141 (Nat.le_of_ble_eq_true rfl) rfl
set_option maxRecDepth 100000 in
theorem R_X10_ofRound :
    (∀ (d : Nat) (l0 : Value) (l1 : Value) (l2 : Int32)  (h : zMm) (Q : Option Value → zMm → Prop), zWp d zi_141 none 0 [l0, l1, .int l2] [] h Q = zWp d zi_141 none 1 [l0, l1, .int l2] [.int l2] h Q) ∧
    (∀ (d : Nat) (l0 : Value) (l1 : Value) (l2 : Value) (x0 : Int32) (h : zMm) (Q : Option Value → zMm → Prop), zWp d zi_141 none 1 [l0, l1, l2] [.int x0] h Q = if x0 = 3 then zWp d zi_141 none 32 [l0, l1, l2] [] h Q else if x0 = 4 then zWp d zi_141 none 39 [l0, l1, l2] [] h Q else if x0 = 5 then zWp d zi_141 none 39 [l0, l1, l2] [] h Q else if x0 = 6 then zWp d zi_141 none 48 [l0, l1, l2] [] h Q else zWp d zi_141 none 66 [l0, l1, l2] [] h Q) ∧
    (∀ (d : Nat) (l0 : Nat) (l1 : Value) (l2 : Value)  (h : zMm) (Q : Option Value → zMm → Prop), zWp d zi_141 none 32 [.ref l0, l1, l2] [] h Q = zWp d zi_141 none 33 [.ref l0, l1, l2] [.ref l0] h Q) ∧
    (∀ (d : Nat) (l0 : Value) (l1 : Value) (l2 : Value) (x0 : Nat) (I : Nat → Nat → Int32) (L : Nat → Nat → Int64) (P : Nat → Nat → Option Nat) (Q : Option Value → zMm → Prop), zSH[x0]? = some (.inl 10) → zWp d zi_141 none 33 [l0, l1, l2] [.ref x0] (zSH, I, L, P) Q = zWp d zi_141 none 36 [l0, l1, l2] [va_rf (P x0 7)] (zSH, I, L, P) Q) ∧
    (∀ (d : Nat) (l0 : Value) (l1 : Int32) (l2 : Value) (x0 : Nat) (h : zMm) (Q : Option Value → zMm → Prop), zWp d zi_141 none 36 [l0, .int l1, l2] [.ref x0] h Q = zWp d zi_141 none 37 [l0, .int l1, l2] [.int l1, .ref x0] h Q) ∧
    (∀ (d : Nat) (l0 : Value) (l1 : Value) (l2 : Value) (x1 : Int32) (x0 : Nat) (I : Nat → Nat → Int32) (L : Nat → Nat → Int64) (P : Nat → Nat → Option Nat) (Q : Option Value → zMm → Prop), zAk zSH x0 = some .int → zWp d zi_141 none 37 [l0, l1, l2] [.int x1, .ref x0] (zSH, I, L, P) Q = (vp_in x1 (zAn zSH x0) ∧ zWp d zi_141 none 38 [l0, l1, l2] [.int (I x0 x1.toNatClampNeg)] (zSH, I, L, P) Q)) ∧
    (∀ (d : Nat) (l0 : Value) (l1 : Value) (l2 : Value) (x0 : Int32) (h : zMm) (Q : Option Value → zMm → Prop), zWp d zi_141 none 38 [l0, l1, l2] [.int x0] h Q = Q (some (.int x0)) h) ∧
    (∀ (d : Nat) (l0 : Nat) (l1 : Value) (l2 : Value)  (h : zMm) (Q : Option Value → zMm → Prop), zWp d zi_141 none 39 [.ref l0, l1, l2] [] h Q = zWp d zi_141 none 40 [.ref l0, l1, l2] [.ref l0] h Q) ∧
    (∀ (d : Nat) (l0 : Value) (l1 : Int32) (l2 : Value) (x0 : Nat) (h : zMm) (Q : Option Value → zMm → Prop), zWp d zi_141 none 40 [l0, .int l1, l2] [.ref x0] h Q = zWp d zi_141 none 41 [l0, .int l1, l2] [.int l1, .ref x0] h Q) ∧
    (∀ (d : Nat) (l0 : Value) (l1 : Value) (l2 : Int32) (x1 : Int32) (x0 : Nat) (h : zMm) (Q : Option Value → zMm → Prop), zWp d zi_141 none 41 [l0, l1, .int l2] [.int x1, .ref x0] h Q = zWp d zi_141 none 42 [l0, l1, .int l2] [.int l2, .int x1, .ref x0] h Q) ∧
    (∀ (d : Nat) (l0 : Value) (l1 : Value) (l2 : Value) (x2 : Int32) (x1 : Int32) (x0 : Nat) (h : zMm) (Q : Option Value → zMm → Prop), zWp d zi_141 none 42 [l0, l1, l2] [.int x2, .int x1, .ref x0] h Q = zWp d zi_141 none 43 [l0, l1, l2] [.int 4, .int x2, .int x1, .ref x0] h Q) ∧
    (∀ (d : Nat) (l0 : Value) (l1 : Value) (l2 : Value) (x3 : Int32) (x2 : Int32) (x1 : Int32) (x0 : Nat) (h : zMm) (Q : Option Value → zMm → Prop), zWp d zi_141 none 43 [l0, l1, l2] [.int x3, .int x2, .int x1, .ref x0] h Q = zWp d zi_141 none 44 [l0, l1, l2] [.int (x2 - x3), .int x1, .ref x0] h Q) ∧
    (∀ (d : Nat) (l0 : Value) (l1 : Value) (l2 : Value) (x2 : Int32) (x1 : Int32) (x0 : Nat) (I : Nat → Nat → Int32) (L : Nat → Nat → Int64) (P : Nat → Nat → Option Nat) (Q : Option Value → zMm → Prop), zSH[x0]? = some (.inl 10) → zWp d zi_141 none 44 [l0, l1, l2] [.int x2, .int x1, .ref x0] (zSH, I, L, P) Q = zWM d 140 [.ref x0, .int x1, .int x2] (zSH, I, L, P) (fun r h1 => zWp d zi_141 none 47 [l0, l1, l2] (r.toList ++ []) h1 Q)) ∧
    (∀ (d : Nat) (l0 : Value) (l1 : Value) (l2 : Value) (x0 : Int32) (h : zMm) (Q : Option Value → zMm → Prop), zWp d zi_141 none 47 [l0, l1, l2] [.int x0] h Q = Q (some (.int x0)) h) ∧
    (∀ (d : Nat) (l0 : Nat) (l1 : Value) (l2 : Value)  (h : zMm) (Q : Option Value → zMm → Prop), zWp d zi_141 none 48 [.ref l0, l1, l2] [] h Q = zWp d zi_141 none 49 [.ref l0, l1, l2] [.ref l0] h Q) ∧
    (∀ (d : Nat) (l0 : Value) (l1 : Value) (l2 : Value) (x0 : Nat) (I : Nat → Nat → Int32) (L : Nat → Nat → Int64) (P : Nat → Nat → Option Nat) (Q : Option Value → zMm → Prop), zSH[x0]? = some (.inl 10) → zWp d zi_141 none 49 [l0, l1, l2] [.ref x0] (zSH, I, L, P) Q = zWM d 158 [.ref x0] (zSH, I, L, P) (fun r h1 => zWp d zi_141 none 52 [l0, l1, l2] (r.toList ++ []) h1 Q)) ∧
    (∀ (d : Nat) (l0 : Nat) (l1 : Value) (l2 : Value)  (h : zMm) (Q : Option Value → zMm → Prop), zWp d zi_141 none 52 [.ref l0, l1, l2] [] h Q = zWp d zi_141 none 53 [.ref l0, l1, l2] [.ref l0] h Q) ∧
    (∀ (d : Nat) (l0 : Value) (l1 : Int32) (l2 : Value) (x0 : Nat) (h : zMm) (Q : Option Value → zMm → Prop), zWp d zi_141 none 53 [l0, .int l1, l2] [.ref x0] h Q = zWp d zi_141 none 54 [l0, .int l1, l2] [.int l1, .ref x0] h Q) ∧
    (∀ (d : Nat) (l0 : Value) (l1 : Value) (l2 : Value) (x1 : Int32) (x0 : Nat) (I : Nat → Nat → Int32) (L : Nat → Nat → Int64) (P : Nat → Nat → Option Nat) (Q : Option Value → zMm → Prop), zSH[x0]? = some (.inl 10) → zWp d zi_141 none 54 [l0, l1, l2] [.int x1, .ref x0] (zSH, I, L, P) Q = zWM d 160 [.ref x0, .int x1] (zSH, I, L, P) (fun r h1 => zWp d zi_141 none 57 [l0, l1, l2] (r.toList ++ []) h1 Q)) ∧
    (∀ (d : Nat) (l0 : Value) (l1 : Value) (l2 : Value) (x0 : Int32) (h : zMm) (Q : Option Value → zMm → Prop), zWp d zi_141 none 57 [l0, l1, l2] [.int x0] h Q = if x0 = 0 then zWp d zi_141 none 64 [l0, l1, l2] [] h Q else zWp d zi_141 none 60 [l0, l1, l2] [] h Q) ∧
    (∀ (d : Nat) (l0 : Value) (l1 : Value) (l2 : Value)  (h : zMm) (Q : Option Value → zMm → Prop), zWp d zi_141 none 60 [l0, l1, l2] [] h Q = zWp d zi_141 none 61 [l0, l1, l2] [.int 1] h Q) ∧
    (∀ (d : Nat) (l0 : Value) (l1 : Value) (l2 : Value) (x0 : Int32) (h : zMm) (Q : Option Value → zMm → Prop), zWp d zi_141 none 61 [l0, l1, l2] [.int x0] h Q = zWp d zi_141 none 65 [l0, l1, l2] [.int x0] h Q) ∧
    (∀ (d : Nat) (l0 : Value) (l1 : Value) (l2 : Value)  (h : zMm) (Q : Option Value → zMm → Prop), zWp d zi_141 none 64 [l0, l1, l2] [] h Q = zWp d zi_141 none 65 [l0, l1, l2] [.int 0] h Q) ∧
    (∀ (d : Nat) (l0 : Value) (l1 : Value) (l2 : Value) (x0 : Int32) (h : zMm) (Q : Option Value → zMm → Prop), zWp d zi_141 none 65 [l0, l1, l2] [.int x0] h Q = Q (some (.int x0)) h) ∧
    (∀ (d : Nat) (l0 : Nat) (l1 : Value) (l2 : Value)  (h : zMm) (Q : Option Value → zMm → Prop), zWp d zi_141 none 66 [.ref l0, l1, l2] [] h Q = zWp d zi_141 none 67 [.ref l0, l1, l2] [.ref l0] h Q) ∧
    (∀ (d : Nat) (l0 : Value) (l1 : Value) (l2 : Value) (x0 : Nat) (I : Nat → Nat → Int32) (L : Nat → Nat → Int64) (P : Nat → Nat → Option Nat) (Q : Option Value → zMm → Prop), zSH[x0]? = some (.inl 10) → zWp d zi_141 none 67 [l0, l1, l2] [.ref x0] (zSH, I, L, P) Q = zWp d zi_141 none 70 [l0, l1, l2] [va_rf (P x0 0)] (zSH, I, L, P) Q) ∧
    (∀ (d : Nat) (l0 : Value) (l1 : Value) (l2 : Value) (x0 : Nat) (h : zMm) (Q : Option Value → zMm → Prop), zWp d zi_141 none 70 [l0, l1, l2] [.ref x0] h Q = zWp d zi_141 none 72 [l0, l1, l2] [.int 24, .ref x0] h Q) ∧
    (∀ (d : Nat) (l0 : Value) (l1 : Value) (l2 : Int32) (x1 : Int32) (x0 : Nat) (h : zMm) (Q : Option Value → zMm → Prop), zWp d zi_141 none 72 [l0, l1, .int l2] [.int x1, .ref x0] h Q = zWp d zi_141 none 73 [l0, l1, .int l2] [.int l2, .int x1, .ref x0] h Q) ∧
    (∀ (d : Nat) (l0 : Value) (l1 : Value) (l2 : Value) (x2 : Int32) (x1 : Int32) (x0 : Nat) (h : zMm) (Q : Option Value → zMm → Prop), zWp d zi_141 none 73 [l0, l1, l2] [.int x2, .int x1, .ref x0] h Q = zWp d zi_141 none 74 [l0, l1, l2] [.int (x1 * x2), .ref x0] h Q) ∧
    (∀ (d : Nat) (l0 : Value) (l1 : Int32) (l2 : Value) (x1 : Int32) (x0 : Nat) (h : zMm) (Q : Option Value → zMm → Prop), zWp d zi_141 none 74 [l0, .int l1, l2] [.int x1, .ref x0] h Q = zWp d zi_141 none 75 [l0, .int l1, l2] [.int l1, .int x1, .ref x0] h Q) ∧
    (∀ (d : Nat) (l0 : Value) (l1 : Value) (l2 : Value) (x2 : Int32) (x1 : Int32) (x0 : Nat) (h : zMm) (Q : Option Value → zMm → Prop), zWp d zi_141 none 75 [l0, l1, l2] [.int x2, .int x1, .ref x0] h Q = zWp d zi_141 none 76 [l0, l1, l2] [.int (x1 + x2), .ref x0] h Q) ∧
    (∀ (d : Nat) (l0 : Value) (l1 : Value) (l2 : Value) (x1 : Int32) (x0 : Nat) (I : Nat → Nat → Int32) (L : Nat → Nat → Int64) (P : Nat → Nat → Option Nat) (Q : Option Value → zMm → Prop), zAk zSH x0 = some .int → zWp d zi_141 none 76 [l0, l1, l2] [.int x1, .ref x0] (zSH, I, L, P) Q = (vp_in x1 (zAn zSH x0) ∧ zWp d zi_141 none 77 [l0, l1, l2] [.int (I x0 x1.toNatClampNeg)] (zSH, I, L, P) Q)) ∧
    (∀ (d : Nat) (l0 : Value) (l1 : Value) (l2 : Value) (x0 : Int32) (h : zMm) (Q : Option Value → zMm → Prop), zWp d zi_141 none 77 [l0, l1, l2] [.int x0] h Q = Q (some (.int x0)) h) :=
  ⟨(fun d l0 l1 l2  h Q => zr_iload_n rfl rfl),
   (fun d l0 l1 l2 x0 h Q => by
      by_cases e0 : x0 = 3
      · subst e0; rw [if_pos rfl]; exact zr_tabI rfl (by decide) rfl (by decide)
      rw [if_neg e0]
      have n0 : ¬ x0.toInt = 3 := fun z => e0 (Int32.toInt_inj.mp z)
      by_cases e1 : x0 = 4
      · subst e1; rw [if_pos rfl]; exact zr_tabI rfl (by decide) rfl (by decide)
      rw [if_neg e1]
      have n1 : ¬ x0.toInt = 4 := fun z => e1 (Int32.toInt_inj.mp z)
      by_cases e2 : x0 = 5
      · subst e2; rw [if_pos rfl]; exact zr_tabI rfl (by decide) rfl (by decide)
      rw [if_neg e2]
      have n2 : ¬ x0.toInt = 5 := fun z => e2 (Int32.toInt_inj.mp z)
      by_cases e3 : x0 = 6
      · subst e3; rw [if_pos rfl]; exact zr_tabI rfl (by decide) rfl (by decide)
      rw [if_neg e3]
      have n3 : ¬ x0.toInt = 6 := fun z => e3 (Int32.toInt_inj.mp z)
      exact zr_tabD rfl (by omega) (by decide)),
   (fun d l0 l1 l2  h Q => zr_aload_n rfl rfl),
   (fun d l0 l1 l2 x0 I L P Q p0 => zr_getQ rfl lf_10_22 (fun _ _ _ => rfl) p0),
   (fun d l0 l1 l2 x0 h Q => zr_iload_n rfl rfl),
   (fun d l0 l1 l2 x1 x0 I L P Q p0 => zr_ald rfl p0),
   (fun d l0 l1 l2 x0 h Q => zr_iret rfl rfl),
   (fun d l0 l1 l2  h Q => zr_aload_n rfl rfl),
   (fun d l0 l1 l2 x0 h Q => zr_iload_n rfl rfl),
   (fun d l0 l1 l2 x1 x0 h Q => zr_iload_n rfl rfl),
   (fun d l0 l1 l2 x2 x1 x0 h Q => zr_iconst rfl (by decide)),
   (fun d l0 l1 l2 x3 x2 x1 x0 h Q => zr_isub rfl),
   (fun d l0 l1 l2 x2 x1 x0 I L P Q p0 => zr_vir (as := [.int x2, .int x1]) (rest := []) rfl lm_10_159 m_140 kd_140 rfl (Nat.le_of_ble_eq_true rfl) p0),
   (fun d l0 l1 l2 x0 h Q => zr_iret rfl rfl),
   (fun d l0 l1 l2  h Q => zr_aload_n rfl rfl),
   (fun d l0 l1 l2 x0 I L P Q p0 => zr_vir (as := []) (rest := []) rfl lm_10_162 m_158 kd_158 rfl (Nat.le_of_ble_eq_true rfl) p0),
   (fun d l0 l1 l2  h Q => zr_aload_n rfl rfl),
   (fun d l0 l1 l2 x0 h Q => zr_iload_n rfl rfl),
   (fun d l0 l1 l2 x1 x0 I L P Q p0 => zr_vir (as := [.int x1]) (rest := []) rfl lm_10_165 m_160 kd_160 rfl (Nat.le_of_ble_eq_true rfl) p0),
   (fun d l0 l1 l2 x0 h Q => zr_if_eq rfl (by decide)),
   (fun d l0 l1 l2  h Q => zr_iconst rfl (by decide)),
   (fun d l0 l1 l2 x0 h Q => zr_goto rfl (by decide)),
   (fun d l0 l1 l2  h Q => zr_iconst rfl (by decide)),
   (fun d l0 l1 l2 x0 h Q => zr_iret rfl rfl),
   (fun d l0 l1 l2  h Q => zr_aload_n rfl rfl),
   (fun d l0 l1 l2 x0 I L P Q p0 => zr_getQ rfl lf_10_9 (fun _ _ _ => rfl) p0),
   (fun d l0 l1 l2 x0 h Q => zr_bipush rfl (by decide)),
   (fun d l0 l1 l2 x1 x0 h Q => zr_iload_n rfl rfl),
   (fun d l0 l1 l2 x2 x1 x0 h Q => zr_imul rfl),
   (fun d l0 l1 l2 x1 x0 h Q => zr_iload_n rfl rfl),
   (fun d l0 l1 l2 x2 x1 x0 h Q => zr_iadd rfl),
   (fun d l0 l1 l2 x1 x0 I L P Q p0 => zr_ald rfl p0),
   (fun d l0 l1 l2 x0 h Q => zr_iret rfl rfl)⟩
theorem E_X10_ofAll : ∀ (d : Nat) (a0 : Nat) (a1 : Int32) (h : zMm) (Q : Option Value → zMm → Prop), zWM (d + 1) 142 [.ref a0, .int a1] h Q = zWp d zi_142 none 0 [.ref a0, .int a1] [] h Q := fun d a0 a1 h Q => zW_M m_142 (Nat.le_of_ble_eq_true rfl) rfl
set_option maxRecDepth 100000 in
theorem R_X10_ofAll :
    (∀ (d : Nat) (l0 : Value) (l1 : Int32)  (h : zMm) (Q : Option Value → zMm → Prop), zWp d zi_142 none 0 [l0, .int l1] [] h Q = zWp d zi_142 none 1 [l0, .int l1] [.int l1] h Q) ∧
    (∀ (d : Nat) (l0 : Value) (l1 : Value) (x0 : Int32) (h : zMm) (Q : Option Value → zMm → Prop), zWp d zi_142 none 1 [l0, l1] [.int x0] h Q = if x0 = 24 then zWp d zi_142 none 36 [l0, l1] [] h Q else if x0 = 25 then zWp d zi_142 none 41 [l0, l1] [] h Q else if x0 = 26 then zWp d zi_142 none 46 [l0, l1] [] h Q else if x0 = 27 then zWp d zi_142 none 53 [l0, l1] [] h Q else if x0 = 28 then zWp d zi_142 none 58 [l0, l1] [] h Q else zWp d zi_142 none 63 [l0, l1] [] h Q) ∧
    (∀ (d : Nat) (l0 : Nat) (l1 : Value)  (h : zMm) (Q : Option Value → zMm → Prop), zWp d zi_142 none 36 [.ref l0, l1] [] h Q = zWp d zi_142 none 37 [.ref l0, l1] [.ref l0] h Q) ∧
    (∀ (d : Nat) (l0 : Value) (l1 : Value) (x0 : Nat) (I : Nat → Nat → Int32) (L : Nat → Nat → Int64) (P : Nat → Nat → Option Nat) (Q : Option Value → zMm → Prop), zSH[x0]? = some (.inl 10) → zWp d zi_142 none 37 [l0, l1] [.ref x0] (zSH, I, L, P) Q = zWp d zi_142 none 40 [l0, l1] [.int (I x0 8)] (zSH, I, L, P) Q) ∧
    (∀ (d : Nat) (l0 : Value) (l1 : Value) (x0 : Int32) (h : zMm) (Q : Option Value → zMm → Prop), zWp d zi_142 none 40 [l0, l1] [.int x0] h Q = Q (some (.int x0)) h) ∧
    (∀ (d : Nat) (l0 : Nat) (l1 : Value)  (h : zMm) (Q : Option Value → zMm → Prop), zWp d zi_142 none 41 [.ref l0, l1] [] h Q = zWp d zi_142 none 42 [.ref l0, l1] [.ref l0] h Q) ∧
    (∀ (d : Nat) (l0 : Value) (l1 : Value) (x0 : Nat) (I : Nat → Nat → Int32) (L : Nat → Nat → Int64) (P : Nat → Nat → Option Nat) (Q : Option Value → zMm → Prop), zSH[x0]? = some (.inl 10) → zWp d zi_142 none 42 [l0, l1] [.ref x0] (zSH, I, L, P) Q = zWp d zi_142 none 45 [l0, l1] [.int (I x0 9)] (zSH, I, L, P) Q) ∧
    (∀ (d : Nat) (l0 : Value) (l1 : Value) (x0 : Int32) (h : zMm) (Q : Option Value → zMm → Prop), zWp d zi_142 none 45 [l0, l1] [.int x0] h Q = Q (some (.int x0)) h) ∧
    (∀ (d : Nat) (l0 : Value) (l1 : Value)  (h : zMm) (Q : Option Value → zMm → Prop), zWp d zi_142 none 46 [l0, l1] [] h Q = zWp d zi_142 none 47 [l0, l1] [.int 5] h Q) ∧
    (∀ (d : Nat) (l0 : Nat) (l1 : Value) (x0 : Int32) (h : zMm) (Q : Option Value → zMm → Prop), zWp d zi_142 none 47 [.ref l0, l1] [.int x0] h Q = zWp d zi_142 none 48 [.ref l0, l1] [.ref l0, .int x0] h Q) ∧
    (∀ (d : Nat) (l0 : Value) (l1 : Value) (x1 : Nat) (x0 : Int32) (I : Nat → Nat → Int32) (L : Nat → Nat → Int64) (P : Nat → Nat → Option Nat) (Q : Option Value → zMm → Prop), zSH[x1]? = some (.inl 10) → zWp d zi_142 none 48 [l0, l1] [.ref x1, .int x0] (zSH, I, L, P) Q = zWp d zi_142 none 51 [l0, l1] [.int (I x1 6), .int x0] (zSH, I, L, P) Q) ∧
    (∀ (d : Nat) (l0 : Value) (l1 : Value) (x1 : Int32) (x0 : Int32) (h : zMm) (Q : Option Value → zMm → Prop), zWp d zi_142 none 51 [l0, l1] [.int x1, .int x0] h Q = zWp d zi_142 none 52 [l0, l1] [.int (x0 * x1)] h Q) ∧
    (∀ (d : Nat) (l0 : Value) (l1 : Value) (x0 : Int32) (h : zMm) (Q : Option Value → zMm → Prop), zWp d zi_142 none 52 [l0, l1] [.int x0] h Q = Q (some (.int x0)) h) ∧
    (∀ (d : Nat) (l0 : Nat) (l1 : Value)  (h : zMm) (Q : Option Value → zMm → Prop), zWp d zi_142 none 53 [.ref l0, l1] [] h Q = zWp d zi_142 none 54 [.ref l0, l1] [.ref l0] h Q) ∧
    (∀ (d : Nat) (l0 : Value) (l1 : Value) (x0 : Nat) (I : Nat → Nat → Int32) (L : Nat → Nat → Int64) (P : Nat → Nat → Option Nat) (Q : Option Value → zMm → Prop), zSH[x0]? = some (.inl 10) → zWp d zi_142 none 54 [l0, l1] [.ref x0] (zSH, I, L, P) Q = zWM d 143 [.ref x0] (zSH, I, L, P) (fun r h1 => zWp d zi_142 none 57 [l0, l1] (r.toList ++ []) h1 Q)) ∧
    (∀ (d : Nat) (l0 : Value) (l1 : Value) (x0 : Int32) (h : zMm) (Q : Option Value → zMm → Prop), zWp d zi_142 none 57 [l0, l1] [.int x0] h Q = Q (some (.int x0)) h) ∧
    (∀ (d : Nat) (l0 : Nat) (l1 : Value)  (h : zMm) (Q : Option Value → zMm → Prop), zWp d zi_142 none 58 [.ref l0, l1] [] h Q = zWp d zi_142 none 59 [.ref l0, l1] [.ref l0] h Q) ∧
    (∀ (d : Nat) (l0 : Value) (l1 : Value) (x0 : Nat) (I : Nat → Nat → Int32) (L : Nat → Nat → Int64) (P : Nat → Nat → Option Nat) (Q : Option Value → zMm → Prop), zSH[x0]? = some (.inl 10) → zWp d zi_142 none 59 [l0, l1] [.ref x0] (zSH, I, L, P) Q = zWp d zi_142 none 62 [l0, l1] [.int (I x0 33)] (zSH, I, L, P) Q) ∧
    (∀ (d : Nat) (l0 : Value) (l1 : Value) (x0 : Int32) (h : zMm) (Q : Option Value → zMm → Prop), zWp d zi_142 none 62 [l0, l1] [.int x0] h Q = Q (some (.int x0)) h) ∧
    (∀ (d : Nat) (l0 : Value) (l1 : Int32)  (h : zMm) (Q : Option Value → zMm → Prop), zWp d zi_142 none 63 [l0, .int l1] [] h Q = zWp d zi_142 none 64 [l0, .int l1] [.int l1] h Q) ∧
    (∀ (d : Nat) (l0 : Value) (l1 : Value) (x0 : Int32) (h : zMm) (Q : Option Value → zMm → Prop), zWp d zi_142 none 64 [l0, l1] [.int x0] h Q = zWp d zi_142 none 66 [l0, l1] [.int 22, .int x0] h Q) ∧
    (∀ (d : Nat) (l0 : Value) (l1 : Value) (x1 : Int32) (x0 : Int32) (h : zMm) (Q : Option Value → zMm → Prop), zWp d zi_142 none 66 [l0, l1] [.int x1, .int x0] h Q = if x1 ≤ x0 then zWp d zi_142 none 84 [l0, l1] [] h Q else zWp d zi_142 none 69 [l0, l1] [] h Q) ∧
    (∀ (d : Nat) (l0 : Nat) (l1 : Value)  (h : zMm) (Q : Option Value → zMm → Prop), zWp d zi_142 none 69 [.ref l0, l1] [] h Q = zWp d zi_142 none 70 [.ref l0, l1] [.ref l0] h Q) ∧
    (∀ (d : Nat) (l0 : Value) (l1 : Value) (x0 : Nat) (I : Nat → Nat → Int32) (L : Nat → Nat → Int64) (P : Nat → Nat → Option Nat) (Q : Option Value → zMm → Prop), zSH[x0]? = some (.inl 10) → zWp d zi_142 none 70 [l0, l1] [.ref x0] (zSH, I, L, P) Q = zWp d zi_142 none 73 [l0, l1] [va_rf (P x0 0)] (zSH, I, L, P) Q) ∧
    (∀ (d : Nat) (l0 : Value) (l1 : Value) (x0 : Nat) (h : zMm) (Q : Option Value → zMm → Prop), zWp d zi_142 none 73 [l0, l1] [.ref x0] h Q = zWp d zi_142 none 75 [l0, l1] [.int 72, .ref x0] h Q) ∧
    (∀ (d : Nat) (l0 : Value) (l1 : Int32) (x1 : Int32) (x0 : Nat) (h : zMm) (Q : Option Value → zMm → Prop), zWp d zi_142 none 75 [l0, .int l1] [.int x1, .ref x0] h Q = zWp d zi_142 none 76 [l0, .int l1] [.int l1, .int x1, .ref x0] h Q) ∧
    (∀ (d : Nat) (l0 : Value) (l1 : Value) (x2 : Int32) (x1 : Int32) (x0 : Nat) (h : zMm) (Q : Option Value → zMm → Prop), zWp d zi_142 none 76 [l0, l1] [.int x2, .int x1, .ref x0] h Q = zWp d zi_142 none 77 [l0, l1] [.int (x1 + x2), .ref x0] h Q) ∧
    (∀ (d : Nat) (l0 : Value) (l1 : Value) (x1 : Int32) (x0 : Nat) (h : zMm) (Q : Option Value → zMm → Prop), zWp d zi_142 none 77 [l0, l1] [.int x1, .ref x0] h Q = zWp d zi_142 none 79 [l0, l1] [.int 20, .int x1, .ref x0] h Q) ∧
    (∀ (d : Nat) (l0 : Value) (l1 : Value) (x2 : Int32) (x1 : Int32) (x0 : Nat) (h : zMm) (Q : Option Value → zMm → Prop), zWp d zi_142 none 79 [l0, l1] [.int x2, .int x1, .ref x0] h Q = zWp d zi_142 none 80 [l0, l1] [.int (x1 - x2), .ref x0] h Q) ∧
    (∀ (d : Nat) (l0 : Value) (l1 : Value) (x1 : Int32) (x0 : Nat) (I : Nat → Nat → Int32) (L : Nat → Nat → Int64) (P : Nat → Nat → Option Nat) (Q : Option Value → zMm → Prop), zAk zSH x0 = some .int → zWp d zi_142 none 80 [l0, l1] [.int x1, .ref x0] (zSH, I, L, P) Q = (vp_in x1 (zAn zSH x0) ∧ zWp d zi_142 none 81 [l0, l1] [.int (I x0 x1.toNatClampNeg)] (zSH, I, L, P) Q)) ∧
    (∀ (d : Nat) (l0 : Value) (l1 : Value) (x0 : Int32) (h : zMm) (Q : Option Value → zMm → Prop), zWp d zi_142 none 81 [l0, l1] [.int x0] h Q = zWp d zi_142 none 96 [l0, l1] [.int x0] h Q) ∧
    (∀ (d : Nat) (l0 : Nat) (l1 : Value)  (h : zMm) (Q : Option Value → zMm → Prop), zWp d zi_142 none 84 [.ref l0, l1] [] h Q = zWp d zi_142 none 85 [.ref l0, l1] [.ref l0] h Q) ∧
    (∀ (d : Nat) (l0 : Value) (l1 : Value) (x0 : Nat) (I : Nat → Nat → Int32) (L : Nat → Nat → Int64) (P : Nat → Nat → Option Nat) (Q : Option Value → zMm → Prop), zSH[x0]? = some (.inl 10) → zWp d zi_142 none 85 [l0, l1] [.ref x0] (zSH, I, L, P) Q = zWp d zi_142 none 88 [l0, l1] [va_rf (P x0 0)] (zSH, I, L, P) Q) ∧
    (∀ (d : Nat) (l0 : Value) (l1 : Value) (x0 : Nat) (h : zMm) (Q : Option Value → zMm → Prop), zWp d zi_142 none 88 [l0, l1] [.ref x0] h Q = zWp d zi_142 none 90 [l0, l1] [.int 82, .ref x0] h Q) ∧
    (∀ (d : Nat) (l0 : Value) (l1 : Int32) (x1 : Int32) (x0 : Nat) (h : zMm) (Q : Option Value → zMm → Prop), zWp d zi_142 none 90 [l0, .int l1] [.int x1, .ref x0] h Q = zWp d zi_142 none 91 [l0, .int l1] [.int l1, .int x1, .ref x0] h Q) ∧
    (∀ (d : Nat) (l0 : Value) (l1 : Value) (x2 : Int32) (x1 : Int32) (x0 : Nat) (h : zMm) (Q : Option Value → zMm → Prop), zWp d zi_142 none 91 [l0, l1] [.int x2, .int x1, .ref x0] h Q = zWp d zi_142 none 92 [l0, l1] [.int (x1 + x2), .ref x0] h Q) ∧
    (∀ (d : Nat) (l0 : Value) (l1 : Value) (x1 : Int32) (x0 : Nat) (h : zMm) (Q : Option Value → zMm → Prop), zWp d zi_142 none 92 [l0, l1] [.int x1, .ref x0] h Q = zWp d zi_142 none 94 [l0, l1] [.int 22, .int x1, .ref x0] h Q) ∧
    (∀ (d : Nat) (l0 : Value) (l1 : Value) (x2 : Int32) (x1 : Int32) (x0 : Nat) (h : zMm) (Q : Option Value → zMm → Prop), zWp d zi_142 none 94 [l0, l1] [.int x2, .int x1, .ref x0] h Q = zWp d zi_142 none 95 [l0, l1] [.int (x1 - x2), .ref x0] h Q) ∧
    (∀ (d : Nat) (l0 : Value) (l1 : Value) (x1 : Int32) (x0 : Nat) (I : Nat → Nat → Int32) (L : Nat → Nat → Int64) (P : Nat → Nat → Option Nat) (Q : Option Value → zMm → Prop), zAk zSH x0 = some .int → zWp d zi_142 none 95 [l0, l1] [.int x1, .ref x0] (zSH, I, L, P) Q = (vp_in x1 (zAn zSH x0) ∧ zWp d zi_142 none 96 [l0, l1] [.int (I x0 x1.toNatClampNeg)] (zSH, I, L, P) Q)) ∧
    (∀ (d : Nat) (l0 : Value) (l1 : Value) (x0 : Int32) (h : zMm) (Q : Option Value → zMm → Prop), zWp d zi_142 none 96 [l0, l1] [.int x0] h Q = Q (some (.int x0)) h) :=
  ⟨(fun d l0 l1  h Q => zr_iload_n rfl rfl),
   (fun d l0 l1 x0 h Q => by
      by_cases e0 : x0 = 24
      · subst e0; rw [if_pos rfl]; exact zr_tabI rfl (by decide) rfl (by decide)
      rw [if_neg e0]
      have n0 : ¬ x0.toInt = 24 := fun z => e0 (Int32.toInt_inj.mp z)
      by_cases e1 : x0 = 25
      · subst e1; rw [if_pos rfl]; exact zr_tabI rfl (by decide) rfl (by decide)
      rw [if_neg e1]
      have n1 : ¬ x0.toInt = 25 := fun z => e1 (Int32.toInt_inj.mp z)
      by_cases e2 : x0 = 26
      · subst e2; rw [if_pos rfl]; exact zr_tabI rfl (by decide) rfl (by decide)
      rw [if_neg e2]
      have n2 : ¬ x0.toInt = 26 := fun z => e2 (Int32.toInt_inj.mp z)
      by_cases e3 : x0 = 27
      · subst e3; rw [if_pos rfl]; exact zr_tabI rfl (by decide) rfl (by decide)
      rw [if_neg e3]
      have n3 : ¬ x0.toInt = 27 := fun z => e3 (Int32.toInt_inj.mp z)
      by_cases e4 : x0 = 28
      · subst e4; rw [if_pos rfl]; exact zr_tabI rfl (by decide) rfl (by decide)
      rw [if_neg e4]
      have n4 : ¬ x0.toInt = 28 := fun z => e4 (Int32.toInt_inj.mp z)
      exact zr_tabD rfl (by omega) (by decide)),
   (fun d l0 l1  h Q => zr_aload_n rfl rfl),
   (fun d l0 l1 x0 I L P Q p0 => zr_getI rfl lf_10_84 (fun _ _ _ => rfl) p0),
   (fun d l0 l1 x0 h Q => zr_iret rfl rfl),
   (fun d l0 l1  h Q => zr_aload_n rfl rfl),
   (fun d l0 l1 x0 I L P Q p0 => zr_getI rfl lf_10_87 (fun _ _ _ => rfl) p0),
   (fun d l0 l1 x0 h Q => zr_iret rfl rfl),
   (fun d l0 l1  h Q => zr_iconst rfl (by decide)),
   (fun d l0 l1 x0 h Q => zr_aload_n rfl rfl),
   (fun d l0 l1 x1 x0 I L P Q p0 => zr_getI rfl lf_10_99 (fun _ _ _ => rfl) p0),
   (fun d l0 l1 x1 x0 h Q => zr_imul rfl),
   (fun d l0 l1 x0 h Q => zr_iret rfl rfl),
   (fun d l0 l1  h Q => zr_aload_n rfl rfl),
   (fun d l0 l1 x0 I L P Q p0 => zr_vir (as := []) (rest := []) rfl lm_10_168 m_143 kd_143 rfl (Nat.le_of_ble_eq_true rfl) p0),
   (fun d l0 l1 x0 h Q => zr_iret rfl rfl),
   (fun d l0 l1  h Q => zr_aload_n rfl rfl),
   (fun d l0 l1 x0 I L P Q p0 => zr_getI rfl lf_10_172 (fun _ _ _ => rfl) p0),
   (fun d l0 l1 x0 h Q => zr_iret rfl rfl),
   (fun d l0 l1  h Q => zr_iload_n rfl rfl),
   (fun d l0 l1 x0 h Q => zr_bipush rfl (by decide)),
   (fun d l0 l1 x1 x0 h Q => zr_ic_ge rfl (by decide)),
   (fun d l0 l1  h Q => zr_aload_n rfl rfl),
   (fun d l0 l1 x0 I L P Q p0 => zr_getQ rfl lf_10_9 (fun _ _ _ => rfl) p0),
   (fun d l0 l1 x0 h Q => zr_bipush rfl (by decide)),
   (fun d l0 l1 x1 x0 h Q => zr_iload_n rfl rfl),
   (fun d l0 l1 x2 x1 x0 h Q => zr_iadd rfl),
   (fun d l0 l1 x1 x0 h Q => zr_bipush rfl (by decide)),
   (fun d l0 l1 x2 x1 x0 h Q => zr_isub rfl),
   (fun d l0 l1 x1 x0 I L P Q p0 => zr_ald rfl p0),
   (fun d l0 l1 x0 h Q => zr_goto rfl (by decide)),
   (fun d l0 l1  h Q => zr_aload_n rfl rfl),
   (fun d l0 l1 x0 I L P Q p0 => zr_getQ rfl lf_10_9 (fun _ _ _ => rfl) p0),
   (fun d l0 l1 x0 h Q => zr_bipush rfl (by decide)),
   (fun d l0 l1 x1 x0 h Q => zr_iload_n rfl rfl),
   (fun d l0 l1 x2 x1 x0 h Q => zr_iadd rfl),
   (fun d l0 l1 x1 x0 h Q => zr_bipush rfl (by decide)),
   (fun d l0 l1 x2 x1 x0 h Q => zr_isub rfl),
   (fun d l0 l1 x1 x0 I L P Q p0 => zr_ald rfl p0),
   (fun d l0 l1 x0 h Q => zr_iret rfl rfl)⟩
theorem E_X10_mayBe : ∀ (d : Nat) (a0 : Nat) (h : zMm) (Q : Option Value → zMm → Prop), zWM (d + 1) 143 [.ref a0] h Q = zWp d zi_143 none 0 [.ref a0, .retAddr 0, .retAddr 0] [] h Q := fun d a0 h Q => zW_M m_143 (Nat.le_of_ble_eq_true rfl) rfl
set_option maxRecDepth 100000 in
theorem R_X10_mayBe :
    (∀ (d : Nat) (l0 : Value) (l1 : Value) (l2 : Value)  (h : zMm) (Q : Option Value → zMm → Prop), zWp d zi_143 none 0 [l0, l1, l2] [] h Q = zWp d zi_143 none 2 [l0, l1, l2] [.int 120] h Q) ∧
    (∀ (d : Nat) (l0 : Nat) (l1 : Value) (l2 : Value) (x0 : Int32) (h : zMm) (Q : Option Value → zMm → Prop), zWp d zi_143 none 2 [.ref l0, l1, l2] [.int x0] h Q = zWp d zi_143 none 3 [.ref l0, .int x0, l2] [] h Q) ∧
    (∀ (d : Nat) (l0 : Value) (l1 : Value) (l2 : Value)  (h : zMm) (Q : Option Value → zMm → Prop), zWp d zi_143 none 3 [l0, l1, l2] [] h Q = zWp d zi_143 none 4 [l0, l1, l2] [.int 0] h Q) ∧
    (∀ (d : Nat) (l0 : Value) (l1 : Int32) (l2 : Value) (x0 : Int32) (h : zMm) (Q : Option Value → zMm → Prop), zWp d zi_143 none 4 [l0, .int l1, l2] [.int x0] h Q = zWp d zi_143 none 5 [l0, .int l1, .int x0] [] h Q) ∧
    (∀ (d : Nat) (l0 : Nat) (l1 : Value) (l2 : Value) (x0 : Int32) (h : zMm) (Q : Option Value → zMm → Prop), zWp d zi_143 none 6 [.ref l0, l1, l2] [.int x0] h Q = zWp d zi_143 none 7 [.ref l0, l1, l2] [.ref l0, .int x0] h Q) ∧
    (∀ (d : Nat) (l0 : Value) (l1 : Value) (l2 : Value) (x1 : Nat) (x0 : Int32) (I : Nat → Nat → Int32) (L : Nat → Nat → Int64) (P : Nat → Nat → Option Nat) (Q : Option Value → zMm → Prop), zSH[x1]? = some (.inl 10) → zWp d zi_143 none 7 [l0, l1, l2] [.ref x1, .int x0] (zSH, I, L, P) Q = zWp d zi_143 none 10 [l0, l1, l2] [.int (I x1 10), .int x0] (zSH, I, L, P) Q) ∧
    (∀ (d : Nat) (l0 : Value) (l1 : Value) (l2 : Value) (x1 : Int32) (x0 : Int32) (h : zMm) (Q : Option Value → zMm → Prop), zWp d zi_143 none 10 [l0, l1, l2] [.int x1, .int x0] h Q = if x1 ≤ x0 then zWp d zi_143 none 48 [l0, l1, l2] [] h Q else zWp d zi_143 none 13 [l0, l1, l2] [] h Q) ∧
    (∀ (d : Nat) (l0 : Value) (l1 : Value) (l2 : Int32)  (h : zMm) (Q : Option Value → zMm → Prop), zWp d zi_143 none 13 [l0, l1, .int l2] [] h Q = zWp d zi_143 none 14 [l0, l1, .int l2] [.int l2] h Q) ∧
    (∀ (d : Nat) (l0 : Value) (l1 : Value) (l2 : Value) (x0 : Int32) (h : zMm) (Q : Option Value → zMm → Prop), zWp d zi_143 none 14 [l0, l1, l2] [.int x0] h Q = if x0 = 0 then zWp d zi_143 none 29 [l0, l1, l2] [] h Q else zWp d zi_143 none 17 [l0, l1, l2] [] h Q) ∧
    (∀ (d : Nat) (l0 : Value) (l1 : Value) (l2 : Value)  (h : zMm) (Q : Option Value → zMm → Prop), zWp d zi_143 none 17 [l0, l1, l2] [] h Q = zWp d zi_143 none 18 [l0, l1, l2] [.int 3] h Q) ∧
    (∀ (d : Nat) (l0 : Nat) (l1 : Value) (l2 : Value) (x0 : Int32) (h : zMm) (Q : Option Value → zMm → Prop), zWp d zi_143 none 18 [.ref l0, l1, l2] [.int x0] h Q = zWp d zi_143 none 19 [.ref l0, l1, l2] [.ref l0, .int x0] h Q) ∧
    (∀ (d : Nat) (l0 : Value) (l1 : Value) (l2 : Value) (x1 : Nat) (x0 : Int32) (I : Nat → Nat → Int32) (L : Nat → Nat → Int64) (P : Nat → Nat → Option Nat) (Q : Option Value → zMm → Prop), zSH[x1]? = some (.inl 10) → zWp d zi_143 none 19 [l0, l1, l2] [.ref x1, .int x0] (zSH, I, L, P) Q = zWp d zi_143 none 22 [l0, l1, l2] [va_rf (P x1 11), .int x0] (zSH, I, L, P) Q) ∧
    (∀ (d : Nat) (l0 : Value) (l1 : Value) (l2 : Int32) (x1 : Nat) (x0 : Int32) (h : zMm) (Q : Option Value → zMm → Prop), zWp d zi_143 none 22 [l0, l1, .int l2] [.ref x1, .int x0] h Q = zWp d zi_143 none 23 [l0, l1, .int l2] [.int l2, .ref x1, .int x0] h Q) ∧
    (∀ (d : Nat) (l0 : Value) (l1 : Value) (l2 : Value) (x2 : Int32) (x1 : Nat) (x0 : Int32) (I : Nat → Nat → Int32) (L : Nat → Nat → Int64) (P : Nat → Nat → Option Nat) (Q : Option Value → zMm → Prop), zAk zSH x1 = some .int → zWp d zi_143 none 23 [l0, l1, l2] [.int x2, .ref x1, .int x0] (zSH, I, L, P) Q = (vp_in x2 (zAn zSH x1) ∧ zWp d zi_143 none 24 [l0, l1, l2] [.int (I x1 x2.toNatClampNeg), .int x0] (zSH, I, L, P) Q)) ∧
    (∀ (d : Nat) (l0 : Value) (l1 : Value) (l2 : Value) (x1 : Int32) (x0 : Int32) (h : zMm) (Q : Option Value → zMm → Prop), zWp d zi_143 none 24 [l0, l1, l2] [.int x1, .int x0] h Q = zWp d zi_143 none 25 [l0, l1, l2] [.int (x0 * x1)] h Q) ∧
    (∀ (d : Nat) (l0 : Value) (l1 : Int32) (l2 : Value) (x0 : Int32) (h : zMm) (Q : Option Value → zMm → Prop), zWp d zi_143 none 25 [l0, .int l1, l2] [.int x0] h Q = zWp d zi_143 none 26 [l0, .int l1, l2] [.int l1, .int x0] h Q) ∧
    (∀ (d : Nat) (l0 : Value) (l1 : Value) (l2 : Value) (x1 : Int32) (x0 : Int32) (h : zMm) (Q : Option Value → zMm → Prop), zWp d zi_143 none 26 [l0, l1, l2] [.int x1, .int x0] h Q = if x1 ≤ x0 then zWp d zi_143 none 40 [l0, l1, l2] [] h Q else zWp d zi_143 none 29 [l0, l1, l2] [] h Q) ∧
    (∀ (d : Nat) (l0 : Value) (l1 : Value) (l2 : Value)  (h : zMm) (Q : Option Value → zMm → Prop), zWp d zi_143 none 29 [l0, l1, l2] [] h Q = zWp d zi_143 none 30 [l0, l1, l2] [.int 3] h Q) ∧
    (∀ (d : Nat) (l0 : Nat) (l1 : Value) (l2 : Value) (x0 : Int32) (h : zMm) (Q : Option Value → zMm → Prop), zWp d zi_143 none 30 [.ref l0, l1, l2] [.int x0] h Q = zWp d zi_143 none 31 [.ref l0, l1, l2] [.ref l0, .int x0] h Q) ∧
    (∀ (d : Nat) (l0 : Value) (l1 : Value) (l2 : Value) (x1 : Nat) (x0 : Int32) (I : Nat → Nat → Int32) (L : Nat → Nat → Int64) (P : Nat → Nat → Option Nat) (Q : Option Value → zMm → Prop), zSH[x1]? = some (.inl 10) → zWp d zi_143 none 31 [l0, l1, l2] [.ref x1, .int x0] (zSH, I, L, P) Q = zWp d zi_143 none 34 [l0, l1, l2] [va_rf (P x1 11), .int x0] (zSH, I, L, P) Q) ∧
    (∀ (d : Nat) (l0 : Value) (l1 : Value) (l2 : Int32) (x1 : Nat) (x0 : Int32) (h : zMm) (Q : Option Value → zMm → Prop), zWp d zi_143 none 34 [l0, l1, .int l2] [.ref x1, .int x0] h Q = zWp d zi_143 none 35 [l0, l1, .int l2] [.int l2, .ref x1, .int x0] h Q) ∧
    (∀ (d : Nat) (l0 : Value) (l1 : Value) (l2 : Value) (x2 : Int32) (x1 : Nat) (x0 : Int32) (I : Nat → Nat → Int32) (L : Nat → Nat → Int64) (P : Nat → Nat → Option Nat) (Q : Option Value → zMm → Prop), zAk zSH x1 = some .int → zWp d zi_143 none 35 [l0, l1, l2] [.int x2, .ref x1, .int x0] (zSH, I, L, P) Q = (vp_in x2 (zAn zSH x1) ∧ zWp d zi_143 none 36 [l0, l1, l2] [.int (I x1 x2.toNatClampNeg), .int x0] (zSH, I, L, P) Q)) ∧
    (∀ (d : Nat) (l0 : Value) (l1 : Value) (l2 : Value) (x1 : Int32) (x0 : Int32) (h : zMm) (Q : Option Value → zMm → Prop), zWp d zi_143 none 36 [l0, l1, l2] [.int x1, .int x0] h Q = zWp d zi_143 none 37 [l0, l1, l2] [.int (x0 * x1)] h Q) ∧
    (∀ (d : Nat) (l0 : Value) (l1 : Value) (l2 : Value) (x0 : Int32) (h : zMm) (Q : Option Value → zMm → Prop), zWp d zi_143 none 37 [l0, l1, l2] [.int x0] h Q = zWp d zi_143 none 41 [l0, l1, l2] [.int x0] h Q) ∧
    (∀ (d : Nat) (l0 : Value) (l1 : Int32) (l2 : Value)  (h : zMm) (Q : Option Value → zMm → Prop), zWp d zi_143 none 40 [l0, .int l1, l2] [] h Q = zWp d zi_143 none 41 [l0, .int l1, l2] [.int l1] h Q) ∧
    (∀ (d : Nat) (l0 : Nat) (l1 : Value) (l2 : Value) (x0 : Int32) (h : zMm) (Q : Option Value → zMm → Prop), zWp d zi_143 none 41 [.ref l0, l1, l2] [.int x0] h Q = zWp d zi_143 none 42 [.ref l0, .int x0, l2] [] h Q) ∧
    (∀ (d : Nat) (l0 : Value) (l1 : Int32) (l2 : Int32)  (h : zMm) (Q : Option Value → zMm → Prop), zWp d zi_143 none 42 [l0, .int l1, .int l2] [] h Q = zWp d zi_143 none 45 [l0, .int l1, .int (l2 + 1)] [] h Q) ∧
    (∀ (d : Nat) (l0 : Value) (l1 : Value) (l2 : Value)  (h : zMm) (Q : Option Value → zMm → Prop), zWp d zi_143 none 45 [l0, l1, l2] [] h Q = zWp d zi_143 none 5 [l0, l1, l2] [] h Q) ∧
    (∀ (d : Nat) (l0 : Value) (l1 : Int32) (l2 : Value)  (h : zMm) (Q : Option Value → zMm → Prop), zWp d zi_143 none 48 [l0, .int l1, l2] [] h Q = zWp d zi_143 none 49 [l0, .int l1, l2] [.int l1] h Q) ∧
    (∀ (d : Nat) (l0 : Value) (l1 : Value) (l2 : Value) (x0 : Int32) (h : zMm) (Q : Option Value → zMm → Prop), zWp d zi_143 none 49 [l0, l1, l2] [.int x0] h Q = Q (some (.int x0)) h) :=
  ⟨(fun d l0 l1 l2  h Q => zr_bipush rfl (by decide)),
   (fun d l0 l1 l2 x0 h Q => zr_istore_n (n := 1) rfl (Nat.le_of_ble_eq_true rfl) rfl),
   (fun d l0 l1 l2  h Q => zr_iconst rfl (by decide)),
   (fun d l0 l1 l2 x0 h Q => zr_istore_n (n := 2) rfl (Nat.le_of_ble_eq_true rfl) rfl),
   (fun d l0 l1 l2 x0 h Q => zr_aload_n rfl rfl),
   (fun d l0 l1 l2 x1 x0 I L P Q p0 => zr_getI rfl lf_10_114 (fun _ _ _ => rfl) p0),
   (fun d l0 l1 l2 x1 x0 h Q => zr_ic_ge rfl (by decide)),
   (fun d l0 l1 l2  h Q => zr_iload_n rfl rfl),
   (fun d l0 l1 l2 x0 h Q => zr_if_eq rfl (by decide)),
   (fun d l0 l1 l2  h Q => zr_iconst rfl (by decide)),
   (fun d l0 l1 l2 x0 h Q => zr_aload_n rfl rfl),
   (fun d l0 l1 l2 x1 x0 I L P Q p0 => zr_getQ rfl lf_10_25 (fun _ _ _ => rfl) p0),
   (fun d l0 l1 l2 x1 x0 h Q => zr_iload_n rfl rfl),
   (fun d l0 l1 l2 x2 x1 x0 I L P Q p0 => zr_ald rfl p0),
   (fun d l0 l1 l2 x1 x0 h Q => zr_imul rfl),
   (fun d l0 l1 l2 x0 h Q => zr_iload_n rfl rfl),
   (fun d l0 l1 l2 x1 x0 h Q => zr_ic_ge rfl (by decide)),
   (fun d l0 l1 l2  h Q => zr_iconst rfl (by decide)),
   (fun d l0 l1 l2 x0 h Q => zr_aload_n rfl rfl),
   (fun d l0 l1 l2 x1 x0 I L P Q p0 => zr_getQ rfl lf_10_25 (fun _ _ _ => rfl) p0),
   (fun d l0 l1 l2 x1 x0 h Q => zr_iload_n rfl rfl),
   (fun d l0 l1 l2 x2 x1 x0 I L P Q p0 => zr_ald rfl p0),
   (fun d l0 l1 l2 x1 x0 h Q => zr_imul rfl),
   (fun d l0 l1 l2 x0 h Q => zr_goto rfl (by decide)),
   (fun d l0 l1 l2  h Q => zr_iload_n rfl rfl),
   (fun d l0 l1 l2 x0 h Q => zr_istore_n (n := 1) rfl (Nat.le_of_ble_eq_true rfl) rfl),
   (fun d l0 l1 l2  h Q => zr_iinc (n := 2) (kc := 1) rfl rfl (Nat.le_of_ble_eq_true rfl) rfl (by decide)),
   (fun d l0 l1 l2  h Q => zr_goto rfl (by decide)),
   (fun d l0 l1 l2  h Q => zr_iload_n rfl rfl),
   (fun d l0 l1 l2 x0 h Q => zr_iret rfl rfl)⟩
theorem H_X10_mayBe_5 : ∀ (d : Nat) (l0 : Value) (l1 : Value) (l2 : Int32)  (h : zMm) (Q : Option Value → zMm → Prop), zWp d zi_143 none 5 [l0, l1, .int l2] [] h Q = zWp d zi_143 none 6 [l0, l1, .int l2] [.int l2] h Q := fun d l0 l1 l2  h Q => zr_iload_n rfl rfl
theorem E_X10_of : ∀ (d : Nat) (a0 : Nat) (a1 : Int32) (a2 : Int32) (h : zMm) (Q : Option Value → zMm → Prop), zWM (d + 1) 144 [.ref a0, .int a1, .int a2] h Q = zWp d zi_144 none 0 [.ref a0, .int a1, .int a2] [] h Q := fun d a0 a1 a2 h Q => zW_M m_144 (Nat.le_of_ble_eq_true rfl) rfl
set_option maxRecDepth 100000 in
theorem R_X10_of :
    (∀ (d : Nat) (l0 : Value) (l1 : Value) (l2 : Int32)  (h : zMm) (Q : Option Value → zMm → Prop), zWp d zi_144 none 0 [l0, l1, .int l2] [] h Q = zWp d zi_144 none 1 [l0, l1, .int l2] [.int l2] h Q) ∧
    (∀ (d : Nat) (l0 : Value) (l1 : Value) (l2 : Value) (x0 : Int32) (h : zMm) (Q : Option Value → zMm → Prop), zWp d zi_144 none 1 [l0, l1, l2] [.int x0] h Q = zWp d zi_144 none 2 [l0, l1, l2] [.long x0.toInt64] h Q) ∧
    (∀ (d : Nat) (l0 : Value) (l1 : Value) (l2 : Value) (x0 : Int64) (h : zMm) (Q : Option Value → zMm → Prop), zWp d zi_144 none 2 [l0, l1, l2] [.long x0] h Q = zWp d zi_144 none 3 [l0, l1, l2] [.long 0, .long x0] h Q) ∧
    (∀ (d : Nat) (l0 : Value) (l1 : Value) (l2 : Value) (x1 : Int64) (x0 : Int64) (h : zMm) (Q : Option Value → zMm → Prop), zWp d zi_144 none 3 [l0, l1, l2] [.long x1, .long x0] h Q = zWp d zi_144 none 6 [l0, l1, l2] [.long 6, .long x1, .long x0] h Q) ∧
    (∀ (d : Nat) (l0 : Value) (l1 : Value) (l2 : Value) (x2 : Int64) (x1 : Int64) (x0 : Int64) (h : zMm) (Q : Option Value → zMm → Prop), zWp d zi_144 none 6 [l0, l1, l2] [.long x2, .long x1, .long x0] h Q = zWM d 122 [.long x0, .long x1, .long x2] h (fun r h1 => zWp d zi_144 none 9 [l0, l1, l2] (r.toList ++ []) h1 Q)) ∧
    (∀ (d : Nat) (l0 : Value) (l1 : Value) (l2 : Value) (x0 : Int32) (h : zMm) (Q : Option Value → zMm → Prop), zWp d zi_144 none 9 [l0, l1, l2] [.int x0] h Q = if x0 = 0 then zWp d zi_144 none 32 [l0, l1, l2] [] h Q else zWp d zi_144 none 12 [l0, l1, l2] [] h Q) ∧
    (∀ (d : Nat) (l0 : Nat) (l1 : Value) (l2 : Value)  (h : zMm) (Q : Option Value → zMm → Prop), zWp d zi_144 none 12 [.ref l0, l1, l2] [] h Q = zWp d zi_144 none 13 [.ref l0, l1, l2] [.ref l0] h Q) ∧
    (∀ (d : Nat) (l0 : Value) (l1 : Int32) (l2 : Value) (x0 : Nat) (h : zMm) (Q : Option Value → zMm → Prop), zWp d zi_144 none 13 [l0, .int l1, l2] [.ref x0] h Q = zWp d zi_144 none 14 [l0, .int l1, l2] [.int l1, .ref x0] h Q) ∧
    (∀ (d : Nat) (l0 : Value) (l1 : Value) (l2 : Value) (x1 : Int32) (x0 : Nat) (I : Nat → Nat → Int32) (L : Nat → Nat → Int64) (P : Nat → Nat → Option Nat) (Q : Option Value → zMm → Prop), zSH[x0]? = some (.inl 10) → zWp d zi_144 none 14 [l0, l1, l2] [.int x1, .ref x0] (zSH, I, L, P) Q = zWM d 130 [.ref x0, .int x1] (zSH, I, L, P) (fun r h1 => zWp d zi_144 none 17 [l0, l1, l2] (r.toList ++ []) h1 Q)) ∧
    (∀ (d : Nat) (l0 : Value) (l1 : Value) (l2 : Value) (x0 : Int32) (h : zMm) (Q : Option Value → zMm → Prop), zWp d zi_144 none 17 [l0, l1, l2] [.int x0] h Q = if x0 = 0 then zWp d zi_144 none 29 [l0, l1, l2] [] h Q else zWp d zi_144 none 20 [l0, l1, l2] [] h Q) ∧
    (∀ (d : Nat) (l0 : Nat) (l1 : Value) (l2 : Value)  (h : zMm) (Q : Option Value → zMm → Prop), zWp d zi_144 none 20 [.ref l0, l1, l2] [] h Q = zWp d zi_144 none 21 [.ref l0, l1, l2] [.ref l0] h Q) ∧
    (∀ (d : Nat) (l0 : Value) (l1 : Int32) (l2 : Value) (x0 : Nat) (h : zMm) (Q : Option Value → zMm → Prop), zWp d zi_144 none 21 [l0, .int l1, l2] [.ref x0] h Q = zWp d zi_144 none 22 [l0, .int l1, l2] [.int l1, .ref x0] h Q) ∧
    (∀ (d : Nat) (l0 : Value) (l1 : Value) (l2 : Int32) (x1 : Int32) (x0 : Nat) (h : zMm) (Q : Option Value → zMm → Prop), zWp d zi_144 none 22 [l0, l1, .int l2] [.int x1, .ref x0] h Q = zWp d zi_144 none 23 [l0, l1, .int l2] [.int l2, .int x1, .ref x0] h Q) ∧
    (∀ (d : Nat) (l0 : Value) (l1 : Value) (l2 : Value) (x2 : Int32) (x1 : Int32) (x0 : Nat) (I : Nat → Nat → Int32) (L : Nat → Nat → Int64) (P : Nat → Nat → Option Nat) (Q : Option Value → zMm → Prop), zSH[x0]? = some (.inl 10) → zWp d zi_144 none 23 [l0, l1, l2] [.int x2, .int x1, .ref x0] (zSH, I, L, P) Q = zWM d 141 [.ref x0, .int x1, .int x2] (zSH, I, L, P) (fun r h1 => zWp d zi_144 none 26 [l0, l1, l2] (r.toList ++ []) h1 Q)) ∧
    (∀ (d : Nat) (l0 : Value) (l1 : Value) (l2 : Value) (x0 : Int32) (h : zMm) (Q : Option Value → zMm → Prop), zWp d zi_144 none 26 [l0, l1, l2] [.int x0] h Q = zWp d zi_144 none 31 [l0, l1, l2] [.int x0] h Q) ∧
    (∀ (d : Nat) (l0 : Value) (l1 : Value) (l2 : Value)  (h : zMm) (Q : Option Value → zMm → Prop), zWp d zi_144 none 29 [l0, l1, l2] [] h Q = zWp d zi_144 none 31 [l0, l1, l2] [.int (-2000000000)] h Q) ∧
    (∀ (d : Nat) (l0 : Value) (l1 : Value) (l2 : Value) (x0 : Int32) (h : zMm) (Q : Option Value → zMm → Prop), zWp d zi_144 none 31 [l0, l1, l2] [.int x0] h Q = Q (some (.int x0)) h) ∧
    (∀ (d : Nat) (l0 : Value) (l1 : Value) (l2 : Int32)  (h : zMm) (Q : Option Value → zMm → Prop), zWp d zi_144 none 32 [l0, l1, .int l2] [] h Q = zWp d zi_144 none 33 [l0, l1, .int l2] [.int l2] h Q) ∧
    (∀ (d : Nat) (l0 : Value) (l1 : Value) (l2 : Value) (x0 : Int32) (h : zMm) (Q : Option Value → zMm → Prop), zWp d zi_144 none 33 [l0, l1, l2] [.int x0] h Q = zWp d zi_144 none 34 [l0, l1, l2] [.long x0.toInt64] h Q) ∧
    (∀ (d : Nat) (l0 : Value) (l1 : Value) (l2 : Value) (x0 : Int64) (h : zMm) (Q : Option Value → zMm → Prop), zWp d zi_144 none 34 [l0, l1, l2] [.long x0] h Q = zWp d zi_144 none 37 [l0, l1, l2] [.long 10, .long x0] h Q) ∧
    (∀ (d : Nat) (l0 : Value) (l1 : Value) (l2 : Value) (x1 : Int64) (x0 : Int64) (h : zMm) (Q : Option Value → zMm → Prop), zWp d zi_144 none 37 [l0, l1, l2] [.long x1, .long x0] h Q = zWp d zi_144 none 40 [l0, l1, l2] [.long 12, .long x1, .long x0] h Q) ∧
    (∀ (d : Nat) (l0 : Value) (l1 : Value) (l2 : Value) (x2 : Int64) (x1 : Int64) (x0 : Int64) (h : zMm) (Q : Option Value → zMm → Prop), zWp d zi_144 none 40 [l0, l1, l2] [.long x2, .long x1, .long x0] h Q = zWM d 122 [.long x0, .long x1, .long x2] h (fun r h1 => zWp d zi_144 none 43 [l0, l1, l2] (r.toList ++ []) h1 Q)) ∧
    (∀ (d : Nat) (l0 : Value) (l1 : Value) (l2 : Value) (x0 : Int32) (h : zMm) (Q : Option Value → zMm → Prop), zWp d zi_144 none 43 [l0, l1, l2] [.int x0] h Q = if x0 = 0 then zWp d zi_144 none 99 [l0, l1, l2] [] h Q else zWp d zi_144 none 46 [l0, l1, l2] [] h Q) ∧
    (∀ (d : Nat) (l0 : Nat) (l1 : Value) (l2 : Value)  (h : zMm) (Q : Option Value → zMm → Prop), zWp d zi_144 none 46 [.ref l0, l1, l2] [] h Q = zWp d zi_144 none 47 [.ref l0, l1, l2] [.ref l0] h Q) ∧
    (∀ (d : Nat) (l0 : Value) (l1 : Int32) (l2 : Value) (x0 : Nat) (h : zMm) (Q : Option Value → zMm → Prop), zWp d zi_144 none 47 [l0, .int l1, l2] [.ref x0] h Q = zWp d zi_144 none 48 [l0, .int l1, l2] [.int l1, .ref x0] h Q) ∧
    (∀ (d : Nat) (l0 : Value) (l1 : Value) (l2 : Value) (x1 : Int32) (x0 : Nat) (I : Nat → Nat → Int32) (L : Nat → Nat → Int64) (P : Nat → Nat → Option Nat) (Q : Option Value → zMm → Prop), zSH[x0]? = some (.inl 10) → zWp d zi_144 none 48 [l0, l1, l2] [.int x1, .ref x0] (zSH, I, L, P) Q = zWM d 131 [.ref x0, .int x1] (zSH, I, L, P) (fun r h1 => zWp d zi_144 none 51 [l0, l1, l2] (r.toList ++ []) h1 Q)) ∧
    (∀ (d : Nat) (l0 : Value) (l1 : Value) (l2 : Value) (x0 : Int32) (h : zMm) (Q : Option Value → zMm → Prop), zWp d zi_144 none 51 [l0, l1, l2] [.int x0] h Q = if x0 = 0 then zWp d zi_144 none 54 [l0, l1, l2] [] h Q else zWp d zi_144 none 59 [l0, l1, l2] [] h Q) ∧
    (∀ (d : Nat) (l0 : Value) (l1 : Value) (l2 : Value)  (h : zMm) (Q : Option Value → zMm → Prop), zWp d zi_144 none 54 [l0, l1, l2] [] h Q = zWp d zi_144 none 56 [l0, l1, l2] [.int (-2000000000)] h Q) ∧
    (∀ (d : Nat) (l0 : Value) (l1 : Value) (l2 : Value) (x0 : Int32) (h : zMm) (Q : Option Value → zMm → Prop), zWp d zi_144 none 56 [l0, l1, l2] [.int x0] h Q = zWp d zi_144 none 98 [l0, l1, l2] [.int x0] h Q) ∧
    (∀ (d : Nat) (l0 : Value) (l1 : Value) (l2 : Int32)  (h : zMm) (Q : Option Value → zMm → Prop), zWp d zi_144 none 59 [l0, l1, .int l2] [] h Q = zWp d zi_144 none 60 [l0, l1, .int l2] [.int l2] h Q) ∧
    (∀ (d : Nat) (l0 : Value) (l1 : Value) (l2 : Value) (x0 : Int32) (h : zMm) (Q : Option Value → zMm → Prop), zWp d zi_144 none 60 [l0, l1, l2] [.int x0] h Q = zWp d zi_144 none 62 [l0, l1, l2] [.int 10, .int x0] h Q) ∧
    (∀ (d : Nat) (l0 : Value) (l1 : Value) (l2 : Value) (x1 : Int32) (x0 : Int32) (h : zMm) (Q : Option Value → zMm → Prop), zWp d zi_144 none 62 [l0, l1, l2] [.int x1, .int x0] h Q = if x0 = x1 then zWp d zi_144 none 65 [l0, l1, l2] [] h Q else zWp d zi_144 none 74 [l0, l1, l2] [] h Q) ∧
    (∀ (d : Nat) (l0 : Nat) (l1 : Value) (l2 : Value)  (h : zMm) (Q : Option Value → zMm → Prop), zWp d zi_144 none 65 [.ref l0, l1, l2] [] h Q = zWp d zi_144 none 66 [.ref l0, l1, l2] [.ref l0] h Q) ∧
    (∀ (d : Nat) (l0 : Value) (l1 : Value) (l2 : Value) (x0 : Nat) (I : Nat → Nat → Int32) (L : Nat → Nat → Int64) (P : Nat → Nat → Option Nat) (Q : Option Value → zMm → Prop), zSH[x0]? = some (.inl 10) → zWp d zi_144 none 66 [l0, l1, l2] [.ref x0] (zSH, I, L, P) Q = zWp d zi_144 none 69 [l0, l1, l2] [va_rf (P x0 11)] (zSH, I, L, P) Q) ∧
    (∀ (d : Nat) (l0 : Value) (l1 : Int32) (l2 : Value) (x0 : Nat) (h : zMm) (Q : Option Value → zMm → Prop), zWp d zi_144 none 69 [l0, .int l1, l2] [.ref x0] h Q = zWp d zi_144 none 70 [l0, .int l1, l2] [.int l1, .ref x0] h Q) ∧
    (∀ (d : Nat) (l0 : Value) (l1 : Value) (l2 : Value) (x1 : Int32) (x0 : Nat) (I : Nat → Nat → Int32) (L : Nat → Nat → Int64) (P : Nat → Nat → Option Nat) (Q : Option Value → zMm → Prop), zAk zSH x0 = some .int → zWp d zi_144 none 70 [l0, l1, l2] [.int x1, .ref x0] (zSH, I, L, P) Q = (vp_in x1 (zAn zSH x0) ∧ zWp d zi_144 none 71 [l0, l1, l2] [.int (I x0 x1.toNatClampNeg)] (zSH, I, L, P) Q)) ∧
    (∀ (d : Nat) (l0 : Value) (l1 : Value) (l2 : Value) (x0 : Int32) (h : zMm) (Q : Option Value → zMm → Prop), zWp d zi_144 none 71 [l0, l1, l2] [.int x0] h Q = zWp d zi_144 none 98 [l0, l1, l2] [.int x0] h Q) ∧
    (∀ (d : Nat) (l0 : Value) (l1 : Value) (l2 : Int32)  (h : zMm) (Q : Option Value → zMm → Prop), zWp d zi_144 none 74 [l0, l1, .int l2] [] h Q = zWp d zi_144 none 75 [l0, l1, .int l2] [.int l2] h Q) ∧
    (∀ (d : Nat) (l0 : Value) (l1 : Value) (l2 : Value) (x0 : Int32) (h : zMm) (Q : Option Value → zMm → Prop), zWp d zi_144 none 75 [l0, l1, l2] [.int x0] h Q = zWp d zi_144 none 77 [l0, l1, l2] [.int 11, .int x0] h Q) ∧
    (∀ (d : Nat) (l0 : Value) (l1 : Value) (l2 : Value) (x1 : Int32) (x0 : Int32) (h : zMm) (Q : Option Value → zMm → Prop), zWp d zi_144 none 77 [l0, l1, l2] [.int x1, .int x0] h Q = if x0 = x1 then zWp d zi_144 none 80 [l0, l1, l2] [] h Q else zWp d zi_144 none 89 [l0, l1, l2] [] h Q) ∧
    (∀ (d : Nat) (l0 : Nat) (l1 : Value) (l2 : Value)  (h : zMm) (Q : Option Value → zMm → Prop), zWp d zi_144 none 80 [.ref l0, l1, l2] [] h Q = zWp d zi_144 none 81 [.ref l0, l1, l2] [.ref l0] h Q) ∧
    (∀ (d : Nat) (l0 : Value) (l1 : Value) (l2 : Value) (x0 : Nat) (I : Nat → Nat → Int32) (L : Nat → Nat → Int64) (P : Nat → Nat → Option Nat) (Q : Option Value → zMm → Prop), zSH[x0]? = some (.inl 10) → zWp d zi_144 none 81 [l0, l1, l2] [.ref x0] (zSH, I, L, P) Q = zWp d zi_144 none 84 [l0, l1, l2] [va_rf (P x0 12)] (zSH, I, L, P) Q) ∧
    (∀ (d : Nat) (l0 : Value) (l1 : Int32) (l2 : Value) (x0 : Nat) (h : zMm) (Q : Option Value → zMm → Prop), zWp d zi_144 none 84 [l0, .int l1, l2] [.ref x0] h Q = zWp d zi_144 none 85 [l0, .int l1, l2] [.int l1, .ref x0] h Q) ∧
    (∀ (d : Nat) (l0 : Value) (l1 : Value) (l2 : Value) (x1 : Int32) (x0 : Nat) (I : Nat → Nat → Int32) (L : Nat → Nat → Int64) (P : Nat → Nat → Option Nat) (Q : Option Value → zMm → Prop), zAk zSH x0 = some .int → zWp d zi_144 none 85 [l0, l1, l2] [.int x1, .ref x0] (zSH, I, L, P) Q = (vp_in x1 (zAn zSH x0) ∧ zWp d zi_144 none 86 [l0, l1, l2] [.int (I x0 x1.toNatClampNeg)] (zSH, I, L, P) Q)) ∧
    (∀ (d : Nat) (l0 : Value) (l1 : Value) (l2 : Value) (x0 : Int32) (h : zMm) (Q : Option Value → zMm → Prop), zWp d zi_144 none 86 [l0, l1, l2] [.int x0] h Q = zWp d zi_144 none 98 [l0, l1, l2] [.int x0] h Q) ∧
    (∀ (d : Nat) (l0 : Nat) (l1 : Value) (l2 : Value)  (h : zMm) (Q : Option Value → zMm → Prop), zWp d zi_144 none 89 [.ref l0, l1, l2] [] h Q = zWp d zi_144 none 90 [.ref l0, l1, l2] [.ref l0] h Q) ∧
    (∀ (d : Nat) (l0 : Value) (l1 : Value) (l2 : Value) (x0 : Nat) (I : Nat → Nat → Int32) (L : Nat → Nat → Int64) (P : Nat → Nat → Option Nat) (Q : Option Value → zMm → Prop), zSH[x0]? = some (.inl 10) → zWp d zi_144 none 90 [l0, l1, l2] [.ref x0] (zSH, I, L, P) Q = zWp d zi_144 none 93 [l0, l1, l2] [va_rf (P x0 0)] (zSH, I, L, P) Q) ∧
    (∀ (d : Nat) (l0 : Value) (l1 : Value) (l2 : Value) (x0 : Nat) (h : zMm) (Q : Option Value → zMm → Prop), zWp d zi_144 none 93 [l0, l1, l2] [.ref x0] h Q = zWp d zi_144 none 95 [l0, l1, l2] [.int 74, .ref x0] h Q) ∧
    (∀ (d : Nat) (l0 : Value) (l1 : Int32) (l2 : Value) (x1 : Int32) (x0 : Nat) (h : zMm) (Q : Option Value → zMm → Prop), zWp d zi_144 none 95 [l0, .int l1, l2] [.int x1, .ref x0] h Q = zWp d zi_144 none 96 [l0, .int l1, l2] [.int l1, .int x1, .ref x0] h Q) ∧
    (∀ (d : Nat) (l0 : Value) (l1 : Value) (l2 : Value) (x2 : Int32) (x1 : Int32) (x0 : Nat) (h : zMm) (Q : Option Value → zMm → Prop), zWp d zi_144 none 96 [l0, l1, l2] [.int x2, .int x1, .ref x0] h Q = zWp d zi_144 none 97 [l0, l1, l2] [.int (x1 + x2), .ref x0] h Q) ∧
    (∀ (d : Nat) (l0 : Value) (l1 : Value) (l2 : Value) (x1 : Int32) (x0 : Nat) (I : Nat → Nat → Int32) (L : Nat → Nat → Int64) (P : Nat → Nat → Option Nat) (Q : Option Value → zMm → Prop), zAk zSH x0 = some .int → zWp d zi_144 none 97 [l0, l1, l2] [.int x1, .ref x0] (zSH, I, L, P) Q = (vp_in x1 (zAn zSH x0) ∧ zWp d zi_144 none 98 [l0, l1, l2] [.int (I x0 x1.toNatClampNeg)] (zSH, I, L, P) Q)) ∧
    (∀ (d : Nat) (l0 : Value) (l1 : Value) (l2 : Value) (x0 : Int32) (h : zMm) (Q : Option Value → zMm → Prop), zWp d zi_144 none 98 [l0, l1, l2] [.int x0] h Q = Q (some (.int x0)) h) ∧
    (∀ (d : Nat) (l0 : Value) (l1 : Int32) (l2 : Value)  (h : zMm) (Q : Option Value → zMm → Prop), zWp d zi_144 none 99 [l0, .int l1, l2] [] h Q = zWp d zi_144 none 100 [l0, .int l1, l2] [.int l1] h Q) ∧
    (∀ (d : Nat) (l0 : Value) (l1 : Value) (l2 : Value) (x0 : Int32) (h : zMm) (Q : Option Value → zMm → Prop), zWp d zi_144 none 100 [l0, l1, l2] [.int x0] h Q = if x0 = 0 then zWp d zi_144 none 103 [l0, l1, l2] [] h Q else zWp d zi_144 none 125 [l0, l1, l2] [] h Q) ∧
    (∀ (d : Nat) (l0 : Value) (l1 : Value) (l2 : Int32)  (h : zMm) (Q : Option Value → zMm → Prop), zWp d zi_144 none 103 [l0, l1, .int l2] [] h Q = zWp d zi_144 none 104 [l0, l1, .int l2] [.int l2] h Q) ∧
    (∀ (d : Nat) (l0 : Value) (l1 : Value) (l2 : Value) (x0 : Int32) (h : zMm) (Q : Option Value → zMm → Prop), zWp d zi_144 none 104 [l0, l1, l2] [.int x0] h Q = zWp d zi_144 none 105 [l0, l1, l2] [.long x0.toInt64] h Q) ∧
    (∀ (d : Nat) (l0 : Value) (l1 : Value) (l2 : Value) (x0 : Int64) (h : zMm) (Q : Option Value → zMm → Prop), zWp d zi_144 none 105 [l0, l1, l2] [.long x0] h Q = zWp d zi_144 none 108 [l0, l1, l2] [.long 20, .long x0] h Q) ∧
    (∀ (d : Nat) (l0 : Value) (l1 : Value) (l2 : Value) (x1 : Int64) (x0 : Int64) (h : zMm) (Q : Option Value → zMm → Prop), zWp d zi_144 none 108 [l0, l1, l2] [.long x1, .long x0] h Q = zWp d zi_144 none 111 [l0, l1, l2] [.long 28, .long x1, .long x0] h Q) ∧
    (∀ (d : Nat) (l0 : Value) (l1 : Value) (l2 : Value) (x2 : Int64) (x1 : Int64) (x0 : Int64) (h : zMm) (Q : Option Value → zMm → Prop), zWp d zi_144 none 111 [l0, l1, l2] [.long x2, .long x1, .long x0] h Q = zWM d 122 [.long x0, .long x1, .long x2] h (fun r h1 => zWp d zi_144 none 114 [l0, l1, l2] (r.toList ++ []) h1 Q)) ∧
    (∀ (d : Nat) (l0 : Value) (l1 : Value) (l2 : Value) (x0 : Int32) (h : zMm) (Q : Option Value → zMm → Prop), zWp d zi_144 none 114 [l0, l1, l2] [.int x0] h Q = if x0 = 0 then zWp d zi_144 none 125 [l0, l1, l2] [] h Q else zWp d zi_144 none 117 [l0, l1, l2] [] h Q) ∧
    (∀ (d : Nat) (l0 : Nat) (l1 : Value) (l2 : Value)  (h : zMm) (Q : Option Value → zMm → Prop), zWp d zi_144 none 117 [.ref l0, l1, l2] [] h Q = zWp d zi_144 none 118 [.ref l0, l1, l2] [.ref l0] h Q) ∧
    (∀ (d : Nat) (l0 : Value) (l1 : Value) (l2 : Int32) (x0 : Nat) (h : zMm) (Q : Option Value → zMm → Prop), zWp d zi_144 none 118 [l0, l1, .int l2] [.ref x0] h Q = zWp d zi_144 none 119 [l0, l1, .int l2] [.int l2, .ref x0] h Q) ∧
    (∀ (d : Nat) (l0 : Value) (l1 : Value) (l2 : Value) (x1 : Int32) (x0 : Nat) (I : Nat → Nat → Int32) (L : Nat → Nat → Int64) (P : Nat → Nat → Option Nat) (Q : Option Value → zMm → Prop), zSH[x0]? = some (.inl 10) → zWp d zi_144 none 119 [l0, l1, l2] [.int x1, .ref x0] (zSH, I, L, P) Q = zWM d 142 [.ref x0, .int x1] (zSH, I, L, P) (fun r h1 => zWp d zi_144 none 122 [l0, l1, l2] (r.toList ++ []) h1 Q)) ∧
    (∀ (d : Nat) (l0 : Value) (l1 : Value) (l2 : Value) (x0 : Int32) (h : zMm) (Q : Option Value → zMm → Prop), zWp d zi_144 none 122 [l0, l1, l2] [.int x0] h Q = zWp d zi_144 none 127 [l0, l1, l2] [.int x0] h Q) ∧
    (∀ (d : Nat) (l0 : Value) (l1 : Value) (l2 : Value)  (h : zMm) (Q : Option Value → zMm → Prop), zWp d zi_144 none 125 [l0, l1, l2] [] h Q = zWp d zi_144 none 127 [l0, l1, l2] [.int (-2000000000)] h Q) ∧
    (∀ (d : Nat) (l0 : Value) (l1 : Value) (l2 : Value) (x0 : Int32) (h : zMm) (Q : Option Value → zMm → Prop), zWp d zi_144 none 127 [l0, l1, l2] [.int x0] h Q = Q (some (.int x0)) h) :=
  ⟨(fun d l0 l1 l2  h Q => zr_iload_n rfl rfl),
   (fun d l0 l1 l2 x0 h Q => zr_i2l rfl),
   (fun d l0 l1 l2 x0 h Q => zr_lconst rfl (by decide)),
   (fun d l0 l1 l2 x1 x0 h Q => zr_ldc2_w rfl lj_10_175),
   (fun d l0 l1 l2 x2 x1 x0 h Q => zr_sta (as := [.long x2, .long x1, .long x0]) (rest := []) rfl lm_10_110 (by decide) m_122 kd_122 rfl (Nat.le_of_ble_eq_true rfl)),
   (fun d l0 l1 l2 x0 h Q => zr_if_eq rfl (by decide)),
   (fun d l0 l1 l2  h Q => zr_aload_n rfl rfl),
   (fun d l0 l1 l2 x0 h Q => zr_iload_n rfl rfl),
   (fun d l0 l1 l2 x1 x0 I L P Q p0 => zr_vir (as := [.int x1]) (rest := []) rfl lm_10_142 m_130 kd_130 rfl (Nat.le_of_ble_eq_true rfl) p0),
   (fun d l0 l1 l2 x0 h Q => zr_if_eq rfl (by decide)),
   (fun d l0 l1 l2  h Q => zr_aload_n rfl rfl),
   (fun d l0 l1 l2 x0 h Q => zr_iload_n rfl rfl),
   (fun d l0 l1 l2 x1 x0 h Q => zr_iload_n rfl rfl),
   (fun d l0 l1 l2 x2 x1 x0 I L P Q p0 => zr_vir (as := [.int x2, .int x1]) (rest := []) rfl lm_10_177 m_141 kd_141 rfl (Nat.le_of_ble_eq_true rfl) p0),
   (fun d l0 l1 l2 x0 h Q => zr_goto rfl (by decide)),
   (fun d l0 l1 l2  h Q => zr_ldc rfl lk_10_149),
   (fun d l0 l1 l2 x0 h Q => zr_iret rfl rfl),
   (fun d l0 l1 l2  h Q => zr_iload_n rfl rfl),
   (fun d l0 l1 l2 x0 h Q => zr_i2l rfl),
   (fun d l0 l1 l2 x0 h Q => zr_ldc2_w rfl lj_10_180),
   (fun d l0 l1 l2 x1 x0 h Q => zr_ldc2_w rfl lj_10_157),
   (fun d l0 l1 l2 x2 x1 x0 h Q => zr_sta (as := [.long x2, .long x1, .long x0]) (rest := []) rfl lm_10_110 (by decide) m_122 kd_122 rfl (Nat.le_of_ble_eq_true rfl)),
   (fun d l0 l1 l2 x0 h Q => zr_if_eq rfl (by decide)),
   (fun d l0 l1 l2  h Q => zr_aload_n rfl rfl),
   (fun d l0 l1 l2 x0 h Q => zr_iload_n rfl rfl),
   (fun d l0 l1 l2 x1 x0 I L P Q p0 => zr_vir (as := [.int x1]) (rest := []) rfl lm_10_152 m_131 kd_131 rfl (Nat.le_of_ble_eq_true rfl) p0),
   (fun d l0 l1 l2 x0 h Q => zr_if_ne rfl (by decide)),
   (fun d l0 l1 l2  h Q => zr_ldc rfl lk_10_149),
   (fun d l0 l1 l2 x0 h Q => zr_goto rfl (by decide)),
   (fun d l0 l1 l2  h Q => zr_iload_n rfl rfl),
   (fun d l0 l1 l2 x0 h Q => zr_bipush rfl (by decide)),
   (fun d l0 l1 l2 x1 x0 h Q => zr_ic_ne rfl (by decide)),
   (fun d l0 l1 l2  h Q => zr_aload_n rfl rfl),
   (fun d l0 l1 l2 x0 I L P Q p0 => zr_getQ rfl lf_10_25 (fun _ _ _ => rfl) p0),
   (fun d l0 l1 l2 x0 h Q => zr_iload_n rfl rfl),
   (fun d l0 l1 l2 x1 x0 I L P Q p0 => zr_ald rfl p0),
   (fun d l0 l1 l2 x0 h Q => zr_goto rfl (by decide)),
   (fun d l0 l1 l2  h Q => zr_iload_n rfl rfl),
   (fun d l0 l1 l2 x0 h Q => zr_bipush rfl (by decide)),
   (fun d l0 l1 l2 x1 x0 h Q => zr_ic_ne rfl (by decide)),
   (fun d l0 l1 l2  h Q => zr_aload_n rfl rfl),
   (fun d l0 l1 l2 x0 I L P Q p0 => zr_getQ rfl lf_10_28 (fun _ _ _ => rfl) p0),
   (fun d l0 l1 l2 x0 h Q => zr_iload_n rfl rfl),
   (fun d l0 l1 l2 x1 x0 I L P Q p0 => zr_ald rfl p0),
   (fun d l0 l1 l2 x0 h Q => zr_goto rfl (by decide)),
   (fun d l0 l1 l2  h Q => zr_aload_n rfl rfl),
   (fun d l0 l1 l2 x0 I L P Q p0 => zr_getQ rfl lf_10_9 (fun _ _ _ => rfl) p0),
   (fun d l0 l1 l2 x0 h Q => zr_bipush rfl (by decide)),
   (fun d l0 l1 l2 x1 x0 h Q => zr_iload_n rfl rfl),
   (fun d l0 l1 l2 x2 x1 x0 h Q => zr_iadd rfl),
   (fun d l0 l1 l2 x1 x0 I L P Q p0 => zr_ald rfl p0),
   (fun d l0 l1 l2 x0 h Q => zr_iret rfl rfl),
   (fun d l0 l1 l2  h Q => zr_iload_n rfl rfl),
   (fun d l0 l1 l2 x0 h Q => zr_if_ne rfl (by decide)),
   (fun d l0 l1 l2  h Q => zr_iload_n rfl rfl),
   (fun d l0 l1 l2 x0 h Q => zr_i2l rfl),
   (fun d l0 l1 l2 x0 h Q => zr_ldc2_w rfl lj_10_182),
   (fun d l0 l1 l2 x1 x0 h Q => zr_ldc2_w rfl lj_10_184),
   (fun d l0 l1 l2 x2 x1 x0 h Q => zr_sta (as := [.long x2, .long x1, .long x0]) (rest := []) rfl lm_10_110 (by decide) m_122 kd_122 rfl (Nat.le_of_ble_eq_true rfl)),
   (fun d l0 l1 l2 x0 h Q => zr_if_eq rfl (by decide)),
   (fun d l0 l1 l2  h Q => zr_aload_n rfl rfl),
   (fun d l0 l1 l2 x0 h Q => zr_iload_n rfl rfl),
   (fun d l0 l1 l2 x1 x0 I L P Q p0 => zr_vir (as := [.int x1]) (rest := []) rfl lm_10_186 m_142 kd_142 rfl (Nat.le_of_ble_eq_true rfl) p0),
   (fun d l0 l1 l2 x0 h Q => zr_goto rfl (by decide)),
   (fun d l0 l1 l2  h Q => zr_ldc rfl lk_10_149),
   (fun d l0 l1 l2 x0 h Q => zr_iret rfl rfl)⟩
theorem E_X10_feed : ∀ (d : Nat) (a0 : Nat) (a1 : Int32) (h : zMm) (Q : Option Value → zMm → Prop), zWM (d + 1) 145 [.ref a0, .int a1] h Q = zWp d zi_145 none 0 [.ref a0, .int a1] [] h Q := fun d a0 a1 h Q => zW_M m_145 (Nat.le_of_ble_eq_true rfl) rfl
set_option maxRecDepth 100000 in
theorem R_X10_feed :
    (∀ (d : Nat) (l0 : Value) (l1 : Int32)  (h : zMm) (Q : Option Value → zMm → Prop), zWp d zi_145 none 0 [l0, .int l1] [] h Q = zWp d zi_145 none 1 [l0, .int l1] [.int l1] h Q) ∧
    (∀ (d : Nat) (l0 : Value) (l1 : Value) (x0 : Int32) (h : zMm) (Q : Option Value → zMm → Prop), zWp d zi_145 none 1 [l0, l1] [.int x0] h Q = zWp d zi_145 none 2 [l0, l1] [.long x0.toInt64] h Q) ∧
    (∀ (d : Nat) (l0 : Value) (l1 : Value) (x0 : Int64) (h : zMm) (Q : Option Value → zMm → Prop), zWp d zi_145 none 2 [l0, l1] [.long x0] h Q = zWp d zi_145 none 3 [l0, l1] [.long 0, .long x0] h Q) ∧
    (∀ (d : Nat) (l0 : Value) (l1 : Value) (x1 : Int64) (x0 : Int64) (h : zMm) (Q : Option Value → zMm → Prop), zWp d zi_145 none 3 [l0, l1] [.long x1, .long x0] h Q = zWp d zi_145 none 6 [l0, l1] [.long 255, .long x1, .long x0] h Q) ∧
    (∀ (d : Nat) (l0 : Value) (l1 : Value) (x2 : Int64) (x1 : Int64) (x0 : Int64) (h : zMm) (Q : Option Value → zMm → Prop), zWp d zi_145 none 6 [l0, l1] [.long x2, .long x1, .long x0] h Q = zWM d 122 [.long x0, .long x1, .long x2] h (fun r h1 => zWp d zi_145 none 9 [l0, l1] (r.toList ++ []) h1 Q)) ∧
    (∀ (d : Nat) (l0 : Value) (l1 : Value) (x0 : Int32) (h : zMm) (Q : Option Value → zMm → Prop), zWp d zi_145 none 9 [l0, l1] [.int x0] h Q = if x0 = 0 then zWp d zi_145 none 12 [l0, l1] [] h Q else zWp d zi_145 none 14 [l0, l1] [] h Q) ∧
    (∀ (d : Nat) (l0 : Value) (l1 : Value)  (h : zMm) (Q : Option Value → zMm → Prop), zWp d zi_145 none 12 [l0, l1] [] h Q = zWp d zi_145 none 13 [l0, l1] [.int (-1)] h Q) ∧
    (∀ (d : Nat) (l0 : Value) (l1 : Value) (x0 : Int32) (h : zMm) (Q : Option Value → zMm → Prop), zWp d zi_145 none 13 [l0, l1] [.int x0] h Q = Q (some (.int x0)) h) ∧
    (∀ (d : Nat) (l0 : Nat) (l1 : Value)  (h : zMm) (Q : Option Value → zMm → Prop), zWp d zi_145 none 14 [.ref l0, l1] [] h Q = zWp d zi_145 none 15 [.ref l0, l1] [.ref l0] h Q) ∧
    (∀ (d : Nat) (l0 : Value) (l1 : Value) (x0 : Nat) (I : Nat → Nat → Int32) (L : Nat → Nat → Int64) (P : Nat → Nat → Option Nat) (Q : Option Value → zMm → Prop), zSH[x0]? = some (.inl 10) → zWp d zi_145 none 15 [l0, l1] [.ref x0] (zSH, I, L, P) Q = zWp d zi_145 none 18 [l0, l1] [.int (I x0 14)] (zSH, I, L, P) Q) ∧
    (∀ (d : Nat) (l0 : Value) (l1 : Value) (x0 : Int32) (h : zMm) (Q : Option Value → zMm → Prop), zWp d zi_145 none 18 [l0, l1] [.int x0] h Q = zWp d zi_145 none 20 [l0, l1] [.int 120, .int x0] h Q) ∧
    (∀ (d : Nat) (l0 : Value) (l1 : Value) (x1 : Int32) (x0 : Int32) (h : zMm) (Q : Option Value → zMm → Prop), zWp d zi_145 none 20 [l0, l1] [.int x1, .int x0] h Q = if x0 = x1 then zWp d zi_145 none 23 [l0, l1] [] h Q else zWp d zi_145 none 26 [l0, l1] [] h Q) ∧
    (∀ (d : Nat) (l0 : Value) (l1 : Value)  (h : zMm) (Q : Option Value → zMm → Prop), zWp d zi_145 none 23 [l0, l1] [] h Q = zWp d zi_145 none 25 [l0, l1] [.int (-3)] h Q) ∧
    (∀ (d : Nat) (l0 : Value) (l1 : Value) (x0 : Int32) (h : zMm) (Q : Option Value → zMm → Prop), zWp d zi_145 none 25 [l0, l1] [.int x0] h Q = Q (some (.int x0)) h) ∧
    (∀ (d : Nat) (l0 : Nat) (l1 : Value)  (h : zMm) (Q : Option Value → zMm → Prop), zWp d zi_145 none 26 [.ref l0, l1] [] h Q = zWp d zi_145 none 27 [.ref l0, l1] [.ref l0] h Q) ∧
    (∀ (d : Nat) (l0 : Value) (l1 : Value) (x0 : Nat) (I : Nat → Nat → Int32) (L : Nat → Nat → Int64) (P : Nat → Nat → Option Nat) (Q : Option Value → zMm → Prop), zSH[x0]? = some (.inl 10) → zWp d zi_145 none 27 [l0, l1] [.ref x0] (zSH, I, L, P) Q = zWp d zi_145 none 30 [l0, l1] [va_rf (P x0 13)] (zSH, I, L, P) Q) ∧
    (∀ (d : Nat) (l0 : Nat) (l1 : Value) (x0 : Nat) (h : zMm) (Q : Option Value → zMm → Prop), zWp d zi_145 none 30 [.ref l0, l1] [.ref x0] h Q = zWp d zi_145 none 31 [.ref l0, l1] [.ref l0, .ref x0] h Q) ∧
    (∀ (d : Nat) (l0 : Value) (l1 : Value) (x1 : Nat) (x0 : Nat) (I : Nat → Nat → Int32) (L : Nat → Nat → Int64) (P : Nat → Nat → Option Nat) (Q : Option Value → zMm → Prop), zSH[x1]? = some (.inl 10) → zWp d zi_145 none 31 [l0, l1] [.ref x1, .ref x0] (zSH, I, L, P) Q = zWp d zi_145 none 34 [l0, l1] [.int (I x1 14), .ref x0] (zSH, I, L, P) Q) ∧
    (∀ (d : Nat) (l0 : Value) (l1 : Int32) (x1 : Int32) (x0 : Nat) (h : zMm) (Q : Option Value → zMm → Prop), zWp d zi_145 none 34 [l0, .int l1] [.int x1, .ref x0] h Q = zWp d zi_145 none 35 [l0, .int l1] [.int l1, .int x1, .ref x0] h Q) ∧
    (∀ (d : Nat) (l0 : Value) (l1 : Value) (x2 : Int32) (x1 : Int32) (x0 : Nat) (I : Nat → Nat → Int32) (L : Nat → Nat → Int64) (P : Nat → Nat → Option Nat) (Q : Option Value → zMm → Prop), zAk zSH x0 = some .int → zWp d zi_145 none 35 [l0, l1] [.int x2, .int x1, .ref x0] (zSH, I, L, P) Q = (vp_in x1 (zAn zSH x0) ∧ zWp d zi_145 none 36 [l0, l1] [] (zSH, zw I x0 (upd (I x0) x1.toNatClampNeg x2), L, P) Q)) ∧
    (∀ (d : Nat) (l0 : Nat) (l1 : Value)  (h : zMm) (Q : Option Value → zMm → Prop), zWp d zi_145 none 36 [.ref l0, l1] [] h Q = zWp d zi_145 none 37 [.ref l0, l1] [.ref l0] h Q) ∧
    (∀ (d : Nat) (l0 : Value) (l1 : Value) (x0 : Nat) (h : zMm) (Q : Option Value → zMm → Prop), zWp d zi_145 none 37 [l0, l1] [.ref x0] h Q = zWp d zi_145 none 38 [l0, l1] [.ref x0, .ref x0] h Q) ∧
    (∀ (d : Nat) (l0 : Value) (l1 : Value) (x1 : Nat) (x0 : Nat) (I : Nat → Nat → Int32) (L : Nat → Nat → Int64) (P : Nat → Nat → Option Nat) (Q : Option Value → zMm → Prop), zSH[x1]? = some (.inl 10) → zWp d zi_145 none 38 [l0, l1] [.ref x1, .ref x0] (zSH, I, L, P) Q = zWp d zi_145 none 41 [l0, l1] [.int (I x1 14), .ref x0] (zSH, I, L, P) Q) ∧
    (∀ (d : Nat) (l0 : Value) (l1 : Value) (x1 : Int32) (x0 : Nat) (h : zMm) (Q : Option Value → zMm → Prop), zWp d zi_145 none 41 [l0, l1] [.int x1, .ref x0] h Q = zWp d zi_145 none 42 [l0, l1] [.int 1, .int x1, .ref x0] h Q) ∧
    (∀ (d : Nat) (l0 : Value) (l1 : Value) (x2 : Int32) (x1 : Int32) (x0 : Nat) (h : zMm) (Q : Option Value → zMm → Prop), zWp d zi_145 none 42 [l0, l1] [.int x2, .int x1, .ref x0] h Q = zWp d zi_145 none 43 [l0, l1] [.int (x1 + x2), .ref x0] h Q) ∧
    (∀ (d : Nat) (l0 : Value) (l1 : Value) (x1 : Int32) (x0 : Nat) (I : Nat → Nat → Int32) (L : Nat → Nat → Int64) (P : Nat → Nat → Option Nat) (Q : Option Value → zMm → Prop), zSH[x0]? = some (.inl 10) → zWp d zi_145 none 43 [l0, l1] [.int x1, .ref x0] (zSH, I, L, P) Q = zWp d zi_145 none 46 [l0, l1] [] (zSH, zw I x0 (upd (I x0) 14 x1), L, P) Q) ∧
    (∀ (d : Nat) (l0 : Nat) (l1 : Value)  (h : zMm) (Q : Option Value → zMm → Prop), zWp d zi_145 none 46 [.ref l0, l1] [] h Q = zWp d zi_145 none 47 [.ref l0, l1] [.ref l0] h Q) ∧
    (∀ (d : Nat) (l0 : Value) (l1 : Value) (x0 : Nat) (I : Nat → Nat → Int32) (L : Nat → Nat → Int64) (P : Nat → Nat → Option Nat) (Q : Option Value → zMm → Prop), zSH[x0]? = some (.inl 10) → zWp d zi_145 none 47 [l0, l1] [.ref x0] (zSH, I, L, P) Q = zWp d zi_145 none 50 [l0, l1] [.int (I x0 14)] (zSH, I, L, P) Q) ∧
    (∀ (d : Nat) (l0 : Value) (l1 : Value) (x0 : Int32) (h : zMm) (Q : Option Value → zMm → Prop), zWp d zi_145 none 50 [l0, l1] [.int x0] h Q = Q (some (.int x0)) h) :=
  ⟨(fun d l0 l1  h Q => zr_iload_n rfl rfl),
   (fun d l0 l1 x0 h Q => zr_i2l rfl),
   (fun d l0 l1 x0 h Q => zr_lconst rfl (by decide)),
   (fun d l0 l1 x1 x0 h Q => zr_ldc2_w rfl lj_10_189),
   (fun d l0 l1 x2 x1 x0 h Q => zr_sta (as := [.long x2, .long x1, .long x0]) (rest := []) rfl lm_10_110 (by decide) m_122 kd_122 rfl (Nat.le_of_ble_eq_true rfl)),
   (fun d l0 l1 x0 h Q => zr_if_ne rfl (by decide)),
   (fun d l0 l1  h Q => zr_iconst rfl (by decide)),
   (fun d l0 l1 x0 h Q => zr_iret rfl rfl),
   (fun d l0 l1  h Q => zr_aload_n rfl rfl),
   (fun d l0 l1 x0 I L P Q p0 => zr_getI rfl lf_10_191 (fun _ _ _ => rfl) p0),
   (fun d l0 l1 x0 h Q => zr_bipush rfl (by decide)),
   (fun d l0 l1 x1 x0 h Q => zr_ic_ne rfl (by decide)),
   (fun d l0 l1  h Q => zr_bipush rfl (by decide)),
   (fun d l0 l1 x0 h Q => zr_iret rfl rfl),
   (fun d l0 l1  h Q => zr_aload_n rfl rfl),
   (fun d l0 l1 x0 I L P Q p0 => zr_getQ rfl lf_10_31 (fun _ _ _ => rfl) p0),
   (fun d l0 l1 x0 h Q => zr_aload_n rfl rfl),
   (fun d l0 l1 x1 x0 I L P Q p0 => zr_getI rfl lf_10_191 (fun _ _ _ => rfl) p0),
   (fun d l0 l1 x1 x0 h Q => zr_iload_n rfl rfl),
   (fun d l0 l1 x2 x1 x0 I L P Q p0 => zr_ast rfl p0),
   (fun d l0 l1  h Q => zr_aload_n rfl rfl),
   (fun d l0 l1 x0 h Q => zr_dup rfl rfl),
   (fun d l0 l1 x1 x0 I L P Q p0 => zr_getI rfl lf_10_191 (fun _ _ _ => rfl) p0),
   (fun d l0 l1 x1 x0 h Q => zr_iconst rfl (by decide)),
   (fun d l0 l1 x2 x1 x0 h Q => zr_iadd rfl),
   (fun d l0 l1 x1 x0 I L P Q p0 => zr_putI rfl lf_10_191 (by decide) rfl p0),
   (fun d l0 l1  h Q => zr_aload_n rfl rfl),
   (fun d l0 l1 x0 I L P Q p0 => zr_getI rfl lf_10_191 (fun _ _ _ => rfl) p0),
   (fun d l0 l1 x0 h Q => zr_iret rfl rfl)⟩
theorem E_X10_byteAt : ∀ (d : Nat) (a0 : Nat) (h : zMm) (Q : Option Value → zMm → Prop), zWM (d + 1) 146 [.ref a0] h Q = zWp d zi_146 none 0 [.ref a0] [] h Q := fun d a0 h Q => zW_M m_146 (Nat.le_of_ble_eq_true rfl) rfl
set_option maxRecDepth 100000 in
theorem R_X10_byteAt :
    (∀ (d : Nat) (l0 : Nat)  (h : zMm) (Q : Option Value → zMm → Prop), zWp d zi_146 none 0 [.ref l0] [] h Q = zWp d zi_146 none 1 [.ref l0] [.ref l0] h Q) ∧
    (∀ (d : Nat) (l0 : Value) (x0 : Nat) (I : Nat → Nat → Int32) (L : Nat → Nat → Int64) (P : Nat → Nat → Option Nat) (Q : Option Value → zMm → Prop), zSH[x0]? = some (.inl 10) → zWp d zi_146 none 1 [l0] [.ref x0] (zSH, I, L, P) Q = zWp d zi_146 none 4 [l0] [.int (I x0 18)] (zSH, I, L, P) Q) ∧
    (∀ (d : Nat) (l0 : Nat) (x0 : Int32) (h : zMm) (Q : Option Value → zMm → Prop), zWp d zi_146 none 4 [.ref l0] [.int x0] h Q = zWp d zi_146 none 5 [.ref l0] [.ref l0, .int x0] h Q) ∧
    (∀ (d : Nat) (l0 : Value) (x1 : Nat) (x0 : Int32) (I : Nat → Nat → Int32) (L : Nat → Nat → Int64) (P : Nat → Nat → Option Nat) (Q : Option Value → zMm → Prop), zSH[x1]? = some (.inl 10) → zWp d zi_146 none 5 [l0] [.ref x1, .int x0] (zSH, I, L, P) Q = zWp d zi_146 none 8 [l0] [.int (I x1 19), .int x0] (zSH, I, L, P) Q) ∧
    (∀ (d : Nat) (l0 : Value) (x1 : Int32) (x0 : Int32) (h : zMm) (Q : Option Value → zMm → Prop), zWp d zi_146 none 8 [l0] [.int x1, .int x0] h Q = if x1 ≤ x0 then zWp d zi_146 none 47 [l0] [] h Q else zWp d zi_146 none 11 [l0] [] h Q) ∧
    (∀ (d : Nat) (l0 : Nat)  (h : zMm) (Q : Option Value → zMm → Prop), zWp d zi_146 none 11 [.ref l0] [] h Q = zWp d zi_146 none 12 [.ref l0] [.ref l0] h Q) ∧
    (∀ (d : Nat) (l0 : Value) (x0 : Nat) (I : Nat → Nat → Int32) (L : Nat → Nat → Int64) (P : Nat → Nat → Option Nat) (Q : Option Value → zMm → Prop), zSH[x0]? = some (.inl 10) → zWp d zi_146 none 12 [l0] [.ref x0] (zSH, I, L, P) Q = zWp d zi_146 none 15 [l0] [.int (I x0 17)] (zSH, I, L, P) Q) ∧
    (∀ (d : Nat) (l0 : Value) (x0 : Int32) (h : zMm) (Q : Option Value → zMm → Prop), zWp d zi_146 none 15 [l0] [.int x0] h Q = if 0 ≤ x0 then zWp d zi_146 none 30 [l0] [] h Q else zWp d zi_146 none 18 [l0] [] h Q) ∧
    (∀ (d : Nat) (l0 : Nat)  (h : zMm) (Q : Option Value → zMm → Prop), zWp d zi_146 none 18 [.ref l0] [] h Q = zWp d zi_146 none 19 [.ref l0] [.ref l0] h Q) ∧
    (∀ (d : Nat) (l0 : Value) (x0 : Nat) (I : Nat → Nat → Int32) (L : Nat → Nat → Int64) (P : Nat → Nat → Option Nat) (Q : Option Value → zMm → Prop), zSH[x0]? = some (.inl 10) → zWp d zi_146 none 19 [l0] [.ref x0] (zSH, I, L, P) Q = zWp d zi_146 none 22 [l0] [va_rf (P x0 13)] (zSH, I, L, P) Q) ∧
    (∀ (d : Nat) (l0 : Nat) (x0 : Nat) (h : zMm) (Q : Option Value → zMm → Prop), zWp d zi_146 none 22 [.ref l0] [.ref x0] h Q = zWp d zi_146 none 23 [.ref l0] [.ref l0, .ref x0] h Q) ∧
    (∀ (d : Nat) (l0 : Value) (x1 : Nat) (x0 : Nat) (I : Nat → Nat → Int32) (L : Nat → Nat → Int64) (P : Nat → Nat → Option Nat) (Q : Option Value → zMm → Prop), zSH[x1]? = some (.inl 10) → zWp d zi_146 none 23 [l0] [.ref x1, .ref x0] (zSH, I, L, P) Q = zWp d zi_146 none 26 [l0] [.int (I x1 18), .ref x0] (zSH, I, L, P) Q) ∧
    (∀ (d : Nat) (l0 : Value) (x1 : Int32) (x0 : Nat) (I : Nat → Nat → Int32) (L : Nat → Nat → Int64) (P : Nat → Nat → Option Nat) (Q : Option Value → zMm → Prop), zAk zSH x0 = some .int → zWp d zi_146 none 26 [l0] [.int x1, .ref x0] (zSH, I, L, P) Q = (vp_in x1 (zAn zSH x0) ∧ zWp d zi_146 none 27 [l0] [.int (I x0 x1.toNatClampNeg)] (zSH, I, L, P) Q)) ∧
    (∀ (d : Nat) (l0 : Value) (x0 : Int32) (h : zMm) (Q : Option Value → zMm → Prop), zWp d zi_146 none 27 [l0] [.int x0] h Q = zWp d zi_146 none 48 [l0] [.int x0] h Q) ∧
    (∀ (d : Nat) (l0 : Nat)  (h : zMm) (Q : Option Value → zMm → Prop), zWp d zi_146 none 30 [.ref l0] [] h Q = zWp d zi_146 none 31 [.ref l0] [.ref l0] h Q) ∧
    (∀ (d : Nat) (l0 : Value) (x0 : Nat) (I : Nat → Nat → Int32) (L : Nat → Nat → Int64) (P : Nat → Nat → Option Nat) (Q : Option Value → zMm → Prop), zSH[x0]? = some (.inl 10) → zWp d zi_146 none 31 [l0] [.ref x0] (zSH, I, L, P) Q = zWp d zi_146 none 34 [l0] [va_rf (P x0 15)] (zSH, I, L, P) Q) ∧
    (∀ (d : Nat) (l0 : Nat) (x0 : Nat) (h : zMm) (Q : Option Value → zMm → Prop), zWp d zi_146 none 34 [.ref l0] [.ref x0] h Q = zWp d zi_146 none 35 [.ref l0] [.ref l0, .ref x0] h Q) ∧
    (∀ (d : Nat) (l0 : Value) (x1 : Nat) (x0 : Nat) (I : Nat → Nat → Int32) (L : Nat → Nat → Int64) (P : Nat → Nat → Option Nat) (Q : Option Value → zMm → Prop), zSH[x1]? = some (.inl 10) → zWp d zi_146 none 35 [l0] [.ref x1, .ref x0] (zSH, I, L, P) Q = zWp d zi_146 none 38 [l0] [.int (I x1 17), .ref x0] (zSH, I, L, P) Q) ∧
    (∀ (d : Nat) (l0 : Nat) (x1 : Int32) (x0 : Nat) (h : zMm) (Q : Option Value → zMm → Prop), zWp d zi_146 none 38 [.ref l0] [.int x1, .ref x0] h Q = zWp d zi_146 none 39 [.ref l0] [.ref l0, .int x1, .ref x0] h Q) ∧
    (∀ (d : Nat) (l0 : Value) (x2 : Nat) (x1 : Int32) (x0 : Nat) (I : Nat → Nat → Int32) (L : Nat → Nat → Int64) (P : Nat → Nat → Option Nat) (Q : Option Value → zMm → Prop), zSH[x2]? = some (.inl 10) → zWp d zi_146 none 39 [l0] [.ref x2, .int x1, .ref x0] (zSH, I, L, P) Q = zWp d zi_146 none 42 [l0] [.int (I x2 18), .int x1, .ref x0] (zSH, I, L, P) Q) ∧
    (∀ (d : Nat) (l0 : Value) (x2 : Int32) (x1 : Int32) (x0 : Nat) (h : zMm) (Q : Option Value → zMm → Prop), zWp d zi_146 none 42 [l0] [.int x2, .int x1, .ref x0] h Q = zWp d zi_146 none 43 [l0] [.int (x1 + x2), .ref x0] h Q) ∧
    (∀ (d : Nat) (l0 : Value) (x1 : Int32) (x0 : Nat) (I : Nat → Nat → Int32) (L : Nat → Nat → Int64) (P : Nat → Nat → Option Nat) (Q : Option Value → zMm → Prop), zAk zSH x0 = some .int → zWp d zi_146 none 43 [l0] [.int x1, .ref x0] (zSH, I, L, P) Q = (vp_in x1 (zAn zSH x0) ∧ zWp d zi_146 none 44 [l0] [.int (I x0 x1.toNatClampNeg)] (zSH, I, L, P) Q)) ∧
    (∀ (d : Nat) (l0 : Value) (x0 : Int32) (h : zMm) (Q : Option Value → zMm → Prop), zWp d zi_146 none 44 [l0] [.int x0] h Q = zWp d zi_146 none 48 [l0] [.int x0] h Q) ∧
    (∀ (d : Nat) (l0 : Value)  (h : zMm) (Q : Option Value → zMm → Prop), zWp d zi_146 none 47 [l0] [] h Q = zWp d zi_146 none 48 [l0] [.int 0] h Q) ∧
    (∀ (d : Nat) (l0 : Value) (x0 : Int32) (h : zMm) (Q : Option Value → zMm → Prop), zWp d zi_146 none 48 [l0] [.int x0] h Q = Q (some (.int x0)) h) :=
  ⟨(fun d l0  h Q => zr_aload_n rfl rfl),
   (fun d l0 x0 I L P Q p0 => zr_getI rfl lf_10_194 (fun _ _ _ => rfl) p0),
   (fun d l0 x0 h Q => zr_aload_n rfl rfl),
   (fun d l0 x1 x0 I L P Q p0 => zr_getI rfl lf_10_197 (fun _ _ _ => rfl) p0),
   (fun d l0 x1 x0 h Q => zr_ic_ge rfl (by decide)),
   (fun d l0  h Q => zr_aload_n rfl rfl),
   (fun d l0 x0 I L P Q p0 => zr_getI rfl lf_10_200 (fun _ _ _ => rfl) p0),
   (fun d l0 x0 h Q => zr_if_ge rfl (by decide)),
   (fun d l0  h Q => zr_aload_n rfl rfl),
   (fun d l0 x0 I L P Q p0 => zr_getQ rfl lf_10_31 (fun _ _ _ => rfl) p0),
   (fun d l0 x0 h Q => zr_aload_n rfl rfl),
   (fun d l0 x1 x0 I L P Q p0 => zr_getI rfl lf_10_194 (fun _ _ _ => rfl) p0),
   (fun d l0 x1 x0 I L P Q p0 => zr_ald rfl p0),
   (fun d l0 x0 h Q => zr_goto rfl (by decide)),
   (fun d l0  h Q => zr_aload_n rfl rfl),
   (fun d l0 x0 I L P Q p0 => zr_getQ rfl lf_10_34 (fun _ _ _ => rfl) p0),
   (fun d l0 x0 h Q => zr_aload_n rfl rfl),
   (fun d l0 x1 x0 I L P Q p0 => zr_getI rfl lf_10_200 (fun _ _ _ => rfl) p0),
   (fun d l0 x1 x0 h Q => zr_aload_n rfl rfl),
   (fun d l0 x2 x1 x0 I L P Q p0 => zr_getI rfl lf_10_194 (fun _ _ _ => rfl) p0),
   (fun d l0 x2 x1 x0 h Q => zr_iadd rfl),
   (fun d l0 x1 x0 I L P Q p0 => zr_ald rfl p0),
   (fun d l0 x0 h Q => zr_goto rfl (by decide)),
   (fun d l0  h Q => zr_iconst rfl (by decide)),
   (fun d l0 x0 h Q => zr_iret rfl rfl)⟩
theorem E_X10_wrong : ∀ (d : Nat) (a0 : Nat) (h : zMm) (Q : Option Value → zMm → Prop), zWM (d + 1) 147 [.ref a0] h Q = zWp d zi_147 none 0 [.ref a0] [] h Q := fun d a0 h Q => zW_M m_147 (Nat.le_of_ble_eq_true rfl) rfl
set_option maxRecDepth 100000 in
theorem R_X10_wrong :
    (∀ (d : Nat) (l0 : Nat)  (h : zMm) (Q : Option Value → zMm → Prop), zWp d zi_147 none 0 [.ref l0] [] h Q = zWp d zi_147 none 1 [.ref l0] [.ref l0] h Q) ∧
    (∀ (d : Nat) (l0 : Nat) (x0 : Nat) (h : zMm) (Q : Option Value → zMm → Prop), zWp d zi_147 none 1 [.ref l0] [.ref x0] h Q = zWp d zi_147 none 2 [.ref l0] [.ref l0, .ref x0] h Q) ∧
    (∀ (d : Nat) (l0 : Value) (x1 : Nat) (x0 : Nat) (I : Nat → Nat → Int32) (L : Nat → Nat → Int64) (P : Nat → Nat → Option Nat) (Q : Option Value → zMm → Prop), zSH[x1]? = some (.inl 10) → zWp d zi_147 none 2 [l0] [.ref x1, .ref x0] (zSH, I, L, P) Q = zWp d zi_147 none 5 [l0] [.int (I x1 20), .ref x0] (zSH, I, L, P) Q) ∧
    (∀ (d : Nat) (l0 : Value) (x1 : Int32) (x0 : Nat) (h : zMm) (Q : Option Value → zMm → Prop), zWp d zi_147 none 5 [l0] [.int x1, .ref x0] h Q = if 0 ≤ x1 then zWp d zi_147 none 15 [l0] [.ref x0] h Q else zWp d zi_147 none 8 [l0] [.ref x0] h Q) ∧
    (∀ (d : Nat) (l0 : Nat) (x0 : Nat) (h : zMm) (Q : Option Value → zMm → Prop), zWp d zi_147 none 8 [.ref l0] [.ref x0] h Q = zWp d zi_147 none 9 [.ref l0] [.ref l0, .ref x0] h Q) ∧
    (∀ (d : Nat) (l0 : Value) (x1 : Nat) (x0 : Nat) (I : Nat → Nat → Int32) (L : Nat → Nat → Int64) (P : Nat → Nat → Option Nat) (Q : Option Value → zMm → Prop), zSH[x1]? = some (.inl 10) → zWp d zi_147 none 9 [l0] [.ref x1, .ref x0] (zSH, I, L, P) Q = zWp d zi_147 none 12 [l0] [.int (I x1 18), .ref x0] (zSH, I, L, P) Q) ∧
    (∀ (d : Nat) (l0 : Value) (x1 : Int32) (x0 : Nat) (h : zMm) (Q : Option Value → zMm → Prop), zWp d zi_147 none 12 [l0] [.int x1, .ref x0] h Q = zWp d zi_147 none 19 [l0] [.int x1, .ref x0] h Q) ∧
    (∀ (d : Nat) (l0 : Nat) (x0 : Nat) (h : zMm) (Q : Option Value → zMm → Prop), zWp d zi_147 none 15 [.ref l0] [.ref x0] h Q = zWp d zi_147 none 16 [.ref l0] [.ref l0, .ref x0] h Q) ∧
    (∀ (d : Nat) (l0 : Value) (x1 : Nat) (x0 : Nat) (I : Nat → Nat → Int32) (L : Nat → Nat → Int64) (P : Nat → Nat → Option Nat) (Q : Option Value → zMm → Prop), zSH[x1]? = some (.inl 10) → zWp d zi_147 none 16 [l0] [.ref x1, .ref x0] (zSH, I, L, P) Q = zWp d zi_147 none 19 [l0] [.int (I x1 20), .ref x0] (zSH, I, L, P) Q) ∧
    (∀ (d : Nat) (l0 : Value) (x1 : Int32) (x0 : Nat) (I : Nat → Nat → Int32) (L : Nat → Nat → Int64) (P : Nat → Nat → Option Nat) (Q : Option Value → zMm → Prop), zSH[x0]? = some (.inl 10) → zWp d zi_147 none 19 [l0] [.int x1, .ref x0] (zSH, I, L, P) Q = zWp d zi_147 none 22 [l0] [] (zSH, zw I x0 (upd (I x0) 20 x1), L, P) Q) ∧
    (∀ (d : Nat) (l0 : Value)  (h : zMm) (Q : Option Value → zMm → Prop), zWp d zi_147 none 22 [l0] [] h Q = zWp d zi_147 none 23 [l0] [.int 0] h Q) ∧
    (∀ (d : Nat) (l0 : Value) (x0 : Int32) (h : zMm) (Q : Option Value → zMm → Prop), zWp d zi_147 none 23 [l0] [.int x0] h Q = Q (some (.int x0)) h) :=
  ⟨(fun d l0  h Q => zr_aload_n rfl rfl),
   (fun d l0 x0 h Q => zr_aload_n rfl rfl),
   (fun d l0 x1 x0 I L P Q p0 => zr_getI rfl lf_10_203 (fun _ _ _ => rfl) p0),
   (fun d l0 x1 x0 h Q => zr_if_ge rfl (by decide)),
   (fun d l0 x0 h Q => zr_aload_n rfl rfl),
   (fun d l0 x1 x0 I L P Q p0 => zr_getI rfl lf_10_194 (fun _ _ _ => rfl) p0),
   (fun d l0 x1 x0 h Q => zr_goto rfl (by decide)),
   (fun d l0 x0 h Q => zr_aload_n rfl rfl),
   (fun d l0 x1 x0 I L P Q p0 => zr_getI rfl lf_10_203 (fun _ _ _ => rfl) p0),
   (fun d l0 x1 x0 I L P Q p0 => zr_putI rfl lf_10_203 (by decide) rfl p0),
   (fun d l0  h Q => zr_iconst rfl (by decide)),
   (fun d l0 x0 h Q => zr_iret rfl rfl)⟩
theorem E_X10_takes : ∀ (d : Nat) (a0 : Nat) (a1 : Int32) (h : zMm) (Q : Option Value → zMm → Prop), zWM (d + 1) 148 [.ref a0, .int a1] h Q = zWp d zi_148 none 0 [.ref a0, .int a1] [] h Q := fun d a0 a1 h Q => zW_M m_148 (Nat.le_of_ble_eq_true rfl) rfl
set_option maxRecDepth 100000 in
theorem R_X10_takes :
    (∀ (d : Nat) (l0 : Nat) (l1 : Value)  (h : zMm) (Q : Option Value → zMm → Prop), zWp d zi_148 none 0 [.ref l0, l1] [] h Q = zWp d zi_148 none 1 [.ref l0, l1] [.ref l0] h Q) ∧
    (∀ (d : Nat) (l0 : Value) (l1 : Value) (x0 : Nat) (I : Nat → Nat → Int32) (L : Nat → Nat → Int64) (P : Nat → Nat → Option Nat) (Q : Option Value → zMm → Prop), zSH[x0]? = some (.inl 10) → zWp d zi_148 none 1 [l0, l1] [.ref x0] (zSH, I, L, P) Q = zWp d zi_148 none 4 [l0, l1] [.int (I x0 20)] (zSH, I, L, P) Q) ∧
    (∀ (d : Nat) (l0 : Value) (l1 : Value) (x0 : Int32) (h : zMm) (Q : Option Value → zMm → Prop), zWp d zi_148 none 4 [l0, l1] [.int x0] h Q = if 0 ≤ x0 then zWp d zi_148 none 15 [l0, l1] [] h Q else zWp d zi_148 none 7 [l0, l1] [] h Q) ∧
    (∀ (d : Nat) (l0 : Nat) (l1 : Value)  (h : zMm) (Q : Option Value → zMm → Prop), zWp d zi_148 none 7 [.ref l0, l1] [] h Q = zWp d zi_148 none 8 [.ref l0, l1] [.ref l0] h Q) ∧
    (∀ (d : Nat) (l0 : Value) (l1 : Value) (x0 : Nat) (I : Nat → Nat → Int32) (L : Nat → Nat → Int64) (P : Nat → Nat → Option Nat) (Q : Option Value → zMm → Prop), zSH[x0]? = some (.inl 10) → zWp d zi_148 none 8 [l0, l1] [.ref x0] (zSH, I, L, P) Q = zWM d 146 [.ref x0] (zSH, I, L, P) (fun r h1 => zWp d zi_148 none 11 [l0, l1] (r.toList ++ []) h1 Q)) ∧
    (∀ (d : Nat) (l0 : Value) (l1 : Int32) (x0 : Int32) (h : zMm) (Q : Option Value → zMm → Prop), zWp d zi_148 none 11 [l0, .int l1] [.int x0] h Q = zWp d zi_148 none 12 [l0, .int l1] [.int l1, .int x0] h Q) ∧
    (∀ (d : Nat) (l0 : Value) (l1 : Value) (x1 : Int32) (x0 : Int32) (h : zMm) (Q : Option Value → zMm → Prop), zWp d zi_148 none 12 [l0, l1] [.int x1, .int x0] h Q = if x0 = x1 then zWp d zi_148 none 17 [l0, l1] [] h Q else zWp d zi_148 none 15 [l0, l1] [] h Q) ∧
    (∀ (d : Nat) (l0 : Value) (l1 : Value)  (h : zMm) (Q : Option Value → zMm → Prop), zWp d zi_148 none 15 [l0, l1] [] h Q = zWp d zi_148 none 16 [l0, l1] [.int 0] h Q) ∧
    (∀ (d : Nat) (l0 : Value) (l1 : Value) (x0 : Int32) (h : zMm) (Q : Option Value → zMm → Prop), x0 = 0 ∨ x0 = 1 → zWp d zi_148 none 16 [l0, l1] [.int x0] h Q = Q (some (.int x0)) h) ∧
    (∀ (d : Nat) (l0 : Nat) (l1 : Value)  (h : zMm) (Q : Option Value → zMm → Prop), zWp d zi_148 none 17 [.ref l0, l1] [] h Q = zWp d zi_148 none 18 [.ref l0, l1] [.ref l0] h Q) ∧
    (∀ (d : Nat) (l0 : Value) (l1 : Value) (x0 : Nat) (h : zMm) (Q : Option Value → zMm → Prop), zWp d zi_148 none 18 [l0, l1] [.ref x0] h Q = zWp d zi_148 none 19 [l0, l1] [.ref x0, .ref x0] h Q) ∧
    (∀ (d : Nat) (l0 : Value) (l1 : Value) (x1 : Nat) (x0 : Nat) (I : Nat → Nat → Int32) (L : Nat → Nat → Int64) (P : Nat → Nat → Option Nat) (Q : Option Value → zMm → Prop), zSH[x1]? = some (.inl 10) → zWp d zi_148 none 19 [l0, l1] [.ref x1, .ref x0] (zSH, I, L, P) Q = zWp d zi_148 none 22 [l0, l1] [.int (I x1 18), .ref x0] (zSH, I, L, P) Q) ∧
    (∀ (d : Nat) (l0 : Value) (l1 : Value) (x1 : Int32) (x0 : Nat) (h : zMm) (Q : Option Value → zMm → Prop), zWp d zi_148 none 22 [l0, l1] [.int x1, .ref x0] h Q = zWp d zi_148 none 23 [l0, l1] [.int 1, .int x1, .ref x0] h Q) ∧
    (∀ (d : Nat) (l0 : Value) (l1 : Value) (x2 : Int32) (x1 : Int32) (x0 : Nat) (h : zMm) (Q : Option Value → zMm → Prop), zWp d zi_148 none 23 [l0, l1] [.int x2, .int x1, .ref x0] h Q = zWp d zi_148 none 24 [l0, l1] [.int (x1 + x2), .ref x0] h Q) ∧
    (∀ (d : Nat) (l0 : Value) (l1 : Value) (x1 : Int32) (x0 : Nat) (I : Nat → Nat → Int32) (L : Nat → Nat → Int64) (P : Nat → Nat → Option Nat) (Q : Option Value → zMm → Prop), zSH[x0]? = some (.inl 10) → zWp d zi_148 none 24 [l0, l1] [.int x1, .ref x0] (zSH, I, L, P) Q = zWp d zi_148 none 27 [l0, l1] [] (zSH, zw I x0 (upd (I x0) 18 x1), L, P) Q) ∧
    (∀ (d : Nat) (l0 : Value) (l1 : Value)  (h : zMm) (Q : Option Value → zMm → Prop), zWp d zi_148 none 27 [l0, l1] [] h Q = zWp d zi_148 none 28 [l0, l1] [.int 1] h Q) ∧
    (∀ (d : Nat) (l0 : Value) (l1 : Value) (x0 : Int32) (h : zMm) (Q : Option Value → zMm → Prop), x0 = 0 ∨ x0 = 1 → zWp d zi_148 none 28 [l0, l1] [.int x0] h Q = Q (some (.int x0)) h) :=
  ⟨(fun d l0 l1  h Q => zr_aload_n rfl rfl),
   (fun d l0 l1 x0 I L P Q p0 => zr_getI rfl lf_10_203 (fun _ _ _ => rfl) p0),
   (fun d l0 l1 x0 h Q => zr_if_ge rfl (by decide)),
   (fun d l0 l1  h Q => zr_aload_n rfl rfl),
   (fun d l0 l1 x0 I L P Q p0 => zr_vir (as := []) (rest := []) rfl lm_10_206 m_146 kd_146 rfl (Nat.le_of_ble_eq_true rfl) p0),
   (fun d l0 l1 x0 h Q => zr_iload_n rfl rfl),
   (fun d l0 l1 x1 x0 h Q => zr_ic_eq rfl (by decide)),
   (fun d l0 l1  h Q => zr_iconst rfl (by decide)),
   (fun d l0 l1 x0 h Q p0 => zr_zret rfl rfl p0),
   (fun d l0 l1  h Q => zr_aload_n rfl rfl),
   (fun d l0 l1 x0 h Q => zr_dup rfl rfl),
   (fun d l0 l1 x1 x0 I L P Q p0 => zr_getI rfl lf_10_194 (fun _ _ _ => rfl) p0),
   (fun d l0 l1 x1 x0 h Q => zr_iconst rfl (by decide)),
   (fun d l0 l1 x2 x1 x0 h Q => zr_iadd rfl),
   (fun d l0 l1 x1 x0 I L P Q p0 => zr_putI rfl lf_10_194 (by decide) rfl p0),
   (fun d l0 l1  h Q => zr_iconst rfl (by decide)),
   (fun d l0 l1 x0 h Q p0 => zr_zret rfl rfl p0)⟩
theorem E_X10_either : ∀ (d : Nat) (a0 : Nat) (h : zMm) (Q : Option Value → zMm → Prop), zWM (d + 1) 149 [.ref a0] h Q = zWp d zi_149 none 0 [.ref a0, .retAddr 0, .retAddr 0] [] h Q := fun d a0 h Q => zW_M m_149 (Nat.le_of_ble_eq_true rfl) rfl
set_option maxRecDepth 100000 in
theorem R_X10_either :
    (∀ (d : Nat) (l0 : Nat) (l1 : Value) (l2 : Value)  (h : zMm) (Q : Option Value → zMm → Prop), zWp d zi_149 none 0 [.ref l0, l1, l2] [] h Q = zWp d zi_149 none 1 [.ref l0, l1, l2] [.ref l0] h Q) ∧
    (∀ (d : Nat) (l0 : Value) (l1 : Value) (l2 : Value) (x0 : Nat) (I : Nat → Nat → Int32) (L : Nat → Nat → Int64) (P : Nat → Nat → Option Nat) (Q : Option Value → zMm → Prop), zSH[x0]? = some (.inl 10) → zWp d zi_149 none 1 [l0, l1, l2] [.ref x0] (zSH, I, L, P) Q = zWM d 150 [.ref x0] (zSH, I, L, P) (fun r h1 => zWp d zi_149 none 4 [l0, l1, l2] (r.toList ++ []) h1 Q)) ∧
    (∀ (d : Nat) (l0 : Nat) (l1 : Value) (l2 : Value) (x0 : Int32) (h : zMm) (Q : Option Value → zMm → Prop), zWp d zi_149 none 4 [.ref l0, l1, l2] [.int x0] h Q = zWp d zi_149 none 5 [.ref l0, .int x0, l2] [] h Q) ∧
    (∀ (d : Nat) (l0 : Value) (l1 : Value) (l2 : Value) (x0 : Nat) (h : zMm) (Q : Option Value → zMm → Prop), zWp d zi_149 none 6 [l0, l1, l2] [.ref x0] h Q = zWp d zi_149 none 8 [l0, l1, l2] [.int 124, .ref x0] h Q) ∧
    (∀ (d : Nat) (l0 : Value) (l1 : Value) (l2 : Value) (x1 : Int32) (x0 : Nat) (I : Nat → Nat → Int32) (L : Nat → Nat → Int64) (P : Nat → Nat → Option Nat) (Q : Option Value → zMm → Prop), zSH[x0]? = some (.inl 10) → zWp d zi_149 none 8 [l0, l1, l2] [.int x1, .ref x0] (zSH, I, L, P) Q = zWM d 148 [.ref x0, .int x1] (zSH, I, L, P) (fun r h1 => zWp d zi_149 none 11 [l0, l1, l2] (r.toList ++ []) h1 Q)) ∧
    (∀ (d : Nat) (l0 : Value) (l1 : Value) (l2 : Value) (x0 : Int32) (h : zMm) (Q : Option Value → zMm → Prop), zWp d zi_149 none 11 [l0, l1, l2] [.int x0] h Q = if x0 = 0 then zWp d zi_149 none 36 [l0, l1, l2] [] h Q else zWp d zi_149 none 14 [l0, l1, l2] [] h Q) ∧
    (∀ (d : Nat) (l0 : Nat) (l1 : Value) (l2 : Value)  (h : zMm) (Q : Option Value → zMm → Prop), zWp d zi_149 none 14 [.ref l0, l1, l2] [] h Q = zWp d zi_149 none 15 [.ref l0, l1, l2] [.ref l0] h Q) ∧
    (∀ (d : Nat) (l0 : Value) (l1 : Value) (l2 : Value) (x0 : Nat) (I : Nat → Nat → Int32) (L : Nat → Nat → Int64) (P : Nat → Nat → Option Nat) (Q : Option Value → zMm → Prop), zSH[x0]? = some (.inl 10) → zWp d zi_149 none 15 [l0, l1, l2] [.ref x0] (zSH, I, L, P) Q = zWM d 150 [.ref x0] (zSH, I, L, P) (fun r h1 => zWp d zi_149 none 18 [l0, l1, l2] (r.toList ++ []) h1 Q)) ∧
    (∀ (d : Nat) (l0 : Value) (l1 : Int32) (l2 : Value) (x0 : Int32) (h : zMm) (Q : Option Value → zMm → Prop), zWp d zi_149 none 18 [l0, .int l1, l2] [.int x0] h Q = zWp d zi_149 none 19 [l0, .int l1, .int x0] [] h Q) ∧
    (∀ (d : Nat) (l0 : Value) (l1 : Int32) (l2 : Value)  (h : zMm) (Q : Option Value → zMm → Prop), zWp d zi_149 none 19 [l0, .int l1, l2] [] h Q = zWp d zi_149 none 20 [l0, .int l1, l2] [.int l1] h Q) ∧
    (∀ (d : Nat) (l0 : Value) (l1 : Value) (l2 : Value) (x0 : Int32) (h : zMm) (Q : Option Value → zMm → Prop), zWp d zi_149 none 20 [l0, l1, l2] [.int x0] h Q = if x0 = 0 then zWp d zi_149 none 23 [l0, l1, l2] [] h Q else zWp d zi_149 none 27 [l0, l1, l2] [] h Q) ∧
    (∀ (d : Nat) (l0 : Value) (l1 : Value) (l2 : Int32)  (h : zMm) (Q : Option Value → zMm → Prop), zWp d zi_149 none 23 [l0, l1, .int l2] [] h Q = zWp d zi_149 none 24 [l0, l1, .int l2] [.int l2] h Q) ∧
    (∀ (d : Nat) (l0 : Value) (l1 : Value) (l2 : Value) (x0 : Int32) (h : zMm) (Q : Option Value → zMm → Prop), zWp d zi_149 none 24 [l0, l1, l2] [.int x0] h Q = if x0 = 0 then zWp d zi_149 none 31 [l0, l1, l2] [] h Q else zWp d zi_149 none 27 [l0, l1, l2] [] h Q) ∧
    (∀ (d : Nat) (l0 : Value) (l1 : Value) (l2 : Value)  (h : zMm) (Q : Option Value → zMm → Prop), zWp d zi_149 none 27 [l0, l1, l2] [] h Q = zWp d zi_149 none 28 [l0, l1, l2] [.int 1] h Q) ∧
    (∀ (d : Nat) (l0 : Value) (l1 : Value) (l2 : Value) (x0 : Int32) (h : zMm) (Q : Option Value → zMm → Prop), zWp d zi_149 none 28 [l0, l1, l2] [.int x0] h Q = zWp d zi_149 none 32 [l0, l1, l2] [.int x0] h Q) ∧
    (∀ (d : Nat) (l0 : Value) (l1 : Value) (l2 : Value)  (h : zMm) (Q : Option Value → zMm → Prop), zWp d zi_149 none 31 [l0, l1, l2] [] h Q = zWp d zi_149 none 32 [l0, l1, l2] [.int 0] h Q) ∧
    (∀ (d : Nat) (l0 : Nat) (l1 : Value) (l2 : Value) (x0 : Int32) (h : zMm) (Q : Option Value → zMm → Prop), zWp d zi_149 none 32 [.ref l0, l1, l2] [.int x0] h Q = zWp d zi_149 none 33 [.ref l0, .int x0, l2] [] h Q) ∧
    (∀ (d : Nat) (l0 : Value) (l1 : Value) (l2 : Value)  (h : zMm) (Q : Option Value → zMm → Prop), zWp d zi_149 none 33 [l0, l1, l2] [] h Q = zWp d zi_149 none 5 [l0, l1, l2] [] h Q) ∧
    (∀ (d : Nat) (l0 : Value) (l1 : Int32) (l2 : Value)  (h : zMm) (Q : Option Value → zMm → Prop), zWp d zi_149 none 36 [l0, .int l1, l2] [] h Q = zWp d zi_149 none 37 [l0, .int l1, l2] [.int l1] h Q) ∧
    (∀ (d : Nat) (l0 : Value) (l1 : Value) (l2 : Value) (x0 : Int32) (h : zMm) (Q : Option Value → zMm → Prop), zWp d zi_149 none 37 [l0, l1, l2] [.int x0] h Q = Q (some (.int x0)) h) :=
  ⟨(fun d l0 l1 l2  h Q => zr_aload_n rfl rfl),
   (fun d l0 l1 l2 x0 I L P Q p0 => zr_vir (as := []) (rest := []) rfl lm_10_209 m_150 kd_150 rfl (Nat.le_of_ble_eq_true rfl) p0),
   (fun d l0 l1 l2 x0 h Q => zr_istore_n (n := 1) rfl (Nat.le_of_ble_eq_true rfl) rfl),
   (fun d l0 l1 l2 x0 h Q => zr_bipush rfl (by decide)),
   (fun d l0 l1 l2 x1 x0 I L P Q p0 => zr_vir (as := [.int x1]) (rest := []) rfl lm_10_212 m_148 kd_148 rfl (Nat.le_of_ble_eq_true rfl) p0),
   (fun d l0 l1 l2 x0 h Q => zr_if_eq rfl (by decide)),
   (fun d l0 l1 l2  h Q => zr_aload_n rfl rfl),
   (fun d l0 l1 l2 x0 I L P Q p0 => zr_vir (as := []) (rest := []) rfl lm_10_209 m_150 kd_150 rfl (Nat.le_of_ble_eq_true rfl) p0),
   (fun d l0 l1 l2 x0 h Q => zr_istore_n (n := 2) rfl (Nat.le_of_ble_eq_true rfl) rfl),
   (fun d l0 l1 l2  h Q => zr_iload_n rfl rfl),
   (fun d l0 l1 l2 x0 h Q => zr_if_ne rfl (by decide)),
   (fun d l0 l1 l2  h Q => zr_iload_n rfl rfl),
   (fun d l0 l1 l2 x0 h Q => zr_if_eq rfl (by decide)),
   (fun d l0 l1 l2  h Q => zr_iconst rfl (by decide)),
   (fun d l0 l1 l2 x0 h Q => zr_goto rfl (by decide)),
   (fun d l0 l1 l2  h Q => zr_iconst rfl (by decide)),
   (fun d l0 l1 l2 x0 h Q => zr_istore_n (n := 1) rfl (Nat.le_of_ble_eq_true rfl) rfl),
   (fun d l0 l1 l2  h Q => zr_goto rfl (by decide)),
   (fun d l0 l1 l2  h Q => zr_iload_n rfl rfl),
   (fun d l0 l1 l2 x0 h Q => zr_iret rfl rfl)⟩
theorem H_X10_either_5 : ∀ (d : Nat) (l0 : Nat) (l1 : Value) (l2 : Value)  (h : zMm) (Q : Option Value → zMm → Prop), zWp d zi_149 none 5 [.ref l0, l1, l2] [] h Q = zWp d zi_149 none 6 [.ref l0, l1, l2] [.ref l0] h Q := fun d l0 l1 l2  h Q => zr_aload_n rfl rfl
theorem E_X10_both : ∀ (d : Nat) (a0 : Nat) (h : zMm) (Q : Option Value → zMm → Prop), zWM (d + 1) 150 [.ref a0] h Q = zWp d zi_150 none 0 [.ref a0, .retAddr 0, .retAddr 0] [] h Q := fun d a0 h Q => zW_M m_150 (Nat.le_of_ble_eq_true rfl) rfl
set_option maxRecDepth 100000 in
theorem R_X10_both :
    (∀ (d : Nat) (l0 : Nat) (l1 : Value) (l2 : Value)  (h : zMm) (Q : Option Value → zMm → Prop), zWp d zi_150 none 0 [.ref l0, l1, l2] [] h Q = zWp d zi_150 none 1 [.ref l0, l1, l2] [.ref l0] h Q) ∧
    (∀ (d : Nat) (l0 : Value) (l1 : Value) (l2 : Value) (x0 : Nat) (I : Nat → Nat → Int32) (L : Nat → Nat → Int64) (P : Nat → Nat → Option Nat) (Q : Option Value → zMm → Prop), zSH[x0]? = some (.inl 10) → zWp d zi_150 none 1 [l0, l1, l2] [.ref x0] (zSH, I, L, P) Q = zWM d 151 [.ref x0] (zSH, I, L, P) (fun r h1 => zWp d zi_150 none 4 [l0, l1, l2] (r.toList ++ []) h1 Q)) ∧
    (∀ (d : Nat) (l0 : Nat) (l1 : Value) (l2 : Value) (x0 : Int32) (h : zMm) (Q : Option Value → zMm → Prop), zWp d zi_150 none 4 [.ref l0, l1, l2] [.int x0] h Q = zWp d zi_150 none 5 [.ref l0, .int x0, l2] [] h Q) ∧
    (∀ (d : Nat) (l0 : Value) (l1 : Value) (l2 : Value) (x0 : Nat) (h : zMm) (Q : Option Value → zMm → Prop), zWp d zi_150 none 6 [l0, l1, l2] [.ref x0] h Q = zWp d zi_150 none 8 [l0, l1, l2] [.int 38, .ref x0] h Q) ∧
    (∀ (d : Nat) (l0 : Value) (l1 : Value) (l2 : Value) (x1 : Int32) (x0 : Nat) (I : Nat → Nat → Int32) (L : Nat → Nat → Int64) (P : Nat → Nat → Option Nat) (Q : Option Value → zMm → Prop), zSH[x0]? = some (.inl 10) → zWp d zi_150 none 8 [l0, l1, l2] [.int x1, .ref x0] (zSH, I, L, P) Q = zWM d 148 [.ref x0, .int x1] (zSH, I, L, P) (fun r h1 => zWp d zi_150 none 11 [l0, l1, l2] (r.toList ++ []) h1 Q)) ∧
    (∀ (d : Nat) (l0 : Value) (l1 : Value) (l2 : Value) (x0 : Int32) (h : zMm) (Q : Option Value → zMm → Prop), zWp d zi_150 none 11 [l0, l1, l2] [.int x0] h Q = if x0 = 0 then zWp d zi_150 none 36 [l0, l1, l2] [] h Q else zWp d zi_150 none 14 [l0, l1, l2] [] h Q) ∧
    (∀ (d : Nat) (l0 : Nat) (l1 : Value) (l2 : Value)  (h : zMm) (Q : Option Value → zMm → Prop), zWp d zi_150 none 14 [.ref l0, l1, l2] [] h Q = zWp d zi_150 none 15 [.ref l0, l1, l2] [.ref l0] h Q) ∧
    (∀ (d : Nat) (l0 : Value) (l1 : Value) (l2 : Value) (x0 : Nat) (I : Nat → Nat → Int32) (L : Nat → Nat → Int64) (P : Nat → Nat → Option Nat) (Q : Option Value → zMm → Prop), zSH[x0]? = some (.inl 10) → zWp d zi_150 none 15 [l0, l1, l2] [.ref x0] (zSH, I, L, P) Q = zWM d 151 [.ref x0] (zSH, I, L, P) (fun r h1 => zWp d zi_150 none 18 [l0, l1, l2] (r.toList ++ []) h1 Q)) ∧
    (∀ (d : Nat) (l0 : Value) (l1 : Int32) (l2 : Value) (x0 : Int32) (h : zMm) (Q : Option Value → zMm → Prop), zWp d zi_150 none 18 [l0, .int l1, l2] [.int x0] h Q = zWp d zi_150 none 19 [l0, .int l1, .int x0] [] h Q) ∧
    (∀ (d : Nat) (l0 : Value) (l1 : Int32) (l2 : Value)  (h : zMm) (Q : Option Value → zMm → Prop), zWp d zi_150 none 19 [l0, .int l1, l2] [] h Q = zWp d zi_150 none 20 [l0, .int l1, l2] [.int l1] h Q) ∧
    (∀ (d : Nat) (l0 : Value) (l1 : Value) (l2 : Value) (x0 : Int32) (h : zMm) (Q : Option Value → zMm → Prop), zWp d zi_150 none 20 [l0, l1, l2] [.int x0] h Q = if x0 = 0 then zWp d zi_150 none 31 [l0, l1, l2] [] h Q else zWp d zi_150 none 23 [l0, l1, l2] [] h Q) ∧
    (∀ (d : Nat) (l0 : Value) (l1 : Value) (l2 : Int32)  (h : zMm) (Q : Option Value → zMm → Prop), zWp d zi_150 none 23 [l0, l1, .int l2] [] h Q = zWp d zi_150 none 24 [l0, l1, .int l2] [.int l2] h Q) ∧
    (∀ (d : Nat) (l0 : Value) (l1 : Value) (l2 : Value) (x0 : Int32) (h : zMm) (Q : Option Value → zMm → Prop), zWp d zi_150 none 24 [l0, l1, l2] [.int x0] h Q = if x0 = 0 then zWp d zi_150 none 31 [l0, l1, l2] [] h Q else zWp d zi_150 none 27 [l0, l1, l2] [] h Q) ∧
    (∀ (d : Nat) (l0 : Value) (l1 : Value) (l2 : Value)  (h : zMm) (Q : Option Value → zMm → Prop), zWp d zi_150 none 27 [l0, l1, l2] [] h Q = zWp d zi_150 none 28 [l0, l1, l2] [.int 1] h Q) ∧
    (∀ (d : Nat) (l0 : Value) (l1 : Value) (l2 : Value) (x0 : Int32) (h : zMm) (Q : Option Value → zMm → Prop), zWp d zi_150 none 28 [l0, l1, l2] [.int x0] h Q = zWp d zi_150 none 32 [l0, l1, l2] [.int x0] h Q) ∧
    (∀ (d : Nat) (l0 : Value) (l1 : Value) (l2 : Value)  (h : zMm) (Q : Option Value → zMm → Prop), zWp d zi_150 none 31 [l0, l1, l2] [] h Q = zWp d zi_150 none 32 [l0, l1, l2] [.int 0] h Q) ∧
    (∀ (d : Nat) (l0 : Nat) (l1 : Value) (l2 : Value) (x0 : Int32) (h : zMm) (Q : Option Value → zMm → Prop), zWp d zi_150 none 32 [.ref l0, l1, l2] [.int x0] h Q = zWp d zi_150 none 33 [.ref l0, .int x0, l2] [] h Q) ∧
    (∀ (d : Nat) (l0 : Value) (l1 : Value) (l2 : Value)  (h : zMm) (Q : Option Value → zMm → Prop), zWp d zi_150 none 33 [l0, l1, l2] [] h Q = zWp d zi_150 none 5 [l0, l1, l2] [] h Q) ∧
    (∀ (d : Nat) (l0 : Value) (l1 : Int32) (l2 : Value)  (h : zMm) (Q : Option Value → zMm → Prop), zWp d zi_150 none 36 [l0, .int l1, l2] [] h Q = zWp d zi_150 none 37 [l0, .int l1, l2] [.int l1] h Q) ∧
    (∀ (d : Nat) (l0 : Value) (l1 : Value) (l2 : Value) (x0 : Int32) (h : zMm) (Q : Option Value → zMm → Prop), zWp d zi_150 none 37 [l0, l1, l2] [.int x0] h Q = Q (some (.int x0)) h) :=
  ⟨(fun d l0 l1 l2  h Q => zr_aload_n rfl rfl),
   (fun d l0 l1 l2 x0 I L P Q p0 => zr_vir (as := []) (rest := []) rfl lm_10_215 m_151 kd_151 rfl (Nat.le_of_ble_eq_true rfl) p0),
   (fun d l0 l1 l2 x0 h Q => zr_istore_n (n := 1) rfl (Nat.le_of_ble_eq_true rfl) rfl),
   (fun d l0 l1 l2 x0 h Q => zr_bipush rfl (by decide)),
   (fun d l0 l1 l2 x1 x0 I L P Q p0 => zr_vir (as := [.int x1]) (rest := []) rfl lm_10_212 m_148 kd_148 rfl (Nat.le_of_ble_eq_true rfl) p0),
   (fun d l0 l1 l2 x0 h Q => zr_if_eq rfl (by decide)),
   (fun d l0 l1 l2  h Q => zr_aload_n rfl rfl),
   (fun d l0 l1 l2 x0 I L P Q p0 => zr_vir (as := []) (rest := []) rfl lm_10_215 m_151 kd_151 rfl (Nat.le_of_ble_eq_true rfl) p0),
   (fun d l0 l1 l2 x0 h Q => zr_istore_n (n := 2) rfl (Nat.le_of_ble_eq_true rfl) rfl),
   (fun d l0 l1 l2  h Q => zr_iload_n rfl rfl),
   (fun d l0 l1 l2 x0 h Q => zr_if_eq rfl (by decide)),
   (fun d l0 l1 l2  h Q => zr_iload_n rfl rfl),
   (fun d l0 l1 l2 x0 h Q => zr_if_eq rfl (by decide)),
   (fun d l0 l1 l2  h Q => zr_iconst rfl (by decide)),
   (fun d l0 l1 l2 x0 h Q => zr_goto rfl (by decide)),
   (fun d l0 l1 l2  h Q => zr_iconst rfl (by decide)),
   (fun d l0 l1 l2 x0 h Q => zr_istore_n (n := 1) rfl (Nat.le_of_ble_eq_true rfl) rfl),
   (fun d l0 l1 l2  h Q => zr_goto rfl (by decide)),
   (fun d l0 l1 l2  h Q => zr_iload_n rfl rfl),
   (fun d l0 l1 l2 x0 h Q => zr_iret rfl rfl)⟩
theorem H_X10_both_5 : ∀ (d : Nat) (l0 : Nat) (l1 : Value) (l2 : Value)  (h : zMm) (Q : Option Value → zMm → Prop), zWp d zi_150 none 5 [.ref l0, l1, l2] [] h Q = zWp d zi_150 none 6 [.ref l0, l1, l2] [.ref l0] h Q := fun d l0 l1 l2  h Q => zr_aload_n rfl rfl
theorem E_X10_compared : ∀ (d : Nat) (a0 : Nat) (h : zMm) (Q : Option Value → zMm → Prop), zWM (d + 1) 151 [.ref a0] h Q = zWp d zi_151 none 0 [.ref a0, .retAddr 0, .retAddr 0, .retAddr 0] [] h Q := fun d a0 h Q => zW_M m_151 (Nat.le_of_ble_eq_true rfl) rfl
set_option maxRecDepth 100000 in
theorem R_X10_compared :
    (∀ (d : Nat) (l0 : Nat) (l1 : Value) (l2 : Value) (l3 : Value)  (h : zMm) (Q : Option Value → zMm → Prop), zWp d zi_151 none 0 [.ref l0, l1, l2, l3] [] h Q = zWp d zi_151 none 1 [.ref l0, l1, l2, l3] [.ref l0] h Q) ∧
    (∀ (d : Nat) (l0 : Value) (l1 : Value) (l2 : Value) (l3 : Value) (x0 : Nat) (I : Nat → Nat → Int32) (L : Nat → Nat → Int64) (P : Nat → Nat → Option Nat) (Q : Option Value → zMm → Prop), zSH[x0]? = some (.inl 10) → zWp d zi_151 none 1 [l0, l1, l2, l3] [.ref x0] (zSH, I, L, P) Q = zWM d 152 [.ref x0] (zSH, I, L, P) (fun r h1 => zWp d zi_151 none 4 [l0, l1, l2, l3] (r.toList ++ []) h1 Q)) ∧
    (∀ (d : Nat) (l0 : Nat) (l1 : Value) (l2 : Value) (l3 : Value) (x0 : Int32) (h : zMm) (Q : Option Value → zMm → Prop), zWp d zi_151 none 4 [.ref l0, l1, l2, l3] [.int x0] h Q = zWp d zi_151 none 5 [.ref l0, .int x0, l2, l3] [] h Q) ∧
    (∀ (d : Nat) (l0 : Nat) (l1 : Value) (l2 : Value) (l3 : Value)  (h : zMm) (Q : Option Value → zMm → Prop), zWp d zi_151 none 5 [.ref l0, l1, l2, l3] [] h Q = zWp d zi_151 none 6 [.ref l0, l1, l2, l3] [.ref l0] h Q) ∧
    (∀ (d : Nat) (l0 : Value) (l1 : Value) (l2 : Value) (l3 : Value) (x0 : Nat) (I : Nat → Nat → Int32) (L : Nat → Nat → Int64) (P : Nat → Nat → Option Nat) (Q : Option Value → zMm → Prop), zSH[x0]? = some (.inl 10) → zWp d zi_151 none 6 [l0, l1, l2, l3] [.ref x0] (zSH, I, L, P) Q = zWM d 146 [.ref x0] (zSH, I, L, P) (fun r h1 => zWp d zi_151 none 9 [l0, l1, l2, l3] (r.toList ++ []) h1 Q)) ∧
    (∀ (d : Nat) (l0 : Value) (l1 : Int32) (l2 : Value) (l3 : Value) (x0 : Int32) (h : zMm) (Q : Option Value → zMm → Prop), zWp d zi_151 none 9 [l0, .int l1, l2, l3] [.int x0] h Q = zWp d zi_151 none 10 [l0, .int l1, .int x0, l3] [] h Q) ∧
    (∀ (d : Nat) (l0 : Nat) (l1 : Value) (l2 : Value) (l3 : Value)  (h : zMm) (Q : Option Value → zMm → Prop), zWp d zi_151 none 10 [.ref l0, l1, l2, l3] [] h Q = zWp d zi_151 none 11 [.ref l0, l1, l2, l3] [.ref l0] h Q) ∧
    (∀ (d : Nat) (l0 : Value) (l1 : Value) (l2 : Value) (l3 : Value) (x0 : Nat) (I : Nat → Nat → Int32) (L : Nat → Nat → Int64) (P : Nat → Nat → Option Nat) (Q : Option Value → zMm → Prop), zSH[x0]? = some (.inl 10) → zWp d zi_151 none 11 [l0, l1, l2, l3] [.ref x0] (zSH, I, L, P) Q = zWp d zi_151 none 14 [l0, l1, l2, l3] [.int (I x0 20)] (zSH, I, L, P) Q) ∧
    (∀ (d : Nat) (l0 : Value) (l1 : Value) (l2 : Value) (l3 : Value) (x0 : Int32) (h : zMm) (Q : Option Value → zMm → Prop), zWp d zi_151 none 14 [l0, l1, l2, l3] [.int x0] h Q = if 0 ≤ x0 then zWp d zi_151 none 35 [l0, l1, l2, l3] [] h Q else zWp d zi_151 none 17 [l0, l1, l2, l3] [] h Q) ∧
    (∀ (d : Nat) (l0 : Value) (l1 : Value) (l2 : Int32) (l3 : Value)  (h : zMm) (Q : Option Value → zMm → Prop), zWp d zi_151 none 17 [l0, l1, .int l2, l3] [] h Q = zWp d zi_151 none 18 [l0, l1, .int l2, l3] [.int l2] h Q) ∧
    (∀ (d : Nat) (l0 : Value) (l1 : Value) (l2 : Value) (l3 : Value) (x0 : Int32) (h : zMm) (Q : Option Value → zMm → Prop), zWp d zi_151 none 18 [l0, l1, l2, l3] [.int x0] h Q = zWp d zi_151 none 20 [l0, l1, l2, l3] [.int 60, .int x0] h Q) ∧
    (∀ (d : Nat) (l0 : Value) (l1 : Value) (l2 : Value) (l3 : Value) (x1 : Int32) (x0 : Int32) (h : zMm) (Q : Option Value → zMm → Prop), zWp d zi_151 none 20 [l0, l1, l2, l3] [.int x1, .int x0] h Q = if x0 = x1 then zWp d zi_151 none 37 [l0, l1, l2, l3] [] h Q else zWp d zi_151 none 23 [l0, l1, l2, l3] [] h Q) ∧
    (∀ (d : Nat) (l0 : Value) (l1 : Value) (l2 : Int32) (l3 : Value)  (h : zMm) (Q : Option Value → zMm → Prop), zWp d zi_151 none 23 [l0, l1, .int l2, l3] [] h Q = zWp d zi_151 none 24 [l0, l1, .int l2, l3] [.int l2] h Q) ∧
    (∀ (d : Nat) (l0 : Value) (l1 : Value) (l2 : Value) (l3 : Value) (x0 : Int32) (h : zMm) (Q : Option Value → zMm → Prop), zWp d zi_151 none 24 [l0, l1, l2, l3] [.int x0] h Q = zWp d zi_151 none 26 [l0, l1, l2, l3] [.int 61, .int x0] h Q) ∧
    (∀ (d : Nat) (l0 : Value) (l1 : Value) (l2 : Value) (l3 : Value) (x1 : Int32) (x0 : Int32) (h : zMm) (Q : Option Value → zMm → Prop), zWp d zi_151 none 26 [l0, l1, l2, l3] [.int x1, .int x0] h Q = if x0 = x1 then zWp d zi_151 none 37 [l0, l1, l2, l3] [] h Q else zWp d zi_151 none 29 [l0, l1, l2, l3] [] h Q) ∧
    (∀ (d : Nat) (l0 : Value) (l1 : Value) (l2 : Int32) (l3 : Value)  (h : zMm) (Q : Option Value → zMm → Prop), zWp d zi_151 none 29 [l0, l1, .int l2, l3] [] h Q = zWp d zi_151 none 30 [l0, l1, .int l2, l3] [.int l2] h Q) ∧
    (∀ (d : Nat) (l0 : Value) (l1 : Value) (l2 : Value) (l3 : Value) (x0 : Int32) (h : zMm) (Q : Option Value → zMm → Prop), zWp d zi_151 none 30 [l0, l1, l2, l3] [.int x0] h Q = zWp d zi_151 none 32 [l0, l1, l2, l3] [.int 62, .int x0] h Q) ∧
    (∀ (d : Nat) (l0 : Value) (l1 : Value) (l2 : Value) (l3 : Value) (x1 : Int32) (x0 : Int32) (h : zMm) (Q : Option Value → zMm → Prop), zWp d zi_151 none 32 [l0, l1, l2, l3] [.int x1, .int x0] h Q = if x0 = x1 then zWp d zi_151 none 37 [l0, l1, l2, l3] [] h Q else zWp d zi_151 none 35 [l0, l1, l2, l3] [] h Q) ∧
    (∀ (d : Nat) (l0 : Value) (l1 : Int32) (l2 : Value) (l3 : Value)  (h : zMm) (Q : Option Value → zMm → Prop), zWp d zi_151 none 35 [l0, .int l1, l2, l3] [] h Q = zWp d zi_151 none 36 [l0, .int l1, l2, l3] [.int l1] h Q) ∧
    (∀ (d : Nat) (l0 : Value) (l1 : Value) (l2 : Value) (l3 : Value) (x0 : Int32) (h : zMm) (Q : Option Value → zMm → Prop), zWp d zi_151 none 36 [l0, l1, l2, l3] [.int x0] h Q = Q (some (.int x0)) h) ∧
    (∀ (d : Nat) (l0 : Nat) (l1 : Value) (l2 : Value) (l3 : Value)  (h : zMm) (Q : Option Value → zMm → Prop), zWp d zi_151 none 37 [.ref l0, l1, l2, l3] [] h Q = zWp d zi_151 none 38 [.ref l0, l1, l2, l3] [.ref l0] h Q) ∧
    (∀ (d : Nat) (l0 : Value) (l1 : Value) (l2 : Value) (l3 : Value) (x0 : Nat) (h : zMm) (Q : Option Value → zMm → Prop), zWp d zi_151 none 38 [l0, l1, l2, l3] [.ref x0] h Q = zWp d zi_151 none 39 [l0, l1, l2, l3] [.ref x0, .ref x0] h Q) ∧
    (∀ (d : Nat) (l0 : Value) (l1 : Value) (l2 : Value) (l3 : Value) (x1 : Nat) (x0 : Nat) (I : Nat → Nat → Int32) (L : Nat → Nat → Int64) (P : Nat → Nat → Option Nat) (Q : Option Value → zMm → Prop), zSH[x1]? = some (.inl 10) → zWp d zi_151 none 39 [l0, l1, l2, l3] [.ref x1, .ref x0] (zSH, I, L, P) Q = zWp d zi_151 none 42 [l0, l1, l2, l3] [.int (I x1 18), .ref x0] (zSH, I, L, P) Q) ∧
    (∀ (d : Nat) (l0 : Value) (l1 : Value) (l2 : Value) (l3 : Value) (x1 : Int32) (x0 : Nat) (h : zMm) (Q : Option Value → zMm → Prop), zWp d zi_151 none 42 [l0, l1, l2, l3] [.int x1, .ref x0] h Q = zWp d zi_151 none 43 [l0, l1, l2, l3] [.int 1, .int x1, .ref x0] h Q) ∧
    (∀ (d : Nat) (l0 : Value) (l1 : Value) (l2 : Value) (l3 : Value) (x2 : Int32) (x1 : Int32) (x0 : Nat) (h : zMm) (Q : Option Value → zMm → Prop), zWp d zi_151 none 43 [l0, l1, l2, l3] [.int x2, .int x1, .ref x0] h Q = zWp d zi_151 none 44 [l0, l1, l2, l3] [.int (x1 + x2), .ref x0] h Q) ∧
    (∀ (d : Nat) (l0 : Value) (l1 : Value) (l2 : Value) (l3 : Value) (x1 : Int32) (x0 : Nat) (I : Nat → Nat → Int32) (L : Nat → Nat → Int64) (P : Nat → Nat → Option Nat) (Q : Option Value → zMm → Prop), zSH[x0]? = some (.inl 10) → zWp d zi_151 none 44 [l0, l1, l2, l3] [.int x1, .ref x0] (zSH, I, L, P) Q = zWp d zi_151 none 47 [l0, l1, l2, l3] [] (zSH, zw I x0 (upd (I x0) 18 x1), L, P) Q) ∧
    (∀ (d : Nat) (l0 : Nat) (l1 : Value) (l2 : Value) (l3 : Value)  (h : zMm) (Q : Option Value → zMm → Prop), zWp d zi_151 none 47 [.ref l0, l1, l2, l3] [] h Q = zWp d zi_151 none 48 [.ref l0, l1, l2, l3] [.ref l0] h Q) ∧
    (∀ (d : Nat) (l0 : Value) (l1 : Value) (l2 : Value) (l3 : Value) (x0 : Nat) (I : Nat → Nat → Int32) (L : Nat → Nat → Int64) (P : Nat → Nat → Option Nat) (Q : Option Value → zMm → Prop), zSH[x0]? = some (.inl 10) → zWp d zi_151 none 48 [l0, l1, l2, l3] [.ref x0] (zSH, I, L, P) Q = zWM d 152 [.ref x0] (zSH, I, L, P) (fun r h1 => zWp d zi_151 none 51 [l0, l1, l2, l3] (r.toList ++ []) h1 Q)) ∧
    (∀ (d : Nat) (l0 : Value) (l1 : Value) (l2 : Int32) (l3 : Value) (x0 : Int32) (h : zMm) (Q : Option Value → zMm → Prop), zWp d zi_151 none 51 [l0, l1, .int l2, l3] [.int x0] h Q = zWp d zi_151 none 52 [l0, l1, .int l2, .int x0] [] h Q) ∧
    (∀ (d : Nat) (l0 : Value) (l1 : Value) (l2 : Int32) (l3 : Value)  (h : zMm) (Q : Option Value → zMm → Prop), zWp d zi_151 none 52 [l0, l1, .int l2, l3] [] h Q = zWp d zi_151 none 53 [l0, l1, .int l2, l3] [.int l2] h Q) ∧
    (∀ (d : Nat) (l0 : Value) (l1 : Value) (l2 : Value) (l3 : Value) (x0 : Int32) (h : zMm) (Q : Option Value → zMm → Prop), zWp d zi_151 none 53 [l0, l1, l2, l3] [.int x0] h Q = zWp d zi_151 none 55 [l0, l1, l2, l3] [.int 60, .int x0] h Q) ∧
    (∀ (d : Nat) (l0 : Value) (l1 : Value) (l2 : Value) (l3 : Value) (x1 : Int32) (x0 : Int32) (h : zMm) (Q : Option Value → zMm → Prop), zWp d zi_151 none 55 [l0, l1, l2, l3] [.int x1, .int x0] h Q = if x0 = x1 then zWp d zi_151 none 58 [l0, l1, l2, l3] [] h Q else zWp d zi_151 none 66 [l0, l1, l2, l3] [] h Q) ∧
    (∀ (d : Nat) (l0 : Value) (l1 : Int32) (l2 : Value) (l3 : Value)  (h : zMm) (Q : Option Value → zMm → Prop), zWp d zi_151 none 58 [l0, .int l1, l2, l3] [] h Q = zWp d zi_151 none 59 [l0, .int l1, l2, l3] [.int l1] h Q) ∧
    (∀ (d : Nat) (l0 : Value) (l1 : Value) (l2 : Value) (l3 : Int32) (x0 : Int32) (h : zMm) (Q : Option Value → zMm → Prop), zWp d zi_151 none 59 [l0, l1, l2, .int l3] [.int x0] h Q = zWp d zi_151 none 60 [l0, l1, l2, .int l3] [.int l3, .int x0] h Q) ∧
    (∀ (d : Nat) (l0 : Value) (l1 : Value) (l2 : Value) (l3 : Value) (x1 : Int32) (x0 : Int32) (h : zMm) (Q : Option Value → zMm → Prop), zWp d zi_151 none 60 [l0, l1, l2, l3] [.int x1, .int x0] h Q = if x1 ≤ x0 then zWp d zi_151 none 89 [l0, l1, l2, l3] [] h Q else zWp d zi_151 none 63 [l0, l1, l2, l3] [] h Q) ∧
    (∀ (d : Nat) (l0 : Value) (l1 : Value) (l2 : Value) (l3 : Value)  (h : zMm) (Q : Option Value → zMm → Prop), zWp d zi_151 none 63 [l0, l1, l2, l3] [] h Q = zWp d zi_151 none 85 [l0, l1, l2, l3] [] h Q) ∧
    (∀ (d : Nat) (l0 : Value) (l1 : Value) (l2 : Int32) (l3 : Value)  (h : zMm) (Q : Option Value → zMm → Prop), zWp d zi_151 none 66 [l0, l1, .int l2, l3] [] h Q = zWp d zi_151 none 67 [l0, l1, .int l2, l3] [.int l2] h Q) ∧
    (∀ (d : Nat) (l0 : Value) (l1 : Value) (l2 : Value) (l3 : Value) (x0 : Int32) (h : zMm) (Q : Option Value → zMm → Prop), zWp d zi_151 none 67 [l0, l1, l2, l3] [.int x0] h Q = zWp d zi_151 none 69 [l0, l1, l2, l3] [.int 61, .int x0] h Q) ∧
    (∀ (d : Nat) (l0 : Value) (l1 : Value) (l2 : Value) (l3 : Value) (x1 : Int32) (x0 : Int32) (h : zMm) (Q : Option Value → zMm → Prop), zWp d zi_151 none 69 [l0, l1, l2, l3] [.int x1, .int x0] h Q = if x0 = x1 then zWp d zi_151 none 72 [l0, l1, l2, l3] [] h Q else zWp d zi_151 none 80 [l0, l1, l2, l3] [] h Q) ∧
    (∀ (d : Nat) (l0 : Value) (l1 : Int32) (l2 : Value) (l3 : Value)  (h : zMm) (Q : Option Value → zMm → Prop), zWp d zi_151 none 72 [l0, .int l1, l2, l3] [] h Q = zWp d zi_151 none 73 [l0, .int l1, l2, l3] [.int l1] h Q) ∧
    (∀ (d : Nat) (l0 : Value) (l1 : Value) (l2 : Value) (l3 : Int32) (x0 : Int32) (h : zMm) (Q : Option Value → zMm → Prop), zWp d zi_151 none 73 [l0, l1, l2, .int l3] [.int x0] h Q = zWp d zi_151 none 74 [l0, l1, l2, .int l3] [.int l3, .int x0] h Q) ∧
    (∀ (d : Nat) (l0 : Value) (l1 : Value) (l2 : Value) (l3 : Value) (x1 : Int32) (x0 : Int32) (h : zMm) (Q : Option Value → zMm → Prop), zWp d zi_151 none 74 [l0, l1, l2, l3] [.int x1, .int x0] h Q = if x0 = x1 then zWp d zi_151 none 77 [l0, l1, l2, l3] [] h Q else zWp d zi_151 none 89 [l0, l1, l2, l3] [] h Q) ∧
    (∀ (d : Nat) (l0 : Value) (l1 : Value) (l2 : Value) (l3 : Value)  (h : zMm) (Q : Option Value → zMm → Prop), zWp d zi_151 none 77 [l0, l1, l2, l3] [] h Q = zWp d zi_151 none 85 [l0, l1, l2, l3] [] h Q) ∧
    (∀ (d : Nat) (l0 : Value) (l1 : Int32) (l2 : Value) (l3 : Value)  (h : zMm) (Q : Option Value → zMm → Prop), zWp d zi_151 none 80 [l0, .int l1, l2, l3] [] h Q = zWp d zi_151 none 81 [l0, .int l1, l2, l3] [.int l1] h Q) ∧
    (∀ (d : Nat) (l0 : Value) (l1 : Value) (l2 : Value) (l3 : Int32) (x0 : Int32) (h : zMm) (Q : Option Value → zMm → Prop), zWp d zi_151 none 81 [l0, l1, l2, .int l3] [.int x0] h Q = zWp d zi_151 none 82 [l0, l1, l2, .int l3] [.int l3, .int x0] h Q) ∧
    (∀ (d : Nat) (l0 : Value) (l1 : Value) (l2 : Value) (l3 : Value) (x1 : Int32) (x0 : Int32) (h : zMm) (Q : Option Value → zMm → Prop), zWp d zi_151 none 82 [l0, l1, l2, l3] [.int x1, .int x0] h Q = if x0 ≤ x1 then zWp d zi_151 none 89 [l0, l1, l2, l3] [] h Q else zWp d zi_151 none 85 [l0, l1, l2, l3] [] h Q) ∧
    (∀ (d : Nat) (l0 : Value) (l1 : Value) (l2 : Value) (l3 : Value)  (h : zMm) (Q : Option Value → zMm → Prop), zWp d zi_151 none 85 [l0, l1, l2, l3] [] h Q = zWp d zi_151 none 86 [l0, l1, l2, l3] [.int 1] h Q) ∧
    (∀ (d : Nat) (l0 : Value) (l1 : Value) (l2 : Value) (l3 : Value) (x0 : Int32) (h : zMm) (Q : Option Value → zMm → Prop), zWp d zi_151 none 86 [l0, l1, l2, l3] [.int x0] h Q = zWp d zi_151 none 90 [l0, l1, l2, l3] [.int x0] h Q) ∧
    (∀ (d : Nat) (l0 : Value) (l1 : Value) (l2 : Value) (l3 : Value)  (h : zMm) (Q : Option Value → zMm → Prop), zWp d zi_151 none 89 [l0, l1, l2, l3] [] h Q = zWp d zi_151 none 90 [l0, l1, l2, l3] [.int 0] h Q) ∧
    (∀ (d : Nat) (l0 : Value) (l1 : Value) (l2 : Value) (l3 : Value) (x0 : Int32) (h : zMm) (Q : Option Value → zMm → Prop), zWp d zi_151 none 90 [l0, l1, l2, l3] [.int x0] h Q = Q (some (.int x0)) h) :=
  ⟨(fun d l0 l1 l2 l3  h Q => zr_aload_n rfl rfl),
   (fun d l0 l1 l2 l3 x0 I L P Q p0 => zr_vir (as := []) (rest := []) rfl lm_10_218 m_152 kd_152 rfl (Nat.le_of_ble_eq_true rfl) p0),
   (fun d l0 l1 l2 l3 x0 h Q => zr_istore_n (n := 1) rfl (Nat.le_of_ble_eq_true rfl) rfl),
   (fun d l0 l1 l2 l3  h Q => zr_aload_n rfl rfl),
   (fun d l0 l1 l2 l3 x0 I L P Q p0 => zr_vir (as := []) (rest := []) rfl lm_10_206 m_146 kd_146 rfl (Nat.le_of_ble_eq_true rfl) p0),
   (fun d l0 l1 l2 l3 x0 h Q => zr_istore_n (n := 2) rfl (Nat.le_of_ble_eq_true rfl) rfl),
   (fun d l0 l1 l2 l3  h Q => zr_aload_n rfl rfl),
   (fun d l0 l1 l2 l3 x0 I L P Q p0 => zr_getI rfl lf_10_203 (fun _ _ _ => rfl) p0),
   (fun d l0 l1 l2 l3 x0 h Q => zr_if_ge rfl (by decide)),
   (fun d l0 l1 l2 l3  h Q => zr_iload_n rfl rfl),
   (fun d l0 l1 l2 l3 x0 h Q => zr_bipush rfl (by decide)),
   (fun d l0 l1 l2 l3 x1 x0 h Q => zr_ic_eq rfl (by decide)),
   (fun d l0 l1 l2 l3  h Q => zr_iload_n rfl rfl),
   (fun d l0 l1 l2 l3 x0 h Q => zr_bipush rfl (by decide)),
   (fun d l0 l1 l2 l3 x1 x0 h Q => zr_ic_eq rfl (by decide)),
   (fun d l0 l1 l2 l3  h Q => zr_iload_n rfl rfl),
   (fun d l0 l1 l2 l3 x0 h Q => zr_bipush rfl (by decide)),
   (fun d l0 l1 l2 l3 x1 x0 h Q => zr_ic_eq rfl (by decide)),
   (fun d l0 l1 l2 l3  h Q => zr_iload_n rfl rfl),
   (fun d l0 l1 l2 l3 x0 h Q => zr_iret rfl rfl),
   (fun d l0 l1 l2 l3  h Q => zr_aload_n rfl rfl),
   (fun d l0 l1 l2 l3 x0 h Q => zr_dup rfl rfl),
   (fun d l0 l1 l2 l3 x1 x0 I L P Q p0 => zr_getI rfl lf_10_194 (fun _ _ _ => rfl) p0),
   (fun d l0 l1 l2 l3 x1 x0 h Q => zr_iconst rfl (by decide)),
   (fun d l0 l1 l2 l3 x2 x1 x0 h Q => zr_iadd rfl),
   (fun d l0 l1 l2 l3 x1 x0 I L P Q p0 => zr_putI rfl lf_10_194 (by decide) rfl p0),
   (fun d l0 l1 l2 l3  h Q => zr_aload_n rfl rfl),
   (fun d l0 l1 l2 l3 x0 I L P Q p0 => zr_vir (as := []) (rest := []) rfl lm_10_218 m_152 kd_152 rfl (Nat.le_of_ble_eq_true rfl) p0),
   (fun d l0 l1 l2 l3 x0 h Q => zr_istore_n (n := 3) rfl (Nat.le_of_ble_eq_true rfl) rfl),
   (fun d l0 l1 l2 l3  h Q => zr_iload_n rfl rfl),
   (fun d l0 l1 l2 l3 x0 h Q => zr_bipush rfl (by decide)),
   (fun d l0 l1 l2 l3 x1 x0 h Q => zr_ic_ne rfl (by decide)),
   (fun d l0 l1 l2 l3  h Q => zr_iload_n rfl rfl),
   (fun d l0 l1 l2 l3 x0 h Q => zr_iload_n rfl rfl),
   (fun d l0 l1 l2 l3 x1 x0 h Q => zr_ic_ge rfl (by decide)),
   (fun d l0 l1 l2 l3  h Q => zr_goto rfl (by decide)),
   (fun d l0 l1 l2 l3  h Q => zr_iload_n rfl rfl),
   (fun d l0 l1 l2 l3 x0 h Q => zr_bipush rfl (by decide)),
   (fun d l0 l1 l2 l3 x1 x0 h Q => zr_ic_ne rfl (by decide)),
   (fun d l0 l1 l2 l3  h Q => zr_iload_n rfl rfl),
   (fun d l0 l1 l2 l3 x0 h Q => zr_iload_n rfl rfl),
   (fun d l0 l1 l2 l3 x1 x0 h Q => zr_ic_ne rfl (by decide)),
   (fun d l0 l1 l2 l3  h Q => zr_goto rfl (by decide)),
   (fun d l0 l1 l2 l3  h Q => zr_iload_n rfl rfl),
   (fun d l0 l1 l2 l3 x0 h Q => zr_iload_n rfl rfl),
   (fun d l0 l1 l2 l3 x1 x0 h Q => zr_ic_le rfl (by decide)),
   (fun d l0 l1 l2 l3  h Q => zr_iconst rfl (by decide)),
   (fun d l0 l1 l2 l3 x0 h Q => zr_goto rfl (by decide)),
   (fun d l0 l1 l2 l3  h Q => zr_iconst rfl (by decide)),
   (fun d l0 l1 l2 l3 x0 h Q => zr_iret rfl rfl)⟩
theorem E_X10_sums : ∀ (d : Nat) (a0 : Nat) (h : zMm) (Q : Option Value → zMm → Prop), zWM (d + 1) 152 [.ref a0] h Q = zWp d zi_152 none 0 [.ref a0, .retAddr 0, .retAddr 0, .retAddr 0] [] h Q := fun d a0 h Q => zW_M m_152 (Nat.le_of_ble_eq_true rfl) rfl
set_option maxRecDepth 100000 in
theorem R_X10_sums :
    (∀ (d : Nat) (l0 : Nat) (l1 : Value) (l2 : Value) (l3 : Value)  (h : zMm) (Q : Option Value → zMm → Prop), zWp d zi_152 none 0 [.ref l0, l1, l2, l3] [] h Q = zWp d zi_152 none 1 [.ref l0, l1, l2, l3] [.ref l0] h Q) ∧
    (∀ (d : Nat) (l0 : Value) (l1 : Value) (l2 : Value) (l3 : Value) (x0 : Nat) (I : Nat → Nat → Int32) (L : Nat → Nat → Int64) (P : Nat → Nat → Option Nat) (Q : Option Value → zMm → Prop), zSH[x0]? = some (.inl 10) → zWp d zi_152 none 1 [l0, l1, l2, l3] [.ref x0] (zSH, I, L, P) Q = zWM d 153 [.ref x0] (zSH, I, L, P) (fun r h1 => zWp d zi_152 none 4 [l0, l1, l2, l3] (r.toList ++ []) h1 Q)) ∧
    (∀ (d : Nat) (l0 : Nat) (l1 : Value) (l2 : Value) (l3 : Value) (x0 : Int32) (h : zMm) (Q : Option Value → zMm → Prop), zWp d zi_152 none 4 [.ref l0, l1, l2, l3] [.int x0] h Q = zWp d zi_152 none 5 [.ref l0, .int x0, l2, l3] [] h Q) ∧
    (∀ (d : Nat) (l0 : Value) (l1 : Value) (l2 : Value) (l3 : Value) (x0 : Nat) (I : Nat → Nat → Int32) (L : Nat → Nat → Int64) (P : Nat → Nat → Option Nat) (Q : Option Value → zMm → Prop), zSH[x0]? = some (.inl 10) → zWp d zi_152 none 6 [l0, l1, l2, l3] [.ref x0] (zSH, I, L, P) Q = zWp d zi_152 none 9 [l0, l1, l2, l3] [.int (I x0 20)] (zSH, I, L, P) Q) ∧
    (∀ (d : Nat) (l0 : Value) (l1 : Value) (l2 : Value) (l3 : Value) (x0 : Int32) (h : zMm) (Q : Option Value → zMm → Prop), zWp d zi_152 none 9 [l0, l1, l2, l3] [.int x0] h Q = if 0 ≤ x0 then zWp d zi_152 none 77 [l0, l1, l2, l3] [] h Q else zWp d zi_152 none 12 [l0, l1, l2, l3] [] h Q) ∧
    (∀ (d : Nat) (l0 : Nat) (l1 : Value) (l2 : Value) (l3 : Value)  (h : zMm) (Q : Option Value → zMm → Prop), zWp d zi_152 none 12 [.ref l0, l1, l2, l3] [] h Q = zWp d zi_152 none 13 [.ref l0, l1, l2, l3] [.ref l0] h Q) ∧
    (∀ (d : Nat) (l0 : Value) (l1 : Value) (l2 : Value) (l3 : Value) (x0 : Nat) (I : Nat → Nat → Int32) (L : Nat → Nat → Int64) (P : Nat → Nat → Option Nat) (Q : Option Value → zMm → Prop), zSH[x0]? = some (.inl 10) → zWp d zi_152 none 13 [l0, l1, l2, l3] [.ref x0] (zSH, I, L, P) Q = zWM d 146 [.ref x0] (zSH, I, L, P) (fun r h1 => zWp d zi_152 none 16 [l0, l1, l2, l3] (r.toList ++ []) h1 Q)) ∧
    (∀ (d : Nat) (l0 : Value) (l1 : Value) (l2 : Value) (l3 : Value) (x0 : Int32) (h : zMm) (Q : Option Value → zMm → Prop), zWp d zi_152 none 16 [l0, l1, l2, l3] [.int x0] h Q = zWp d zi_152 none 18 [l0, l1, l2, l3] [.int 43, .int x0] h Q) ∧
    (∀ (d : Nat) (l0 : Value) (l1 : Value) (l2 : Value) (l3 : Value) (x1 : Int32) (x0 : Int32) (h : zMm) (Q : Option Value → zMm → Prop), zWp d zi_152 none 18 [l0, l1, l2, l3] [.int x1, .int x0] h Q = if x0 = x1 then zWp d zi_152 none 30 [l0, l1, l2, l3] [] h Q else zWp d zi_152 none 21 [l0, l1, l2, l3] [] h Q) ∧
    (∀ (d : Nat) (l0 : Nat) (l1 : Value) (l2 : Value) (l3 : Value)  (h : zMm) (Q : Option Value → zMm → Prop), zWp d zi_152 none 21 [.ref l0, l1, l2, l3] [] h Q = zWp d zi_152 none 22 [.ref l0, l1, l2, l3] [.ref l0] h Q) ∧
    (∀ (d : Nat) (l0 : Value) (l1 : Value) (l2 : Value) (l3 : Value) (x0 : Nat) (I : Nat → Nat → Int32) (L : Nat → Nat → Int64) (P : Nat → Nat → Option Nat) (Q : Option Value → zMm → Prop), zSH[x0]? = some (.inl 10) → zWp d zi_152 none 22 [l0, l1, l2, l3] [.ref x0] (zSH, I, L, P) Q = zWM d 146 [.ref x0] (zSH, I, L, P) (fun r h1 => zWp d zi_152 none 25 [l0, l1, l2, l3] (r.toList ++ []) h1 Q)) ∧
    (∀ (d : Nat) (l0 : Value) (l1 : Value) (l2 : Value) (l3 : Value) (x0 : Int32) (h : zMm) (Q : Option Value → zMm → Prop), zWp d zi_152 none 25 [l0, l1, l2, l3] [.int x0] h Q = zWp d zi_152 none 27 [l0, l1, l2, l3] [.int 45, .int x0] h Q) ∧
    (∀ (d : Nat) (l0 : Value) (l1 : Value) (l2 : Value) (l3 : Value) (x1 : Int32) (x0 : Int32) (h : zMm) (Q : Option Value → zMm → Prop), zWp d zi_152 none 27 [l0, l1, l2, l3] [.int x1, .int x0] h Q = if x0 = x1 then zWp d zi_152 none 30 [l0, l1, l2, l3] [] h Q else zWp d zi_152 none 77 [l0, l1, l2, l3] [] h Q) ∧
    (∀ (d : Nat) (l0 : Nat) (l1 : Value) (l2 : Value) (l3 : Value)  (h : zMm) (Q : Option Value → zMm → Prop), zWp d zi_152 none 30 [.ref l0, l1, l2, l3] [] h Q = zWp d zi_152 none 31 [.ref l0, l1, l2, l3] [.ref l0] h Q) ∧
    (∀ (d : Nat) (l0 : Value) (l1 : Value) (l2 : Value) (l3 : Value) (x0 : Nat) (I : Nat → Nat → Int32) (L : Nat → Nat → Int64) (P : Nat → Nat → Option Nat) (Q : Option Value → zMm → Prop), zSH[x0]? = some (.inl 10) → zWp d zi_152 none 31 [l0, l1, l2, l3] [.ref x0] (zSH, I, L, P) Q = zWM d 146 [.ref x0] (zSH, I, L, P) (fun r h1 => zWp d zi_152 none 34 [l0, l1, l2, l3] (r.toList ++ []) h1 Q)) ∧
    (∀ (d : Nat) (l0 : Value) (l1 : Value) (l2 : Value) (l3 : Value) (x0 : Int32) (h : zMm) (Q : Option Value → zMm → Prop), zWp d zi_152 none 34 [l0, l1, l2, l3] [.int x0] h Q = zWp d zi_152 none 36 [l0, l1, l2, l3] [.int 43, .int x0] h Q) ∧
    (∀ (d : Nat) (l0 : Value) (l1 : Value) (l2 : Value) (l3 : Value) (x1 : Int32) (x0 : Int32) (h : zMm) (Q : Option Value → zMm → Prop), zWp d zi_152 none 36 [l0, l1, l2, l3] [.int x1, .int x0] h Q = if x0 = x1 then zWp d zi_152 none 39 [l0, l1, l2, l3] [] h Q else zWp d zi_152 none 43 [l0, l1, l2, l3] [] h Q) ∧
    (∀ (d : Nat) (l0 : Value) (l1 : Value) (l2 : Value) (l3 : Value)  (h : zMm) (Q : Option Value → zMm → Prop), zWp d zi_152 none 39 [l0, l1, l2, l3] [] h Q = zWp d zi_152 none 40 [l0, l1, l2, l3] [.int 1] h Q) ∧
    (∀ (d : Nat) (l0 : Value) (l1 : Value) (l2 : Value) (l3 : Value) (x0 : Int32) (h : zMm) (Q : Option Value → zMm → Prop), zWp d zi_152 none 40 [l0, l1, l2, l3] [.int x0] h Q = zWp d zi_152 none 44 [l0, l1, l2, l3] [.int x0] h Q) ∧
    (∀ (d : Nat) (l0 : Value) (l1 : Value) (l2 : Value) (l3 : Value)  (h : zMm) (Q : Option Value → zMm → Prop), zWp d zi_152 none 43 [l0, l1, l2, l3] [] h Q = zWp d zi_152 none 44 [l0, l1, l2, l3] [.int 0] h Q) ∧
    (∀ (d : Nat) (l0 : Value) (l1 : Int32) (l2 : Value) (l3 : Value) (x0 : Int32) (h : zMm) (Q : Option Value → zMm → Prop), zWp d zi_152 none 44 [l0, .int l1, l2, l3] [.int x0] h Q = zWp d zi_152 none 45 [l0, .int l1, .int x0, l3] [] h Q) ∧
    (∀ (d : Nat) (l0 : Nat) (l1 : Value) (l2 : Value) (l3 : Value)  (h : zMm) (Q : Option Value → zMm → Prop), zWp d zi_152 none 45 [.ref l0, l1, l2, l3] [] h Q = zWp d zi_152 none 46 [.ref l0, l1, l2, l3] [.ref l0] h Q) ∧
    (∀ (d : Nat) (l0 : Value) (l1 : Value) (l2 : Value) (l3 : Value) (x0 : Nat) (h : zMm) (Q : Option Value → zMm → Prop), zWp d zi_152 none 46 [l0, l1, l2, l3] [.ref x0] h Q = zWp d zi_152 none 47 [l0, l1, l2, l3] [.ref x0, .ref x0] h Q) ∧
    (∀ (d : Nat) (l0 : Value) (l1 : Value) (l2 : Value) (l3 : Value) (x1 : Nat) (x0 : Nat) (I : Nat → Nat → Int32) (L : Nat → Nat → Int64) (P : Nat → Nat → Option Nat) (Q : Option Value → zMm → Prop), zSH[x1]? = some (.inl 10) → zWp d zi_152 none 47 [l0, l1, l2, l3] [.ref x1, .ref x0] (zSH, I, L, P) Q = zWp d zi_152 none 50 [l0, l1, l2, l3] [.int (I x1 18), .ref x0] (zSH, I, L, P) Q) ∧
    (∀ (d : Nat) (l0 : Value) (l1 : Value) (l2 : Value) (l3 : Value) (x1 : Int32) (x0 : Nat) (h : zMm) (Q : Option Value → zMm → Prop), zWp d zi_152 none 50 [l0, l1, l2, l3] [.int x1, .ref x0] h Q = zWp d zi_152 none 51 [l0, l1, l2, l3] [.int 1, .int x1, .ref x0] h Q) ∧
    (∀ (d : Nat) (l0 : Value) (l1 : Value) (l2 : Value) (l3 : Value) (x2 : Int32) (x1 : Int32) (x0 : Nat) (h : zMm) (Q : Option Value → zMm → Prop), zWp d zi_152 none 51 [l0, l1, l2, l3] [.int x2, .int x1, .ref x0] h Q = zWp d zi_152 none 52 [l0, l1, l2, l3] [.int (x1 + x2), .ref x0] h Q) ∧
    (∀ (d : Nat) (l0 : Value) (l1 : Value) (l2 : Value) (l3 : Value) (x1 : Int32) (x0 : Nat) (I : Nat → Nat → Int32) (L : Nat → Nat → Int64) (P : Nat → Nat → Option Nat) (Q : Option Value → zMm → Prop), zSH[x0]? = some (.inl 10) → zWp d zi_152 none 52 [l0, l1, l2, l3] [.int x1, .ref x0] (zSH, I, L, P) Q = zWp d zi_152 none 55 [l0, l1, l2, l3] [] (zSH, zw I x0 (upd (I x0) 18 x1), L, P) Q) ∧
    (∀ (d : Nat) (l0 : Nat) (l1 : Value) (l2 : Value) (l3 : Value)  (h : zMm) (Q : Option Value → zMm → Prop), zWp d zi_152 none 55 [.ref l0, l1, l2, l3] [] h Q = zWp d zi_152 none 56 [.ref l0, l1, l2, l3] [.ref l0] h Q) ∧
    (∀ (d : Nat) (l0 : Value) (l1 : Value) (l2 : Value) (l3 : Value) (x0 : Nat) (I : Nat → Nat → Int32) (L : Nat → Nat → Int64) (P : Nat → Nat → Option Nat) (Q : Option Value → zMm → Prop), zSH[x0]? = some (.inl 10) → zWp d zi_152 none 56 [l0, l1, l2, l3] [.ref x0] (zSH, I, L, P) Q = zWM d 153 [.ref x0] (zSH, I, L, P) (fun r h1 => zWp d zi_152 none 59 [l0, l1, l2, l3] (r.toList ++ []) h1 Q)) ∧
    (∀ (d : Nat) (l0 : Value) (l1 : Value) (l2 : Int32) (l3 : Value) (x0 : Int32) (h : zMm) (Q : Option Value → zMm → Prop), zWp d zi_152 none 59 [l0, l1, .int l2, l3] [.int x0] h Q = zWp d zi_152 none 60 [l0, l1, .int l2, .int x0] [] h Q) ∧
    (∀ (d : Nat) (l0 : Value) (l1 : Value) (l2 : Int32) (l3 : Value)  (h : zMm) (Q : Option Value → zMm → Prop), zWp d zi_152 none 60 [l0, l1, .int l2, l3] [] h Q = zWp d zi_152 none 61 [l0, l1, .int l2, l3] [.int l2] h Q) ∧
    (∀ (d : Nat) (l0 : Value) (l1 : Value) (l2 : Value) (l3 : Value) (x0 : Int32) (h : zMm) (Q : Option Value → zMm → Prop), zWp d zi_152 none 61 [l0, l1, l2, l3] [.int x0] h Q = if x0 = 0 then zWp d zi_152 none 70 [l0, l1, l2, l3] [] h Q else zWp d zi_152 none 64 [l0, l1, l2, l3] [] h Q) ∧
    (∀ (d : Nat) (l0 : Value) (l1 : Int32) (l2 : Value) (l3 : Value)  (h : zMm) (Q : Option Value → zMm → Prop), zWp d zi_152 none 64 [l0, .int l1, l2, l3] [] h Q = zWp d zi_152 none 65 [l0, .int l1, l2, l3] [.int l1] h Q) ∧
    (∀ (d : Nat) (l0 : Value) (l1 : Value) (l2 : Value) (l3 : Int32) (x0 : Int32) (h : zMm) (Q : Option Value → zMm → Prop), zWp d zi_152 none 65 [l0, l1, l2, .int l3] [.int x0] h Q = zWp d zi_152 none 66 [l0, l1, l2, .int l3] [.int l3, .int x0] h Q) ∧
    (∀ (d : Nat) (l0 : Value) (l1 : Value) (l2 : Value) (l3 : Value) (x1 : Int32) (x0 : Int32) (h : zMm) (Q : Option Value → zMm → Prop), zWp d zi_152 none 66 [l0, l1, l2, l3] [.int x1, .int x0] h Q = zWp d zi_152 none 67 [l0, l1, l2, l3] [.int (x0 + x1)] h Q) ∧
    (∀ (d : Nat) (l0 : Value) (l1 : Value) (l2 : Value) (l3 : Value) (x0 : Int32) (h : zMm) (Q : Option Value → zMm → Prop), zWp d zi_152 none 67 [l0, l1, l2, l3] [.int x0] h Q = zWp d zi_152 none 73 [l0, l1, l2, l3] [.int x0] h Q) ∧
    (∀ (d : Nat) (l0 : Value) (l1 : Int32) (l2 : Value) (l3 : Value)  (h : zMm) (Q : Option Value → zMm → Prop), zWp d zi_152 none 70 [l0, .int l1, l2, l3] [] h Q = zWp d zi_152 none 71 [l0, .int l1, l2, l3] [.int l1] h Q) ∧
    (∀ (d : Nat) (l0 : Value) (l1 : Value) (l2 : Value) (l3 : Int32) (x0 : Int32) (h : zMm) (Q : Option Value → zMm → Prop), zWp d zi_152 none 71 [l0, l1, l2, .int l3] [.int x0] h Q = zWp d zi_152 none 72 [l0, l1, l2, .int l3] [.int l3, .int x0] h Q) ∧
    (∀ (d : Nat) (l0 : Value) (l1 : Value) (l2 : Value) (l3 : Value) (x1 : Int32) (x0 : Int32) (h : zMm) (Q : Option Value → zMm → Prop), zWp d zi_152 none 72 [l0, l1, l2, l3] [.int x1, .int x0] h Q = zWp d zi_152 none 73 [l0, l1, l2, l3] [.int (x0 - x1)] h Q) ∧
    (∀ (d : Nat) (l0 : Nat) (l1 : Value) (l2 : Value) (l3 : Value) (x0 : Int32) (h : zMm) (Q : Option Value → zMm → Prop), zWp d zi_152 none 73 [.ref l0, l1, l2, l3] [.int x0] h Q = zWp d zi_152 none 74 [.ref l0, .int x0, l2, l3] [] h Q) ∧
    (∀ (d : Nat) (l0 : Value) (l1 : Value) (l2 : Value) (l3 : Value)  (h : zMm) (Q : Option Value → zMm → Prop), zWp d zi_152 none 74 [l0, l1, l2, l3] [] h Q = zWp d zi_152 none 5 [l0, l1, l2, l3] [] h Q) ∧
    (∀ (d : Nat) (l0 : Value) (l1 : Int32) (l2 : Value) (l3 : Value)  (h : zMm) (Q : Option Value → zMm → Prop), zWp d zi_152 none 77 [l0, .int l1, l2, l3] [] h Q = zWp d zi_152 none 78 [l0, .int l1, l2, l3] [.int l1] h Q) ∧
    (∀ (d : Nat) (l0 : Value) (l1 : Value) (l2 : Value) (l3 : Value) (x0 : Int32) (h : zMm) (Q : Option Value → zMm → Prop), zWp d zi_152 none 78 [l0, l1, l2, l3] [.int x0] h Q = Q (some (.int x0)) h) :=
  ⟨(fun d l0 l1 l2 l3  h Q => zr_aload_n rfl rfl),
   (fun d l0 l1 l2 l3 x0 I L P Q p0 => zr_vir (as := []) (rest := []) rfl lm_10_221 m_153 kd_153 rfl (Nat.le_of_ble_eq_true rfl) p0),
   (fun d l0 l1 l2 l3 x0 h Q => zr_istore_n (n := 1) rfl (Nat.le_of_ble_eq_true rfl) rfl),
   (fun d l0 l1 l2 l3 x0 I L P Q p0 => zr_getI rfl lf_10_203 (fun _ _ _ => rfl) p0),
   (fun d l0 l1 l2 l3 x0 h Q => zr_if_ge rfl (by decide)),
   (fun d l0 l1 l2 l3  h Q => zr_aload_n rfl rfl),
   (fun d l0 l1 l2 l3 x0 I L P Q p0 => zr_vir (as := []) (rest := []) rfl lm_10_206 m_146 kd_146 rfl (Nat.le_of_ble_eq_true rfl) p0),
   (fun d l0 l1 l2 l3 x0 h Q => zr_bipush rfl (by decide)),
   (fun d l0 l1 l2 l3 x1 x0 h Q => zr_ic_eq rfl (by decide)),
   (fun d l0 l1 l2 l3  h Q => zr_aload_n rfl rfl),
   (fun d l0 l1 l2 l3 x0 I L P Q p0 => zr_vir (as := []) (rest := []) rfl lm_10_206 m_146 kd_146 rfl (Nat.le_of_ble_eq_true rfl) p0),
   (fun d l0 l1 l2 l3 x0 h Q => zr_bipush rfl (by decide)),
   (fun d l0 l1 l2 l3 x1 x0 h Q => zr_ic_ne rfl (by decide)),
   (fun d l0 l1 l2 l3  h Q => zr_aload_n rfl rfl),
   (fun d l0 l1 l2 l3 x0 I L P Q p0 => zr_vir (as := []) (rest := []) rfl lm_10_206 m_146 kd_146 rfl (Nat.le_of_ble_eq_true rfl) p0),
   (fun d l0 l1 l2 l3 x0 h Q => zr_bipush rfl (by decide)),
   (fun d l0 l1 l2 l3 x1 x0 h Q => zr_ic_ne rfl (by decide)),
   (fun d l0 l1 l2 l3  h Q => zr_iconst rfl (by decide)),
   (fun d l0 l1 l2 l3 x0 h Q => zr_goto rfl (by decide)),
   (fun d l0 l1 l2 l3  h Q => zr_iconst rfl (by decide)),
   (fun d l0 l1 l2 l3 x0 h Q => zr_istore_n (n := 2) rfl (Nat.le_of_ble_eq_true rfl) rfl),
   (fun d l0 l1 l2 l3  h Q => zr_aload_n rfl rfl),
   (fun d l0 l1 l2 l3 x0 h Q => zr_dup rfl rfl),
   (fun d l0 l1 l2 l3 x1 x0 I L P Q p0 => zr_getI rfl lf_10_194 (fun _ _ _ => rfl) p0),
   (fun d l0 l1 l2 l3 x1 x0 h Q => zr_iconst rfl (by decide)),
   (fun d l0 l1 l2 l3 x2 x1 x0 h Q => zr_iadd rfl),
   (fun d l0 l1 l2 l3 x1 x0 I L P Q p0 => zr_putI rfl lf_10_194 (by decide) rfl p0),
   (fun d l0 l1 l2 l3  h Q => zr_aload_n rfl rfl),
   (fun d l0 l1 l2 l3 x0 I L P Q p0 => zr_vir (as := []) (rest := []) rfl lm_10_221 m_153 kd_153 rfl (Nat.le_of_ble_eq_true rfl) p0),
   (fun d l0 l1 l2 l3 x0 h Q => zr_istore_n (n := 3) rfl (Nat.le_of_ble_eq_true rfl) rfl),
   (fun d l0 l1 l2 l3  h Q => zr_iload_n rfl rfl),
   (fun d l0 l1 l2 l3 x0 h Q => zr_if_eq rfl (by decide)),
   (fun d l0 l1 l2 l3  h Q => zr_iload_n rfl rfl),
   (fun d l0 l1 l2 l3 x0 h Q => zr_iload_n rfl rfl),
   (fun d l0 l1 l2 l3 x1 x0 h Q => zr_iadd rfl),
   (fun d l0 l1 l2 l3 x0 h Q => zr_goto rfl (by decide)),
   (fun d l0 l1 l2 l3  h Q => zr_iload_n rfl rfl),
   (fun d l0 l1 l2 l3 x0 h Q => zr_iload_n rfl rfl),
   (fun d l0 l1 l2 l3 x1 x0 h Q => zr_isub rfl),
   (fun d l0 l1 l2 l3 x0 h Q => zr_istore_n (n := 1) rfl (Nat.le_of_ble_eq_true rfl) rfl),
   (fun d l0 l1 l2 l3  h Q => zr_goto rfl (by decide)),
   (fun d l0 l1 l2 l3  h Q => zr_iload_n rfl rfl),
   (fun d l0 l1 l2 l3 x0 h Q => zr_iret rfl rfl)⟩
theorem H_X10_sums_5 : ∀ (d : Nat) (l0 : Nat) (l1 : Value) (l2 : Value) (l3 : Value)  (h : zMm) (Q : Option Value → zMm → Prop), zWp d zi_152 none 5 [.ref l0, l1, l2, l3] [] h Q = zWp d zi_152 none 6 [.ref l0, l1, l2, l3] [.ref l0] h Q := fun d l0 l1 l2 l3  h Q => zr_aload_n rfl rfl
theorem E_X10_product : ∀ (d : Nat) (a0 : Nat) (h : zMm) (Q : Option Value → zMm → Prop), zWM (d + 1) 153 [.ref a0] h Q = zWp d zi_153 none 0 [.ref a0, .retAddr 0, .retAddr 0, .retAddr 0] [] h Q := fun d a0 h Q => zW_M m_153 (Nat.le_of_ble_eq_true rfl) rfl
set_option maxRecDepth 100000 in
theorem R_X10_product :
    (∀ (d : Nat) (l0 : Nat) (l1 : Value) (l2 : Value) (l3 : Value)  (h : zMm) (Q : Option Value → zMm → Prop), zWp d zi_153 none 0 [.ref l0, l1, l2, l3] [] h Q = zWp d zi_153 none 1 [.ref l0, l1, l2, l3] [.ref l0] h Q) ∧
    (∀ (d : Nat) (l0 : Value) (l1 : Value) (l2 : Value) (l3 : Value) (x0 : Nat) (I : Nat → Nat → Int32) (L : Nat → Nat → Int64) (P : Nat → Nat → Option Nat) (Q : Option Value → zMm → Prop), zSH[x0]? = some (.inl 10) → zWp d zi_153 none 1 [l0, l1, l2, l3] [.ref x0] (zSH, I, L, P) Q = zWM d 155 [.ref x0] (zSH, I, L, P) (fun r h1 => zWp d zi_153 none 4 [l0, l1, l2, l3] (r.toList ++ []) h1 Q)) ∧
    (∀ (d : Nat) (l0 : Nat) (l1 : Value) (l2 : Value) (l3 : Value) (x0 : Int32) (h : zMm) (Q : Option Value → zMm → Prop), zWp d zi_153 none 4 [.ref l0, l1, l2, l3] [.int x0] h Q = zWp d zi_153 none 5 [.ref l0, .int x0, l2, l3] [] h Q) ∧
    (∀ (d : Nat) (l0 : Nat) (l1 : Value) (l2 : Value) (l3 : Value)  (h : zMm) (Q : Option Value → zMm → Prop), zWp d zi_153 none 5 [.ref l0, l1, l2, l3] [] h Q = zWp d zi_153 none 6 [.ref l0, l1, l2, l3] [.ref l0] h Q) ∧
    (∀ (d : Nat) (l0 : Value) (l1 : Value) (l2 : Value) (l3 : Value) (x0 : Nat) (I : Nat → Nat → Int32) (L : Nat → Nat → Int64) (P : Nat → Nat → Option Nat) (Q : Option Value → zMm → Prop), zSH[x0]? = some (.inl 10) → zWp d zi_153 none 6 [l0, l1, l2, l3] [.ref x0] (zSH, I, L, P) Q = zWM d 146 [.ref x0] (zSH, I, L, P) (fun r h1 => zWp d zi_153 none 9 [l0, l1, l2, l3] (r.toList ++ []) h1 Q)) ∧
    (∀ (d : Nat) (l0 : Value) (l1 : Int32) (l2 : Value) (l3 : Value) (x0 : Int32) (h : zMm) (Q : Option Value → zMm → Prop), zWp d zi_153 none 9 [l0, .int l1, l2, l3] [.int x0] h Q = zWp d zi_153 none 10 [l0, .int l1, .int x0, l3] [] h Q) ∧
    (∀ (d : Nat) (l0 : Value) (l1 : Value) (l2 : Value) (l3 : Value) (x0 : Nat) (I : Nat → Nat → Int32) (L : Nat → Nat → Int64) (P : Nat → Nat → Option Nat) (Q : Option Value → zMm → Prop), zSH[x0]? = some (.inl 10) → zWp d zi_153 none 11 [l0, l1, l2, l3] [.ref x0] (zSH, I, L, P) Q = zWp d zi_153 none 14 [l0, l1, l2, l3] [.int (I x0 20)] (zSH, I, L, P) Q) ∧
    (∀ (d : Nat) (l0 : Value) (l1 : Value) (l2 : Value) (l3 : Value) (x0 : Int32) (h : zMm) (Q : Option Value → zMm → Prop), zWp d zi_153 none 14 [l0, l1, l2, l3] [.int x0] h Q = if 0 ≤ x0 then zWp d zi_153 none 94 [l0, l1, l2, l3] [] h Q else zWp d zi_153 none 17 [l0, l1, l2, l3] [] h Q) ∧
    (∀ (d : Nat) (l0 : Value) (l1 : Value) (l2 : Int32) (l3 : Value)  (h : zMm) (Q : Option Value → zMm → Prop), zWp d zi_153 none 17 [l0, l1, .int l2, l3] [] h Q = zWp d zi_153 none 18 [l0, l1, .int l2, l3] [.int l2] h Q) ∧
    (∀ (d : Nat) (l0 : Value) (l1 : Value) (l2 : Value) (l3 : Value) (x0 : Int32) (h : zMm) (Q : Option Value → zMm → Prop), zWp d zi_153 none 18 [l0, l1, l2, l3] [.int x0] h Q = zWp d zi_153 none 20 [l0, l1, l2, l3] [.int 42, .int x0] h Q) ∧
    (∀ (d : Nat) (l0 : Value) (l1 : Value) (l2 : Value) (l3 : Value) (x1 : Int32) (x0 : Int32) (h : zMm) (Q : Option Value → zMm → Prop), zWp d zi_153 none 20 [l0, l1, l2, l3] [.int x1, .int x0] h Q = if x0 = x1 then zWp d zi_153 none 35 [l0, l1, l2, l3] [] h Q else zWp d zi_153 none 23 [l0, l1, l2, l3] [] h Q) ∧
    (∀ (d : Nat) (l0 : Value) (l1 : Value) (l2 : Int32) (l3 : Value)  (h : zMm) (Q : Option Value → zMm → Prop), zWp d zi_153 none 23 [l0, l1, .int l2, l3] [] h Q = zWp d zi_153 none 24 [l0, l1, .int l2, l3] [.int l2] h Q) ∧
    (∀ (d : Nat) (l0 : Value) (l1 : Value) (l2 : Value) (l3 : Value) (x0 : Int32) (h : zMm) (Q : Option Value → zMm → Prop), zWp d zi_153 none 24 [l0, l1, l2, l3] [.int x0] h Q = zWp d zi_153 none 26 [l0, l1, l2, l3] [.int 47, .int x0] h Q) ∧
    (∀ (d : Nat) (l0 : Value) (l1 : Value) (l2 : Value) (l3 : Value) (x1 : Int32) (x0 : Int32) (h : zMm) (Q : Option Value → zMm → Prop), zWp d zi_153 none 26 [l0, l1, l2, l3] [.int x1, .int x0] h Q = if x0 = x1 then zWp d zi_153 none 35 [l0, l1, l2, l3] [] h Q else zWp d zi_153 none 29 [l0, l1, l2, l3] [] h Q) ∧
    (∀ (d : Nat) (l0 : Value) (l1 : Value) (l2 : Int32) (l3 : Value)  (h : zMm) (Q : Option Value → zMm → Prop), zWp d zi_153 none 29 [l0, l1, .int l2, l3] [] h Q = zWp d zi_153 none 30 [l0, l1, .int l2, l3] [.int l2] h Q) ∧
    (∀ (d : Nat) (l0 : Value) (l1 : Value) (l2 : Value) (l3 : Value) (x0 : Int32) (h : zMm) (Q : Option Value → zMm → Prop), zWp d zi_153 none 30 [l0, l1, l2, l3] [.int x0] h Q = zWp d zi_153 none 32 [l0, l1, l2, l3] [.int 37, .int x0] h Q) ∧
    (∀ (d : Nat) (l0 : Value) (l1 : Value) (l2 : Value) (l3 : Value) (x1 : Int32) (x0 : Int32) (h : zMm) (Q : Option Value → zMm → Prop), zWp d zi_153 none 32 [l0, l1, l2, l3] [.int x1, .int x0] h Q = if x0 = x1 then zWp d zi_153 none 35 [l0, l1, l2, l3] [] h Q else zWp d zi_153 none 94 [l0, l1, l2, l3] [] h Q) ∧
    (∀ (d : Nat) (l0 : Nat) (l1 : Value) (l2 : Value) (l3 : Value)  (h : zMm) (Q : Option Value → zMm → Prop), zWp d zi_153 none 35 [.ref l0, l1, l2, l3] [] h Q = zWp d zi_153 none 36 [.ref l0, l1, l2, l3] [.ref l0] h Q) ∧
    (∀ (d : Nat) (l0 : Value) (l1 : Value) (l2 : Value) (l3 : Value) (x0 : Nat) (h : zMm) (Q : Option Value → zMm → Prop), zWp d zi_153 none 36 [l0, l1, l2, l3] [.ref x0] h Q = zWp d zi_153 none 37 [l0, l1, l2, l3] [.ref x0, .ref x0] h Q) ∧
    (∀ (d : Nat) (l0 : Value) (l1 : Value) (l2 : Value) (l3 : Value) (x1 : Nat) (x0 : Nat) (I : Nat → Nat → Int32) (L : Nat → Nat → Int64) (P : Nat → Nat → Option Nat) (Q : Option Value → zMm → Prop), zSH[x1]? = some (.inl 10) → zWp d zi_153 none 37 [l0, l1, l2, l3] [.ref x1, .ref x0] (zSH, I, L, P) Q = zWp d zi_153 none 40 [l0, l1, l2, l3] [.int (I x1 18), .ref x0] (zSH, I, L, P) Q) ∧
    (∀ (d : Nat) (l0 : Value) (l1 : Value) (l2 : Value) (l3 : Value) (x1 : Int32) (x0 : Nat) (h : zMm) (Q : Option Value → zMm → Prop), zWp d zi_153 none 40 [l0, l1, l2, l3] [.int x1, .ref x0] h Q = zWp d zi_153 none 41 [l0, l1, l2, l3] [.int 1, .int x1, .ref x0] h Q) ∧
    (∀ (d : Nat) (l0 : Value) (l1 : Value) (l2 : Value) (l3 : Value) (x2 : Int32) (x1 : Int32) (x0 : Nat) (h : zMm) (Q : Option Value → zMm → Prop), zWp d zi_153 none 41 [l0, l1, l2, l3] [.int x2, .int x1, .ref x0] h Q = zWp d zi_153 none 42 [l0, l1, l2, l3] [.int (x1 + x2), .ref x0] h Q) ∧
    (∀ (d : Nat) (l0 : Value) (l1 : Value) (l2 : Value) (l3 : Value) (x1 : Int32) (x0 : Nat) (I : Nat → Nat → Int32) (L : Nat → Nat → Int64) (P : Nat → Nat → Option Nat) (Q : Option Value → zMm → Prop), zSH[x0]? = some (.inl 10) → zWp d zi_153 none 42 [l0, l1, l2, l3] [.int x1, .ref x0] (zSH, I, L, P) Q = zWp d zi_153 none 45 [l0, l1, l2, l3] [] (zSH, zw I x0 (upd (I x0) 18 x1), L, P) Q) ∧
    (∀ (d : Nat) (l0 : Nat) (l1 : Value) (l2 : Value) (l3 : Value)  (h : zMm) (Q : Option Value → zMm → Prop), zWp d zi_153 none 45 [.ref l0, l1, l2, l3] [] h Q = zWp d zi_153 none 46 [.ref l0, l1, l2, l3] [.ref l0] h Q) ∧
    (∀ (d : Nat) (l0 : Value) (l1 : Value) (l2 : Value) (l3 : Value) (x0 : Nat) (I : Nat → Nat → Int32) (L : Nat → Nat → Int64) (P : Nat → Nat → Option Nat) (Q : Option Value → zMm → Prop), zSH[x0]? = some (.inl 10) → zWp d zi_153 none 46 [l0, l1, l2, l3] [.ref x0] (zSH, I, L, P) Q = zWM d 155 [.ref x0] (zSH, I, L, P) (fun r h1 => zWp d zi_153 none 49 [l0, l1, l2, l3] (r.toList ++ []) h1 Q)) ∧
    (∀ (d : Nat) (l0 : Value) (l1 : Value) (l2 : Int32) (l3 : Value) (x0 : Int32) (h : zMm) (Q : Option Value → zMm → Prop), zWp d zi_153 none 49 [l0, l1, .int l2, l3] [.int x0] h Q = zWp d zi_153 none 50 [l0, l1, .int l2, .int x0] [] h Q) ∧
    (∀ (d : Nat) (l0 : Value) (l1 : Value) (l2 : Int32) (l3 : Value)  (h : zMm) (Q : Option Value → zMm → Prop), zWp d zi_153 none 50 [l0, l1, .int l2, l3] [] h Q = zWp d zi_153 none 51 [l0, l1, .int l2, l3] [.int l2] h Q) ∧
    (∀ (d : Nat) (l0 : Value) (l1 : Value) (l2 : Value) (l3 : Value) (x0 : Int32) (h : zMm) (Q : Option Value → zMm → Prop), zWp d zi_153 none 51 [l0, l1, l2, l3] [.int x0] h Q = zWp d zi_153 none 53 [l0, l1, l2, l3] [.int 42, .int x0] h Q) ∧
    (∀ (d : Nat) (l0 : Value) (l1 : Value) (l2 : Value) (l3 : Value) (x1 : Int32) (x0 : Int32) (h : zMm) (Q : Option Value → zMm → Prop), zWp d zi_153 none 53 [l0, l1, l2, l3] [.int x1, .int x0] h Q = if x0 = x1 then zWp d zi_153 none 56 [l0, l1, l2, l3] [] h Q else zWp d zi_153 none 62 [l0, l1, l2, l3] [] h Q) ∧
    (∀ (d : Nat) (l0 : Value) (l1 : Int32) (l2 : Value) (l3 : Value)  (h : zMm) (Q : Option Value → zMm → Prop), zWp d zi_153 none 56 [l0, .int l1, l2, l3] [] h Q = zWp d zi_153 none 57 [l0, .int l1, l2, l3] [.int l1] h Q) ∧
    (∀ (d : Nat) (l0 : Value) (l1 : Value) (l2 : Value) (l3 : Int32) (x0 : Int32) (h : zMm) (Q : Option Value → zMm → Prop), zWp d zi_153 none 57 [l0, l1, l2, .int l3] [.int x0] h Q = zWp d zi_153 none 58 [l0, l1, l2, .int l3] [.int l3, .int x0] h Q) ∧
    (∀ (d : Nat) (l0 : Value) (l1 : Value) (l2 : Value) (l3 : Value) (x1 : Int32) (x0 : Int32) (h : zMm) (Q : Option Value → zMm → Prop), zWp d zi_153 none 58 [l0, l1, l2, l3] [.int x1, .int x0] h Q = zWp d zi_153 none 59 [l0, l1, l2, l3] [.int (x0 * x1)] h Q) ∧
    (∀ (d : Nat) (l0 : Value) (l1 : Value) (l2 : Value) (l3 : Value) (x0 : Int32) (h : zMm) (Q : Option Value → zMm → Prop), zWp d zi_153 none 59 [l0, l1, l2, l3] [.int x0] h Q = zWp d zi_153 none 85 [l0, l1, l2, l3] [.int x0] h Q) ∧
    (∀ (d : Nat) (l0 : Value) (l1 : Value) (l2 : Value) (l3 : Int32)  (h : zMm) (Q : Option Value → zMm → Prop), zWp d zi_153 none 62 [l0, l1, l2, .int l3] [] h Q = zWp d zi_153 none 63 [l0, l1, l2, .int l3] [.int l3] h Q) ∧
    (∀ (d : Nat) (l0 : Value) (l1 : Value) (l2 : Value) (l3 : Value) (x0 : Int32) (h : zMm) (Q : Option Value → zMm → Prop), zWp d zi_153 none 63 [l0, l1, l2, l3] [.int x0] h Q = if x0 = 0 then zWp d zi_153 none 66 [l0, l1, l2, l3] [] h Q else zWp d zi_153 none 70 [l0, l1, l2, l3] [] h Q) ∧
    (∀ (d : Nat) (l0 : Value) (l1 : Value) (l2 : Value) (l3 : Value)  (h : zMm) (Q : Option Value → zMm → Prop), zWp d zi_153 none 66 [l0, l1, l2, l3] [] h Q = zWp d zi_153 none 67 [l0, l1, l2, l3] [.int 0] h Q) ∧
    (∀ (d : Nat) (l0 : Value) (l1 : Value) (l2 : Value) (l3 : Value) (x0 : Int32) (h : zMm) (Q : Option Value → zMm → Prop), zWp d zi_153 none 67 [l0, l1, l2, l3] [.int x0] h Q = zWp d zi_153 none 85 [l0, l1, l2, l3] [.int x0] h Q) ∧
    (∀ (d : Nat) (l0 : Value) (l1 : Value) (l2 : Int32) (l3 : Value)  (h : zMm) (Q : Option Value → zMm → Prop), zWp d zi_153 none 70 [l0, l1, .int l2, l3] [] h Q = zWp d zi_153 none 71 [l0, l1, .int l2, l3] [.int l2] h Q) ∧
    (∀ (d : Nat) (l0 : Value) (l1 : Value) (l2 : Value) (l3 : Value) (x0 : Int32) (h : zMm) (Q : Option Value → zMm → Prop), zWp d zi_153 none 71 [l0, l1, l2, l3] [.int x0] h Q = zWp d zi_153 none 73 [l0, l1, l2, l3] [.int 47, .int x0] h Q) ∧
    (∀ (d : Nat) (l0 : Value) (l1 : Value) (l2 : Value) (l3 : Value) (x1 : Int32) (x0 : Int32) (h : zMm) (Q : Option Value → zMm → Prop), zWp d zi_153 none 73 [l0, l1, l2, l3] [.int x1, .int x0] h Q = if x0 = x1 then zWp d zi_153 none 76 [l0, l1, l2, l3] [] h Q else zWp d zi_153 none 82 [l0, l1, l2, l3] [] h Q) ∧
    (∀ (d : Nat) (l0 : Value) (l1 : Int32) (l2 : Value) (l3 : Value)  (h : zMm) (Q : Option Value → zMm → Prop), zWp d zi_153 none 76 [l0, .int l1, l2, l3] [] h Q = zWp d zi_153 none 77 [l0, .int l1, l2, l3] [.int l1] h Q) ∧
    (∀ (d : Nat) (l0 : Value) (l1 : Value) (l2 : Value) (l3 : Int32) (x0 : Int32) (h : zMm) (Q : Option Value → zMm → Prop), zWp d zi_153 none 77 [l0, l1, l2, .int l3] [.int x0] h Q = zWp d zi_153 none 78 [l0, l1, l2, .int l3] [.int l3, .int x0] h Q) ∧
    (∀ (d : Nat) (l0 : Value) (l1 : Value) (l2 : Value) (l3 : Value) (x1 : Int32) (x0 : Int32) (h : zMm) (Q : Option Value → zMm → Prop), zWp d zi_153 none 78 [l0, l1, l2, l3] [.int x1, .int x0] h Q = (¬ x1 = 0 ∧ zWp d zi_153 none 79 [l0, l1, l2, l3] [.int (x0 / x1)] h Q)) ∧
    (∀ (d : Nat) (l0 : Value) (l1 : Value) (l2 : Value) (l3 : Value) (x0 : Int32) (h : zMm) (Q : Option Value → zMm → Prop), zWp d zi_153 none 79 [l0, l1, l2, l3] [.int x0] h Q = zWp d zi_153 none 85 [l0, l1, l2, l3] [.int x0] h Q) ∧
    (∀ (d : Nat) (l0 : Value) (l1 : Int32) (l2 : Value) (l3 : Value)  (h : zMm) (Q : Option Value → zMm → Prop), zWp d zi_153 none 82 [l0, .int l1, l2, l3] [] h Q = zWp d zi_153 none 83 [l0, .int l1, l2, l3] [.int l1] h Q) ∧
    (∀ (d : Nat) (l0 : Value) (l1 : Value) (l2 : Value) (l3 : Int32) (x0 : Int32) (h : zMm) (Q : Option Value → zMm → Prop), zWp d zi_153 none 83 [l0, l1, l2, .int l3] [.int x0] h Q = zWp d zi_153 none 84 [l0, l1, l2, .int l3] [.int l3, .int x0] h Q) ∧
    (∀ (d : Nat) (l0 : Value) (l1 : Value) (l2 : Value) (l3 : Value) (x1 : Int32) (x0 : Int32) (h : zMm) (Q : Option Value → zMm → Prop), zWp d zi_153 none 84 [l0, l1, l2, l3] [.int x1, .int x0] h Q = (¬ x1 = 0 ∧ zWp d zi_153 none 85 [l0, l1, l2, l3] [.int (x0 - x0 / x1 * x1)] h Q)) ∧
    (∀ (d : Nat) (l0 : Nat) (l1 : Value) (l2 : Value) (l3 : Value) (x0 : Int32) (h : zMm) (Q : Option Value → zMm → Prop), zWp d zi_153 none 85 [.ref l0, l1, l2, l3] [.int x0] h Q = zWp d zi_153 none 86 [.ref l0, .int x0, l2, l3] [] h Q) ∧
    (∀ (d : Nat) (l0 : Nat) (l1 : Value) (l2 : Value) (l3 : Value)  (h : zMm) (Q : Option Value → zMm → Prop), zWp d zi_153 none 86 [.ref l0, l1, l2, l3] [] h Q = zWp d zi_153 none 87 [.ref l0, l1, l2, l3] [.ref l0] h Q) ∧
    (∀ (d : Nat) (l0 : Value) (l1 : Value) (l2 : Value) (l3 : Value) (x0 : Nat) (I : Nat → Nat → Int32) (L : Nat → Nat → Int64) (P : Nat → Nat → Option Nat) (Q : Option Value → zMm → Prop), zSH[x0]? = some (.inl 10) → zWp d zi_153 none 87 [l0, l1, l2, l3] [.ref x0] (zSH, I, L, P) Q = zWM d 146 [.ref x0] (zSH, I, L, P) (fun r h1 => zWp d zi_153 none 90 [l0, l1, l2, l3] (r.toList ++ []) h1 Q)) ∧
    (∀ (d : Nat) (l0 : Value) (l1 : Int32) (l2 : Value) (l3 : Value) (x0 : Int32) (h : zMm) (Q : Option Value → zMm → Prop), zWp d zi_153 none 90 [l0, .int l1, l2, l3] [.int x0] h Q = zWp d zi_153 none 91 [l0, .int l1, .int x0, l3] [] h Q) ∧
    (∀ (d : Nat) (l0 : Value) (l1 : Value) (l2 : Value) (l3 : Value)  (h : zMm) (Q : Option Value → zMm → Prop), zWp d zi_153 none 91 [l0, l1, l2, l3] [] h Q = zWp d zi_153 none 10 [l0, l1, l2, l3] [] h Q) ∧
    (∀ (d : Nat) (l0 : Value) (l1 : Int32) (l2 : Value) (l3 : Value)  (h : zMm) (Q : Option Value → zMm → Prop), zWp d zi_153 none 94 [l0, .int l1, l2, l3] [] h Q = zWp d zi_153 none 95 [l0, .int l1, l2, l3] [.int l1] h Q) ∧
    (∀ (d : Nat) (l0 : Value) (l1 : Value) (l2 : Value) (l3 : Value) (x0 : Int32) (h : zMm) (Q : Option Value → zMm → Prop), zWp d zi_153 none 95 [l0, l1, l2, l3] [.int x0] h Q = Q (some (.int x0)) h) :=
  ⟨(fun d l0 l1 l2 l3  h Q => zr_aload_n rfl rfl),
   (fun d l0 l1 l2 l3 x0 I L P Q p0 => zr_vir (as := []) (rest := []) rfl lm_10_224 m_155 kd_155 rfl (Nat.le_of_ble_eq_true rfl) p0),
   (fun d l0 l1 l2 l3 x0 h Q => zr_istore_n (n := 1) rfl (Nat.le_of_ble_eq_true rfl) rfl),
   (fun d l0 l1 l2 l3  h Q => zr_aload_n rfl rfl),
   (fun d l0 l1 l2 l3 x0 I L P Q p0 => zr_vir (as := []) (rest := []) rfl lm_10_206 m_146 kd_146 rfl (Nat.le_of_ble_eq_true rfl) p0),
   (fun d l0 l1 l2 l3 x0 h Q => zr_istore_n (n := 2) rfl (Nat.le_of_ble_eq_true rfl) rfl),
   (fun d l0 l1 l2 l3 x0 I L P Q p0 => zr_getI rfl lf_10_203 (fun _ _ _ => rfl) p0),
   (fun d l0 l1 l2 l3 x0 h Q => zr_if_ge rfl (by decide)),
   (fun d l0 l1 l2 l3  h Q => zr_iload_n rfl rfl),
   (fun d l0 l1 l2 l3 x0 h Q => zr_bipush rfl (by decide)),
   (fun d l0 l1 l2 l3 x1 x0 h Q => zr_ic_eq rfl (by decide)),
   (fun d l0 l1 l2 l3  h Q => zr_iload_n rfl rfl),
   (fun d l0 l1 l2 l3 x0 h Q => zr_bipush rfl (by decide)),
   (fun d l0 l1 l2 l3 x1 x0 h Q => zr_ic_eq rfl (by decide)),
   (fun d l0 l1 l2 l3  h Q => zr_iload_n rfl rfl),
   (fun d l0 l1 l2 l3 x0 h Q => zr_bipush rfl (by decide)),
   (fun d l0 l1 l2 l3 x1 x0 h Q => zr_ic_ne rfl (by decide)),
   (fun d l0 l1 l2 l3  h Q => zr_aload_n rfl rfl),
   (fun d l0 l1 l2 l3 x0 h Q => zr_dup rfl rfl),
   (fun d l0 l1 l2 l3 x1 x0 I L P Q p0 => zr_getI rfl lf_10_194 (fun _ _ _ => rfl) p0),
   (fun d l0 l1 l2 l3 x1 x0 h Q => zr_iconst rfl (by decide)),
   (fun d l0 l1 l2 l3 x2 x1 x0 h Q => zr_iadd rfl),
   (fun d l0 l1 l2 l3 x1 x0 I L P Q p0 => zr_putI rfl lf_10_194 (by decide) rfl p0),
   (fun d l0 l1 l2 l3  h Q => zr_aload_n rfl rfl),
   (fun d l0 l1 l2 l3 x0 I L P Q p0 => zr_vir (as := []) (rest := []) rfl lm_10_224 m_155 kd_155 rfl (Nat.le_of_ble_eq_true rfl) p0),
   (fun d l0 l1 l2 l3 x0 h Q => zr_istore_n (n := 3) rfl (Nat.le_of_ble_eq_true rfl) rfl),
   (fun d l0 l1 l2 l3  h Q => zr_iload_n rfl rfl),
   (fun d l0 l1 l2 l3 x0 h Q => zr_bipush rfl (by decide)),
   (fun d l0 l1 l2 l3 x1 x0 h Q => zr_ic_ne rfl (by decide)),
   (fun d l0 l1 l2 l3  h Q => zr_iload_n rfl rfl),
   (fun d l0 l1 l2 l3 x0 h Q => zr_iload_n rfl rfl),
   (fun d l0 l1 l2 l3 x1 x0 h Q => zr_imul rfl),
   (fun d l0 l1 l2 l3 x0 h Q => zr_goto rfl (by decide)),
   (fun d l0 l1 l2 l3  h Q => zr_iload_n rfl rfl),
   (fun d l0 l1 l2 l3 x0 h Q => zr_if_ne rfl (by decide)),
   (fun d l0 l1 l2 l3  h Q => zr_iconst rfl (by decide)),
   (fun d l0 l1 l2 l3 x0 h Q => zr_goto rfl (by decide)),
   (fun d l0 l1 l2 l3  h Q => zr_iload_n rfl rfl),
   (fun d l0 l1 l2 l3 x0 h Q => zr_bipush rfl (by decide)),
   (fun d l0 l1 l2 l3 x1 x0 h Q => zr_ic_ne rfl (by decide)),
   (fun d l0 l1 l2 l3  h Q => zr_iload_n rfl rfl),
   (fun d l0 l1 l2 l3 x0 h Q => zr_iload_n rfl rfl),
   (fun d l0 l1 l2 l3 x1 x0 h Q => zr_idiv rfl),
   (fun d l0 l1 l2 l3 x0 h Q => zr_goto rfl (by decide)),
   (fun d l0 l1 l2 l3  h Q => zr_iload_n rfl rfl),
   (fun d l0 l1 l2 l3 x0 h Q => zr_iload_n rfl rfl),
   (fun d l0 l1 l2 l3 x1 x0 h Q => zr_irem rfl),
   (fun d l0 l1 l2 l3 x0 h Q => zr_istore_n (n := 1) rfl (Nat.le_of_ble_eq_true rfl) rfl),
   (fun d l0 l1 l2 l3  h Q => zr_aload_n rfl rfl),
   (fun d l0 l1 l2 l3 x0 I L P Q p0 => zr_vir (as := []) (rest := []) rfl lm_10_206 m_146 kd_146 rfl (Nat.le_of_ble_eq_true rfl) p0),
   (fun d l0 l1 l2 l3 x0 h Q => zr_istore_n (n := 2) rfl (Nat.le_of_ble_eq_true rfl) rfl),
   (fun d l0 l1 l2 l3  h Q => zr_goto rfl (by decide)),
   (fun d l0 l1 l2 l3  h Q => zr_iload_n rfl rfl),
   (fun d l0 l1 l2 l3 x0 h Q => zr_iret rfl rfl)⟩
theorem H_X10_product_10 : ∀ (d : Nat) (l0 : Nat) (l1 : Value) (l2 : Value) (l3 : Value)  (h : zMm) (Q : Option Value → zMm → Prop), zWp d zi_153 none 10 [.ref l0, l1, l2, l3] [] h Q = zWp d zi_153 none 11 [.ref l0, l1, l2, l3] [.ref l0] h Q := fun d l0 l1 l2 l3  h Q => zr_aload_n rfl rfl
theorem E_X10_nameOf : ∀ (d : Nat) (a0 : Int32) (h : zMm) (Q : Option Value → zMm → Prop), zWM (d + 1) 154 [.int a0] h Q = zWp d zi_154 none 0 [.int a0] [] h Q := fun d a0 h Q => zW_M m_154 (Nat.le_of_ble_eq_true rfl) rfl
set_option maxRecDepth 100000 in
theorem R_X10_nameOf :
    (∀ (d : Nat) (l0 : Int32)  (h : zMm) (Q : Option Value → zMm → Prop), zWp d zi_154 none 0 [.int l0] [] h Q = zWp d zi_154 none 1 [.int l0] [.int l0] h Q) ∧
    (∀ (d : Nat) (l0 : Value) (x0 : Int32) (h : zMm) (Q : Option Value → zMm → Prop), zWp d zi_154 none 1 [l0] [.int x0] h Q = if x0 = 100 then zWp d zi_154 none 100 [l0] [] h Q else if x0 = 101 then zWp d zi_154 none 108 [l0] [] h Q else if x0 = 102 then zWp d zi_154 none 96 [l0] [] h Q else if x0 = 103 then zWp d zi_154 none 108 [l0] [] h Q else if x0 = 104 then zWp d zi_154 none 108 [l0] [] h Q else if x0 = 105 then zWp d zi_154 none 108 [l0] [] h Q else if x0 = 106 then zWp d zi_154 none 108 [l0] [] h Q else if x0 = 107 then zWp d zi_154 none 102 [l0] [] h Q else if x0 = 108 then zWp d zi_154 none 108 [l0] [] h Q else if x0 = 109 then zWp d zi_154 none 104 [l0] [] h Q else if x0 = 110 then zWp d zi_154 none 108 [l0] [] h Q else if x0 = 111 then zWp d zi_154 none 108 [l0] [] h Q else if x0 = 112 then zWp d zi_154 none 98 [l0] [] h Q else if x0 = 113 then zWp d zi_154 none 108 [l0] [] h Q else if x0 = 114 then zWp d zi_154 none 108 [l0] [] h Q else if x0 = 115 then zWp d zi_154 none 108 [l0] [] h Q else if x0 = 116 then zWp d zi_154 none 108 [l0] [] h Q else if x0 = 117 then zWp d zi_154 none 108 [l0] [] h Q else if x0 = 118 then zWp d zi_154 none 108 [l0] [] h Q else if x0 = 119 then zWp d zi_154 none 106 [l0] [] h Q else zWp d zi_154 none 108 [l0] [] h Q) ∧
    (∀ (d : Nat) (l0 : Value)  (h : zMm) (Q : Option Value → zMm → Prop), zWp d zi_154 none 96 [l0] [] h Q = zWp d zi_154 none 97 [l0] [.int 0] h Q) ∧
    (∀ (d : Nat) (l0 : Value) (x0 : Int32) (h : zMm) (Q : Option Value → zMm → Prop), zWp d zi_154 none 97 [l0] [.int x0] h Q = Q (some (.int x0)) h) ∧
    (∀ (d : Nat) (l0 : Value)  (h : zMm) (Q : Option Value → zMm → Prop), zWp d zi_154 none 98 [l0] [] h Q = zWp d zi_154 none 99 [l0] [.int 1] h Q) ∧
    (∀ (d : Nat) (l0 : Value) (x0 : Int32) (h : zMm) (Q : Option Value → zMm → Prop), zWp d zi_154 none 99 [l0] [.int x0] h Q = Q (some (.int x0)) h) ∧
    (∀ (d : Nat) (l0 : Value)  (h : zMm) (Q : Option Value → zMm → Prop), zWp d zi_154 none 100 [l0] [] h Q = zWp d zi_154 none 101 [l0] [.int 2] h Q) ∧
    (∀ (d : Nat) (l0 : Value) (x0 : Int32) (h : zMm) (Q : Option Value → zMm → Prop), zWp d zi_154 none 101 [l0] [.int x0] h Q = Q (some (.int x0)) h) ∧
    (∀ (d : Nat) (l0 : Value)  (h : zMm) (Q : Option Value → zMm → Prop), zWp d zi_154 none 102 [l0] [] h Q = zWp d zi_154 none 103 [l0] [.int 3] h Q) ∧
    (∀ (d : Nat) (l0 : Value) (x0 : Int32) (h : zMm) (Q : Option Value → zMm → Prop), zWp d zi_154 none 103 [l0] [.int x0] h Q = Q (some (.int x0)) h) ∧
    (∀ (d : Nat) (l0 : Value)  (h : zMm) (Q : Option Value → zMm → Prop), zWp d zi_154 none 104 [l0] [] h Q = zWp d zi_154 none 105 [l0] [.int 4] h Q) ∧
    (∀ (d : Nat) (l0 : Value) (x0 : Int32) (h : zMm) (Q : Option Value → zMm → Prop), zWp d zi_154 none 105 [l0] [.int x0] h Q = Q (some (.int x0)) h) ∧
    (∀ (d : Nat) (l0 : Value)  (h : zMm) (Q : Option Value → zMm → Prop), zWp d zi_154 none 106 [l0] [] h Q = zWp d zi_154 none 107 [l0] [.int 5] h Q) ∧
    (∀ (d : Nat) (l0 : Value) (x0 : Int32) (h : zMm) (Q : Option Value → zMm → Prop), zWp d zi_154 none 107 [l0] [.int x0] h Q = Q (some (.int x0)) h) ∧
    (∀ (d : Nat) (l0 : Value)  (h : zMm) (Q : Option Value → zMm → Prop), zWp d zi_154 none 108 [l0] [] h Q = zWp d zi_154 none 109 [l0] [.int (-1)] h Q) ∧
    (∀ (d : Nat) (l0 : Value) (x0 : Int32) (h : zMm) (Q : Option Value → zMm → Prop), zWp d zi_154 none 109 [l0] [.int x0] h Q = Q (some (.int x0)) h) :=
  ⟨(fun d l0  h Q => zr_iload_n rfl rfl),
   (fun d l0 x0 h Q => by
      by_cases e0 : x0 = 100
      · subst e0; rw [if_pos rfl]; exact zr_tabI rfl (by decide) rfl (by decide)
      rw [if_neg e0]
      have n0 : ¬ x0.toInt = 100 := fun z => e0 (Int32.toInt_inj.mp z)
      by_cases e1 : x0 = 101
      · subst e1; rw [if_pos rfl]; exact zr_tabI rfl (by decide) rfl (by decide)
      rw [if_neg e1]
      have n1 : ¬ x0.toInt = 101 := fun z => e1 (Int32.toInt_inj.mp z)
      by_cases e2 : x0 = 102
      · subst e2; rw [if_pos rfl]; exact zr_tabI rfl (by decide) rfl (by decide)
      rw [if_neg e2]
      have n2 : ¬ x0.toInt = 102 := fun z => e2 (Int32.toInt_inj.mp z)
      by_cases e3 : x0 = 103
      · subst e3; rw [if_pos rfl]; exact zr_tabI rfl (by decide) rfl (by decide)
      rw [if_neg e3]
      have n3 : ¬ x0.toInt = 103 := fun z => e3 (Int32.toInt_inj.mp z)
      by_cases e4 : x0 = 104
      · subst e4; rw [if_pos rfl]; exact zr_tabI rfl (by decide) rfl (by decide)
      rw [if_neg e4]
      have n4 : ¬ x0.toInt = 104 := fun z => e4 (Int32.toInt_inj.mp z)
      by_cases e5 : x0 = 105
      · subst e5; rw [if_pos rfl]; exact zr_tabI rfl (by decide) rfl (by decide)
      rw [if_neg e5]
      have n5 : ¬ x0.toInt = 105 := fun z => e5 (Int32.toInt_inj.mp z)
      by_cases e6 : x0 = 106
      · subst e6; rw [if_pos rfl]; exact zr_tabI rfl (by decide) rfl (by decide)
      rw [if_neg e6]
      have n6 : ¬ x0.toInt = 106 := fun z => e6 (Int32.toInt_inj.mp z)
      by_cases e7 : x0 = 107
      · subst e7; rw [if_pos rfl]; exact zr_tabI rfl (by decide) rfl (by decide)
      rw [if_neg e7]
      have n7 : ¬ x0.toInt = 107 := fun z => e7 (Int32.toInt_inj.mp z)
      by_cases e8 : x0 = 108
      · subst e8; rw [if_pos rfl]; exact zr_tabI rfl (by decide) rfl (by decide)
      rw [if_neg e8]
      have n8 : ¬ x0.toInt = 108 := fun z => e8 (Int32.toInt_inj.mp z)
      by_cases e9 : x0 = 109
      · subst e9; rw [if_pos rfl]; exact zr_tabI rfl (by decide) rfl (by decide)
      rw [if_neg e9]
      have n9 : ¬ x0.toInt = 109 := fun z => e9 (Int32.toInt_inj.mp z)
      by_cases e10 : x0 = 110
      · subst e10; rw [if_pos rfl]; exact zr_tabI rfl (by decide) rfl (by decide)
      rw [if_neg e10]
      have n10 : ¬ x0.toInt = 110 := fun z => e10 (Int32.toInt_inj.mp z)
      by_cases e11 : x0 = 111
      · subst e11; rw [if_pos rfl]; exact zr_tabI rfl (by decide) rfl (by decide)
      rw [if_neg e11]
      have n11 : ¬ x0.toInt = 111 := fun z => e11 (Int32.toInt_inj.mp z)
      by_cases e12 : x0 = 112
      · subst e12; rw [if_pos rfl]; exact zr_tabI rfl (by decide) rfl (by decide)
      rw [if_neg e12]
      have n12 : ¬ x0.toInt = 112 := fun z => e12 (Int32.toInt_inj.mp z)
      by_cases e13 : x0 = 113
      · subst e13; rw [if_pos rfl]; exact zr_tabI rfl (by decide) rfl (by decide)
      rw [if_neg e13]
      have n13 : ¬ x0.toInt = 113 := fun z => e13 (Int32.toInt_inj.mp z)
      by_cases e14 : x0 = 114
      · subst e14; rw [if_pos rfl]; exact zr_tabI rfl (by decide) rfl (by decide)
      rw [if_neg e14]
      have n14 : ¬ x0.toInt = 114 := fun z => e14 (Int32.toInt_inj.mp z)
      by_cases e15 : x0 = 115
      · subst e15; rw [if_pos rfl]; exact zr_tabI rfl (by decide) rfl (by decide)
      rw [if_neg e15]
      have n15 : ¬ x0.toInt = 115 := fun z => e15 (Int32.toInt_inj.mp z)
      by_cases e16 : x0 = 116
      · subst e16; rw [if_pos rfl]; exact zr_tabI rfl (by decide) rfl (by decide)
      rw [if_neg e16]
      have n16 : ¬ x0.toInt = 116 := fun z => e16 (Int32.toInt_inj.mp z)
      by_cases e17 : x0 = 117
      · subst e17; rw [if_pos rfl]; exact zr_tabI rfl (by decide) rfl (by decide)
      rw [if_neg e17]
      have n17 : ¬ x0.toInt = 117 := fun z => e17 (Int32.toInt_inj.mp z)
      by_cases e18 : x0 = 118
      · subst e18; rw [if_pos rfl]; exact zr_tabI rfl (by decide) rfl (by decide)
      rw [if_neg e18]
      have n18 : ¬ x0.toInt = 118 := fun z => e18 (Int32.toInt_inj.mp z)
      by_cases e19 : x0 = 119
      · subst e19; rw [if_pos rfl]; exact zr_tabI rfl (by decide) rfl (by decide)
      rw [if_neg e19]
      have n19 : ¬ x0.toInt = 119 := fun z => e19 (Int32.toInt_inj.mp z)
      exact zr_tabD rfl (by omega) (by decide)),
   (fun d l0  h Q => zr_iconst rfl (by decide)),
   (fun d l0 x0 h Q => zr_iret rfl rfl),
   (fun d l0  h Q => zr_iconst rfl (by decide)),
   (fun d l0 x0 h Q => zr_iret rfl rfl),
   (fun d l0  h Q => zr_iconst rfl (by decide)),
   (fun d l0 x0 h Q => zr_iret rfl rfl),
   (fun d l0  h Q => zr_iconst rfl (by decide)),
   (fun d l0 x0 h Q => zr_iret rfl rfl),
   (fun d l0  h Q => zr_iconst rfl (by decide)),
   (fun d l0 x0 h Q => zr_iret rfl rfl),
   (fun d l0  h Q => zr_iconst rfl (by decide)),
   (fun d l0 x0 h Q => zr_iret rfl rfl),
   (fun d l0  h Q => zr_iconst rfl (by decide)),
   (fun d l0 x0 h Q => zr_iret rfl rfl)⟩
theorem E_X10_one : ∀ (d : Nat) (a0 : Nat) (h : zMm) (Q : Option Value → zMm → Prop), zWM (d + 1) 155 [.ref a0] h Q = zWp d zi_155 none 0 [.ref a0, .retAddr 0, .retAddr 0, .retAddr 0, .retAddr 0] [] h Q := fun d a0 h Q => zW_M m_155 (Nat.le_of_ble_eq_true rfl) rfl
set_option maxRecDepth 100000 in
theorem R_X10_one :
    (∀ (d : Nat) (l0 : Nat) (l1 : Value) (l2 : Value) (l3 : Value) (l4 : Value)  (h : zMm) (Q : Option Value → zMm → Prop), zWp d zi_155 none 0 [.ref l0, l1, l2, l3, l4] [] h Q = zWp d zi_155 none 1 [.ref l0, l1, l2, l3, l4] [.ref l0] h Q) ∧
    (∀ (d : Nat) (l0 : Value) (l1 : Value) (l2 : Value) (l3 : Value) (l4 : Value) (x0 : Nat) (I : Nat → Nat → Int32) (L : Nat → Nat → Int64) (P : Nat → Nat → Option Nat) (Q : Option Value → zMm → Prop), zSH[x0]? = some (.inl 10) → zWp d zi_155 none 1 [l0, l1, l2, l3, l4] [.ref x0] (zSH, I, L, P) Q = zWp d zi_155 none 4 [l0, l1, l2, l3, l4] [.int (I x0 20)] (zSH, I, L, P) Q) ∧
    (∀ (d : Nat) (l0 : Value) (l1 : Value) (l2 : Value) (l3 : Value) (l4 : Value) (x0 : Int32) (h : zMm) (Q : Option Value → zMm → Prop), zWp d zi_155 none 4 [l0, l1, l2, l3, l4] [.int x0] h Q = if x0 < 0 then zWp d zi_155 none 9 [l0, l1, l2, l3, l4] [] h Q else zWp d zi_155 none 7 [l0, l1, l2, l3, l4] [] h Q) ∧
    (∀ (d : Nat) (l0 : Value) (l1 : Value) (l2 : Value) (l3 : Value) (l4 : Value)  (h : zMm) (Q : Option Value → zMm → Prop), zWp d zi_155 none 7 [l0, l1, l2, l3, l4] [] h Q = zWp d zi_155 none 8 [l0, l1, l2, l3, l4] [.int 0] h Q) ∧
    (∀ (d : Nat) (l0 : Value) (l1 : Value) (l2 : Value) (l3 : Value) (l4 : Value) (x0 : Int32) (h : zMm) (Q : Option Value → zMm → Prop), zWp d zi_155 none 8 [l0, l1, l2, l3, l4] [.int x0] h Q = Q (some (.int x0)) h) ∧
    (∀ (d : Nat) (l0 : Nat) (l1 : Value) (l2 : Value) (l3 : Value) (l4 : Value)  (h : zMm) (Q : Option Value → zMm → Prop), zWp d zi_155 none 9 [.ref l0, l1, l2, l3, l4] [] h Q = zWp d zi_155 none 10 [.ref l0, l1, l2, l3, l4] [.ref l0] h Q) ∧
    (∀ (d : Nat) (l0 : Value) (l1 : Value) (l2 : Value) (l3 : Value) (l4 : Value) (x0 : Nat) (I : Nat → Nat → Int32) (L : Nat → Nat → Int64) (P : Nat → Nat → Option Nat) (Q : Option Value → zMm → Prop), zSH[x0]? = some (.inl 10) → zWp d zi_155 none 10 [l0, l1, l2, l3, l4] [.ref x0] (zSH, I, L, P) Q = zWM d 146 [.ref x0] (zSH, I, L, P) (fun r h1 => zWp d zi_155 none 13 [l0, l1, l2, l3, l4] (r.toList ++ []) h1 Q)) ∧
    (∀ (d : Nat) (l0 : Nat) (l1 : Value) (l2 : Value) (l3 : Value) (l4 : Value) (x0 : Int32) (h : zMm) (Q : Option Value → zMm → Prop), zWp d zi_155 none 13 [.ref l0, l1, l2, l3, l4] [.int x0] h Q = zWp d zi_155 none 14 [.ref l0, .int x0, l2, l3, l4] [] h Q) ∧
    (∀ (d : Nat) (l0 : Value) (l1 : Int32) (l2 : Value) (l3 : Value) (l4 : Value)  (h : zMm) (Q : Option Value → zMm → Prop), zWp d zi_155 none 14 [l0, .int l1, l2, l3, l4] [] h Q = zWp d zi_155 none 15 [l0, .int l1, l2, l3, l4] [.int l1] h Q) ∧
    (∀ (d : Nat) (l0 : Value) (l1 : Value) (l2 : Value) (l3 : Value) (l4 : Value) (x0 : Int32) (h : zMm) (Q : Option Value → zMm → Prop), zWp d zi_155 none 15 [l0, l1, l2, l3, l4] [.int x0] h Q = zWp d zi_155 none 17 [l0, l1, l2, l3, l4] [.int 33, .int x0] h Q) ∧
    (∀ (d : Nat) (l0 : Value) (l1 : Value) (l2 : Value) (l3 : Value) (l4 : Value) (x1 : Int32) (x0 : Int32) (h : zMm) (Q : Option Value → zMm → Prop), zWp d zi_155 none 17 [l0, l1, l2, l3, l4] [.int x1, .int x0] h Q = if x0 = x1 then zWp d zi_155 none 32 [l0, l1, l2, l3, l4] [] h Q else zWp d zi_155 none 20 [l0, l1, l2, l3, l4] [] h Q) ∧
    (∀ (d : Nat) (l0 : Value) (l1 : Int32) (l2 : Value) (l3 : Value) (l4 : Value)  (h : zMm) (Q : Option Value → zMm → Prop), zWp d zi_155 none 20 [l0, .int l1, l2, l3, l4] [] h Q = zWp d zi_155 none 21 [l0, .int l1, l2, l3, l4] [.int l1] h Q) ∧
    (∀ (d : Nat) (l0 : Value) (l1 : Value) (l2 : Value) (l3 : Value) (l4 : Value) (x0 : Int32) (h : zMm) (Q : Option Value → zMm → Prop), zWp d zi_155 none 21 [l0, l1, l2, l3, l4] [.int x0] h Q = zWp d zi_155 none 23 [l0, l1, l2, l3, l4] [.int 45, .int x0] h Q) ∧
    (∀ (d : Nat) (l0 : Value) (l1 : Value) (l2 : Value) (l3 : Value) (l4 : Value) (x1 : Int32) (x0 : Int32) (h : zMm) (Q : Option Value → zMm → Prop), zWp d zi_155 none 23 [l0, l1, l2, l3, l4] [.int x1, .int x0] h Q = if x0 = x1 then zWp d zi_155 none 32 [l0, l1, l2, l3, l4] [] h Q else zWp d zi_155 none 26 [l0, l1, l2, l3, l4] [] h Q) ∧
    (∀ (d : Nat) (l0 : Value) (l1 : Int32) (l2 : Value) (l3 : Value) (l4 : Value)  (h : zMm) (Q : Option Value → zMm → Prop), zWp d zi_155 none 26 [l0, .int l1, l2, l3, l4] [] h Q = zWp d zi_155 none 27 [l0, .int l1, l2, l3, l4] [.int l1] h Q) ∧
    (∀ (d : Nat) (l0 : Value) (l1 : Value) (l2 : Value) (l3 : Value) (l4 : Value) (x0 : Int32) (h : zMm) (Q : Option Value → zMm → Prop), zWp d zi_155 none 27 [l0, l1, l2, l3, l4] [.int x0] h Q = zWp d zi_155 none 29 [l0, l1, l2, l3, l4] [.int 40, .int x0] h Q) ∧
    (∀ (d : Nat) (l0 : Value) (l1 : Value) (l2 : Value) (l3 : Value) (l4 : Value) (x1 : Int32) (x0 : Int32) (h : zMm) (Q : Option Value → zMm → Prop), zWp d zi_155 none 29 [l0, l1, l2, l3, l4] [.int x1, .int x0] h Q = if x0 = x1 then zWp d zi_155 none 32 [l0, l1, l2, l3, l4] [] h Q else zWp d zi_155 none 145 [l0, l1, l2, l3, l4] [] h Q) ∧
    (∀ (d : Nat) (l0 : Nat) (l1 : Value) (l2 : Value) (l3 : Value) (l4 : Value)  (h : zMm) (Q : Option Value → zMm → Prop), zWp d zi_155 none 32 [.ref l0, l1, l2, l3, l4] [] h Q = zWp d zi_155 none 33 [.ref l0, l1, l2, l3, l4] [.ref l0] h Q) ∧
    (∀ (d : Nat) (l0 : Value) (l1 : Value) (l2 : Value) (l3 : Value) (l4 : Value) (x0 : Nat) (I : Nat → Nat → Int32) (L : Nat → Nat → Int64) (P : Nat → Nat → Option Nat) (Q : Option Value → zMm → Prop), zSH[x0]? = some (.inl 10) → zWp d zi_155 none 33 [l0, l1, l2, l3, l4] [.ref x0] (zSH, I, L, P) Q = zWp d zi_155 none 36 [l0, l1, l2, l3, l4] [.int (I x0 21)] (zSH, I, L, P) Q) ∧
    (∀ (d : Nat) (l0 : Value) (l1 : Value) (l2 : Value) (l3 : Value) (l4 : Value) (x0 : Int32) (h : zMm) (Q : Option Value → zMm → Prop), zWp d zi_155 none 36 [l0, l1, l2, l3, l4] [.int x0] h Q = zWp d zi_155 none 38 [l0, l1, l2, l3, l4] [.int 6, .int x0] h Q) ∧
    (∀ (d : Nat) (l0 : Value) (l1 : Value) (l2 : Value) (l3 : Value) (l4 : Value) (x1 : Int32) (x0 : Int32) (h : zMm) (Q : Option Value → zMm → Prop), zWp d zi_155 none 38 [l0, l1, l2, l3, l4] [.int x1, .int x0] h Q = if x0 = x1 then zWp d zi_155 none 41 [l0, l1, l2, l3, l4] [] h Q else zWp d zi_155 none 46 [l0, l1, l2, l3, l4] [] h Q) ∧
    (∀ (d : Nat) (l0 : Nat) (l1 : Value) (l2 : Value) (l3 : Value) (l4 : Value)  (h : zMm) (Q : Option Value → zMm → Prop), zWp d zi_155 none 41 [.ref l0, l1, l2, l3, l4] [] h Q = zWp d zi_155 none 42 [.ref l0, l1, l2, l3, l4] [.ref l0] h Q) ∧
    (∀ (d : Nat) (l0 : Value) (l1 : Value) (l2 : Value) (l3 : Value) (l4 : Value) (x0 : Nat) (I : Nat → Nat → Int32) (L : Nat → Nat → Int64) (P : Nat → Nat → Option Nat) (Q : Option Value → zMm → Prop), zSH[x0]? = some (.inl 10) → zWp d zi_155 none 42 [l0, l1, l2, l3, l4] [.ref x0] (zSH, I, L, P) Q = zWM d 147 [.ref x0] (zSH, I, L, P) (fun r h1 => zWp d zi_155 none 45 [l0, l1, l2, l3, l4] (r.toList ++ []) h1 Q)) ∧
    (∀ (d : Nat) (l0 : Value) (l1 : Value) (l2 : Value) (l3 : Value) (l4 : Value) (x0 : Int32) (h : zMm) (Q : Option Value → zMm → Prop), zWp d zi_155 none 45 [l0, l1, l2, l3, l4] [.int x0] h Q = Q (some (.int x0)) h) ∧
    (∀ (d : Nat) (l0 : Nat) (l1 : Value) (l2 : Value) (l3 : Value) (l4 : Value)  (h : zMm) (Q : Option Value → zMm → Prop), zWp d zi_155 none 46 [.ref l0, l1, l2, l3, l4] [] h Q = zWp d zi_155 none 47 [.ref l0, l1, l2, l3, l4] [.ref l0] h Q) ∧
    (∀ (d : Nat) (l0 : Value) (l1 : Value) (l2 : Value) (l3 : Value) (l4 : Value) (x0 : Nat) (h : zMm) (Q : Option Value → zMm → Prop), zWp d zi_155 none 47 [l0, l1, l2, l3, l4] [.ref x0] h Q = zWp d zi_155 none 48 [l0, l1, l2, l3, l4] [.ref x0, .ref x0] h Q) ∧
    (∀ (d : Nat) (l0 : Value) (l1 : Value) (l2 : Value) (l3 : Value) (l4 : Value) (x1 : Nat) (x0 : Nat) (I : Nat → Nat → Int32) (L : Nat → Nat → Int64) (P : Nat → Nat → Option Nat) (Q : Option Value → zMm → Prop), zSH[x1]? = some (.inl 10) → zWp d zi_155 none 48 [l0, l1, l2, l3, l4] [.ref x1, .ref x0] (zSH, I, L, P) Q = zWp d zi_155 none 51 [l0, l1, l2, l3, l4] [.int (I x1 21), .ref x0] (zSH, I, L, P) Q) ∧
    (∀ (d : Nat) (l0 : Value) (l1 : Value) (l2 : Value) (l3 : Value) (l4 : Value) (x1 : Int32) (x0 : Nat) (h : zMm) (Q : Option Value → zMm → Prop), zWp d zi_155 none 51 [l0, l1, l2, l3, l4] [.int x1, .ref x0] h Q = zWp d zi_155 none 52 [l0, l1, l2, l3, l4] [.int 1, .int x1, .ref x0] h Q) ∧
    (∀ (d : Nat) (l0 : Value) (l1 : Value) (l2 : Value) (l3 : Value) (l4 : Value) (x2 : Int32) (x1 : Int32) (x0 : Nat) (h : zMm) (Q : Option Value → zMm → Prop), zWp d zi_155 none 52 [l0, l1, l2, l3, l4] [.int x2, .int x1, .ref x0] h Q = zWp d zi_155 none 53 [l0, l1, l2, l3, l4] [.int (x1 + x2), .ref x0] h Q) ∧
    (∀ (d : Nat) (l0 : Value) (l1 : Value) (l2 : Value) (l3 : Value) (l4 : Value) (x1 : Int32) (x0 : Nat) (I : Nat → Nat → Int32) (L : Nat → Nat → Int64) (P : Nat → Nat → Option Nat) (Q : Option Value → zMm → Prop), zSH[x0]? = some (.inl 10) → zWp d zi_155 none 53 [l0, l1, l2, l3, l4] [.int x1, .ref x0] (zSH, I, L, P) Q = zWp d zi_155 none 56 [l0, l1, l2, l3, l4] [] (zSH, zw I x0 (upd (I x0) 21 x1), L, P) Q) ∧
    (∀ (d : Nat) (l0 : Nat) (l1 : Value) (l2 : Value) (l3 : Value) (l4 : Value)  (h : zMm) (Q : Option Value → zMm → Prop), zWp d zi_155 none 56 [.ref l0, l1, l2, l3, l4] [] h Q = zWp d zi_155 none 57 [.ref l0, l1, l2, l3, l4] [.ref l0] h Q) ∧
    (∀ (d : Nat) (l0 : Value) (l1 : Value) (l2 : Value) (l3 : Value) (l4 : Value) (x0 : Nat) (h : zMm) (Q : Option Value → zMm → Prop), zWp d zi_155 none 57 [l0, l1, l2, l3, l4] [.ref x0] h Q = zWp d zi_155 none 58 [l0, l1, l2, l3, l4] [.ref x0, .ref x0] h Q) ∧
    (∀ (d : Nat) (l0 : Value) (l1 : Value) (l2 : Value) (l3 : Value) (l4 : Value) (x1 : Nat) (x0 : Nat) (I : Nat → Nat → Int32) (L : Nat → Nat → Int64) (P : Nat → Nat → Option Nat) (Q : Option Value → zMm → Prop), zSH[x1]? = some (.inl 10) → zWp d zi_155 none 58 [l0, l1, l2, l3, l4] [.ref x1, .ref x0] (zSH, I, L, P) Q = zWp d zi_155 none 61 [l0, l1, l2, l3, l4] [.int (I x1 18), .ref x0] (zSH, I, L, P) Q) ∧
    (∀ (d : Nat) (l0 : Value) (l1 : Value) (l2 : Value) (l3 : Value) (l4 : Value) (x1 : Int32) (x0 : Nat) (h : zMm) (Q : Option Value → zMm → Prop), zWp d zi_155 none 61 [l0, l1, l2, l3, l4] [.int x1, .ref x0] h Q = zWp d zi_155 none 62 [l0, l1, l2, l3, l4] [.int 1, .int x1, .ref x0] h Q) ∧
    (∀ (d : Nat) (l0 : Value) (l1 : Value) (l2 : Value) (l3 : Value) (l4 : Value) (x2 : Int32) (x1 : Int32) (x0 : Nat) (h : zMm) (Q : Option Value → zMm → Prop), zWp d zi_155 none 62 [l0, l1, l2, l3, l4] [.int x2, .int x1, .ref x0] h Q = zWp d zi_155 none 63 [l0, l1, l2, l3, l4] [.int (x1 + x2), .ref x0] h Q) ∧
    (∀ (d : Nat) (l0 : Value) (l1 : Value) (l2 : Value) (l3 : Value) (l4 : Value) (x1 : Int32) (x0 : Nat) (I : Nat → Nat → Int32) (L : Nat → Nat → Int64) (P : Nat → Nat → Option Nat) (Q : Option Value → zMm → Prop), zSH[x0]? = some (.inl 10) → zWp d zi_155 none 63 [l0, l1, l2, l3, l4] [.int x1, .ref x0] (zSH, I, L, P) Q = zWp d zi_155 none 66 [l0, l1, l2, l3, l4] [] (zSH, zw I x0 (upd (I x0) 18 x1), L, P) Q) ∧
    (∀ (d : Nat) (l0 : Value) (l1 : Int32) (l2 : Value) (l3 : Value) (l4 : Value)  (h : zMm) (Q : Option Value → zMm → Prop), zWp d zi_155 none 66 [l0, .int l1, l2, l3, l4] [] h Q = zWp d zi_155 none 67 [l0, .int l1, l2, l3, l4] [.int l1] h Q) ∧
    (∀ (d : Nat) (l0 : Value) (l1 : Value) (l2 : Value) (l3 : Value) (l4 : Value) (x0 : Int32) (h : zMm) (Q : Option Value → zMm → Prop), zWp d zi_155 none 67 [l0, l1, l2, l3, l4] [.int x0] h Q = zWp d zi_155 none 69 [l0, l1, l2, l3, l4] [.int 40, .int x0] h Q) ∧
    (∀ (d : Nat) (l0 : Value) (l1 : Value) (l2 : Value) (l3 : Value) (l4 : Value) (x1 : Int32) (x0 : Int32) (h : zMm) (Q : Option Value → zMm → Prop), zWp d zi_155 none 69 [l0, l1, l2, l3, l4] [.int x1, .int x0] h Q = if x0 = x1 then zWp d zi_155 none 72 [l0, l1, l2, l3, l4] [] h Q else zWp d zi_155 none 79 [l0, l1, l2, l3, l4] [] h Q) ∧
    (∀ (d : Nat) (l0 : Nat) (l1 : Value) (l2 : Value) (l3 : Value) (l4 : Value)  (h : zMm) (Q : Option Value → zMm → Prop), zWp d zi_155 none 72 [.ref l0, l1, l2, l3, l4] [] h Q = zWp d zi_155 none 73 [.ref l0, l1, l2, l3, l4] [.ref l0] h Q) ∧
    (∀ (d : Nat) (l0 : Value) (l1 : Value) (l2 : Value) (l3 : Value) (l4 : Value) (x0 : Nat) (I : Nat → Nat → Int32) (L : Nat → Nat → Int64) (P : Nat → Nat → Option Nat) (Q : Option Value → zMm → Prop), zSH[x0]? = some (.inl 10) → zWp d zi_155 none 73 [l0, l1, l2, l3, l4] [.ref x0] (zSH, I, L, P) Q = zWM d 149 [.ref x0] (zSH, I, L, P) (fun r h1 => zWp d zi_155 none 76 [l0, l1, l2, l3, l4] (r.toList ++ []) h1 Q)) ∧
    (∀ (d : Nat) (l0 : Value) (l1 : Value) (l2 : Value) (l3 : Value) (l4 : Value) (x0 : Int32) (h : zMm) (Q : Option Value → zMm → Prop), zWp d zi_155 none 76 [l0, l1, l2, l3, l4] [.int x0] h Q = zWp d zi_155 none 83 [l0, l1, l2, l3, l4] [.int x0] h Q) ∧
    (∀ (d : Nat) (l0 : Nat) (l1 : Value) (l2 : Value) (l3 : Value) (l4 : Value)  (h : zMm) (Q : Option Value → zMm → Prop), zWp d zi_155 none 79 [.ref l0, l1, l2, l3, l4] [] h Q = zWp d zi_155 none 80 [.ref l0, l1, l2, l3, l4] [.ref l0] h Q) ∧
    (∀ (d : Nat) (l0 : Value) (l1 : Value) (l2 : Value) (l3 : Value) (l4 : Value) (x0 : Nat) (I : Nat → Nat → Int32) (L : Nat → Nat → Int64) (P : Nat → Nat → Option Nat) (Q : Option Value → zMm → Prop), zSH[x0]? = some (.inl 10) → zWp d zi_155 none 80 [l0, l1, l2, l3, l4] [.ref x0] (zSH, I, L, P) Q = zWM d 155 [.ref x0] (zSH, I, L, P) (fun r h1 => zWp d zi_155 none 83 [l0, l1, l2, l3, l4] (r.toList ++ []) h1 Q)) ∧
    (∀ (d : Nat) (l0 : Value) (l1 : Int32) (l2 : Value) (l3 : Value) (l4 : Value) (x0 : Int32) (h : zMm) (Q : Option Value → zMm → Prop), zWp d zi_155 none 83 [l0, .int l1, l2, l3, l4] [.int x0] h Q = zWp d zi_155 none 84 [l0, .int l1, .int x0, l3, l4] [] h Q) ∧
    (∀ (d : Nat) (l0 : Value) (l1 : Int32) (l2 : Value) (l3 : Value) (l4 : Value)  (h : zMm) (Q : Option Value → zMm → Prop), zWp d zi_155 none 84 [l0, .int l1, l2, l3, l4] [] h Q = zWp d zi_155 none 85 [l0, .int l1, l2, l3, l4] [.int l1] h Q) ∧
    (∀ (d : Nat) (l0 : Value) (l1 : Value) (l2 : Value) (l3 : Value) (l4 : Value) (x0 : Int32) (h : zMm) (Q : Option Value → zMm → Prop), zWp d zi_155 none 85 [l0, l1, l2, l3, l4] [.int x0] h Q = zWp d zi_155 none 87 [l0, l1, l2, l3, l4] [.int 40, .int x0] h Q) ∧
    (∀ (d : Nat) (l0 : Value) (l1 : Value) (l2 : Value) (l3 : Value) (l4 : Value) (x1 : Int32) (x0 : Int32) (h : zMm) (Q : Option Value → zMm → Prop), zWp d zi_155 none 87 [l0, l1, l2, l3, l4] [.int x1, .int x0] h Q = if x0 = x1 then zWp d zi_155 none 90 [l0, l1, l2, l3, l4] [] h Q else zWp d zi_155 none 104 [l0, l1, l2, l3, l4] [] h Q) ∧
    (∀ (d : Nat) (l0 : Nat) (l1 : Value) (l2 : Value) (l3 : Value) (l4 : Value)  (h : zMm) (Q : Option Value → zMm → Prop), zWp d zi_155 none 90 [.ref l0, l1, l2, l3, l4] [] h Q = zWp d zi_155 none 91 [.ref l0, l1, l2, l3, l4] [.ref l0] h Q) ∧
    (∀ (d : Nat) (l0 : Value) (l1 : Value) (l2 : Value) (l3 : Value) (l4 : Value) (x0 : Nat) (h : zMm) (Q : Option Value → zMm → Prop), zWp d zi_155 none 91 [l0, l1, l2, l3, l4] [.ref x0] h Q = zWp d zi_155 none 93 [l0, l1, l2, l3, l4] [.int 41, .ref x0] h Q) ∧
    (∀ (d : Nat) (l0 : Value) (l1 : Value) (l2 : Value) (l3 : Value) (l4 : Value) (x1 : Int32) (x0 : Nat) (I : Nat → Nat → Int32) (L : Nat → Nat → Int64) (P : Nat → Nat → Option Nat) (Q : Option Value → zMm → Prop), zSH[x0]? = some (.inl 10) → zWp d zi_155 none 93 [l0, l1, l2, l3, l4] [.int x1, .ref x0] (zSH, I, L, P) Q = zWM d 148 [.ref x0, .int x1] (zSH, I, L, P) (fun r h1 => zWp d zi_155 none 96 [l0, l1, l2, l3, l4] (r.toList ++ []) h1 Q)) ∧
    (∀ (d : Nat) (l0 : Value) (l1 : Value) (l2 : Value) (l3 : Value) (l4 : Value) (x0 : Int32) (h : zMm) (Q : Option Value → zMm → Prop), zWp d zi_155 none 96 [l0, l1, l2, l3, l4] [.int x0] h Q = if x0 = 0 then zWp d zi_155 none 99 [l0, l1, l2, l3, l4] [] h Q else zWp d zi_155 none 104 [l0, l1, l2, l3, l4] [] h Q) ∧
    (∀ (d : Nat) (l0 : Nat) (l1 : Value) (l2 : Value) (l3 : Value) (l4 : Value)  (h : zMm) (Q : Option Value → zMm → Prop), zWp d zi_155 none 99 [.ref l0, l1, l2, l3, l4] [] h Q = zWp d zi_155 none 100 [.ref l0, l1, l2, l3, l4] [.ref l0] h Q) ∧
    (∀ (d : Nat) (l0 : Value) (l1 : Value) (l2 : Value) (l3 : Value) (l4 : Value) (x0 : Nat) (I : Nat → Nat → Int32) (L : Nat → Nat → Int64) (P : Nat → Nat → Option Nat) (Q : Option Value → zMm → Prop), zSH[x0]? = some (.inl 10) → zWp d zi_155 none 100 [l0, l1, l2, l3, l4] [.ref x0] (zSH, I, L, P) Q = zWM d 147 [.ref x0] (zSH, I, L, P) (fun r h1 => zWp d zi_155 none 103 [l0, l1, l2, l3, l4] (r.toList ++ []) h1 Q)) ∧
    (∀ (d : Nat) (l0 : Value) (l1 : Value) (l2 : Value) (l3 : Value) (l4 : Value) (x0 : Int32) (h : zMm) (Q : Option Value → zMm → Prop), zWp d zi_155 none 103 [l0, l1, l2, l3, l4] [.int x0] h Q = Q (some (.int x0)) h) ∧
    (∀ (d : Nat) (l0 : Nat) (l1 : Value) (l2 : Value) (l3 : Value) (l4 : Value)  (h : zMm) (Q : Option Value → zMm → Prop), zWp d zi_155 none 104 [.ref l0, l1, l2, l3, l4] [] h Q = zWp d zi_155 none 105 [.ref l0, l1, l2, l3, l4] [.ref l0] h Q) ∧
    (∀ (d : Nat) (l0 : Value) (l1 : Value) (l2 : Value) (l3 : Value) (l4 : Value) (x0 : Nat) (h : zMm) (Q : Option Value → zMm → Prop), zWp d zi_155 none 105 [l0, l1, l2, l3, l4] [.ref x0] h Q = zWp d zi_155 none 106 [l0, l1, l2, l3, l4] [.ref x0, .ref x0] h Q) ∧
    (∀ (d : Nat) (l0 : Value) (l1 : Value) (l2 : Value) (l3 : Value) (l4 : Value) (x1 : Nat) (x0 : Nat) (I : Nat → Nat → Int32) (L : Nat → Nat → Int64) (P : Nat → Nat → Option Nat) (Q : Option Value → zMm → Prop), zSH[x1]? = some (.inl 10) → zWp d zi_155 none 106 [l0, l1, l2, l3, l4] [.ref x1, .ref x0] (zSH, I, L, P) Q = zWp d zi_155 none 109 [l0, l1, l2, l3, l4] [.int (I x1 21), .ref x0] (zSH, I, L, P) Q) ∧
    (∀ (d : Nat) (l0 : Value) (l1 : Value) (l2 : Value) (l3 : Value) (l4 : Value) (x1 : Int32) (x0 : Nat) (h : zMm) (Q : Option Value → zMm → Prop), zWp d zi_155 none 109 [l0, l1, l2, l3, l4] [.int x1, .ref x0] h Q = zWp d zi_155 none 110 [l0, l1, l2, l3, l4] [.int 1, .int x1, .ref x0] h Q) ∧
    (∀ (d : Nat) (l0 : Value) (l1 : Value) (l2 : Value) (l3 : Value) (l4 : Value) (x2 : Int32) (x1 : Int32) (x0 : Nat) (h : zMm) (Q : Option Value → zMm → Prop), zWp d zi_155 none 110 [l0, l1, l2, l3, l4] [.int x2, .int x1, .ref x0] h Q = zWp d zi_155 none 111 [l0, l1, l2, l3, l4] [.int (x1 - x2), .ref x0] h Q) ∧
    (∀ (d : Nat) (l0 : Value) (l1 : Value) (l2 : Value) (l3 : Value) (l4 : Value) (x1 : Int32) (x0 : Nat) (I : Nat → Nat → Int32) (L : Nat → Nat → Int64) (P : Nat → Nat → Option Nat) (Q : Option Value → zMm → Prop), zSH[x0]? = some (.inl 10) → zWp d zi_155 none 111 [l0, l1, l2, l3, l4] [.int x1, .ref x0] (zSH, I, L, P) Q = zWp d zi_155 none 114 [l0, l1, l2, l3, l4] [] (zSH, zw I x0 (upd (I x0) 21 x1), L, P) Q) ∧
    (∀ (d : Nat) (l0 : Value) (l1 : Int32) (l2 : Value) (l3 : Value) (l4 : Value)  (h : zMm) (Q : Option Value → zMm → Prop), zWp d zi_155 none 114 [l0, .int l1, l2, l3, l4] [] h Q = zWp d zi_155 none 115 [l0, .int l1, l2, l3, l4] [.int l1] h Q) ∧
    (∀ (d : Nat) (l0 : Value) (l1 : Value) (l2 : Value) (l3 : Value) (l4 : Value) (x0 : Int32) (h : zMm) (Q : Option Value → zMm → Prop), zWp d zi_155 none 115 [l0, l1, l2, l3, l4] [.int x0] h Q = zWp d zi_155 none 117 [l0, l1, l2, l3, l4] [.int 40, .int x0] h Q) ∧
    (∀ (d : Nat) (l0 : Value) (l1 : Value) (l2 : Value) (l3 : Value) (l4 : Value) (x1 : Int32) (x0 : Int32) (h : zMm) (Q : Option Value → zMm → Prop), zWp d zi_155 none 117 [l0, l1, l2, l3, l4] [.int x1, .int x0] h Q = if x0 = x1 then zWp d zi_155 none 120 [l0, l1, l2, l3, l4] [] h Q else zWp d zi_155 none 124 [l0, l1, l2, l3, l4] [] h Q) ∧
    (∀ (d : Nat) (l0 : Value) (l1 : Value) (l2 : Int32) (l3 : Value) (l4 : Value)  (h : zMm) (Q : Option Value → zMm → Prop), zWp d zi_155 none 120 [l0, l1, .int l2, l3, l4] [] h Q = zWp d zi_155 none 121 [l0, l1, .int l2, l3, l4] [.int l2] h Q) ∧
    (∀ (d : Nat) (l0 : Value) (l1 : Value) (l2 : Value) (l3 : Value) (l4 : Value) (x0 : Int32) (h : zMm) (Q : Option Value → zMm → Prop), zWp d zi_155 none 121 [l0, l1, l2, l3, l4] [.int x0] h Q = zWp d zi_155 none 144 [l0, l1, l2, l3, l4] [.int x0] h Q) ∧
    (∀ (d : Nat) (l0 : Value) (l1 : Int32) (l2 : Value) (l3 : Value) (l4 : Value)  (h : zMm) (Q : Option Value → zMm → Prop), zWp d zi_155 none 124 [l0, .int l1, l2, l3, l4] [] h Q = zWp d zi_155 none 125 [l0, .int l1, l2, l3, l4] [.int l1] h Q) ∧
    (∀ (d : Nat) (l0 : Value) (l1 : Value) (l2 : Value) (l3 : Value) (l4 : Value) (x0 : Int32) (h : zMm) (Q : Option Value → zMm → Prop), zWp d zi_155 none 125 [l0, l1, l2, l3, l4] [.int x0] h Q = zWp d zi_155 none 127 [l0, l1, l2, l3, l4] [.int 45, .int x0] h Q) ∧
    (∀ (d : Nat) (l0 : Value) (l1 : Value) (l2 : Value) (l3 : Value) (l4 : Value) (x1 : Int32) (x0 : Int32) (h : zMm) (Q : Option Value → zMm → Prop), zWp d zi_155 none 127 [l0, l1, l2, l3, l4] [.int x1, .int x0] h Q = if x0 = x1 then zWp d zi_155 none 130 [l0, l1, l2, l3, l4] [] h Q else zWp d zi_155 none 135 [l0, l1, l2, l3, l4] [] h Q) ∧
    (∀ (d : Nat) (l0 : Value) (l1 : Value) (l2 : Int32) (l3 : Value) (l4 : Value)  (h : zMm) (Q : Option Value → zMm → Prop), zWp d zi_155 none 130 [l0, l1, .int l2, l3, l4] [] h Q = zWp d zi_155 none 131 [l0, l1, .int l2, l3, l4] [.int l2] h Q) ∧
    (∀ (d : Nat) (l0 : Value) (l1 : Value) (l2 : Value) (l3 : Value) (l4 : Value) (x0 : Int32) (h : zMm) (Q : Option Value → zMm → Prop), zWp d zi_155 none 131 [l0, l1, l2, l3, l4] [.int x0] h Q = zWp d zi_155 none 132 [l0, l1, l2, l3, l4] [.int (-x0)] h Q) ∧
    (∀ (d : Nat) (l0 : Value) (l1 : Value) (l2 : Value) (l3 : Value) (l4 : Value) (x0 : Int32) (h : zMm) (Q : Option Value → zMm → Prop), zWp d zi_155 none 132 [l0, l1, l2, l3, l4] [.int x0] h Q = zWp d zi_155 none 144 [l0, l1, l2, l3, l4] [.int x0] h Q) ∧
    (∀ (d : Nat) (l0 : Value) (l1 : Value) (l2 : Int32) (l3 : Value) (l4 : Value)  (h : zMm) (Q : Option Value → zMm → Prop), zWp d zi_155 none 135 [l0, l1, .int l2, l3, l4] [] h Q = zWp d zi_155 none 136 [l0, l1, .int l2, l3, l4] [.int l2] h Q) ∧
    (∀ (d : Nat) (l0 : Value) (l1 : Value) (l2 : Value) (l3 : Value) (l4 : Value) (x0 : Int32) (h : zMm) (Q : Option Value → zMm → Prop), zWp d zi_155 none 136 [l0, l1, l2, l3, l4] [.int x0] h Q = if x0 = 0 then zWp d zi_155 none 139 [l0, l1, l2, l3, l4] [] h Q else zWp d zi_155 none 143 [l0, l1, l2, l3, l4] [] h Q) ∧
    (∀ (d : Nat) (l0 : Value) (l1 : Value) (l2 : Value) (l3 : Value) (l4 : Value)  (h : zMm) (Q : Option Value → zMm → Prop), zWp d zi_155 none 139 [l0, l1, l2, l3, l4] [] h Q = zWp d zi_155 none 140 [l0, l1, l2, l3, l4] [.int 1] h Q) ∧
    (∀ (d : Nat) (l0 : Value) (l1 : Value) (l2 : Value) (l3 : Value) (l4 : Value) (x0 : Int32) (h : zMm) (Q : Option Value → zMm → Prop), zWp d zi_155 none 140 [l0, l1, l2, l3, l4] [.int x0] h Q = zWp d zi_155 none 144 [l0, l1, l2, l3, l4] [.int x0] h Q) ∧
    (∀ (d : Nat) (l0 : Value) (l1 : Value) (l2 : Value) (l3 : Value) (l4 : Value)  (h : zMm) (Q : Option Value → zMm → Prop), zWp d zi_155 none 143 [l0, l1, l2, l3, l4] [] h Q = zWp d zi_155 none 144 [l0, l1, l2, l3, l4] [.int 0] h Q) ∧
    (∀ (d : Nat) (l0 : Value) (l1 : Value) (l2 : Value) (l3 : Value) (l4 : Value) (x0 : Int32) (h : zMm) (Q : Option Value → zMm → Prop), zWp d zi_155 none 144 [l0, l1, l2, l3, l4] [.int x0] h Q = Q (some (.int x0)) h) ∧
    (∀ (d : Nat) (l0 : Value) (l1 : Int32) (l2 : Value) (l3 : Value) (l4 : Value)  (h : zMm) (Q : Option Value → zMm → Prop), zWp d zi_155 none 145 [l0, .int l1, l2, l3, l4] [] h Q = zWp d zi_155 none 146 [l0, .int l1, l2, l3, l4] [.int l1] h Q) ∧
    (∀ (d : Nat) (l0 : Value) (l1 : Value) (l2 : Value) (l3 : Value) (l4 : Value) (x0 : Int32) (h : zMm) (Q : Option Value → zMm → Prop), zWp d zi_155 none 146 [l0, l1, l2, l3, l4] [.int x0] h Q = zWM d 154 [.int x0] h (fun r h1 => zWp d zi_155 none 149 [l0, l1, l2, l3, l4] (r.toList ++ []) h1 Q)) ∧
    (∀ (d : Nat) (l0 : Value) (l1 : Int32) (l2 : Value) (l3 : Value) (l4 : Value) (x0 : Int32) (h : zMm) (Q : Option Value → zMm → Prop), zWp d zi_155 none 149 [l0, .int l1, l2, l3, l4] [.int x0] h Q = zWp d zi_155 none 150 [l0, .int l1, .int x0, l3, l4] [] h Q) ∧
    (∀ (d : Nat) (l0 : Value) (l1 : Value) (l2 : Int32) (l3 : Value) (l4 : Value)  (h : zMm) (Q : Option Value → zMm → Prop), zWp d zi_155 none 150 [l0, l1, .int l2, l3, l4] [] h Q = zWp d zi_155 none 151 [l0, l1, .int l2, l3, l4] [.int l2] h Q) ∧
    (∀ (d : Nat) (l0 : Value) (l1 : Value) (l2 : Value) (l3 : Value) (l4 : Value) (x0 : Int32) (h : zMm) (Q : Option Value → zMm → Prop), zWp d zi_155 none 151 [l0, l1, l2, l3, l4] [.int x0] h Q = if x0 < 0 then zWp d zi_155 none 171 [l0, l1, l2, l3, l4] [] h Q else zWp d zi_155 none 154 [l0, l1, l2, l3, l4] [] h Q) ∧
    (∀ (d : Nat) (l0 : Nat) (l1 : Value) (l2 : Value) (l3 : Value) (l4 : Value)  (h : zMm) (Q : Option Value → zMm → Prop), zWp d zi_155 none 154 [.ref l0, l1, l2, l3, l4] [] h Q = zWp d zi_155 none 155 [.ref l0, l1, l2, l3, l4] [.ref l0] h Q) ∧
    (∀ (d : Nat) (l0 : Value) (l1 : Value) (l2 : Value) (l3 : Value) (l4 : Value) (x0 : Nat) (h : zMm) (Q : Option Value → zMm → Prop), zWp d zi_155 none 155 [l0, l1, l2, l3, l4] [.ref x0] h Q = zWp d zi_155 none 156 [l0, l1, l2, l3, l4] [.ref x0, .ref x0] h Q) ∧
    (∀ (d : Nat) (l0 : Value) (l1 : Value) (l2 : Value) (l3 : Value) (l4 : Value) (x1 : Nat) (x0 : Nat) (I : Nat → Nat → Int32) (L : Nat → Nat → Int64) (P : Nat → Nat → Option Nat) (Q : Option Value → zMm → Prop), zSH[x1]? = some (.inl 10) → zWp d zi_155 none 156 [l0, l1, l2, l3, l4] [.ref x1, .ref x0] (zSH, I, L, P) Q = zWp d zi_155 none 159 [l0, l1, l2, l3, l4] [.int (I x1 18), .ref x0] (zSH, I, L, P) Q) ∧
    (∀ (d : Nat) (l0 : Value) (l1 : Value) (l2 : Value) (l3 : Value) (l4 : Value) (x1 : Int32) (x0 : Nat) (h : zMm) (Q : Option Value → zMm → Prop), zWp d zi_155 none 159 [l0, l1, l2, l3, l4] [.int x1, .ref x0] h Q = zWp d zi_155 none 160 [l0, l1, l2, l3, l4] [.int 1, .int x1, .ref x0] h Q) ∧
    (∀ (d : Nat) (l0 : Value) (l1 : Value) (l2 : Value) (l3 : Value) (l4 : Value) (x2 : Int32) (x1 : Int32) (x0 : Nat) (h : zMm) (Q : Option Value → zMm → Prop), zWp d zi_155 none 160 [l0, l1, l2, l3, l4] [.int x2, .int x1, .ref x0] h Q = zWp d zi_155 none 161 [l0, l1, l2, l3, l4] [.int (x1 + x2), .ref x0] h Q) ∧
    (∀ (d : Nat) (l0 : Value) (l1 : Value) (l2 : Value) (l3 : Value) (l4 : Value) (x1 : Int32) (x0 : Nat) (I : Nat → Nat → Int32) (L : Nat → Nat → Int64) (P : Nat → Nat → Option Nat) (Q : Option Value → zMm → Prop), zSH[x0]? = some (.inl 10) → zWp d zi_155 none 161 [l0, l1, l2, l3, l4] [.int x1, .ref x0] (zSH, I, L, P) Q = zWp d zi_155 none 164 [l0, l1, l2, l3, l4] [] (zSH, zw I x0 (upd (I x0) 18 x1), L, P) Q) ∧
    (∀ (d : Nat) (l0 : Nat) (l1 : Value) (l2 : Value) (l3 : Value) (l4 : Value)  (h : zMm) (Q : Option Value → zMm → Prop), zWp d zi_155 none 164 [.ref l0, l1, l2, l3, l4] [] h Q = zWp d zi_155 none 165 [.ref l0, l1, l2, l3, l4] [.ref l0] h Q) ∧
    (∀ (d : Nat) (l0 : Value) (l1 : Value) (l2 : Value) (l3 : Value) (l4 : Value) (x0 : Nat) (I : Nat → Nat → Int32) (L : Nat → Nat → Int64) (P : Nat → Nat → Option Nat) (Q : Option Value → zMm → Prop), zSH[x0]? = some (.inl 10) → zWp d zi_155 none 165 [l0, l1, l2, l3, l4] [.ref x0] (zSH, I, L, P) Q = zWp d zi_155 none 168 [l0, l1, l2, l3, l4] [va_rf (P x0 22)] (zSH, I, L, P) Q) ∧
    (∀ (d : Nat) (l0 : Value) (l1 : Value) (l2 : Int32) (l3 : Value) (l4 : Value) (x0 : Nat) (h : zMm) (Q : Option Value → zMm → Prop), zWp d zi_155 none 168 [l0, l1, .int l2, l3, l4] [.ref x0] h Q = zWp d zi_155 none 169 [l0, l1, .int l2, l3, l4] [.int l2, .ref x0] h Q) ∧
    (∀ (d : Nat) (l0 : Value) (l1 : Value) (l2 : Value) (l3 : Value) (l4 : Value) (x1 : Int32) (x0 : Nat) (I : Nat → Nat → Int32) (L : Nat → Nat → Int64) (P : Nat → Nat → Option Nat) (Q : Option Value → zMm → Prop), zAk zSH x0 = some .int → zWp d zi_155 none 169 [l0, l1, l2, l3, l4] [.int x1, .ref x0] (zSH, I, L, P) Q = (vp_in x1 (zAn zSH x0) ∧ zWp d zi_155 none 170 [l0, l1, l2, l3, l4] [.int (I x0 x1.toNatClampNeg)] (zSH, I, L, P) Q)) ∧
    (∀ (d : Nat) (l0 : Value) (l1 : Value) (l2 : Value) (l3 : Value) (l4 : Value) (x0 : Int32) (h : zMm) (Q : Option Value → zMm → Prop), zWp d zi_155 none 170 [l0, l1, l2, l3, l4] [.int x0] h Q = Q (some (.int x0)) h) ∧
    (∀ (d : Nat) (l0 : Value) (l1 : Value) (l2 : Value) (l3 : Value) (l4 : Value)  (h : zMm) (Q : Option Value → zMm → Prop), zWp d zi_155 none 171 [l0, l1, l2, l3, l4] [] h Q = zWp d zi_155 none 172 [l0, l1, l2, l3, l4] [.int 0] h Q) ∧
    (∀ (d : Nat) (l0 : Value) (l1 : Value) (l2 : Int32) (l3 : Value) (l4 : Value) (x0 : Int32) (h : zMm) (Q : Option Value → zMm → Prop), zWp d zi_155 none 172 [l0, l1, .int l2, l3, l4] [.int x0] h Q = zWp d zi_155 none 173 [l0, l1, .int l2, .int x0, l4] [] h Q) ∧
    (∀ (d : Nat) (l0 : Value) (l1 : Value) (l2 : Value) (l3 : Value) (l4 : Value)  (h : zMm) (Q : Option Value → zMm → Prop), zWp d zi_155 none 173 [l0, l1, l2, l3, l4] [] h Q = zWp d zi_155 none 174 [l0, l1, l2, l3, l4] [.int 0] h Q) ∧
    (∀ (d : Nat) (l0 : Value) (l1 : Value) (l2 : Value) (l3 : Int32) (l4 : Value) (x0 : Int32) (h : zMm) (Q : Option Value → zMm → Prop), zWp d zi_155 none 174 [l0, l1, l2, .int l3, l4] [.int x0] h Q = zWp d zi_155 none 176 [l0, l1, l2, .int l3, .int x0] [] h Q) ∧
    (∀ (d : Nat) (l0 : Value) (l1 : Value) (l2 : Value) (l3 : Value) (l4 : Value) (x0 : Int32) (h : zMm) (Q : Option Value → zMm → Prop), zWp d zi_155 none 178 [l0, l1, l2, l3, l4] [.int x0] h Q = zWp d zi_155 none 179 [l0, l1, l2, l3, l4] [.int 4, .int x0] h Q) ∧
    (∀ (d : Nat) (l0 : Value) (l1 : Value) (l2 : Value) (l3 : Value) (l4 : Value) (x1 : Int32) (x0 : Int32) (h : zMm) (Q : Option Value → zMm → Prop), zWp d zi_155 none 179 [l0, l1, l2, l3, l4] [.int x1, .int x0] h Q = if x1 ≤ x0 then zWp d zi_155 none 229 [l0, l1, l2, l3, l4] [] h Q else zWp d zi_155 none 182 [l0, l1, l2, l3, l4] [] h Q) ∧
    (∀ (d : Nat) (l0 : Nat) (l1 : Value) (l2 : Value) (l3 : Value) (l4 : Value)  (h : zMm) (Q : Option Value → zMm → Prop), zWp d zi_155 none 182 [.ref l0, l1, l2, l3, l4] [] h Q = zWp d zi_155 none 183 [.ref l0, l1, l2, l3, l4] [.ref l0] h Q) ∧
    (∀ (d : Nat) (l0 : Value) (l1 : Value) (l2 : Value) (l3 : Value) (l4 : Value) (x0 : Nat) (I : Nat → Nat → Int32) (L : Nat → Nat → Int64) (P : Nat → Nat → Option Nat) (Q : Option Value → zMm → Prop), zSH[x0]? = some (.inl 10) → zWp d zi_155 none 183 [l0, l1, l2, l3, l4] [.ref x0] (zSH, I, L, P) Q = zWM d 146 [.ref x0] (zSH, I, L, P) (fun r h1 => zWp d zi_155 none 186 [l0, l1, l2, l3, l4] (r.toList ++ []) h1 Q)) ∧
    (∀ (d : Nat) (l0 : Value) (l1 : Value) (l2 : Value) (l3 : Value) (l4 : Value) (x0 : Int32) (h : zMm) (Q : Option Value → zMm → Prop), zWp d zi_155 none 186 [l0, l1, l2, l3, l4] [.int x0] h Q = zWp d zi_155 none 188 [l0, l1, l2, l3, l4] [.int 48, .int x0] h Q) ∧
    (∀ (d : Nat) (l0 : Value) (l1 : Value) (l2 : Value) (l3 : Value) (l4 : Value) (x1 : Int32) (x0 : Int32) (h : zMm) (Q : Option Value → zMm → Prop), zWp d zi_155 none 188 [l0, l1, l2, l3, l4] [.int x1, .int x0] h Q = if x0 < x1 then zWp d zi_155 none 229 [l0, l1, l2, l3, l4] [] h Q else zWp d zi_155 none 191 [l0, l1, l2, l3, l4] [] h Q) ∧
    (∀ (d : Nat) (l0 : Nat) (l1 : Value) (l2 : Value) (l3 : Value) (l4 : Value)  (h : zMm) (Q : Option Value → zMm → Prop), zWp d zi_155 none 191 [.ref l0, l1, l2, l3, l4] [] h Q = zWp d zi_155 none 192 [.ref l0, l1, l2, l3, l4] [.ref l0] h Q) ∧
    (∀ (d : Nat) (l0 : Value) (l1 : Value) (l2 : Value) (l3 : Value) (l4 : Value) (x0 : Nat) (I : Nat → Nat → Int32) (L : Nat → Nat → Int64) (P : Nat → Nat → Option Nat) (Q : Option Value → zMm → Prop), zSH[x0]? = some (.inl 10) → zWp d zi_155 none 192 [l0, l1, l2, l3, l4] [.ref x0] (zSH, I, L, P) Q = zWM d 146 [.ref x0] (zSH, I, L, P) (fun r h1 => zWp d zi_155 none 195 [l0, l1, l2, l3, l4] (r.toList ++ []) h1 Q)) ∧
    (∀ (d : Nat) (l0 : Value) (l1 : Value) (l2 : Value) (l3 : Value) (l4 : Value) (x0 : Int32) (h : zMm) (Q : Option Value → zMm → Prop), zWp d zi_155 none 195 [l0, l1, l2, l3, l4] [.int x0] h Q = zWp d zi_155 none 197 [l0, l1, l2, l3, l4] [.int 57, .int x0] h Q) ∧
    (∀ (d : Nat) (l0 : Value) (l1 : Value) (l2 : Value) (l3 : Value) (l4 : Value) (x1 : Int32) (x0 : Int32) (h : zMm) (Q : Option Value → zMm → Prop), zWp d zi_155 none 197 [l0, l1, l2, l3, l4] [.int x1, .int x0] h Q = if x1 < x0 then zWp d zi_155 none 229 [l0, l1, l2, l3, l4] [] h Q else zWp d zi_155 none 200 [l0, l1, l2, l3, l4] [] h Q) ∧
    (∀ (d : Nat) (l0 : Value) (l1 : Value) (l2 : Value) (l3 : Value) (l4 : Value)  (h : zMm) (Q : Option Value → zMm → Prop), zWp d zi_155 none 200 [l0, l1, l2, l3, l4] [] h Q = zWp d zi_155 none 202 [l0, l1, l2, l3, l4] [.int 10] h Q) ∧
    (∀ (d : Nat) (l0 : Value) (l1 : Value) (l2 : Value) (l3 : Int32) (l4 : Value) (x0 : Int32) (h : zMm) (Q : Option Value → zMm → Prop), zWp d zi_155 none 202 [l0, l1, l2, .int l3, l4] [.int x0] h Q = zWp d zi_155 none 203 [l0, l1, l2, .int l3, l4] [.int l3, .int x0] h Q) ∧
    (∀ (d : Nat) (l0 : Value) (l1 : Value) (l2 : Value) (l3 : Value) (l4 : Value) (x1 : Int32) (x0 : Int32) (h : zMm) (Q : Option Value → zMm → Prop), zWp d zi_155 none 203 [l0, l1, l2, l3, l4] [.int x1, .int x0] h Q = zWp d zi_155 none 204 [l0, l1, l2, l3, l4] [.int (x0 * x1)] h Q) ∧
    (∀ (d : Nat) (l0 : Nat) (l1 : Value) (l2 : Value) (l3 : Value) (l4 : Value) (x0 : Int32) (h : zMm) (Q : Option Value → zMm → Prop), zWp d zi_155 none 204 [.ref l0, l1, l2, l3, l4] [.int x0] h Q = zWp d zi_155 none 205 [.ref l0, l1, l2, l3, l4] [.ref l0, .int x0] h Q) ∧
    (∀ (d : Nat) (l0 : Value) (l1 : Value) (l2 : Value) (l3 : Value) (l4 : Value) (x1 : Nat) (x0 : Int32) (I : Nat → Nat → Int32) (L : Nat → Nat → Int64) (P : Nat → Nat → Option Nat) (Q : Option Value → zMm → Prop), zSH[x1]? = some (.inl 10) → zWp d zi_155 none 205 [l0, l1, l2, l3, l4] [.ref x1, .int x0] (zSH, I, L, P) Q = zWM d 146 [.ref x1] (zSH, I, L, P) (fun r h1 => zWp d zi_155 none 208 [l0, l1, l2, l3, l4] (r.toList ++ [.int x0]) h1 Q)) ∧
    (∀ (d : Nat) (l0 : Value) (l1 : Value) (l2 : Value) (l3 : Value) (l4 : Value) (x1 : Int32) (x0 : Int32) (h : zMm) (Q : Option Value → zMm → Prop), zWp d zi_155 none 208 [l0, l1, l2, l3, l4] [.int x1, .int x0] h Q = zWp d zi_155 none 209 [l0, l1, l2, l3, l4] [.int (x0 + x1)] h Q) ∧
    (∀ (d : Nat) (l0 : Value) (l1 : Value) (l2 : Value) (l3 : Value) (l4 : Value) (x0 : Int32) (h : zMm) (Q : Option Value → zMm → Prop), zWp d zi_155 none 209 [l0, l1, l2, l3, l4] [.int x0] h Q = zWp d zi_155 none 211 [l0, l1, l2, l3, l4] [.int 48, .int x0] h Q) ∧
    (∀ (d : Nat) (l0 : Value) (l1 : Value) (l2 : Value) (l3 : Value) (l4 : Value) (x1 : Int32) (x0 : Int32) (h : zMm) (Q : Option Value → zMm → Prop), zWp d zi_155 none 211 [l0, l1, l2, l3, l4] [.int x1, .int x0] h Q = zWp d zi_155 none 212 [l0, l1, l2, l3, l4] [.int (x0 - x1)] h Q) ∧
    (∀ (d : Nat) (l0 : Value) (l1 : Value) (l2 : Int32) (l3 : Value) (l4 : Value) (x0 : Int32) (h : zMm) (Q : Option Value → zMm → Prop), zWp d zi_155 none 212 [l0, l1, .int l2, l3, l4] [.int x0] h Q = zWp d zi_155 none 213 [l0, l1, .int l2, .int x0, l4] [] h Q) ∧
    (∀ (d : Nat) (l0 : Value) (l1 : Value) (l2 : Value) (l3 : Int32) (l4 : Int32)  (h : zMm) (Q : Option Value → zMm → Prop), zWp d zi_155 none 213 [l0, l1, l2, .int l3, .int l4] [] h Q = zWp d zi_155 none 216 [l0, l1, l2, .int l3, .int (l4 + 1)] [] h Q) ∧
    (∀ (d : Nat) (l0 : Nat) (l1 : Value) (l2 : Value) (l3 : Value) (l4 : Value)  (h : zMm) (Q : Option Value → zMm → Prop), zWp d zi_155 none 216 [.ref l0, l1, l2, l3, l4] [] h Q = zWp d zi_155 none 217 [.ref l0, l1, l2, l3, l4] [.ref l0] h Q) ∧
    (∀ (d : Nat) (l0 : Value) (l1 : Value) (l2 : Value) (l3 : Value) (l4 : Value) (x0 : Nat) (h : zMm) (Q : Option Value → zMm → Prop), zWp d zi_155 none 217 [l0, l1, l2, l3, l4] [.ref x0] h Q = zWp d zi_155 none 218 [l0, l1, l2, l3, l4] [.ref x0, .ref x0] h Q) ∧
    (∀ (d : Nat) (l0 : Value) (l1 : Value) (l2 : Value) (l3 : Value) (l4 : Value) (x1 : Nat) (x0 : Nat) (I : Nat → Nat → Int32) (L : Nat → Nat → Int64) (P : Nat → Nat → Option Nat) (Q : Option Value → zMm → Prop), zSH[x1]? = some (.inl 10) → zWp d zi_155 none 218 [l0, l1, l2, l3, l4] [.ref x1, .ref x0] (zSH, I, L, P) Q = zWp d zi_155 none 221 [l0, l1, l2, l3, l4] [.int (I x1 18), .ref x0] (zSH, I, L, P) Q) ∧
    (∀ (d : Nat) (l0 : Value) (l1 : Value) (l2 : Value) (l3 : Value) (l4 : Value) (x1 : Int32) (x0 : Nat) (h : zMm) (Q : Option Value → zMm → Prop), zWp d zi_155 none 221 [l0, l1, l2, l3, l4] [.int x1, .ref x0] h Q = zWp d zi_155 none 222 [l0, l1, l2, l3, l4] [.int 1, .int x1, .ref x0] h Q) ∧
    (∀ (d : Nat) (l0 : Value) (l1 : Value) (l2 : Value) (l3 : Value) (l4 : Value) (x2 : Int32) (x1 : Int32) (x0 : Nat) (h : zMm) (Q : Option Value → zMm → Prop), zWp d zi_155 none 222 [l0, l1, l2, l3, l4] [.int x2, .int x1, .ref x0] h Q = zWp d zi_155 none 223 [l0, l1, l2, l3, l4] [.int (x1 + x2), .ref x0] h Q) ∧
    (∀ (d : Nat) (l0 : Value) (l1 : Value) (l2 : Value) (l3 : Value) (l4 : Value) (x1 : Int32) (x0 : Nat) (I : Nat → Nat → Int32) (L : Nat → Nat → Int64) (P : Nat → Nat → Option Nat) (Q : Option Value → zMm → Prop), zSH[x0]? = some (.inl 10) → zWp d zi_155 none 223 [l0, l1, l2, l3, l4] [.int x1, .ref x0] (zSH, I, L, P) Q = zWp d zi_155 none 226 [l0, l1, l2, l3, l4] [] (zSH, zw I x0 (upd (I x0) 18 x1), L, P) Q) ∧
    (∀ (d : Nat) (l0 : Value) (l1 : Value) (l2 : Value) (l3 : Value) (l4 : Value)  (h : zMm) (Q : Option Value → zMm → Prop), zWp d zi_155 none 226 [l0, l1, l2, l3, l4] [] h Q = zWp d zi_155 none 176 [l0, l1, l2, l3, l4] [] h Q) ∧
    (∀ (d : Nat) (l0 : Value) (l1 : Value) (l2 : Value) (l3 : Value) (l4 : Int32)  (h : zMm) (Q : Option Value → zMm → Prop), zWp d zi_155 none 229 [l0, l1, l2, l3, .int l4] [] h Q = zWp d zi_155 none 231 [l0, l1, l2, l3, .int l4] [.int l4] h Q) ∧
    (∀ (d : Nat) (l0 : Value) (l1 : Value) (l2 : Value) (l3 : Value) (l4 : Value) (x0 : Int32) (h : zMm) (Q : Option Value → zMm → Prop), zWp d zi_155 none 231 [l0, l1, l2, l3, l4] [.int x0] h Q = if x0 = 0 then zWp d zi_155 none 234 [l0, l1, l2, l3, l4] [] h Q else zWp d zi_155 none 241 [l0, l1, l2, l3, l4] [] h Q) ∧
    (∀ (d : Nat) (l0 : Nat) (l1 : Value) (l2 : Value) (l3 : Value) (l4 : Value)  (h : zMm) (Q : Option Value → zMm → Prop), zWp d zi_155 none 234 [.ref l0, l1, l2, l3, l4] [] h Q = zWp d zi_155 none 235 [.ref l0, l1, l2, l3, l4] [.ref l0] h Q) ∧
    (∀ (d : Nat) (l0 : Value) (l1 : Value) (l2 : Value) (l3 : Value) (l4 : Value) (x0 : Nat) (I : Nat → Nat → Int32) (L : Nat → Nat → Int64) (P : Nat → Nat → Option Nat) (Q : Option Value → zMm → Prop), zSH[x0]? = some (.inl 10) → zWp d zi_155 none 235 [l0, l1, l2, l3, l4] [.ref x0] (zSH, I, L, P) Q = zWM d 147 [.ref x0] (zSH, I, L, P) (fun r h1 => zWp d zi_155 none 238 [l0, l1, l2, l3, l4] (r.toList ++ []) h1 Q)) ∧
    (∀ (d : Nat) (l0 : Value) (l1 : Value) (l2 : Value) (l3 : Value) (l4 : Value) (x0 : Int32) (h : zMm) (Q : Option Value → zMm → Prop), zWp d zi_155 none 238 [l0, l1, l2, l3, l4] [.int x0] h Q = zWp d zi_155 none 242 [l0, l1, l2, l3, l4] [.int x0] h Q) ∧
    (∀ (d : Nat) (l0 : Value) (l1 : Value) (l2 : Value) (l3 : Int32) (l4 : Value)  (h : zMm) (Q : Option Value → zMm → Prop), zWp d zi_155 none 241 [l0, l1, l2, .int l3, l4] [] h Q = zWp d zi_155 none 242 [l0, l1, l2, .int l3, l4] [.int l3] h Q) ∧
    (∀ (d : Nat) (l0 : Value) (l1 : Value) (l2 : Value) (l3 : Value) (l4 : Value) (x0 : Int32) (h : zMm) (Q : Option Value → zMm → Prop), zWp d zi_155 none 242 [l0, l1, l2, l3, l4] [.int x0] h Q = Q (some (.int x0)) h) :=
  ⟨(fun d l0 l1 l2 l3 l4  h Q => zr_aload_n rfl rfl),
   (fun d l0 l1 l2 l3 l4 x0 I L P Q p0 => zr_getI rfl lf_10_203 (fun _ _ _ => rfl) p0),
   (fun d l0 l1 l2 l3 l4 x0 h Q => zr_if_lt rfl (by decide)),
   (fun d l0 l1 l2 l3 l4  h Q => zr_iconst rfl (by decide)),
   (fun d l0 l1 l2 l3 l4 x0 h Q => zr_iret rfl rfl),
   (fun d l0 l1 l2 l3 l4  h Q => zr_aload_n rfl rfl),
   (fun d l0 l1 l2 l3 l4 x0 I L P Q p0 => zr_vir (as := []) (rest := []) rfl lm_10_206 m_146 kd_146 rfl (Nat.le_of_ble_eq_true rfl) p0),
   (fun d l0 l1 l2 l3 l4 x0 h Q => zr_istore_n (n := 1) rfl (Nat.le_of_ble_eq_true rfl) rfl),
   (fun d l0 l1 l2 l3 l4  h Q => zr_iload_n rfl rfl),
   (fun d l0 l1 l2 l3 l4 x0 h Q => zr_bipush rfl (by decide)),
   (fun d l0 l1 l2 l3 l4 x1 x0 h Q => zr_ic_eq rfl (by decide)),
   (fun d l0 l1 l2 l3 l4  h Q => zr_iload_n rfl rfl),
   (fun d l0 l1 l2 l3 l4 x0 h Q => zr_bipush rfl (by decide)),
   (fun d l0 l1 l2 l3 l4 x1 x0 h Q => zr_ic_eq rfl (by decide)),
   (fun d l0 l1 l2 l3 l4  h Q => zr_iload_n rfl rfl),
   (fun d l0 l1 l2 l3 l4 x0 h Q => zr_bipush rfl (by decide)),
   (fun d l0 l1 l2 l3 l4 x1 x0 h Q => zr_ic_ne rfl (by decide)),
   (fun d l0 l1 l2 l3 l4  h Q => zr_aload_n rfl rfl),
   (fun d l0 l1 l2 l3 l4 x0 I L P Q p0 => zr_getI rfl lf_10_227 (fun _ _ _ => rfl) p0),
   (fun d l0 l1 l2 l3 l4 x0 h Q => zr_bipush rfl (by decide)),
   (fun d l0 l1 l2 l3 l4 x1 x0 h Q => zr_ic_ne rfl (by decide)),
   (fun d l0 l1 l2 l3 l4  h Q => zr_aload_n rfl rfl),
   (fun d l0 l1 l2 l3 l4 x0 I L P Q p0 => zr_vir (as := []) (rest := []) rfl lm_10_230 m_147 kd_147 rfl (Nat.le_of_ble_eq_true rfl) p0),
   (fun d l0 l1 l2 l3 l4 x0 h Q => zr_iret rfl rfl),
   (fun d l0 l1 l2 l3 l4  h Q => zr_aload_n rfl rfl),
   (fun d l0 l1 l2 l3 l4 x0 h Q => zr_dup rfl rfl),
   (fun d l0 l1 l2 l3 l4 x1 x0 I L P Q p0 => zr_getI rfl lf_10_227 (fun _ _ _ => rfl) p0),
   (fun d l0 l1 l2 l3 l4 x1 x0 h Q => zr_iconst rfl (by decide)),
   (fun d l0 l1 l2 l3 l4 x2 x1 x0 h Q => zr_iadd rfl),
   (fun d l0 l1 l2 l3 l4 x1 x0 I L P Q p0 => zr_putI rfl lf_10_227 (by decide) rfl p0),
   (fun d l0 l1 l2 l3 l4  h Q => zr_aload_n rfl rfl),
   (fun d l0 l1 l2 l3 l4 x0 h Q => zr_dup rfl rfl),
   (fun d l0 l1 l2 l3 l4 x1 x0 I L P Q p0 => zr_getI rfl lf_10_194 (fun _ _ _ => rfl) p0),
   (fun d l0 l1 l2 l3 l4 x1 x0 h Q => zr_iconst rfl (by decide)),
   (fun d l0 l1 l2 l3 l4 x2 x1 x0 h Q => zr_iadd rfl),
   (fun d l0 l1 l2 l3 l4 x1 x0 I L P Q p0 => zr_putI rfl lf_10_194 (by decide) rfl p0),
   (fun d l0 l1 l2 l3 l4  h Q => zr_iload_n rfl rfl),
   (fun d l0 l1 l2 l3 l4 x0 h Q => zr_bipush rfl (by decide)),
   (fun d l0 l1 l2 l3 l4 x1 x0 h Q => zr_ic_ne rfl (by decide)),
   (fun d l0 l1 l2 l3 l4  h Q => zr_aload_n rfl rfl),
   (fun d l0 l1 l2 l3 l4 x0 I L P Q p0 => zr_vir (as := []) (rest := []) rfl lm_10_233 m_149 kd_149 rfl (Nat.le_of_ble_eq_true rfl) p0),
   (fun d l0 l1 l2 l3 l4 x0 h Q => zr_goto rfl (by decide)),
   (fun d l0 l1 l2 l3 l4  h Q => zr_aload_n rfl rfl),
   (fun d l0 l1 l2 l3 l4 x0 I L P Q p0 => zr_vir (as := []) (rest := []) rfl lm_10_224 m_155 kd_155 rfl (Nat.le_of_ble_eq_true rfl) p0),
   (fun d l0 l1 l2 l3 l4 x0 h Q => zr_istore_n (n := 2) rfl (Nat.le_of_ble_eq_true rfl) rfl),
   (fun d l0 l1 l2 l3 l4  h Q => zr_iload_n rfl rfl),
   (fun d l0 l1 l2 l3 l4 x0 h Q => zr_bipush rfl (by decide)),
   (fun d l0 l1 l2 l3 l4 x1 x0 h Q => zr_ic_ne rfl (by decide)),
   (fun d l0 l1 l2 l3 l4  h Q => zr_aload_n rfl rfl),
   (fun d l0 l1 l2 l3 l4 x0 h Q => zr_bipush rfl (by decide)),
   (fun d l0 l1 l2 l3 l4 x1 x0 I L P Q p0 => zr_vir (as := [.int x1]) (rest := []) rfl lm_10_212 m_148 kd_148 rfl (Nat.le_of_ble_eq_true rfl) p0),
   (fun d l0 l1 l2 l3 l4 x0 h Q => zr_if_ne rfl (by decide)),
   (fun d l0 l1 l2 l3 l4  h Q => zr_aload_n rfl rfl),
   (fun d l0 l1 l2 l3 l4 x0 I L P Q p0 => zr_vir (as := []) (rest := []) rfl lm_10_230 m_147 kd_147 rfl (Nat.le_of_ble_eq_true rfl) p0),
   (fun d l0 l1 l2 l3 l4 x0 h Q => zr_iret rfl rfl),
   (fun d l0 l1 l2 l3 l4  h Q => zr_aload_n rfl rfl),
   (fun d l0 l1 l2 l3 l4 x0 h Q => zr_dup rfl rfl),
   (fun d l0 l1 l2 l3 l4 x1 x0 I L P Q p0 => zr_getI rfl lf_10_227 (fun _ _ _ => rfl) p0),
   (fun d l0 l1 l2 l3 l4 x1 x0 h Q => zr_iconst rfl (by decide)),
   (fun d l0 l1 l2 l3 l4 x2 x1 x0 h Q => zr_isub rfl),
   (fun d l0 l1 l2 l3 l4 x1 x0 I L P Q p0 => zr_putI rfl lf_10_227 (by decide) rfl p0),
   (fun d l0 l1 l2 l3 l4  h Q => zr_iload_n rfl rfl),
   (fun d l0 l1 l2 l3 l4 x0 h Q => zr_bipush rfl (by decide)),
   (fun d l0 l1 l2 l3 l4 x1 x0 h Q => zr_ic_ne rfl (by decide)),
   (fun d l0 l1 l2 l3 l4  h Q => zr_iload_n rfl rfl),
   (fun d l0 l1 l2 l3 l4 x0 h Q => zr_goto rfl (by decide)),
   (fun d l0 l1 l2 l3 l4  h Q => zr_iload_n rfl rfl),
   (fun d l0 l1 l2 l3 l4 x0 h Q => zr_bipush rfl (by decide)),
   (fun d l0 l1 l2 l3 l4 x1 x0 h Q => zr_ic_ne rfl (by decide)),
   (fun d l0 l1 l2 l3 l4  h Q => zr_iload_n rfl rfl),
   (fun d l0 l1 l2 l3 l4 x0 h Q => zr_ineg rfl),
   (fun d l0 l1 l2 l3 l4 x0 h Q => zr_goto rfl (by decide)),
   (fun d l0 l1 l2 l3 l4  h Q => zr_iload_n rfl rfl),
   (fun d l0 l1 l2 l3 l4 x0 h Q => zr_if_ne rfl (by decide)),
   (fun d l0 l1 l2 l3 l4  h Q => zr_iconst rfl (by decide)),
   (fun d l0 l1 l2 l3 l4 x0 h Q => zr_goto rfl (by decide)),
   (fun d l0 l1 l2 l3 l4  h Q => zr_iconst rfl (by decide)),
   (fun d l0 l1 l2 l3 l4 x0 h Q => zr_iret rfl rfl),
   (fun d l0 l1 l2 l3 l4  h Q => zr_iload_n rfl rfl),
   (fun d l0 l1 l2 l3 l4 x0 h Q => zr_sta (as := [.int x0]) (rest := []) rfl lm_10_236 (by decide) m_154 kd_154 rfl (Nat.le_of_ble_eq_true rfl)),
   (fun d l0 l1 l2 l3 l4 x0 h Q => zr_istore_n (n := 2) rfl (Nat.le_of_ble_eq_true rfl) rfl),
   (fun d l0 l1 l2 l3 l4  h Q => zr_iload_n rfl rfl),
   (fun d l0 l1 l2 l3 l4 x0 h Q => zr_if_lt rfl (by decide)),
   (fun d l0 l1 l2 l3 l4  h Q => zr_aload_n rfl rfl),
   (fun d l0 l1 l2 l3 l4 x0 h Q => zr_dup rfl rfl),
   (fun d l0 l1 l2 l3 l4 x1 x0 I L P Q p0 => zr_getI rfl lf_10_194 (fun _ _ _ => rfl) p0),
   (fun d l0 l1 l2 l3 l4 x1 x0 h Q => zr_iconst rfl (by decide)),
   (fun d l0 l1 l2 l3 l4 x2 x1 x0 h Q => zr_iadd rfl),
   (fun d l0 l1 l2 l3 l4 x1 x0 I L P Q p0 => zr_putI rfl lf_10_194 (by decide) rfl p0),
   (fun d l0 l1 l2 l3 l4  h Q => zr_aload_n rfl rfl),
   (fun d l0 l1 l2 l3 l4 x0 I L P Q p0 => zr_getQ rfl lf_10_37 (fun _ _ _ => rfl) p0),
   (fun d l0 l1 l2 l3 l4 x0 h Q => zr_iload_n rfl rfl),
   (fun d l0 l1 l2 l3 l4 x1 x0 I L P Q p0 => zr_ald rfl p0),
   (fun d l0 l1 l2 l3 l4 x0 h Q => zr_iret rfl rfl),
   (fun d l0 l1 l2 l3 l4  h Q => zr_iconst rfl (by decide)),
   (fun d l0 l1 l2 l3 l4 x0 h Q => zr_istore_n (n := 3) rfl (Nat.le_of_ble_eq_true rfl) rfl),
   (fun d l0 l1 l2 l3 l4  h Q => zr_iconst rfl (by decide)),
   (fun d l0 l1 l2 l3 l4 x0 h Q => zr_istore (n := 4) rfl (Nat.le_of_ble_eq_true rfl) rfl),
   (fun d l0 l1 l2 l3 l4 x0 h Q => zr_iconst rfl (by decide)),
   (fun d l0 l1 l2 l3 l4 x1 x0 h Q => zr_ic_ge rfl (by decide)),
   (fun d l0 l1 l2 l3 l4  h Q => zr_aload_n rfl rfl),
   (fun d l0 l1 l2 l3 l4 x0 I L P Q p0 => zr_vir (as := []) (rest := []) rfl lm_10_206 m_146 kd_146 rfl (Nat.le_of_ble_eq_true rfl) p0),
   (fun d l0 l1 l2 l3 l4 x0 h Q => zr_bipush rfl (by decide)),
   (fun d l0 l1 l2 l3 l4 x1 x0 h Q => zr_ic_lt rfl (by decide)),
   (fun d l0 l1 l2 l3 l4  h Q => zr_aload_n rfl rfl),
   (fun d l0 l1 l2 l3 l4 x0 I L P Q p0 => zr_vir (as := []) (rest := []) rfl lm_10_206 m_146 kd_146 rfl (Nat.le_of_ble_eq_true rfl) p0),
   (fun d l0 l1 l2 l3 l4 x0 h Q => zr_bipush rfl (by decide)),
   (fun d l0 l1 l2 l3 l4 x1 x0 h Q => zr_ic_gt rfl (by decide)),
   (fun d l0 l1 l2 l3 l4  h Q => zr_bipush rfl (by decide)),
   (fun d l0 l1 l2 l3 l4 x0 h Q => zr_iload_n rfl rfl),
   (fun d l0 l1 l2 l3 l4 x1 x0 h Q => zr_imul rfl),
   (fun d l0 l1 l2 l3 l4 x0 h Q => zr_aload_n rfl rfl),
   (fun d l0 l1 l2 l3 l4 x1 x0 I L P Q p0 => zr_vir (as := []) (rest := [.int x0]) rfl lm_10_206 m_146 kd_146 rfl (Nat.le_of_ble_eq_true rfl) p0),
   (fun d l0 l1 l2 l3 l4 x1 x0 h Q => zr_iadd rfl),
   (fun d l0 l1 l2 l3 l4 x0 h Q => zr_bipush rfl (by decide)),
   (fun d l0 l1 l2 l3 l4 x1 x0 h Q => zr_isub rfl),
   (fun d l0 l1 l2 l3 l4 x0 h Q => zr_istore_n (n := 3) rfl (Nat.le_of_ble_eq_true rfl) rfl),
   (fun d l0 l1 l2 l3 l4  h Q => zr_iinc (n := 4) (kc := 1) rfl rfl (Nat.le_of_ble_eq_true rfl) rfl (by decide)),
   (fun d l0 l1 l2 l3 l4  h Q => zr_aload_n rfl rfl),
   (fun d l0 l1 l2 l3 l4 x0 h Q => zr_dup rfl rfl),
   (fun d l0 l1 l2 l3 l4 x1 x0 I L P Q p0 => zr_getI rfl lf_10_194 (fun _ _ _ => rfl) p0),
   (fun d l0 l1 l2 l3 l4 x1 x0 h Q => zr_iconst rfl (by decide)),
   (fun d l0 l1 l2 l3 l4 x2 x1 x0 h Q => zr_iadd rfl),
   (fun d l0 l1 l2 l3 l4 x1 x0 I L P Q p0 => zr_putI rfl lf_10_194 (by decide) rfl p0),
   (fun d l0 l1 l2 l3 l4  h Q => zr_goto rfl (by decide)),
   (fun d l0 l1 l2 l3 l4  h Q => zr_iload rfl rfl),
   (fun d l0 l1 l2 l3 l4 x0 h Q => zr_if_ne rfl (by decide)),
   (fun d l0 l1 l2 l3 l4  h Q => zr_aload_n rfl rfl),
   (fun d l0 l1 l2 l3 l4 x0 I L P Q p0 => zr_vir (as := []) (rest := []) rfl lm_10_230 m_147 kd_147 rfl (Nat.le_of_ble_eq_true rfl) p0),
   (fun d l0 l1 l2 l3 l4 x0 h Q => zr_goto rfl (by decide)),
   (fun d l0 l1 l2 l3 l4  h Q => zr_iload_n rfl rfl),
   (fun d l0 l1 l2 l3 l4 x0 h Q => zr_iret rfl rfl)⟩
theorem H_X10_one_176 : ∀ (d : Nat) (l0 : Value) (l1 : Value) (l2 : Value) (l3 : Value) (l4 : Int32)  (h : zMm) (Q : Option Value → zMm → Prop), zWp d zi_155 none 176 [l0, l1, l2, l3, .int l4] [] h Q = zWp d zi_155 none 178 [l0, l1, l2, l3, .int l4] [.int l4] h Q := fun d l0 l1 l2 l3 l4  h Q => zr_iload rfl rfl
theorem E_X10_workOut : ∀ (d : Nat) (a0 : Nat) (a1 : Int32) (a2 : Int32) (h : zMm) (Q : Option Value → zMm → Prop), zWM (d + 1) 156 [.ref a0, .int a1, .int a2] h Q = zWp d zi_156 none 0 [.ref a0, .int a1, .int a2, .retAddr 0, .retAddr 0, .retAddr 0, .retAddr 0, .retAddr 0] [] h Q := fun d a0 a1 a2 h Q => zW_M m_156 (Nat.le_of_ble_eq_true rfl) rfl
set_option maxRecDepth 100000 in
theorem R_X10_workOut :
    (∀ (d : Nat) (l0 : Nat) (l1 : Value) (l2 : Value) (l3 : Value) (l4 : Value) (l5 : Value) (l6 : Value) (l7 : Value)  (h : zMm) (Q : Option Value → zMm → Prop), zWp d zi_156 none 0 [.ref l0, l1, l2, l3, l4, l5, l6, l7] [] h Q = zWp d zi_156 none 1 [.ref l0, l1, l2, l3, l4, l5, l6, l7] [.ref l0] h Q) ∧
    (∀ (d : Nat) (l0 : Value) (l1 : Int32) (l2 : Value) (l3 : Value) (l4 : Value) (l5 : Value) (l6 : Value) (l7 : Value) (x0 : Nat) (h : zMm) (Q : Option Value → zMm → Prop), zWp d zi_156 none 1 [l0, .int l1, l2, l3, l4, l5, l6, l7] [.ref x0] h Q = zWp d zi_156 none 2 [l0, .int l1, l2, l3, l4, l5, l6, l7] [.int l1, .ref x0] h Q) ∧
    (∀ (d : Nat) (l0 : Value) (l1 : Value) (l2 : Value) (l3 : Value) (l4 : Value) (l5 : Value) (l6 : Value) (l7 : Value) (x1 : Int32) (x0 : Nat) (I : Nat → Nat → Int32) (L : Nat → Nat → Int64) (P : Nat → Nat → Option Nat) (Q : Option Value → zMm → Prop), zSH[x0]? = some (.inl 10) → zWp d zi_156 none 2 [l0, l1, l2, l3, l4, l5, l6, l7] [.int x1, .ref x0] (zSH, I, L, P) Q = zWp d zi_156 none 5 [l0, l1, l2, l3, l4, l5, l6, l7] [] (zSH, zw I x0 (upd (I x0) 17 x1), L, P) Q) ∧
    (∀ (d : Nat) (l0 : Nat) (l1 : Value) (l2 : Value) (l3 : Value) (l4 : Value) (l5 : Value) (l6 : Value) (l7 : Value)  (h : zMm) (Q : Option Value → zMm → Prop), zWp d zi_156 none 5 [.ref l0, l1, l2, l3, l4, l5, l6, l7] [] h Q = zWp d zi_156 none 6 [.ref l0, l1, l2, l3, l4, l5, l6, l7] [.ref l0] h Q) ∧
    (∀ (d : Nat) (l0 : Value) (l1 : Value) (l2 : Value) (l3 : Value) (l4 : Value) (l5 : Value) (l6 : Value) (l7 : Value) (x0 : Nat) (h : zMm) (Q : Option Value → zMm → Prop), zWp d zi_156 none 6 [l0, l1, l2, l3, l4, l5, l6, l7] [.ref x0] h Q = zWp d zi_156 none 7 [l0, l1, l2, l3, l4, l5, l6, l7] [.int 0, .ref x0] h Q) ∧
    (∀ (d : Nat) (l0 : Value) (l1 : Value) (l2 : Value) (l3 : Value) (l4 : Value) (l5 : Value) (l6 : Value) (l7 : Value) (x1 : Int32) (x0 : Nat) (I : Nat → Nat → Int32) (L : Nat → Nat → Int64) (P : Nat → Nat → Option Nat) (Q : Option Value → zMm → Prop), zSH[x0]? = some (.inl 10) → zWp d zi_156 none 7 [l0, l1, l2, l3, l4, l5, l6, l7] [.int x1, .ref x0] (zSH, I, L, P) Q = zWp d zi_156 none 10 [l0, l1, l2, l3, l4, l5, l6, l7] [] (zSH, zw I x0 (upd (I x0) 18 x1), L, P) Q) ∧
    (∀ (d : Nat) (l0 : Nat) (l1 : Value) (l2 : Value) (l3 : Value) (l4 : Value) (l5 : Value) (l6 : Value) (l7 : Value)  (h : zMm) (Q : Option Value → zMm → Prop), zWp d zi_156 none 10 [.ref l0, l1, l2, l3, l4, l5, l6, l7] [] h Q = zWp d zi_156 none 11 [.ref l0, l1, l2, l3, l4, l5, l6, l7] [.ref l0] h Q) ∧
    (∀ (d : Nat) (l0 : Value) (l1 : Value) (l2 : Int32) (l3 : Value) (l4 : Value) (l5 : Value) (l6 : Value) (l7 : Value) (x0 : Nat) (h : zMm) (Q : Option Value → zMm → Prop), zWp d zi_156 none 11 [l0, l1, .int l2, l3, l4, l5, l6, l7] [.ref x0] h Q = zWp d zi_156 none 12 [l0, l1, .int l2, l3, l4, l5, l6, l7] [.int l2, .ref x0] h Q) ∧
    (∀ (d : Nat) (l0 : Value) (l1 : Value) (l2 : Value) (l3 : Value) (l4 : Value) (l5 : Value) (l6 : Value) (l7 : Value) (x1 : Int32) (x0 : Nat) (I : Nat → Nat → Int32) (L : Nat → Nat → Int64) (P : Nat → Nat → Option Nat) (Q : Option Value → zMm → Prop), zSH[x0]? = some (.inl 10) → zWp d zi_156 none 12 [l0, l1, l2, l3, l4, l5, l6, l7] [.int x1, .ref x0] (zSH, I, L, P) Q = zWp d zi_156 none 15 [l0, l1, l2, l3, l4, l5, l6, l7] [] (zSH, zw I x0 (upd (I x0) 19 x1), L, P) Q) ∧
    (∀ (d : Nat) (l0 : Nat) (l1 : Value) (l2 : Value) (l3 : Value) (l4 : Value) (l5 : Value) (l6 : Value) (l7 : Value)  (h : zMm) (Q : Option Value → zMm → Prop), zWp d zi_156 none 15 [.ref l0, l1, l2, l3, l4, l5, l6, l7] [] h Q = zWp d zi_156 none 16 [.ref l0, l1, l2, l3, l4, l5, l6, l7] [.ref l0] h Q) ∧
    (∀ (d : Nat) (l0 : Value) (l1 : Value) (l2 : Value) (l3 : Value) (l4 : Value) (l5 : Value) (l6 : Value) (l7 : Value) (x0 : Nat) (h : zMm) (Q : Option Value → zMm → Prop), zWp d zi_156 none 16 [l0, l1, l2, l3, l4, l5, l6, l7] [.ref x0] h Q = zWp d zi_156 none 17 [l0, l1, l2, l3, l4, l5, l6, l7] [.int (-1), .ref x0] h Q) ∧
    (∀ (d : Nat) (l0 : Value) (l1 : Value) (l2 : Value) (l3 : Value) (l4 : Value) (l5 : Value) (l6 : Value) (l7 : Value) (x1 : Int32) (x0 : Nat) (I : Nat → Nat → Int32) (L : Nat → Nat → Int64) (P : Nat → Nat → Option Nat) (Q : Option Value → zMm → Prop), zSH[x0]? = some (.inl 10) → zWp d zi_156 none 17 [l0, l1, l2, l3, l4, l5, l6, l7] [.int x1, .ref x0] (zSH, I, L, P) Q = zWp d zi_156 none 20 [l0, l1, l2, l3, l4, l5, l6, l7] [] (zSH, zw I x0 (upd (I x0) 20 x1), L, P) Q) ∧
    (∀ (d : Nat) (l0 : Nat) (l1 : Value) (l2 : Value) (l3 : Value) (l4 : Value) (l5 : Value) (l6 : Value) (l7 : Value)  (h : zMm) (Q : Option Value → zMm → Prop), zWp d zi_156 none 20 [.ref l0, l1, l2, l3, l4, l5, l6, l7] [] h Q = zWp d zi_156 none 21 [.ref l0, l1, l2, l3, l4, l5, l6, l7] [.ref l0] h Q) ∧
    (∀ (d : Nat) (l0 : Value) (l1 : Value) (l2 : Value) (l3 : Value) (l4 : Value) (l5 : Value) (l6 : Value) (l7 : Value) (x0 : Nat) (h : zMm) (Q : Option Value → zMm → Prop), zWp d zi_156 none 21 [l0, l1, l2, l3, l4, l5, l6, l7] [.ref x0] h Q = zWp d zi_156 none 22 [l0, l1, l2, l3, l4, l5, l6, l7] [.int 0, .ref x0] h Q) ∧
    (∀ (d : Nat) (l0 : Value) (l1 : Value) (l2 : Value) (l3 : Value) (l4 : Value) (l5 : Value) (l6 : Value) (l7 : Value) (x1 : Int32) (x0 : Nat) (I : Nat → Nat → Int32) (L : Nat → Nat → Int64) (P : Nat → Nat → Option Nat) (Q : Option Value → zMm → Prop), zSH[x0]? = some (.inl 10) → zWp d zi_156 none 22 [l0, l1, l2, l3, l4, l5, l6, l7] [.int x1, .ref x0] (zSH, I, L, P) Q = zWp d zi_156 none 25 [l0, l1, l2, l3, l4, l5, l6, l7] [] (zSH, zw I x0 (upd (I x0) 21 x1), L, P) Q) ∧
    (∀ (d : Nat) (l0 : Value) (l1 : Value) (l2 : Value) (l3 : Value) (l4 : Value) (l5 : Value) (l6 : Value) (l7 : Value)  (h : zMm) (Q : Option Value → zMm → Prop), zWp d zi_156 none 25 [l0, l1, l2, l3, l4, l5, l6, l7] [] h Q = zWp d zi_156 none 26 [l0, l1, l2, l3, l4, l5, l6, l7] [.int 0] h Q) ∧
    (∀ (d : Nat) (l0 : Value) (l1 : Value) (l2 : Int32) (l3 : Value) (l4 : Value) (l5 : Value) (l6 : Value) (l7 : Value) (x0 : Int32) (h : zMm) (Q : Option Value → zMm → Prop), zWp d zi_156 none 26 [l0, l1, .int l2, l3, l4, l5, l6, l7] [.int x0] h Q = zWp d zi_156 none 27 [l0, l1, .int l2, .int x0, l4, l5, l6, l7] [] h Q) ∧
    (∀ (d : Nat) (l0 : Value) (l1 : Value) (l2 : Value) (l3 : Value) (l4 : Value) (l5 : Value) (l6 : Value) (l7 : Value)  (h : zMm) (Q : Option Value → zMm → Prop), zWp d zi_156 none 27 [l0, l1, l2, l3, l4, l5, l6, l7] [] h Q = zWp d zi_156 none 28 [l0, l1, l2, l3, l4, l5, l6, l7] [.int 0] h Q) ∧
    (∀ (d : Nat) (l0 : Value) (l1 : Value) (l2 : Value) (l3 : Int32) (l4 : Value) (l5 : Value) (l6 : Value) (l7 : Value) (x0 : Int32) (h : zMm) (Q : Option Value → zMm → Prop), zWp d zi_156 none 28 [l0, l1, l2, .int l3, l4, l5, l6, l7] [.int x0] h Q = zWp d zi_156 none 30 [l0, l1, l2, .int l3, .int x0, l5, l6, l7] [] h Q) ∧
    (∀ (d : Nat) (l0 : Value) (l1 : Value) (l2 : Value) (l3 : Value) (l4 : Value) (l5 : Value) (l6 : Value) (l7 : Value)  (h : zMm) (Q : Option Value → zMm → Prop), zWp d zi_156 none 30 [l0, l1, l2, l3, l4, l5, l6, l7] [] h Q = zWp d zi_156 none 31 [l0, l1, l2, l3, l4, l5, l6, l7] [.int 1] h Q) ∧
    (∀ (d : Nat) (l0 : Value) (l1 : Value) (l2 : Value) (l3 : Value) (l4 : Int32) (l5 : Value) (l6 : Value) (l7 : Value) (x0 : Int32) (h : zMm) (Q : Option Value → zMm → Prop), zWp d zi_156 none 31 [l0, l1, l2, l3, .int l4, l5, l6, l7] [.int x0] h Q = zWp d zi_156 none 33 [l0, l1, l2, l3, .int l4, .int x0, l6, l7] [] h Q) ∧
    (∀ (d : Nat) (l0 : Value) (l1 : Value) (l2 : Value) (l3 : Value) (l4 : Value) (l5 : Value) (l6 : Value) (l7 : Value) (x0 : Int32) (h : zMm) (Q : Option Value → zMm → Prop), zWp d zi_156 none 35 [l0, l1, l2, l3, l4, l5, l6, l7] [.int x0] h Q = if x0 = 0 then zWp d zi_156 none 107 [l0, l1, l2, l3, l4, l5, l6, l7] [] h Q else zWp d zi_156 none 38 [l0, l1, l2, l3, l4, l5, l6, l7] [] h Q) ∧
    (∀ (d : Nat) (l0 : Nat) (l1 : Value) (l2 : Value) (l3 : Value) (l4 : Value) (l5 : Value) (l6 : Value) (l7 : Value)  (h : zMm) (Q : Option Value → zMm → Prop), zWp d zi_156 none 38 [.ref l0, l1, l2, l3, l4, l5, l6, l7] [] h Q = zWp d zi_156 none 39 [.ref l0, l1, l2, l3, l4, l5, l6, l7] [.ref l0] h Q) ∧
    (∀ (d : Nat) (l0 : Value) (l1 : Value) (l2 : Value) (l3 : Value) (l4 : Value) (l5 : Value) (l6 : Value) (l7 : Value) (x0 : Nat) (I : Nat → Nat → Int32) (L : Nat → Nat → Int64) (P : Nat → Nat → Option Nat) (Q : Option Value → zMm → Prop), zSH[x0]? = some (.inl 10) → zWp d zi_156 none 39 [l0, l1, l2, l3, l4, l5, l6, l7] [.ref x0] (zSH, I, L, P) Q = zWM d 149 [.ref x0] (zSH, I, L, P) (fun r h1 => zWp d zi_156 none 42 [l0, l1, l2, l3, l4, l5, l6, l7] (r.toList ++ []) h1 Q)) ∧
    (∀ (d : Nat) (l0 : Value) (l1 : Value) (l2 : Value) (l3 : Value) (l4 : Value) (l5 : Int32) (l6 : Value) (l7 : Value) (x0 : Int32) (h : zMm) (Q : Option Value → zMm → Prop), zWp d zi_156 none 42 [l0, l1, l2, l3, l4, .int l5, l6, l7] [.int x0] h Q = zWp d zi_156 none 44 [l0, l1, l2, l3, l4, .int l5, .int x0, l7] [] h Q) ∧
    (∀ (d : Nat) (l0 : Value) (l1 : Value) (l2 : Value) (l3 : Value) (l4 : Value) (l5 : Value) (l6 : Value) (l7 : Value)  (h : zMm) (Q : Option Value → zMm → Prop), zWp d zi_156 none 44 [l0, l1, l2, l3, l4, l5, l6, l7] [] h Q = zWp d zi_156 none 45 [l0, l1, l2, l3, l4, l5, l6, l7] [.int 1] h Q) ∧
    (∀ (d : Nat) (l0 : Value) (l1 : Value) (l2 : Value) (l3 : Value) (l4 : Value) (l5 : Value) (l6 : Int32) (l7 : Value) (x0 : Int32) (h : zMm) (Q : Option Value → zMm → Prop), zWp d zi_156 none 45 [l0, l1, l2, l3, l4, l5, .int l6, l7] [.int x0] h Q = zWp d zi_156 none 47 [l0, l1, l2, l3, l4, l5, .int l6, .int x0] [] h Q) ∧
    (∀ (d : Nat) (l0 : Nat) (l1 : Value) (l2 : Value) (l3 : Value) (l4 : Value) (l5 : Value) (l6 : Value) (l7 : Value)  (h : zMm) (Q : Option Value → zMm → Prop), zWp d zi_156 none 47 [.ref l0, l1, l2, l3, l4, l5, l6, l7] [] h Q = zWp d zi_156 none 48 [.ref l0, l1, l2, l3, l4, l5, l6, l7] [.ref l0] h Q) ∧
    (∀ (d : Nat) (l0 : Value) (l1 : Value) (l2 : Value) (l3 : Value) (l4 : Value) (l5 : Value) (l6 : Value) (l7 : Value) (x0 : Nat) (h : zMm) (Q : Option Value → zMm → Prop), zWp d zi_156 none 48 [l0, l1, l2, l3, l4, l5, l6, l7] [.ref x0] h Q = zWp d zi_156 none 50 [l0, l1, l2, l3, l4, l5, l6, l7] [.int 63, .ref x0] h Q) ∧
    (∀ (d : Nat) (l0 : Value) (l1 : Value) (l2 : Value) (l3 : Value) (l4 : Value) (l5 : Value) (l6 : Value) (l7 : Value) (x1 : Int32) (x0 : Nat) (I : Nat → Nat → Int32) (L : Nat → Nat → Int64) (P : Nat → Nat → Option Nat) (Q : Option Value → zMm → Prop), zSH[x0]? = some (.inl 10) → zWp d zi_156 none 50 [l0, l1, l2, l3, l4, l5, l6, l7] [.int x1, .ref x0] (zSH, I, L, P) Q = zWM d 148 [.ref x0, .int x1] (zSH, I, L, P) (fun r h1 => zWp d zi_156 none 53 [l0, l1, l2, l3, l4, l5, l6, l7] (r.toList ++ []) h1 Q)) ∧
    (∀ (d : Nat) (l0 : Value) (l1 : Value) (l2 : Value) (l3 : Value) (l4 : Value) (l5 : Value) (l6 : Value) (l7 : Value) (x0 : Int32) (h : zMm) (Q : Option Value → zMm → Prop), zWp d zi_156 none 53 [l0, l1, l2, l3, l4, l5, l6, l7] [.int x0] h Q = if x0 = 0 then zWp d zi_156 none 74 [l0, l1, l2, l3, l4, l5, l6, l7] [] h Q else zWp d zi_156 none 56 [l0, l1, l2, l3, l4, l5, l6, l7] [] h Q) ∧
    (∀ (d : Nat) (l0 : Value) (l1 : Value) (l2 : Value) (l3 : Value) (l4 : Value) (l5 : Value) (l6 : Int32) (l7 : Value)  (h : zMm) (Q : Option Value → zMm → Prop), zWp d zi_156 none 56 [l0, l1, l2, l3, l4, l5, .int l6, l7] [] h Q = zWp d zi_156 none 58 [l0, l1, l2, l3, l4, l5, .int l6, l7] [.int l6] h Q) ∧
    (∀ (d : Nat) (l0 : Value) (l1 : Value) (l2 : Value) (l3 : Value) (l4 : Value) (l5 : Value) (l6 : Value) (l7 : Value) (x0 : Int32) (h : zMm) (Q : Option Value → zMm → Prop), zWp d zi_156 none 58 [l0, l1, l2, l3, l4, l5, l6, l7] [.int x0] h Q = if x0 = 0 then zWp d zi_156 none 65 [l0, l1, l2, l3, l4, l5, l6, l7] [] h Q else zWp d zi_156 none 61 [l0, l1, l2, l3, l4, l5, l6, l7] [] h Q) ∧
    (∀ (d : Nat) (l0 : Value) (l1 : Value) (l2 : Value) (l3 : Value) (l4 : Value) (l5 : Value) (l6 : Value) (l7 : Value)  (h : zMm) (Q : Option Value → zMm → Prop), zWp d zi_156 none 61 [l0, l1, l2, l3, l4, l5, l6, l7] [] h Q = zWp d zi_156 none 62 [l0, l1, l2, l3, l4, l5, l6, l7] [.int 1] h Q) ∧
    (∀ (d : Nat) (l0 : Value) (l1 : Value) (l2 : Value) (l3 : Value) (l4 : Value) (l5 : Value) (l6 : Value) (l7 : Value) (x0 : Int32) (h : zMm) (Q : Option Value → zMm → Prop), zWp d zi_156 none 62 [l0, l1, l2, l3, l4, l5, l6, l7] [.int x0] h Q = zWp d zi_156 none 66 [l0, l1, l2, l3, l4, l5, l6, l7] [.int x0] h Q) ∧
    (∀ (d : Nat) (l0 : Value) (l1 : Value) (l2 : Value) (l3 : Value) (l4 : Value) (l5 : Value) (l6 : Value) (l7 : Value)  (h : zMm) (Q : Option Value → zMm → Prop), zWp d zi_156 none 65 [l0, l1, l2, l3, l4, l5, l6, l7] [] h Q = zWp d zi_156 none 66 [l0, l1, l2, l3, l4, l5, l6, l7] [.int 0] h Q) ∧
    (∀ (d : Nat) (l0 : Value) (l1 : Value) (l2 : Value) (l3 : Value) (l4 : Value) (l5 : Value) (l6 : Int32) (l7 : Value) (x0 : Int32) (h : zMm) (Q : Option Value → zMm → Prop), zWp d zi_156 none 66 [l0, l1, l2, l3, l4, l5, .int l6, l7] [.int x0] h Q = zWp d zi_156 none 68 [l0, l1, l2, l3, l4, l5, .int l6, .int x0] [] h Q) ∧
    (∀ (d : Nat) (l0 : Nat) (l1 : Value) (l2 : Value) (l3 : Value) (l4 : Value) (l5 : Value) (l6 : Value) (l7 : Value)  (h : zMm) (Q : Option Value → zMm → Prop), zWp d zi_156 none 68 [.ref l0, l1, l2, l3, l4, l5, l6, l7] [] h Q = zWp d zi_156 none 69 [.ref l0, l1, l2, l3, l4, l5, l6, l7] [.ref l0] h Q) ∧
    (∀ (d : Nat) (l0 : Value) (l1 : Value) (l2 : Value) (l3 : Value) (l4 : Value) (l5 : Value) (l6 : Value) (l7 : Value) (x0 : Nat) (I : Nat → Nat → Int32) (L : Nat → Nat → Int64) (P : Nat → Nat → Option Nat) (Q : Option Value → zMm → Prop), zSH[x0]? = some (.inl 10) → zWp d zi_156 none 69 [l0, l1, l2, l3, l4, l5, l6, l7] [.ref x0] (zSH, I, L, P) Q = zWM d 149 [.ref x0] (zSH, I, L, P) (fun r h1 => zWp d zi_156 none 72 [l0, l1, l2, l3, l4, l5, l6, l7] (r.toList ++ []) h1 Q)) ∧
    (∀ (d : Nat) (l0 : Value) (l1 : Value) (l2 : Value) (l3 : Value) (l4 : Value) (l5 : Int32) (l6 : Value) (l7 : Value) (x0 : Int32) (h : zMm) (Q : Option Value → zMm → Prop), zWp d zi_156 none 72 [l0, l1, l2, l3, l4, .int l5, l6, l7] [.int x0] h Q = zWp d zi_156 none 74 [l0, l1, l2, l3, l4, .int l5, .int x0, l7] [] h Q) ∧
    (∀ (d : Nat) (l0 : Nat) (l1 : Value) (l2 : Value) (l3 : Value) (l4 : Value) (l5 : Value) (l6 : Value) (l7 : Value)  (h : zMm) (Q : Option Value → zMm → Prop), zWp d zi_156 none 74 [.ref l0, l1, l2, l3, l4, l5, l6, l7] [] h Q = zWp d zi_156 none 75 [.ref l0, l1, l2, l3, l4, l5, l6, l7] [.ref l0] h Q) ∧
    (∀ (d : Nat) (l0 : Value) (l1 : Value) (l2 : Value) (l3 : Value) (l4 : Value) (l5 : Value) (l6 : Value) (l7 : Value) (x0 : Nat) (I : Nat → Nat → Int32) (L : Nat → Nat → Int64) (P : Nat → Nat → Option Nat) (Q : Option Value → zMm → Prop), zSH[x0]? = some (.inl 10) → zWp d zi_156 none 75 [l0, l1, l2, l3, l4, l5, l6, l7] [.ref x0] (zSH, I, L, P) Q = zWp d zi_156 none 78 [l0, l1, l2, l3, l4, l5, l6, l7] [.int (I x0 20)] (zSH, I, L, P) Q) ∧
    (∀ (d : Nat) (l0 : Value) (l1 : Value) (l2 : Value) (l3 : Value) (l4 : Value) (l5 : Value) (l6 : Value) (l7 : Value) (x0 : Int32) (h : zMm) (Q : Option Value → zMm → Prop), zWp d zi_156 none 78 [l0, l1, l2, l3, l4, l5, l6, l7] [.int x0] h Q = if 0 ≤ x0 then zWp d zi_156 none 96 [l0, l1, l2, l3, l4, l5, l6, l7] [] h Q else zWp d zi_156 none 81 [l0, l1, l2, l3, l4, l5, l6, l7] [] h Q) ∧
    (∀ (d : Nat) (l0 : Value) (l1 : Value) (l2 : Value) (l3 : Value) (l4 : Value) (l5 : Value) (l6 : Value) (l7 : Int32)  (h : zMm) (Q : Option Value → zMm → Prop), zWp d zi_156 none 81 [l0, l1, l2, l3, l4, l5, l6, .int l7] [] h Q = zWp d zi_156 none 83 [l0, l1, l2, l3, l4, l5, l6, .int l7] [.int l7] h Q) ∧
    (∀ (d : Nat) (l0 : Value) (l1 : Value) (l2 : Value) (l3 : Value) (l4 : Value) (l5 : Value) (l6 : Value) (l7 : Value) (x0 : Int32) (h : zMm) (Q : Option Value → zMm → Prop), zWp d zi_156 none 83 [l0, l1, l2, l3, l4, l5, l6, l7] [.int x0] h Q = if x0 = 0 then zWp d zi_156 none 96 [l0, l1, l2, l3, l4, l5, l6, l7] [] h Q else zWp d zi_156 none 86 [l0, l1, l2, l3, l4, l5, l6, l7] [] h Q) ∧
    (∀ (d : Nat) (l0 : Value) (l1 : Value) (l2 : Value) (l3 : Int32) (l4 : Value) (l5 : Value) (l6 : Value) (l7 : Value)  (h : zMm) (Q : Option Value → zMm → Prop), zWp d zi_156 none 86 [l0, l1, l2, .int l3, l4, l5, l6, l7] [] h Q = zWp d zi_156 none 87 [l0, l1, l2, .int l3, l4, l5, l6, l7] [.int l3] h Q) ∧
    (∀ (d : Nat) (l0 : Value) (l1 : Value) (l2 : Value) (l3 : Value) (l4 : Value) (l5 : Value) (l6 : Value) (l7 : Value) (x0 : Int32) (h : zMm) (Q : Option Value → zMm → Prop), zWp d zi_156 none 87 [l0, l1, l2, l3, l4, l5, l6, l7] [.int x0] h Q = if x0 = 0 then zWp d zi_156 none 90 [l0, l1, l2, l3, l4, l5, l6, l7] [] h Q else zWp d zi_156 none 96 [l0, l1, l2, l3, l4, l5, l6, l7] [] h Q) ∧
    (∀ (d : Nat) (l0 : Value) (l1 : Value) (l2 : Value) (l3 : Value) (l4 : Value) (l5 : Value) (l6 : Value) (l7 : Value)  (h : zMm) (Q : Option Value → zMm → Prop), zWp d zi_156 none 90 [l0, l1, l2, l3, l4, l5, l6, l7] [] h Q = zWp d zi_156 none 91 [l0, l1, l2, l3, l4, l5, l6, l7] [.int 1] h Q) ∧
    (∀ (d : Nat) (l0 : Value) (l1 : Value) (l2 : Int32) (l3 : Value) (l4 : Value) (l5 : Value) (l6 : Value) (l7 : Value) (x0 : Int32) (h : zMm) (Q : Option Value → zMm → Prop), zWp d zi_156 none 91 [l0, l1, .int l2, l3, l4, l5, l6, l7] [.int x0] h Q = zWp d zi_156 none 92 [l0, l1, .int l2, .int x0, l4, l5, l6, l7] [] h Q) ∧
    (∀ (d : Nat) (l0 : Value) (l1 : Value) (l2 : Value) (l3 : Value) (l4 : Value) (l5 : Value) (l6 : Int32) (l7 : Value)  (h : zMm) (Q : Option Value → zMm → Prop), zWp d zi_156 none 92 [l0, l1, l2, l3, l4, l5, .int l6, l7] [] h Q = zWp d zi_156 none 94 [l0, l1, l2, l3, l4, l5, .int l6, l7] [.int l6] h Q) ∧
    (∀ (d : Nat) (l0 : Value) (l1 : Value) (l2 : Value) (l3 : Int32) (l4 : Value) (l5 : Value) (l6 : Value) (l7 : Value) (x0 : Int32) (h : zMm) (Q : Option Value → zMm → Prop), zWp d zi_156 none 94 [l0, l1, l2, .int l3, l4, l5, l6, l7] [.int x0] h Q = zWp d zi_156 none 96 [l0, l1, l2, .int l3, .int x0, l5, l6, l7] [] h Q) ∧
    (∀ (d : Nat) (l0 : Nat) (l1 : Value) (l2 : Value) (l3 : Value) (l4 : Value) (l5 : Value) (l6 : Value) (l7 : Value)  (h : zMm) (Q : Option Value → zMm → Prop), zWp d zi_156 none 96 [.ref l0, l1, l2, l3, l4, l5, l6, l7] [] h Q = zWp d zi_156 none 97 [.ref l0, l1, l2, l3, l4, l5, l6, l7] [.ref l0] h Q) ∧
    (∀ (d : Nat) (l0 : Value) (l1 : Value) (l2 : Value) (l3 : Value) (l4 : Value) (l5 : Value) (l6 : Value) (l7 : Value) (x0 : Nat) (h : zMm) (Q : Option Value → zMm → Prop), zWp d zi_156 none 97 [l0, l1, l2, l3, l4, l5, l6, l7] [.ref x0] h Q = zWp d zi_156 none 99 [l0, l1, l2, l3, l4, l5, l6, l7] [.int 59, .ref x0] h Q) ∧
    (∀ (d : Nat) (l0 : Value) (l1 : Value) (l2 : Value) (l3 : Value) (l4 : Value) (l5 : Value) (l6 : Value) (l7 : Value) (x1 : Int32) (x0 : Nat) (I : Nat → Nat → Int32) (L : Nat → Nat → Int64) (P : Nat → Nat → Option Nat) (Q : Option Value → zMm → Prop), zSH[x0]? = some (.inl 10) → zWp d zi_156 none 99 [l0, l1, l2, l3, l4, l5, l6, l7] [.int x1, .ref x0] (zSH, I, L, P) Q = zWM d 148 [.ref x0, .int x1] (zSH, I, L, P) (fun r h1 => zWp d zi_156 none 102 [l0, l1, l2, l3, l4, l5, l6, l7] (r.toList ++ []) h1 Q)) ∧
    (∀ (d : Nat) (l0 : Value) (l1 : Value) (l2 : Value) (l3 : Value) (l4 : Int32) (l5 : Value) (l6 : Value) (l7 : Value) (x0 : Int32) (h : zMm) (Q : Option Value → zMm → Prop), zWp d zi_156 none 102 [l0, l1, l2, l3, .int l4, l5, l6, l7] [.int x0] h Q = zWp d zi_156 none 104 [l0, l1, l2, l3, .int l4, .int x0, l6, l7] [] h Q) ∧
    (∀ (d : Nat) (l0 : Value) (l1 : Value) (l2 : Value) (l3 : Value) (l4 : Value) (l5 : Value) (l6 : Value) (l7 : Value)  (h : zMm) (Q : Option Value → zMm → Prop), zWp d zi_156 none 104 [l0, l1, l2, l3, l4, l5, l6, l7] [] h Q = zWp d zi_156 none 33 [l0, l1, l2, l3, l4, l5, l6, l7] [] h Q) ∧
    (∀ (d : Nat) (l0 : Nat) (l1 : Value) (l2 : Value) (l3 : Value) (l4 : Value) (l5 : Value) (l6 : Value) (l7 : Value)  (h : zMm) (Q : Option Value → zMm → Prop), zWp d zi_156 none 107 [.ref l0, l1, l2, l3, l4, l5, l6, l7] [] h Q = zWp d zi_156 none 108 [.ref l0, l1, l2, l3, l4, l5, l6, l7] [.ref l0] h Q) ∧
    (∀ (d : Nat) (l0 : Value) (l1 : Value) (l2 : Value) (l3 : Value) (l4 : Value) (l5 : Value) (l6 : Value) (l7 : Value) (x0 : Nat) (I : Nat → Nat → Int32) (L : Nat → Nat → Int64) (P : Nat → Nat → Option Nat) (Q : Option Value → zMm → Prop), zSH[x0]? = some (.inl 10) → zWp d zi_156 none 108 [l0, l1, l2, l3, l4, l5, l6, l7] [.ref x0] (zSH, I, L, P) Q = zWp d zi_156 none 111 [l0, l1, l2, l3, l4, l5, l6, l7] [.int (I x0 20)] (zSH, I, L, P) Q) ∧
    (∀ (d : Nat) (l0 : Value) (l1 : Value) (l2 : Value) (l3 : Value) (l4 : Value) (l5 : Value) (l6 : Value) (l7 : Value) (x0 : Int32) (h : zMm) (Q : Option Value → zMm → Prop), zWp d zi_156 none 111 [l0, l1, l2, l3, l4, l5, l6, l7] [.int x0] h Q = if 0 ≤ x0 then zWp d zi_156 none 130 [l0, l1, l2, l3, l4, l5, l6, l7] [] h Q else zWp d zi_156 none 114 [l0, l1, l2, l3, l4, l5, l6, l7] [] h Q) ∧
    (∀ (d : Nat) (l0 : Nat) (l1 : Value) (l2 : Value) (l3 : Value) (l4 : Value) (l5 : Value) (l6 : Value) (l7 : Value)  (h : zMm) (Q : Option Value → zMm → Prop), zWp d zi_156 none 114 [.ref l0, l1, l2, l3, l4, l5, l6, l7] [] h Q = zWp d zi_156 none 115 [.ref l0, l1, l2, l3, l4, l5, l6, l7] [.ref l0] h Q) ∧
    (∀ (d : Nat) (l0 : Value) (l1 : Value) (l2 : Value) (l3 : Value) (l4 : Value) (l5 : Value) (l6 : Value) (l7 : Value) (x0 : Nat) (I : Nat → Nat → Int32) (L : Nat → Nat → Int64) (P : Nat → Nat → Option Nat) (Q : Option Value → zMm → Prop), zSH[x0]? = some (.inl 10) → zWp d zi_156 none 115 [l0, l1, l2, l3, l4, l5, l6, l7] [.ref x0] (zSH, I, L, P) Q = zWp d zi_156 none 118 [l0, l1, l2, l3, l4, l5, l6, l7] [.int (I x0 18)] (zSH, I, L, P) Q) ∧
    (∀ (d : Nat) (l0 : Nat) (l1 : Value) (l2 : Value) (l3 : Value) (l4 : Value) (l5 : Value) (l6 : Value) (l7 : Value) (x0 : Int32) (h : zMm) (Q : Option Value → zMm → Prop), zWp d zi_156 none 118 [.ref l0, l1, l2, l3, l4, l5, l6, l7] [.int x0] h Q = zWp d zi_156 none 119 [.ref l0, l1, l2, l3, l4, l5, l6, l7] [.ref l0, .int x0] h Q) ∧
    (∀ (d : Nat) (l0 : Value) (l1 : Value) (l2 : Value) (l3 : Value) (l4 : Value) (l5 : Value) (l6 : Value) (l7 : Value) (x1 : Nat) (x0 : Int32) (I : Nat → Nat → Int32) (L : Nat → Nat → Int64) (P : Nat → Nat → Option Nat) (Q : Option Value → zMm → Prop), zSH[x1]? = some (.inl 10) → zWp d zi_156 none 119 [l0, l1, l2, l3, l4, l5, l6, l7] [.ref x1, .int x0] (zSH, I, L, P) Q = zWp d zi_156 none 122 [l0, l1, l2, l3, l4, l5, l6, l7] [.int (I x1 19), .int x0] (zSH, I, L, P) Q) ∧
    (∀ (d : Nat) (l0 : Value) (l1 : Value) (l2 : Value) (l3 : Value) (l4 : Value) (l5 : Value) (l6 : Value) (l7 : Value) (x1 : Int32) (x0 : Int32) (h : zMm) (Q : Option Value → zMm → Prop), zWp d zi_156 none 122 [l0, l1, l2, l3, l4, l5, l6, l7] [.int x1, .int x0] h Q = if x1 ≤ x0 then zWp d zi_156 none 130 [l0, l1, l2, l3, l4, l5, l6, l7] [] h Q else zWp d zi_156 none 125 [l0, l1, l2, l3, l4, l5, l6, l7] [] h Q) ∧
    (∀ (d : Nat) (l0 : Nat) (l1 : Value) (l2 : Value) (l3 : Value) (l4 : Value) (l5 : Value) (l6 : Value) (l7 : Value)  (h : zMm) (Q : Option Value → zMm → Prop), zWp d zi_156 none 125 [.ref l0, l1, l2, l3, l4, l5, l6, l7] [] h Q = zWp d zi_156 none 126 [.ref l0, l1, l2, l3, l4, l5, l6, l7] [.ref l0] h Q) ∧
    (∀ (d : Nat) (l0 : Value) (l1 : Value) (l2 : Value) (l3 : Value) (l4 : Value) (l5 : Value) (l6 : Value) (l7 : Value) (x0 : Nat) (I : Nat → Nat → Int32) (L : Nat → Nat → Int64) (P : Nat → Nat → Option Nat) (Q : Option Value → zMm → Prop), zSH[x0]? = some (.inl 10) → zWp d zi_156 none 126 [l0, l1, l2, l3, l4, l5, l6, l7] [.ref x0] (zSH, I, L, P) Q = zWM d 147 [.ref x0] (zSH, I, L, P) (fun r h1 => zWp d zi_156 none 129 [l0, l1, l2, l3, l4, l5, l6, l7] (r.toList ++ []) h1 Q)) ∧
    (∀ (d : Nat) (l0 : Value) (l1 : Value) (l2 : Value) (l3 : Value) (l4 : Value) (l5 : Value) (l6 : Value) (l7 : Value) (x0 : Int32) (h : zMm) (Q : Option Value → zMm → Prop), zWp d zi_156 none 129 [l0, l1, l2, l3, l4, l5, l6, l7] [.int x0] h Q = Q (some (.int x0)) h) ∧
    (∀ (d : Nat) (l0 : Value) (l1 : Value) (l2 : Value) (l3 : Value) (l4 : Int32) (l5 : Value) (l6 : Value) (l7 : Value)  (h : zMm) (Q : Option Value → zMm → Prop), zWp d zi_156 none 130 [l0, l1, l2, l3, .int l4, l5, l6, l7] [] h Q = zWp d zi_156 none 132 [l0, l1, l2, l3, .int l4, l5, l6, l7] [.int l4] h Q) ∧
    (∀ (d : Nat) (l0 : Value) (l1 : Value) (l2 : Value) (l3 : Value) (l4 : Value) (l5 : Value) (l6 : Value) (l7 : Value) (x0 : Int32) (h : zMm) (Q : Option Value → zMm → Prop), zWp d zi_156 none 132 [l0, l1, l2, l3, l4, l5, l6, l7] [.int x0] h Q = Q (some (.int x0)) h) :=
  ⟨(fun d l0 l1 l2 l3 l4 l5 l6 l7  h Q => zr_aload_n rfl rfl),
   (fun d l0 l1 l2 l3 l4 l5 l6 l7 x0 h Q => zr_iload_n rfl rfl),
   (fun d l0 l1 l2 l3 l4 l5 l6 l7 x1 x0 I L P Q p0 => zr_putI rfl lf_10_200 (by decide) rfl p0),
   (fun d l0 l1 l2 l3 l4 l5 l6 l7  h Q => zr_aload_n rfl rfl),
   (fun d l0 l1 l2 l3 l4 l5 l6 l7 x0 h Q => zr_iconst rfl (by decide)),
   (fun d l0 l1 l2 l3 l4 l5 l6 l7 x1 x0 I L P Q p0 => zr_putI rfl lf_10_194 (by decide) rfl p0),
   (fun d l0 l1 l2 l3 l4 l5 l6 l7  h Q => zr_aload_n rfl rfl),
   (fun d l0 l1 l2 l3 l4 l5 l6 l7 x0 h Q => zr_iload_n rfl rfl),
   (fun d l0 l1 l2 l3 l4 l5 l6 l7 x1 x0 I L P Q p0 => zr_putI rfl lf_10_197 (by decide) rfl p0),
   (fun d l0 l1 l2 l3 l4 l5 l6 l7  h Q => zr_aload_n rfl rfl),
   (fun d l0 l1 l2 l3 l4 l5 l6 l7 x0 h Q => zr_iconst rfl (by decide)),
   (fun d l0 l1 l2 l3 l4 l5 l6 l7 x1 x0 I L P Q p0 => zr_putI rfl lf_10_203 (by decide) rfl p0),
   (fun d l0 l1 l2 l3 l4 l5 l6 l7  h Q => zr_aload_n rfl rfl),
   (fun d l0 l1 l2 l3 l4 l5 l6 l7 x0 h Q => zr_iconst rfl (by decide)),
   (fun d l0 l1 l2 l3 l4 l5 l6 l7 x1 x0 I L P Q p0 => zr_putI rfl lf_10_227 (by decide) rfl p0),
   (fun d l0 l1 l2 l3 l4 l5 l6 l7  h Q => zr_iconst rfl (by decide)),
   (fun d l0 l1 l2 l3 l4 l5 l6 l7 x0 h Q => zr_istore_n (n := 3) rfl (Nat.le_of_ble_eq_true rfl) rfl),
   (fun d l0 l1 l2 l3 l4 l5 l6 l7  h Q => zr_iconst rfl (by decide)),
   (fun d l0 l1 l2 l3 l4 l5 l6 l7 x0 h Q => zr_istore (n := 4) rfl (Nat.le_of_ble_eq_true rfl) rfl),
   (fun d l0 l1 l2 l3 l4 l5 l6 l7  h Q => zr_iconst rfl (by decide)),
   (fun d l0 l1 l2 l3 l4 l5 l6 l7 x0 h Q => zr_istore (n := 5) rfl (Nat.le_of_ble_eq_true rfl) rfl),
   (fun d l0 l1 l2 l3 l4 l5 l6 l7 x0 h Q => zr_if_eq rfl (by decide)),
   (fun d l0 l1 l2 l3 l4 l5 l6 l7  h Q => zr_aload_n rfl rfl),
   (fun d l0 l1 l2 l3 l4 l5 l6 l7 x0 I L P Q p0 => zr_vir (as := []) (rest := []) rfl lm_10_233 m_149 kd_149 rfl (Nat.le_of_ble_eq_true rfl) p0),
   (fun d l0 l1 l2 l3 l4 l5 l6 l7 x0 h Q => zr_istore (n := 6) rfl (Nat.le_of_ble_eq_true rfl) rfl),
   (fun d l0 l1 l2 l3 l4 l5 l6 l7  h Q => zr_iconst rfl (by decide)),
   (fun d l0 l1 l2 l3 l4 l5 l6 l7 x0 h Q => zr_istore (n := 7) rfl (Nat.le_of_ble_eq_true rfl) rfl),
   (fun d l0 l1 l2 l3 l4 l5 l6 l7  h Q => zr_aload_n rfl rfl),
   (fun d l0 l1 l2 l3 l4 l5 l6 l7 x0 h Q => zr_bipush rfl (by decide)),
   (fun d l0 l1 l2 l3 l4 l5 l6 l7 x1 x0 I L P Q p0 => zr_vir (as := [.int x1]) (rest := []) rfl lm_10_212 m_148 kd_148 rfl (Nat.le_of_ble_eq_true rfl) p0),
   (fun d l0 l1 l2 l3 l4 l5 l6 l7 x0 h Q => zr_if_eq rfl (by decide)),
   (fun d l0 l1 l2 l3 l4 l5 l6 l7  h Q => zr_iload rfl rfl),
   (fun d l0 l1 l2 l3 l4 l5 l6 l7 x0 h Q => zr_if_eq rfl (by decide)),
   (fun d l0 l1 l2 l3 l4 l5 l6 l7  h Q => zr_iconst rfl (by decide)),
   (fun d l0 l1 l2 l3 l4 l5 l6 l7 x0 h Q => zr_goto rfl (by decide)),
   (fun d l0 l1 l2 l3 l4 l5 l6 l7  h Q => zr_iconst rfl (by decide)),
   (fun d l0 l1 l2 l3 l4 l5 l6 l7 x0 h Q => zr_istore (n := 7) rfl (Nat.le_of_ble_eq_true rfl) rfl),
   (fun d l0 l1 l2 l3 l4 l5 l6 l7  h Q => zr_aload_n rfl rfl),
   (fun d l0 l1 l2 l3 l4 l5 l6 l7 x0 I L P Q p0 => zr_vir (as := []) (rest := []) rfl lm_10_233 m_149 kd_149 rfl (Nat.le_of_ble_eq_true rfl) p0),
   (fun d l0 l1 l2 l3 l4 l5 l6 l7 x0 h Q => zr_istore (n := 6) rfl (Nat.le_of_ble_eq_true rfl) rfl),
   (fun d l0 l1 l2 l3 l4 l5 l6 l7  h Q => zr_aload_n rfl rfl),
   (fun d l0 l1 l2 l3 l4 l5 l6 l7 x0 I L P Q p0 => zr_getI rfl lf_10_203 (fun _ _ _ => rfl) p0),
   (fun d l0 l1 l2 l3 l4 l5 l6 l7 x0 h Q => zr_if_ge rfl (by decide)),
   (fun d l0 l1 l2 l3 l4 l5 l6 l7  h Q => zr_iload rfl rfl),
   (fun d l0 l1 l2 l3 l4 l5 l6 l7 x0 h Q => zr_if_eq rfl (by decide)),
   (fun d l0 l1 l2 l3 l4 l5 l6 l7  h Q => zr_iload_n rfl rfl),
   (fun d l0 l1 l2 l3 l4 l5 l6 l7 x0 h Q => zr_if_ne rfl (by decide)),
   (fun d l0 l1 l2 l3 l4 l5 l6 l7  h Q => zr_iconst rfl (by decide)),
   (fun d l0 l1 l2 l3 l4 l5 l6 l7 x0 h Q => zr_istore_n (n := 3) rfl (Nat.le_of_ble_eq_true rfl) rfl),
   (fun d l0 l1 l2 l3 l4 l5 l6 l7  h Q => zr_iload rfl rfl),
   (fun d l0 l1 l2 l3 l4 l5 l6 l7 x0 h Q => zr_istore (n := 4) rfl (Nat.le_of_ble_eq_true rfl) rfl),
   (fun d l0 l1 l2 l3 l4 l5 l6 l7  h Q => zr_aload_n rfl rfl),
   (fun d l0 l1 l2 l3 l4 l5 l6 l7 x0 h Q => zr_bipush rfl (by decide)),
   (fun d l0 l1 l2 l3 l4 l5 l6 l7 x1 x0 I L P Q p0 => zr_vir (as := [.int x1]) (rest := []) rfl lm_10_212 m_148 kd_148 rfl (Nat.le_of_ble_eq_true rfl) p0),
   (fun d l0 l1 l2 l3 l4 l5 l6 l7 x0 h Q => zr_istore (n := 5) rfl (Nat.le_of_ble_eq_true rfl) rfl),
   (fun d l0 l1 l2 l3 l4 l5 l6 l7  h Q => zr_goto rfl (by decide)),
   (fun d l0 l1 l2 l3 l4 l5 l6 l7  h Q => zr_aload_n rfl rfl),
   (fun d l0 l1 l2 l3 l4 l5 l6 l7 x0 I L P Q p0 => zr_getI rfl lf_10_203 (fun _ _ _ => rfl) p0),
   (fun d l0 l1 l2 l3 l4 l5 l6 l7 x0 h Q => zr_if_ge rfl (by decide)),
   (fun d l0 l1 l2 l3 l4 l5 l6 l7  h Q => zr_aload_n rfl rfl),
   (fun d l0 l1 l2 l3 l4 l5 l6 l7 x0 I L P Q p0 => zr_getI rfl lf_10_194 (fun _ _ _ => rfl) p0),
   (fun d l0 l1 l2 l3 l4 l5 l6 l7 x0 h Q => zr_aload_n rfl rfl),
   (fun d l0 l1 l2 l3 l4 l5 l6 l7 x1 x0 I L P Q p0 => zr_getI rfl lf_10_197 (fun _ _ _ => rfl) p0),
   (fun d l0 l1 l2 l3 l4 l5 l6 l7 x1 x0 h Q => zr_ic_ge rfl (by decide)),
   (fun d l0 l1 l2 l3 l4 l5 l6 l7  h Q => zr_aload_n rfl rfl),
   (fun d l0 l1 l2 l3 l4 l5 l6 l7 x0 I L P Q p0 => zr_vir (as := []) (rest := []) rfl lm_10_230 m_147 kd_147 rfl (Nat.le_of_ble_eq_true rfl) p0),
   (fun d l0 l1 l2 l3 l4 l5 l6 l7 x0 h Q => zr_iret rfl rfl),
   (fun d l0 l1 l2 l3 l4 l5 l6 l7  h Q => zr_iload rfl rfl),
   (fun d l0 l1 l2 l3 l4 l5 l6 l7 x0 h Q => zr_iret rfl rfl)⟩
theorem H_X10_workOut_33 : ∀ (d : Nat) (l0 : Value) (l1 : Value) (l2 : Value) (l3 : Value) (l4 : Value) (l5 : Int32) (l6 : Value) (l7 : Value)  (h : zMm) (Q : Option Value → zMm → Prop), zWp d zi_156 none 33 [l0, l1, l2, l3, l4, .int l5, l6, l7] [] h Q = zWp d zi_156 none 35 [l0, l1, l2, l3, l4, .int l5, l6, l7] [.int l5] h Q := fun d l0 l1 l2 l3 l4 l5 l6 l7  h Q => zr_iload rfl rfl
theorem E_X10_law : ∀ (d : Nat) (a0 : Nat) (h : zMm) (Q : Option Value → zMm → Prop), zWM (d + 1) 157 [.ref a0] h Q = zWp d zi_157 none 0 [.ref a0, .retAddr 0, .retAddr 0, .retAddr 0] [] h Q := fun d a0 h Q => zW_M m_157 (Nat.le_of_ble_eq_true rfl) rfl
set_option maxRecDepth 100000 in
theorem R_X10_law :
    (∀ (d : Nat) (l0 : Nat) (l1 : Value) (l2 : Value) (l3 : Value)  (h : zMm) (Q : Option Value → zMm → Prop), zWp d zi_157 none 0 [.ref l0, l1, l2, l3] [] h Q = zWp d zi_157 none 1 [.ref l0, l1, l2, l3] [.ref l0] h Q) ∧
    (∀ (d : Nat) (l0 : Value) (l1 : Value) (l2 : Value) (l3 : Value) (x0 : Nat) (h : zMm) (Q : Option Value → zMm → Prop), zWp d zi_157 none 1 [l0, l1, l2, l3] [.ref x0] h Q = zWp d zi_157 none 2 [l0, l1, l2, l3] [.int (-1), .ref x0] h Q) ∧
    (∀ (d : Nat) (l0 : Nat) (l1 : Value) (l2 : Value) (l3 : Value) (x1 : Int32) (x0 : Nat) (h : zMm) (Q : Option Value → zMm → Prop), zWp d zi_157 none 2 [.ref l0, l1, l2, l3] [.int x1, .ref x0] h Q = zWp d zi_157 none 3 [.ref l0, l1, l2, l3] [.ref l0, .int x1, .ref x0] h Q) ∧
    (∀ (d : Nat) (l0 : Value) (l1 : Value) (l2 : Value) (l3 : Value) (x2 : Nat) (x1 : Int32) (x0 : Nat) (I : Nat → Nat → Int32) (L : Nat → Nat → Int64) (P : Nat → Nat → Option Nat) (Q : Option Value → zMm → Prop), zSH[x2]? = some (.inl 10) → zWp d zi_157 none 3 [l0, l1, l2, l3] [.ref x2, .int x1, .ref x0] (zSH, I, L, P) Q = zWp d zi_157 none 6 [l0, l1, l2, l3] [.int (I x2 14), .int x1, .ref x0] (zSH, I, L, P) Q) ∧
    (∀ (d : Nat) (l0 : Value) (l1 : Value) (l2 : Value) (l3 : Value) (x2 : Int32) (x1 : Int32) (x0 : Nat) (I : Nat → Nat → Int32) (L : Nat → Nat → Int64) (P : Nat → Nat → Option Nat) (Q : Option Value → zMm → Prop), zSH[x0]? = some (.inl 10) → zWp d zi_157 none 6 [l0, l1, l2, l3] [.int x2, .int x1, .ref x0] (zSH, I, L, P) Q = zWM d 156 [.ref x0, .int x1, .int x2] (zSH, I, L, P) (fun r h1 => zWp d zi_157 none 9 [l0, l1, l2, l3] (r.toList ++ []) h1 Q)) ∧
    (∀ (d : Nat) (l0 : Nat) (l1 : Value) (l2 : Value) (l3 : Value) (x0 : Int32) (h : zMm) (Q : Option Value → zMm → Prop), zWp d zi_157 none 9 [.ref l0, l1, l2, l3] [.int x0] h Q = zWp d zi_157 none 10 [.ref l0, .int x0, l2, l3] [] h Q) ∧
    (∀ (d : Nat) (l0 : Nat) (l1 : Value) (l2 : Value) (l3 : Value)  (h : zMm) (Q : Option Value → zMm → Prop), zWp d zi_157 none 10 [.ref l0, l1, l2, l3] [] h Q = zWp d zi_157 none 11 [.ref l0, l1, l2, l3] [.ref l0] h Q) ∧
    (∀ (d : Nat) (l0 : Value) (l1 : Value) (l2 : Value) (l3 : Value) (x0 : Nat) (I : Nat → Nat → Int32) (L : Nat → Nat → Int64) (P : Nat → Nat → Option Nat) (Q : Option Value → zMm → Prop), zSH[x0]? = some (.inl 10) → zWp d zi_157 none 11 [l0, l1, l2, l3] [.ref x0] (zSH, I, L, P) Q = zWp d zi_157 none 14 [l0, l1, l2, l3] [.int (I x0 14)] (zSH, I, L, P) Q) ∧
    (∀ (d : Nat) (l0 : Value) (l1 : Int32) (l2 : Value) (l3 : Value) (x0 : Int32) (h : zMm) (Q : Option Value → zMm → Prop), zWp d zi_157 none 14 [l0, .int l1, l2, l3] [.int x0] h Q = zWp d zi_157 none 15 [l0, .int l1, .int x0, l3] [] h Q) ∧
    (∀ (d : Nat) (l0 : Nat) (l1 : Value) (l2 : Value) (l3 : Value)  (h : zMm) (Q : Option Value → zMm → Prop), zWp d zi_157 none 15 [.ref l0, l1, l2, l3] [] h Q = zWp d zi_157 none 16 [.ref l0, l1, l2, l3] [.ref l0] h Q) ∧
    (∀ (d : Nat) (l0 : Value) (l1 : Value) (l2 : Value) (l3 : Value) (x0 : Nat) (h : zMm) (Q : Option Value → zMm → Prop), zWp d zi_157 none 16 [l0, l1, l2, l3] [.ref x0] h Q = zWp d zi_157 none 17 [l0, l1, l2, l3] [.int 0, .ref x0] h Q) ∧
    (∀ (d : Nat) (l0 : Value) (l1 : Value) (l2 : Value) (l3 : Value) (x1 : Int32) (x0 : Nat) (I : Nat → Nat → Int32) (L : Nat → Nat → Int64) (P : Nat → Nat → Option Nat) (Q : Option Value → zMm → Prop), zSH[x0]? = some (.inl 10) → zWp d zi_157 none 17 [l0, l1, l2, l3] [.int x1, .ref x0] (zSH, I, L, P) Q = zWp d zi_157 none 20 [l0, l1, l2, l3] [] (zSH, zw I x0 (upd (I x0) 14 x1), L, P) Q) ∧
    (∀ (d : Nat) (l0 : Nat) (l1 : Value) (l2 : Value) (l3 : Value)  (h : zMm) (Q : Option Value → zMm → Prop), zWp d zi_157 none 20 [.ref l0, l1, l2, l3] [] h Q = zWp d zi_157 none 21 [.ref l0, l1, l2, l3] [.ref l0] h Q) ∧
    (∀ (d : Nat) (l0 : Value) (l1 : Value) (l2 : Value) (l3 : Value) (x0 : Nat) (I : Nat → Nat → Int32) (L : Nat → Nat → Int64) (P : Nat → Nat → Option Nat) (Q : Option Value → zMm → Prop), zSH[x0]? = some (.inl 10) → zWp d zi_157 none 21 [l0, l1, l2, l3] [.ref x0] (zSH, I, L, P) Q = zWp d zi_157 none 24 [l0, l1, l2, l3] [.int (I x0 20)] (zSH, I, L, P) Q) ∧
    (∀ (d : Nat) (l0 : Value) (l1 : Value) (l2 : Value) (l3 : Value) (x0 : Int32) (h : zMm) (Q : Option Value → zMm → Prop), zWp d zi_157 none 24 [l0, l1, l2, l3] [.int x0] h Q = if x0 < 0 then zWp d zi_157 none 35 [l0, l1, l2, l3] [] h Q else zWp d zi_157 none 27 [l0, l1, l2, l3] [] h Q) ∧
    (∀ (d : Nat) (l0 : Value) (l1 : Value) (l2 : Value) (l3 : Value)  (h : zMm) (Q : Option Value → zMm → Prop), zWp d zi_157 none 27 [l0, l1, l2, l3] [] h Q = zWp d zi_157 none 29 [l0, l1, l2, l3] [.int (-100)] h Q) ∧
    (∀ (d : Nat) (l0 : Nat) (l1 : Value) (l2 : Value) (l3 : Value) (x0 : Int32) (h : zMm) (Q : Option Value → zMm → Prop), zWp d zi_157 none 29 [.ref l0, l1, l2, l3] [.int x0] h Q = zWp d zi_157 none 30 [.ref l0, l1, l2, l3] [.ref l0, .int x0] h Q) ∧
    (∀ (d : Nat) (l0 : Value) (l1 : Value) (l2 : Value) (l3 : Value) (x1 : Nat) (x0 : Int32) (I : Nat → Nat → Int32) (L : Nat → Nat → Int64) (P : Nat → Nat → Option Nat) (Q : Option Value → zMm → Prop), zSH[x1]? = some (.inl 10) → zWp d zi_157 none 30 [l0, l1, l2, l3] [.ref x1, .int x0] (zSH, I, L, P) Q = zWp d zi_157 none 33 [l0, l1, l2, l3] [.int (I x1 20), .int x0] (zSH, I, L, P) Q) ∧
    (∀ (d : Nat) (l0 : Value) (l1 : Value) (l2 : Value) (l3 : Value) (x1 : Int32) (x0 : Int32) (h : zMm) (Q : Option Value → zMm → Prop), zWp d zi_157 none 33 [l0, l1, l2, l3] [.int x1, .int x0] h Q = zWp d zi_157 none 34 [l0, l1, l2, l3] [.int (x0 - x1)] h Q) ∧
    (∀ (d : Nat) (l0 : Value) (l1 : Value) (l2 : Value) (l3 : Value) (x0 : Int32) (h : zMm) (Q : Option Value → zMm → Prop), zWp d zi_157 none 34 [l0, l1, l2, l3] [.int x0] h Q = Q (some (.int x0)) h) ∧
    (∀ (d : Nat) (l0 : Value) (l1 : Value) (l2 : Value) (l3 : Value)  (h : zMm) (Q : Option Value → zMm → Prop), zWp d zi_157 none 35 [l0, l1, l2, l3] [] h Q = zWp d zi_157 none 36 [l0, l1, l2, l3] [.int 0] h Q) ∧
    (∀ (d : Nat) (l0 : Value) (l1 : Value) (l2 : Int32) (l3 : Value) (x0 : Int32) (h : zMm) (Q : Option Value → zMm → Prop), zWp d zi_157 none 36 [l0, l1, .int l2, l3] [.int x0] h Q = zWp d zi_157 none 37 [l0, l1, .int l2, .int x0] [] h Q) ∧
    (∀ (d : Nat) (l0 : Value) (l1 : Value) (l2 : Int32) (l3 : Value) (x0 : Int32) (h : zMm) (Q : Option Value → zMm → Prop), zWp d zi_157 none 38 [l0, l1, .int l2, l3] [.int x0] h Q = zWp d zi_157 none 39 [l0, l1, .int l2, l3] [.int l2, .int x0] h Q) ∧
    (∀ (d : Nat) (l0 : Value) (l1 : Value) (l2 : Value) (l3 : Value) (x1 : Int32) (x0 : Int32) (h : zMm) (Q : Option Value → zMm → Prop), zWp d zi_157 none 39 [l0, l1, l2, l3] [.int x1, .int x0] h Q = if x1 ≤ x0 then zWp d zi_157 none 60 [l0, l1, l2, l3] [] h Q else zWp d zi_157 none 42 [l0, l1, l2, l3] [] h Q) ∧
    (∀ (d : Nat) (l0 : Nat) (l1 : Value) (l2 : Value) (l3 : Value)  (h : zMm) (Q : Option Value → zMm → Prop), zWp d zi_157 none 42 [.ref l0, l1, l2, l3] [] h Q = zWp d zi_157 none 43 [.ref l0, l1, l2, l3] [.ref l0] h Q) ∧
    (∀ (d : Nat) (l0 : Value) (l1 : Value) (l2 : Value) (l3 : Value) (x0 : Nat) (I : Nat → Nat → Int32) (L : Nat → Nat → Int64) (P : Nat → Nat → Option Nat) (Q : Option Value → zMm → Prop), zSH[x0]? = some (.inl 10) → zWp d zi_157 none 43 [l0, l1, l2, l3] [.ref x0] (zSH, I, L, P) Q = zWp d zi_157 none 46 [l0, l1, l2, l3] [va_rf (P x0 15)] (zSH, I, L, P) Q) ∧
    (∀ (d : Nat) (l0 : Value) (l1 : Value) (l2 : Value) (l3 : Int32) (x0 : Nat) (h : zMm) (Q : Option Value → zMm → Prop), zWp d zi_157 none 46 [l0, l1, l2, .int l3] [.ref x0] h Q = zWp d zi_157 none 47 [l0, l1, l2, .int l3] [.int l3, .ref x0] h Q) ∧
    (∀ (d : Nat) (l0 : Nat) (l1 : Value) (l2 : Value) (l3 : Value) (x1 : Int32) (x0 : Nat) (h : zMm) (Q : Option Value → zMm → Prop), zWp d zi_157 none 47 [.ref l0, l1, l2, l3] [.int x1, .ref x0] h Q = zWp d zi_157 none 48 [.ref l0, l1, l2, l3] [.ref l0, .int x1, .ref x0] h Q) ∧
    (∀ (d : Nat) (l0 : Value) (l1 : Value) (l2 : Value) (l3 : Value) (x2 : Nat) (x1 : Int32) (x0 : Nat) (I : Nat → Nat → Int32) (L : Nat → Nat → Int64) (P : Nat → Nat → Option Nat) (Q : Option Value → zMm → Prop), zSH[x2]? = some (.inl 10) → zWp d zi_157 none 48 [l0, l1, l2, l3] [.ref x2, .int x1, .ref x0] (zSH, I, L, P) Q = zWp d zi_157 none 51 [l0, l1, l2, l3] [va_rf (P x2 13), .int x1, .ref x0] (zSH, I, L, P) Q) ∧
    (∀ (d : Nat) (l0 : Value) (l1 : Value) (l2 : Value) (l3 : Int32) (x2 : Nat) (x1 : Int32) (x0 : Nat) (h : zMm) (Q : Option Value → zMm → Prop), zWp d zi_157 none 51 [l0, l1, l2, .int l3] [.ref x2, .int x1, .ref x0] h Q = zWp d zi_157 none 52 [l0, l1, l2, .int l3] [.int l3, .ref x2, .int x1, .ref x0] h Q) ∧
    (∀ (d : Nat) (l0 : Value) (l1 : Value) (l2 : Value) (l3 : Value) (x3 : Int32) (x2 : Nat) (x1 : Int32) (x0 : Nat) (I : Nat → Nat → Int32) (L : Nat → Nat → Int64) (P : Nat → Nat → Option Nat) (Q : Option Value → zMm → Prop), zAk zSH x2 = some .int → zWp d zi_157 none 52 [l0, l1, l2, l3] [.int x3, .ref x2, .int x1, .ref x0] (zSH, I, L, P) Q = (vp_in x3 (zAn zSH x2) ∧ zWp d zi_157 none 53 [l0, l1, l2, l3] [.int (I x2 x3.toNatClampNeg), .int x1, .ref x0] (zSH, I, L, P) Q)) ∧
    (∀ (d : Nat) (l0 : Value) (l1 : Value) (l2 : Value) (l3 : Value) (x2 : Int32) (x1 : Int32) (x0 : Nat) (I : Nat → Nat → Int32) (L : Nat → Nat → Int64) (P : Nat → Nat → Option Nat) (Q : Option Value → zMm → Prop), zAk zSH x0 = some .int → zWp d zi_157 none 53 [l0, l1, l2, l3] [.int x2, .int x1, .ref x0] (zSH, I, L, P) Q = (vp_in x1 (zAn zSH x0) ∧ zWp d zi_157 none 54 [l0, l1, l2, l3] [] (zSH, zw I x0 (upd (I x0) x1.toNatClampNeg x2), L, P) Q)) ∧
    (∀ (d : Nat) (l0 : Value) (l1 : Value) (l2 : Int32) (l3 : Int32)  (h : zMm) (Q : Option Value → zMm → Prop), zWp d zi_157 none 54 [l0, l1, .int l2, .int l3] [] h Q = zWp d zi_157 none 57 [l0, l1, .int l2, .int (l3 + 1)] [] h Q) ∧
    (∀ (d : Nat) (l0 : Value) (l1 : Value) (l2 : Value) (l3 : Value)  (h : zMm) (Q : Option Value → zMm → Prop), zWp d zi_157 none 57 [l0, l1, l2, l3] [] h Q = zWp d zi_157 none 37 [l0, l1, l2, l3] [] h Q) ∧
    (∀ (d : Nat) (l0 : Nat) (l1 : Value) (l2 : Value) (l3 : Value)  (h : zMm) (Q : Option Value → zMm → Prop), zWp d zi_157 none 60 [.ref l0, l1, l2, l3] [] h Q = zWp d zi_157 none 61 [.ref l0, l1, l2, l3] [.ref l0] h Q) ∧
    (∀ (d : Nat) (l0 : Value) (l1 : Value) (l2 : Int32) (l3 : Value) (x0 : Nat) (h : zMm) (Q : Option Value → zMm → Prop), zWp d zi_157 none 61 [l0, l1, .int l2, l3] [.ref x0] h Q = zWp d zi_157 none 62 [l0, l1, .int l2, l3] [.int l2, .ref x0] h Q) ∧
    (∀ (d : Nat) (l0 : Value) (l1 : Value) (l2 : Value) (l3 : Value) (x1 : Int32) (x0 : Nat) (I : Nat → Nat → Int32) (L : Nat → Nat → Int64) (P : Nat → Nat → Option Nat) (Q : Option Value → zMm → Prop), zSH[x0]? = some (.inl 10) → zWp d zi_157 none 62 [l0, l1, l2, l3] [.int x1, .ref x0] (zSH, I, L, P) Q = zWp d zi_157 none 65 [l0, l1, l2, l3] [] (zSH, zw I x0 (upd (I x0) 16 x1), L, P) Q) ∧
    (∀ (d : Nat) (l0 : Value) (l1 : Value) (l2 : Value) (l3 : Value)  (h : zMm) (Q : Option Value → zMm → Prop), zWp d zi_157 none 65 [l0, l1, l2, l3] [] h Q = zWp d zi_157 none 66 [l0, l1, l2, l3] [.int 1] h Q) ∧
    (∀ (d : Nat) (l0 : Value) (l1 : Value) (l2 : Value) (l3 : Value) (x0 : Int32) (h : zMm) (Q : Option Value → zMm → Prop), zWp d zi_157 none 66 [l0, l1, l2, l3] [.int x0] h Q = Q (some (.int x0)) h) :=
  ⟨(fun d l0 l1 l2 l3  h Q => zr_aload_n rfl rfl),
   (fun d l0 l1 l2 l3 x0 h Q => zr_iconst rfl (by decide)),
   (fun d l0 l1 l2 l3 x1 x0 h Q => zr_aload_n rfl rfl),
   (fun d l0 l1 l2 l3 x2 x1 x0 I L P Q p0 => zr_getI rfl lf_10_191 (fun _ _ _ => rfl) p0),
   (fun d l0 l1 l2 l3 x2 x1 x0 I L P Q p0 => zr_vir (as := [.int x2, .int x1]) (rest := []) rfl lm_10_239 m_156 kd_156 rfl (Nat.le_of_ble_eq_true rfl) p0),
   (fun d l0 l1 l2 l3 x0 h Q => zr_istore_n (n := 1) rfl (Nat.le_of_ble_eq_true rfl) rfl),
   (fun d l0 l1 l2 l3  h Q => zr_aload_n rfl rfl),
   (fun d l0 l1 l2 l3 x0 I L P Q p0 => zr_getI rfl lf_10_191 (fun _ _ _ => rfl) p0),
   (fun d l0 l1 l2 l3 x0 h Q => zr_istore_n (n := 2) rfl (Nat.le_of_ble_eq_true rfl) rfl),
   (fun d l0 l1 l2 l3  h Q => zr_aload_n rfl rfl),
   (fun d l0 l1 l2 l3 x0 h Q => zr_iconst rfl (by decide)),
   (fun d l0 l1 l2 l3 x1 x0 I L P Q p0 => zr_putI rfl lf_10_191 (by decide) rfl p0),
   (fun d l0 l1 l2 l3  h Q => zr_aload_n rfl rfl),
   (fun d l0 l1 l2 l3 x0 I L P Q p0 => zr_getI rfl lf_10_203 (fun _ _ _ => rfl) p0),
   (fun d l0 l1 l2 l3 x0 h Q => zr_if_lt rfl (by decide)),
   (fun d l0 l1 l2 l3  h Q => zr_bipush rfl (by decide)),
   (fun d l0 l1 l2 l3 x0 h Q => zr_aload_n rfl rfl),
   (fun d l0 l1 l2 l3 x1 x0 I L P Q p0 => zr_getI rfl lf_10_203 (fun _ _ _ => rfl) p0),
   (fun d l0 l1 l2 l3 x1 x0 h Q => zr_isub rfl),
   (fun d l0 l1 l2 l3 x0 h Q => zr_iret rfl rfl),
   (fun d l0 l1 l2 l3  h Q => zr_iconst rfl (by decide)),
   (fun d l0 l1 l2 l3 x0 h Q => zr_istore_n (n := 3) rfl (Nat.le_of_ble_eq_true rfl) rfl),
   (fun d l0 l1 l2 l3 x0 h Q => zr_iload_n rfl rfl),
   (fun d l0 l1 l2 l3 x1 x0 h Q => zr_ic_ge rfl (by decide)),
   (fun d l0 l1 l2 l3  h Q => zr_aload_n rfl rfl),
   (fun d l0 l1 l2 l3 x0 I L P Q p0 => zr_getQ rfl lf_10_34 (fun _ _ _ => rfl) p0),
   (fun d l0 l1 l2 l3 x0 h Q => zr_iload_n rfl rfl),
   (fun d l0 l1 l2 l3 x1 x0 h Q => zr_aload_n rfl rfl),
   (fun d l0 l1 l2 l3 x2 x1 x0 I L P Q p0 => zr_getQ rfl lf_10_31 (fun _ _ _ => rfl) p0),
   (fun d l0 l1 l2 l3 x2 x1 x0 h Q => zr_iload_n rfl rfl),
   (fun d l0 l1 l2 l3 x3 x2 x1 x0 I L P Q p0 => zr_ald rfl p0),
   (fun d l0 l1 l2 l3 x2 x1 x0 I L P Q p0 => zr_ast rfl p0),
   (fun d l0 l1 l2 l3  h Q => zr_iinc (n := 3) (kc := 1) rfl rfl (Nat.le_of_ble_eq_true rfl) rfl (by decide)),
   (fun d l0 l1 l2 l3  h Q => zr_goto rfl (by decide)),
   (fun d l0 l1 l2 l3  h Q => zr_aload_n rfl rfl),
   (fun d l0 l1 l2 l3 x0 h Q => zr_iload_n rfl rfl),
   (fun d l0 l1 l2 l3 x1 x0 I L P Q p0 => zr_putI rfl lf_10_80 (by decide) rfl p0),
   (fun d l0 l1 l2 l3  h Q => zr_iconst rfl (by decide)),
   (fun d l0 l1 l2 l3 x0 h Q => zr_iret rfl rfl)⟩
theorem H_X10_law_37 : ∀ (d : Nat) (l0 : Value) (l1 : Value) (l2 : Value) (l3 : Int32)  (h : zMm) (Q : Option Value → zMm → Prop), zWp d zi_157 none 37 [l0, l1, l2, .int l3] [] h Q = zWp d zi_157 none 38 [l0, l1, l2, .int l3] [.int l3] h Q := fun d l0 l1 l2 l3  h Q => zr_iload_n rfl rfl
theorem E_X10_countsAll : ∀ (d : Nat) (a0 : Nat) (h : zMm) (Q : Option Value → zMm → Prop), zWM (d + 1) 158 [.ref a0] h Q = zWp d zi_158 none 0 [.ref a0, .retAddr 0] [] h Q := fun d a0 h Q => zW_M m_158 (Nat.le_of_ble_eq_true rfl) rfl
set_option maxRecDepth 100000 in
theorem R_X10_countsAll :
    (∀ (d : Nat) (l0 : Value) (l1 : Value)  (h : zMm) (Q : Option Value → zMm → Prop), zWp d zi_158 none 0 [l0, l1] [] h Q = zWp d zi_158 none 1 [l0, l1] [.int 0] h Q) ∧
    (∀ (d : Nat) (l0 : Nat) (l1 : Value) (x0 : Int32) (h : zMm) (Q : Option Value → zMm → Prop), zWp d zi_158 none 1 [.ref l0, l1] [.int x0] h Q = zWp d zi_158 none 2 [.ref l0, .int x0] [] h Q) ∧
    (∀ (d : Nat) (l0 : Nat) (l1 : Value) (x0 : Int32) (h : zMm) (Q : Option Value → zMm → Prop), zWp d zi_158 none 3 [.ref l0, l1] [.int x0] h Q = zWp d zi_158 none 4 [.ref l0, l1] [.ref l0, .int x0] h Q) ∧
    (∀ (d : Nat) (l0 : Value) (l1 : Value) (x1 : Nat) (x0 : Int32) (I : Nat → Nat → Int32) (L : Nat → Nat → Int64) (P : Nat → Nat → Option Nat) (Q : Option Value → zMm → Prop), zSH[x1]? = some (.inl 10) → zWp d zi_158 none 4 [l0, l1] [.ref x1, .int x0] (zSH, I, L, P) Q = zWp d zi_158 none 7 [l0, l1] [.int (I x1 6), .int x0] (zSH, I, L, P) Q) ∧
    (∀ (d : Nat) (l0 : Value) (l1 : Value) (x1 : Int32) (x0 : Int32) (h : zMm) (Q : Option Value → zMm → Prop), zWp d zi_158 none 7 [l0, l1] [.int x1, .int x0] h Q = if x1 ≤ x0 then zWp d zi_158 none 28 [l0, l1] [] h Q else zWp d zi_158 none 10 [l0, l1] [] h Q) ∧
    (∀ (d : Nat) (l0 : Nat) (l1 : Value)  (h : zMm) (Q : Option Value → zMm → Prop), zWp d zi_158 none 10 [.ref l0, l1] [] h Q = zWp d zi_158 none 11 [.ref l0, l1] [.ref l0] h Q) ∧
    (∀ (d : Nat) (l0 : Value) (l1 : Value) (x0 : Nat) (I : Nat → Nat → Int32) (L : Nat → Nat → Int64) (P : Nat → Nat → Option Nat) (Q : Option Value → zMm → Prop), zSH[x0]? = some (.inl 10) → zWp d zi_158 none 11 [l0, l1] [.ref x0] (zSH, I, L, P) Q = zWp d zi_158 none 14 [l0, l1] [va_rf (P x0 23)] (zSH, I, L, P) Q) ∧
    (∀ (d : Nat) (l0 : Value) (l1 : Int32) (x0 : Nat) (h : zMm) (Q : Option Value → zMm → Prop), zWp d zi_158 none 14 [l0, .int l1] [.ref x0] h Q = zWp d zi_158 none 15 [l0, .int l1] [.int l1, .ref x0] h Q) ∧
    (∀ (d : Nat) (l0 : Nat) (l1 : Value) (x1 : Int32) (x0 : Nat) (h : zMm) (Q : Option Value → zMm → Prop), zWp d zi_158 none 15 [.ref l0, l1] [.int x1, .ref x0] h Q = zWp d zi_158 none 16 [.ref l0, l1] [.ref l0, .int x1, .ref x0] h Q) ∧
    (∀ (d : Nat) (l0 : Value) (l1 : Value) (x2 : Nat) (x1 : Int32) (x0 : Nat) (I : Nat → Nat → Int32) (L : Nat → Nat → Int64) (P : Nat → Nat → Option Nat) (Q : Option Value → zMm → Prop), zSH[x2]? = some (.inl 10) → zWp d zi_158 none 16 [l0, l1] [.ref x2, .int x1, .ref x0] (zSH, I, L, P) Q = zWp d zi_158 none 19 [l0, l1] [va_rf (P x2 7), .int x1, .ref x0] (zSH, I, L, P) Q) ∧
    (∀ (d : Nat) (l0 : Value) (l1 : Int32) (x2 : Nat) (x1 : Int32) (x0 : Nat) (h : zMm) (Q : Option Value → zMm → Prop), zWp d zi_158 none 19 [l0, .int l1] [.ref x2, .int x1, .ref x0] h Q = zWp d zi_158 none 20 [l0, .int l1] [.int l1, .ref x2, .int x1, .ref x0] h Q) ∧
    (∀ (d : Nat) (l0 : Value) (l1 : Value) (x3 : Int32) (x2 : Nat) (x1 : Int32) (x0 : Nat) (I : Nat → Nat → Int32) (L : Nat → Nat → Int64) (P : Nat → Nat → Option Nat) (Q : Option Value → zMm → Prop), zAk zSH x2 = some .int → zWp d zi_158 none 20 [l0, l1] [.int x3, .ref x2, .int x1, .ref x0] (zSH, I, L, P) Q = (vp_in x3 (zAn zSH x2) ∧ zWp d zi_158 none 21 [l0, l1] [.int (I x2 x3.toNatClampNeg), .int x1, .ref x0] (zSH, I, L, P) Q)) ∧
    (∀ (d : Nat) (l0 : Value) (l1 : Value) (x2 : Int32) (x1 : Int32) (x0 : Nat) (I : Nat → Nat → Int32) (L : Nat → Nat → Int64) (P : Nat → Nat → Option Nat) (Q : Option Value → zMm → Prop), zAk zSH x0 = some .int → zWp d zi_158 none 21 [l0, l1] [.int x2, .int x1, .ref x0] (zSH, I, L, P) Q = (vp_in x1 (zAn zSH x0) ∧ zWp d zi_158 none 22 [l0, l1] [] (zSH, zw I x0 (upd (I x0) x1.toNatClampNeg x2), L, P) Q)) ∧
    (∀ (d : Nat) (l0 : Nat) (l1 : Int32)  (h : zMm) (Q : Option Value → zMm → Prop), zWp d zi_158 none 22 [.ref l0, .int l1] [] h Q = zWp d zi_158 none 25 [.ref l0, .int (l1 + 1)] [] h Q) ∧
    (∀ (d : Nat) (l0 : Value) (l1 : Value)  (h : zMm) (Q : Option Value → zMm → Prop), zWp d zi_158 none 25 [l0, l1] [] h Q = zWp d zi_158 none 2 [l0, l1] [] h Q) ∧
    (∀ (d : Nat) (l0 : Value) (l1 : Value)  (h : zMm) (Q : Option Value → zMm → Prop), zWp d zi_158 none 28 [l0, l1] [] h Q = Q none h) :=
  ⟨(fun d l0 l1  h Q => zr_iconst rfl (by decide)),
   (fun d l0 l1 x0 h Q => zr_istore_n (n := 1) rfl (Nat.le_of_ble_eq_true rfl) rfl),
   (fun d l0 l1 x0 h Q => zr_aload_n rfl rfl),
   (fun d l0 l1 x1 x0 I L P Q p0 => zr_getI rfl lf_10_99 (fun _ _ _ => rfl) p0),
   (fun d l0 l1 x1 x0 h Q => zr_ic_ge rfl (by decide)),
   (fun d l0 l1  h Q => zr_aload_n rfl rfl),
   (fun d l0 l1 x0 I L P Q p0 => zr_getQ rfl lf_10_40 (fun _ _ _ => rfl) p0),
   (fun d l0 l1 x0 h Q => zr_iload_n rfl rfl),
   (fun d l0 l1 x1 x0 h Q => zr_aload_n rfl rfl),
   (fun d l0 l1 x2 x1 x0 I L P Q p0 => zr_getQ rfl lf_10_22 (fun _ _ _ => rfl) p0),
   (fun d l0 l1 x2 x1 x0 h Q => zr_iload_n rfl rfl),
   (fun d l0 l1 x3 x2 x1 x0 I L P Q p0 => zr_ald rfl p0),
   (fun d l0 l1 x2 x1 x0 I L P Q p0 => zr_ast rfl p0),
   (fun d l0 l1  h Q => zr_iinc (n := 1) (kc := 1) rfl rfl (Nat.le_of_ble_eq_true rfl) rfl (by decide)),
   (fun d l0 l1  h Q => zr_goto rfl (by decide)),
   (fun d l0 l1  h Q => zr_vret rfl rfl)⟩
theorem H_X10_countsAll_2 : ∀ (d : Nat) (l0 : Value) (l1 : Int32)  (h : zMm) (Q : Option Value → zMm → Prop), zWp d zi_158 none 2 [l0, .int l1] [] h Q = zWp d zi_158 none 3 [l0, .int l1] [.int l1] h Q := fun d l0 l1  h Q => zr_iload_n rfl rfl
theorem E_X10_pushOn : ∀ (d : Nat) (a0 : Nat) (a1 : Int32) (a2 : Int32) (h : zMm) (Q : Option Value → zMm → Prop), zWM (d + 1) 159 [.ref a0, .int a1, .int a2] h Q = zWp d zi_159 none 0 [.ref a0, .int a1, .int a2, .retAddr 0, .retAddr 0, .retAddr 0] [] h Q := fun d a0 a1 a2 h Q => zW_M m_159 (Nat.le_of_ble_eq_true rfl) rfl
set_option maxRecDepth 100000 in
theorem R_X10_pushOn :
    (∀ (d : Nat) (l0 : Nat) (l1 : Value) (l2 : Value) (l3 : Value) (l4 : Value) (l5 : Value)  (h : zMm) (Q : Option Value → zMm → Prop), zWp d zi_159 none 0 [.ref l0, l1, l2, l3, l4, l5] [] h Q = zWp d zi_159 none 1 [.ref l0, l1, l2, l3, l4, l5] [.ref l0] h Q) ∧
    (∀ (d : Nat) (l0 : Value) (l1 : Value) (l2 : Value) (l3 : Value) (l4 : Value) (l5 : Value) (x0 : Nat) (I : Nat → Nat → Int32) (L : Nat → Nat → Int64) (P : Nat → Nat → Option Nat) (Q : Option Value → zMm → Prop), zSH[x0]? = some (.inl 10) → zWp d zi_159 none 1 [l0, l1, l2, l3, l4, l5] [.ref x0] (zSH, I, L, P) Q = zWp d zi_159 none 4 [l0, l1, l2, l3, l4, l5] [va_rf (P x0 0)] (zSH, I, L, P) Q) ∧
    (∀ (d : Nat) (l0 : Value) (l1 : Value) (l2 : Value) (l3 : Value) (l4 : Value) (l5 : Value) (x0 : Nat) (h : zMm) (Q : Option Value → zMm → Prop), zWp d zi_159 none 4 [l0, l1, l2, l3, l4, l5] [.ref x0] h Q = zWp d zi_159 none 6 [l0, l1, l2, l3, l4, l5] [.int 72, .ref x0] h Q) ∧
    (∀ (d : Nat) (l0 : Value) (l1 : Value) (l2 : Int32) (l3 : Value) (l4 : Value) (l5 : Value) (x1 : Int32) (x0 : Nat) (h : zMm) (Q : Option Value → zMm → Prop), zWp d zi_159 none 6 [l0, l1, .int l2, l3, l4, l5] [.int x1, .ref x0] h Q = zWp d zi_159 none 7 [l0, l1, .int l2, l3, l4, l5] [.int l2, .int x1, .ref x0] h Q) ∧
    (∀ (d : Nat) (l0 : Value) (l1 : Value) (l2 : Value) (l3 : Value) (l4 : Value) (l5 : Value) (x2 : Int32) (x1 : Int32) (x0 : Nat) (h : zMm) (Q : Option Value → zMm → Prop), zWp d zi_159 none 7 [l0, l1, l2, l3, l4, l5] [.int x2, .int x1, .ref x0] h Q = zWp d zi_159 none 8 [l0, l1, l2, l3, l4, l5] [.int (x1 + x2), .ref x0] h Q) ∧
    (∀ (d : Nat) (l0 : Value) (l1 : Value) (l2 : Value) (l3 : Value) (l4 : Value) (l5 : Value) (x1 : Int32) (x0 : Nat) (I : Nat → Nat → Int32) (L : Nat → Nat → Int64) (P : Nat → Nat → Option Nat) (Q : Option Value → zMm → Prop), zAk zSH x0 = some .int → zWp d zi_159 none 8 [l0, l1, l2, l3, l4, l5] [.int x1, .ref x0] (zSH, I, L, P) Q = (vp_in x1 (zAn zSH x0) ∧ zWp d zi_159 none 9 [l0, l1, l2, l3, l4, l5] [.int (I x0 x1.toNatClampNeg)] (zSH, I, L, P) Q)) ∧
    (∀ (d : Nat) (l0 : Nat) (l1 : Value) (l2 : Value) (l3 : Value) (l4 : Value) (l5 : Value) (x0 : Int32) (h : zMm) (Q : Option Value → zMm → Prop), zWp d zi_159 none 9 [.ref l0, l1, l2, l3, l4, l5] [.int x0] h Q = zWp d zi_159 none 10 [.ref l0, l1, l2, l3, l4, l5] [.ref l0, .int x0] h Q) ∧
    (∀ (d : Nat) (l0 : Value) (l1 : Value) (l2 : Value) (l3 : Value) (l4 : Value) (l5 : Value) (x1 : Nat) (x0 : Int32) (I : Nat → Nat → Int32) (L : Nat → Nat → Int64) (P : Nat → Nat → Option Nat) (Q : Option Value → zMm → Prop), zSH[x1]? = some (.inl 10) → zWp d zi_159 none 10 [l0, l1, l2, l3, l4, l5] [.ref x1, .int x0] (zSH, I, L, P) Q = zWp d zi_159 none 13 [l0, l1, l2, l3, l4, l5] [.int (I x1 6), .int x0] (zSH, I, L, P) Q) ∧
    (∀ (d : Nat) (l0 : Value) (l1 : Value) (l2 : Value) (l3 : Value) (l4 : Value) (l5 : Value) (x1 : Int32) (x0 : Int32) (h : zMm) (Q : Option Value → zMm → Prop), zWp d zi_159 none 13 [l0, l1, l2, l3, l4, l5] [.int x1, .int x0] h Q = zWp d zi_159 none 14 [l0, l1, l2, l3, l4, l5] [.int 1, .int x1, .int x0] h Q) ∧
    (∀ (d : Nat) (l0 : Value) (l1 : Value) (l2 : Value) (l3 : Value) (l4 : Value) (l5 : Value) (x2 : Int32) (x1 : Int32) (x0 : Int32) (h : zMm) (Q : Option Value → zMm → Prop), zWp d zi_159 none 14 [l0, l1, l2, l3, l4, l5] [.int x2, .int x1, .int x0] h Q = zWp d zi_159 none 15 [l0, l1, l2, l3, l4, l5] [.int (x1 - x2), .int x0] h Q) ∧
    (∀ (d : Nat) (l0 : Value) (l1 : Int32) (l2 : Value) (l3 : Value) (l4 : Value) (l5 : Value) (x1 : Int32) (x0 : Int32) (h : zMm) (Q : Option Value → zMm → Prop), zWp d zi_159 none 15 [l0, .int l1, l2, l3, l4, l5] [.int x1, .int x0] h Q = zWp d zi_159 none 16 [l0, .int l1, l2, l3, l4, l5] [.int l1, .int x1, .int x0] h Q) ∧
    (∀ (d : Nat) (l0 : Value) (l1 : Value) (l2 : Value) (l3 : Value) (l4 : Value) (l5 : Value) (x2 : Int32) (x1 : Int32) (x0 : Int32) (h : zMm) (Q : Option Value → zMm → Prop), zWp d zi_159 none 16 [l0, l1, l2, l3, l4, l5] [.int x2, .int x1, .int x0] h Q = zWp d zi_159 none 17 [l0, l1, l2, l3, l4, l5] [.int (x1 - x2), .int x0] h Q) ∧
    (∀ (d : Nat) (l0 : Value) (l1 : Value) (l2 : Value) (l3 : Value) (l4 : Value) (l5 : Value) (x1 : Int32) (x0 : Int32) (h : zMm) (Q : Option Value → zMm → Prop), zWp d zi_159 none 17 [l0, l1, l2, l3, l4, l5] [.int x1, .int x0] h Q = zWp d zi_159 none 18 [l0, l1, l2, l3, l4, l5] [.int (x0 * x1)] h Q) ∧
    (∀ (d : Nat) (l0 : Value) (l1 : Value) (l2 : Int32) (l3 : Value) (l4 : Value) (l5 : Value) (x0 : Int32) (h : zMm) (Q : Option Value → zMm → Prop), zWp d zi_159 none 18 [l0, l1, .int l2, l3, l4, l5] [.int x0] h Q = zWp d zi_159 none 19 [l0, l1, .int l2, .int x0, l4, l5] [] h Q) ∧
    (∀ (d : Nat) (l0 : Nat) (l1 : Value) (l2 : Value) (l3 : Value) (l4 : Value) (l5 : Value)  (h : zMm) (Q : Option Value → zMm → Prop), zWp d zi_159 none 19 [.ref l0, l1, l2, l3, l4, l5] [] h Q = zWp d zi_159 none 20 [.ref l0, l1, l2, l3, l4, l5] [.ref l0] h Q) ∧
    (∀ (d : Nat) (l0 : Value) (l1 : Int32) (l2 : Value) (l3 : Value) (l4 : Value) (l5 : Value) (x0 : Nat) (h : zMm) (Q : Option Value → zMm → Prop), zWp d zi_159 none 20 [l0, .int l1, l2, l3, l4, l5] [.ref x0] h Q = zWp d zi_159 none 21 [l0, .int l1, l2, l3, l4, l5] [.int l1, .ref x0] h Q) ∧
    (∀ (d : Nat) (l0 : Value) (l1 : Value) (l2 : Int32) (l3 : Value) (l4 : Value) (l5 : Value) (x1 : Int32) (x0 : Nat) (h : zMm) (Q : Option Value → zMm → Prop), zWp d zi_159 none 21 [l0, l1, .int l2, l3, l4, l5] [.int x1, .ref x0] h Q = zWp d zi_159 none 22 [l0, l1, .int l2, l3, l4, l5] [.int l2, .int x1, .ref x0] h Q) ∧
    (∀ (d : Nat) (l0 : Value) (l1 : Value) (l2 : Value) (l3 : Value) (l4 : Value) (l5 : Value) (x2 : Int32) (x1 : Int32) (x0 : Nat) (I : Nat → Nat → Int32) (L : Nat → Nat → Int64) (P : Nat → Nat → Option Nat) (Q : Option Value → zMm → Prop), zSH[x0]? = some (.inl 10) → zWp d zi_159 none 22 [l0, l1, l2, l3, l4, l5] [.int x2, .int x1, .ref x0] (zSH, I, L, P) Q = zWM d 140 [.ref x0, .int x1, .int x2] (zSH, I, L, P) (fun r h1 => zWp d zi_159 none 25 [l0, l1, l2, l3, l4, l5] (r.toList ++ []) h1 Q)) ∧
    (∀ (d : Nat) (l0 : Value) (l1 : Value) (l2 : Value) (l3 : Int32) (l4 : Value) (l5 : Value) (x0 : Int32) (h : zMm) (Q : Option Value → zMm → Prop), zWp d zi_159 none 25 [l0, l1, l2, .int l3, l4, l5] [.int x0] h Q = zWp d zi_159 none 27 [l0, l1, l2, .int l3, .int x0, l5] [] h Q) ∧
    (∀ (d : Nat) (l0 : Value) (l1 : Int32) (l2 : Value) (l3 : Value) (l4 : Value) (l5 : Value)  (h : zMm) (Q : Option Value → zMm → Prop), zWp d zi_159 none 27 [l0, .int l1, l2, l3, l4, l5] [] h Q = zWp d zi_159 none 28 [l0, .int l1, l2, l3, l4, l5] [.int l1] h Q) ∧
    (∀ (d : Nat) (l0 : Value) (l1 : Value) (l2 : Value) (l3 : Value) (l4 : Value) (l5 : Value) (x0 : Int32) (h : zMm) (Q : Option Value → zMm → Prop), zWp d zi_159 none 28 [l0, l1, l2, l3, l4, l5] [.int x0] h Q = zWp d zi_159 none 29 [l0, l1, l2, l3, l4, l5] [.int 1, .int x0] h Q) ∧
    (∀ (d : Nat) (l0 : Value) (l1 : Value) (l2 : Value) (l3 : Value) (l4 : Value) (l5 : Value) (x1 : Int32) (x0 : Int32) (h : zMm) (Q : Option Value → zMm → Prop), zWp d zi_159 none 29 [l0, l1, l2, l3, l4, l5] [.int x1, .int x0] h Q = zWp d zi_159 none 30 [l0, l1, l2, l3, l4, l5] [.int (x0 + x1)] h Q) ∧
    (∀ (d : Nat) (l0 : Value) (l1 : Value) (l2 : Value) (l3 : Value) (l4 : Int32) (l5 : Value) (x0 : Int32) (h : zMm) (Q : Option Value → zMm → Prop), zWp d zi_159 none 30 [l0, l1, l2, l3, .int l4, l5] [.int x0] h Q = zWp d zi_159 none 32 [l0, l1, l2, l3, .int l4, .int x0] [] h Q) ∧
    (∀ (d : Nat) (l0 : Nat) (l1 : Value) (l2 : Value) (l3 : Value) (l4 : Value) (l5 : Value) (x0 : Int32) (h : zMm) (Q : Option Value → zMm → Prop), zWp d zi_159 none 34 [.ref l0, l1, l2, l3, l4, l5] [.int x0] h Q = zWp d zi_159 none 35 [.ref l0, l1, l2, l3, l4, l5] [.ref l0, .int x0] h Q) ∧
    (∀ (d : Nat) (l0 : Value) (l1 : Value) (l2 : Value) (l3 : Value) (l4 : Value) (l5 : Value) (x1 : Nat) (x0 : Int32) (I : Nat → Nat → Int32) (L : Nat → Nat → Int64) (P : Nat → Nat → Option Nat) (Q : Option Value → zMm → Prop), zSH[x1]? = some (.inl 10) → zWp d zi_159 none 35 [l0, l1, l2, l3, l4, l5] [.ref x1, .int x0] (zSH, I, L, P) Q = zWp d zi_159 none 38 [l0, l1, l2, l3, l4, l5] [.int (I x1 6), .int x0] (zSH, I, L, P) Q) ∧
    (∀ (d : Nat) (l0 : Value) (l1 : Value) (l2 : Value) (l3 : Value) (l4 : Value) (l5 : Value) (x1 : Int32) (x0 : Int32) (h : zMm) (Q : Option Value → zMm → Prop), zWp d zi_159 none 38 [l0, l1, l2, l3, l4, l5] [.int x1, .int x0] h Q = if x1 ≤ x0 then zWp d zi_159 none 71 [l0, l1, l2, l3, l4, l5] [] h Q else zWp d zi_159 none 41 [l0, l1, l2, l3, l4, l5] [] h Q) ∧
    (∀ (d : Nat) (l0 : Value) (l1 : Value) (l2 : Value) (l3 : Int32) (l4 : Value) (l5 : Value)  (h : zMm) (Q : Option Value → zMm → Prop), zWp d zi_159 none 41 [l0, l1, l2, .int l3, l4, l5] [] h Q = zWp d zi_159 none 42 [l0, l1, l2, .int l3, l4, l5] [.int l3] h Q) ∧
    (∀ (d : Nat) (l0 : Value) (l1 : Value) (l2 : Value) (l3 : Value) (l4 : Value) (l5 : Value) (x0 : Int32) (h : zMm) (Q : Option Value → zMm → Prop), zWp d zi_159 none 42 [l0, l1, l2, l3, l4, l5] [.int x0] h Q = zWp d zi_159 none 44 [l0, l1, l2, l3, l4, l5] [.int 6, .int x0] h Q) ∧
    (∀ (d : Nat) (l0 : Nat) (l1 : Value) (l2 : Value) (l3 : Value) (l4 : Value) (l5 : Value) (x1 : Int32) (x0 : Int32) (h : zMm) (Q : Option Value → zMm → Prop), zWp d zi_159 none 44 [.ref l0, l1, l2, l3, l4, l5] [.int x1, .int x0] h Q = zWp d zi_159 none 45 [.ref l0, l1, l2, l3, l4, l5] [.ref l0, .int x1, .int x0] h Q) ∧
    (∀ (d : Nat) (l0 : Value) (l1 : Value) (l2 : Value) (l3 : Value) (l4 : Value) (l5 : Value) (x2 : Nat) (x1 : Int32) (x0 : Int32) (I : Nat → Nat → Int32) (L : Nat → Nat → Int64) (P : Nat → Nat → Option Nat) (Q : Option Value → zMm → Prop), zSH[x2]? = some (.inl 10) → zWp d zi_159 none 45 [l0, l1, l2, l3, l4, l5] [.ref x2, .int x1, .int x0] (zSH, I, L, P) Q = zWp d zi_159 none 48 [l0, l1, l2, l3, l4, l5] [va_rf (P x2 23), .int x1, .int x0] (zSH, I, L, P) Q) ∧
    (∀ (d : Nat) (l0 : Value) (l1 : Value) (l2 : Value) (l3 : Value) (l4 : Value) (l5 : Int32) (x2 : Nat) (x1 : Int32) (x0 : Int32) (h : zMm) (Q : Option Value → zMm → Prop), zWp d zi_159 none 48 [l0, l1, l2, l3, l4, .int l5] [.ref x2, .int x1, .int x0] h Q = zWp d zi_159 none 50 [l0, l1, l2, l3, l4, .int l5] [.int l5, .ref x2, .int x1, .int x0] h Q) ∧
    (∀ (d : Nat) (l0 : Value) (l1 : Value) (l2 : Value) (l3 : Value) (l4 : Value) (l5 : Value) (x3 : Int32) (x2 : Nat) (x1 : Int32) (x0 : Int32) (I : Nat → Nat → Int32) (L : Nat → Nat → Int64) (P : Nat → Nat → Option Nat) (Q : Option Value → zMm → Prop), zAk zSH x2 = some .int → zWp d zi_159 none 50 [l0, l1, l2, l3, l4, l5] [.int x3, .ref x2, .int x1, .int x0] (zSH, I, L, P) Q = (vp_in x3 (zAn zSH x2) ∧ zWp d zi_159 none 51 [l0, l1, l2, l3, l4, l5] [.int (I x2 x3.toNatClampNeg), .int x1, .int x0] (zSH, I, L, P) Q)) ∧
    (∀ (d : Nat) (l0 : Value) (l1 : Value) (l2 : Value) (l3 : Value) (l4 : Value) (l5 : Value) (x2 : Int32) (x1 : Int32) (x0 : Int32) (h : zMm) (Q : Option Value → zMm → Prop), zWp d zi_159 none 51 [l0, l1, l2, l3, l4, l5] [.int x2, .int x1, .int x0] h Q = zWp d zi_159 none 52 [l0, l1, l2, l3, l4, l5] [.int (x1 * x2), .int x0] h Q) ∧
    (∀ (d : Nat) (l0 : Nat) (l1 : Value) (l2 : Value) (l3 : Value) (l4 : Value) (l5 : Value) (x1 : Int32) (x0 : Int32) (h : zMm) (Q : Option Value → zMm → Prop), zWp d zi_159 none 52 [.ref l0, l1, l2, l3, l4, l5] [.int x1, .int x0] h Q = zWp d zi_159 none 53 [.ref l0, l1, l2, l3, l4, l5] [.ref l0, .int x1, .int x0] h Q) ∧
    (∀ (d : Nat) (l0 : Value) (l1 : Value) (l2 : Value) (l3 : Value) (l4 : Value) (l5 : Int32) (x2 : Nat) (x1 : Int32) (x0 : Int32) (h : zMm) (Q : Option Value → zMm → Prop), zWp d zi_159 none 53 [l0, l1, l2, l3, l4, .int l5] [.ref x2, .int x1, .int x0] h Q = zWp d zi_159 none 55 [l0, l1, l2, l3, l4, .int l5] [.int l5, .ref x2, .int x1, .int x0] h Q) ∧
    (∀ (d : Nat) (l0 : Value) (l1 : Value) (l2 : Int32) (l3 : Value) (l4 : Value) (l5 : Value) (x3 : Int32) (x2 : Nat) (x1 : Int32) (x0 : Int32) (h : zMm) (Q : Option Value → zMm → Prop), zWp d zi_159 none 55 [l0, l1, .int l2, l3, l4, l5] [.int x3, .ref x2, .int x1, .int x0] h Q = zWp d zi_159 none 56 [l0, l1, .int l2, l3, l4, l5] [.int l2, .int x3, .ref x2, .int x1, .int x0] h Q) ∧
    (∀ (d : Nat) (l0 : Value) (l1 : Value) (l2 : Value) (l3 : Value) (l4 : Value) (l5 : Value) (x4 : Int32) (x3 : Int32) (x2 : Nat) (x1 : Int32) (x0 : Int32) (I : Nat → Nat → Int32) (L : Nat → Nat → Int64) (P : Nat → Nat → Option Nat) (Q : Option Value → zMm → Prop), zSH[x2]? = some (.inl 10) → zWp d zi_159 none 56 [l0, l1, l2, l3, l4, l5] [.int x4, .int x3, .ref x2, .int x1, .int x0] (zSH, I, L, P) Q = zWM d 140 [.ref x2, .int x3, .int x4] (zSH, I, L, P) (fun r h1 => zWp d zi_159 none 59 [l0, l1, l2, l3, l4, l5] (r.toList ++ [.int x1, .int x0]) h1 Q)) ∧
    (∀ (d : Nat) (l0 : Value) (l1 : Value) (l2 : Value) (l3 : Value) (l4 : Int32) (l5 : Value) (x2 : Int32) (x1 : Int32) (x0 : Int32) (h : zMm) (Q : Option Value → zMm → Prop), zWp d zi_159 none 59 [l0, l1, l2, l3, .int l4, l5] [.int x2, .int x1, .int x0] h Q = zWp d zi_159 none 61 [l0, l1, l2, l3, .int l4, l5] [.int l4, .int x2, .int x1, .int x0] h Q) ∧
    (∀ (d : Nat) (l0 : Value) (l1 : Value) (l2 : Value) (l3 : Value) (l4 : Value) (l5 : Value) (x3 : Int32) (x2 : Int32) (x1 : Int32) (x0 : Int32) (h : zMm) (Q : Option Value → zMm → Prop), zWp d zi_159 none 61 [l0, l1, l2, l3, l4, l5] [.int x3, .int x2, .int x1, .int x0] h Q = zWp d zi_159 none 62 [l0, l1, l2, l3, l4, l5] [.int (x2 - x3), .int x1, .int x0] h Q) ∧
    (∀ (d : Nat) (l0 : Value) (l1 : Value) (l2 : Value) (l3 : Value) (l4 : Value) (l5 : Value) (x2 : Int32) (x1 : Int32) (x0 : Int32) (h : zMm) (Q : Option Value → zMm → Prop), zWp d zi_159 none 62 [l0, l1, l2, l3, l4, l5] [.int x2, .int x1, .int x0] h Q = zWp d zi_159 none 63 [l0, l1, l2, l3, l4, l5] [.int (x1 * x2), .int x0] h Q) ∧
    (∀ (d : Nat) (l0 : Value) (l1 : Value) (l2 : Value) (l3 : Value) (l4 : Value) (l5 : Value) (x1 : Int32) (x0 : Int32) (h : zMm) (Q : Option Value → zMm → Prop), zWp d zi_159 none 63 [l0, l1, l2, l3, l4, l5] [.int x1, .int x0] h Q = zWp d zi_159 none 64 [l0, l1, l2, l3, l4, l5] [.int (x0 + x1)] h Q) ∧
    (∀ (d : Nat) (l0 : Value) (l1 : Value) (l2 : Int32) (l3 : Value) (l4 : Value) (l5 : Value) (x0 : Int32) (h : zMm) (Q : Option Value → zMm → Prop), zWp d zi_159 none 64 [l0, l1, .int l2, l3, l4, l5] [.int x0] h Q = zWp d zi_159 none 65 [l0, l1, .int l2, .int x0, l4, l5] [] h Q) ∧
    (∀ (d : Nat) (l0 : Value) (l1 : Value) (l2 : Value) (l3 : Value) (l4 : Int32) (l5 : Int32)  (h : zMm) (Q : Option Value → zMm → Prop), zWp d zi_159 none 65 [l0, l1, l2, l3, .int l4, .int l5] [] h Q = zWp d zi_159 none 68 [l0, l1, l2, l3, .int l4, .int (l5 + 1)] [] h Q) ∧
    (∀ (d : Nat) (l0 : Value) (l1 : Value) (l2 : Value) (l3 : Value) (l4 : Value) (l5 : Value)  (h : zMm) (Q : Option Value → zMm → Prop), zWp d zi_159 none 68 [l0, l1, l2, l3, l4, l5] [] h Q = zWp d zi_159 none 32 [l0, l1, l2, l3, l4, l5] [] h Q) ∧
    (∀ (d : Nat) (l0 : Value) (l1 : Value) (l2 : Value) (l3 : Int32) (l4 : Value) (l5 : Value)  (h : zMm) (Q : Option Value → zMm → Prop), zWp d zi_159 none 71 [l0, l1, l2, .int l3, l4, l5] [] h Q = zWp d zi_159 none 72 [l0, l1, l2, .int l3, l4, l5] [.int l3] h Q) ∧
    (∀ (d : Nat) (l0 : Value) (l1 : Value) (l2 : Value) (l3 : Value) (l4 : Value) (l5 : Value) (x0 : Int32) (h : zMm) (Q : Option Value → zMm → Prop), zWp d zi_159 none 72 [l0, l1, l2, l3, l4, l5] [.int x0] h Q = Q (some (.int x0)) h) :=
  ⟨(fun d l0 l1 l2 l3 l4 l5  h Q => zr_aload_n rfl rfl),
   (fun d l0 l1 l2 l3 l4 l5 x0 I L P Q p0 => zr_getQ rfl lf_10_9 (fun _ _ _ => rfl) p0),
   (fun d l0 l1 l2 l3 l4 l5 x0 h Q => zr_bipush rfl (by decide)),
   (fun d l0 l1 l2 l3 l4 l5 x1 x0 h Q => zr_iload_n rfl rfl),
   (fun d l0 l1 l2 l3 l4 l5 x2 x1 x0 h Q => zr_iadd rfl),
   (fun d l0 l1 l2 l3 l4 l5 x1 x0 I L P Q p0 => zr_ald rfl p0),
   (fun d l0 l1 l2 l3 l4 l5 x0 h Q => zr_aload_n rfl rfl),
   (fun d l0 l1 l2 l3 l4 l5 x1 x0 I L P Q p0 => zr_getI rfl lf_10_99 (fun _ _ _ => rfl) p0),
   (fun d l0 l1 l2 l3 l4 l5 x1 x0 h Q => zr_iconst rfl (by decide)),
   (fun d l0 l1 l2 l3 l4 l5 x2 x1 x0 h Q => zr_isub rfl),
   (fun d l0 l1 l2 l3 l4 l5 x1 x0 h Q => zr_iload_n rfl rfl),
   (fun d l0 l1 l2 l3 l4 l5 x2 x1 x0 h Q => zr_isub rfl),
   (fun d l0 l1 l2 l3 l4 l5 x1 x0 h Q => zr_imul rfl),
   (fun d l0 l1 l2 l3 l4 l5 x0 h Q => zr_istore_n (n := 3) rfl (Nat.le_of_ble_eq_true rfl) rfl),
   (fun d l0 l1 l2 l3 l4 l5  h Q => zr_aload_n rfl rfl),
   (fun d l0 l1 l2 l3 l4 l5 x0 h Q => zr_iload_n rfl rfl),
   (fun d l0 l1 l2 l3 l4 l5 x1 x0 h Q => zr_iload_n rfl rfl),
   (fun d l0 l1 l2 l3 l4 l5 x2 x1 x0 I L P Q p0 => zr_vir (as := [.int x2, .int x1]) (rest := []) rfl lm_10_159 m_140 kd_140 rfl (Nat.le_of_ble_eq_true rfl) p0),
   (fun d l0 l1 l2 l3 l4 l5 x0 h Q => zr_istore (n := 4) rfl (Nat.le_of_ble_eq_true rfl) rfl),
   (fun d l0 l1 l2 l3 l4 l5  h Q => zr_iload_n rfl rfl),
   (fun d l0 l1 l2 l3 l4 l5 x0 h Q => zr_iconst rfl (by decide)),
   (fun d l0 l1 l2 l3 l4 l5 x1 x0 h Q => zr_iadd rfl),
   (fun d l0 l1 l2 l3 l4 l5 x0 h Q => zr_istore (n := 5) rfl (Nat.le_of_ble_eq_true rfl) rfl),
   (fun d l0 l1 l2 l3 l4 l5 x0 h Q => zr_aload_n rfl rfl),
   (fun d l0 l1 l2 l3 l4 l5 x1 x0 I L P Q p0 => zr_getI rfl lf_10_99 (fun _ _ _ => rfl) p0),
   (fun d l0 l1 l2 l3 l4 l5 x1 x0 h Q => zr_ic_ge rfl (by decide)),
   (fun d l0 l1 l2 l3 l4 l5  h Q => zr_iload_n rfl rfl),
   (fun d l0 l1 l2 l3 l4 l5 x0 h Q => zr_bipush rfl (by decide)),
   (fun d l0 l1 l2 l3 l4 l5 x1 x0 h Q => zr_aload_n rfl rfl),
   (fun d l0 l1 l2 l3 l4 l5 x2 x1 x0 I L P Q p0 => zr_getQ rfl lf_10_40 (fun _ _ _ => rfl) p0),
   (fun d l0 l1 l2 l3 l4 l5 x2 x1 x0 h Q => zr_iload rfl rfl),
   (fun d l0 l1 l2 l3 l4 l5 x3 x2 x1 x0 I L P Q p0 => zr_ald rfl p0),
   (fun d l0 l1 l2 l3 l4 l5 x2 x1 x0 h Q => zr_imul rfl),
   (fun d l0 l1 l2 l3 l4 l5 x1 x0 h Q => zr_aload_n rfl rfl),
   (fun d l0 l1 l2 l3 l4 l5 x2 x1 x0 h Q => zr_iload rfl rfl),
   (fun d l0 l1 l2 l3 l4 l5 x3 x2 x1 x0 h Q => zr_iload_n rfl rfl),
   (fun d l0 l1 l2 l3 l4 l5 x4 x3 x2 x1 x0 I L P Q p0 => zr_vir (as := [.int x4, .int x3]) (rest := [.int x1, .int x0]) rfl lm_10_159 m_140 kd_140 rfl (Nat.le_of_ble_eq_true rfl) p0),
   (fun d l0 l1 l2 l3 l4 l5 x2 x1 x0 h Q => zr_iload rfl rfl),
   (fun d l0 l1 l2 l3 l4 l5 x3 x2 x1 x0 h Q => zr_isub rfl),
   (fun d l0 l1 l2 l3 l4 l5 x2 x1 x0 h Q => zr_imul rfl),
   (fun d l0 l1 l2 l3 l4 l5 x1 x0 h Q => zr_iadd rfl),
   (fun d l0 l1 l2 l3 l4 l5 x0 h Q => zr_istore_n (n := 3) rfl (Nat.le_of_ble_eq_true rfl) rfl),
   (fun d l0 l1 l2 l3 l4 l5  h Q => zr_iinc (n := 5) (kc := 1) rfl rfl (Nat.le_of_ble_eq_true rfl) rfl (by decide)),
   (fun d l0 l1 l2 l3 l4 l5  h Q => zr_goto rfl (by decide)),
   (fun d l0 l1 l2 l3 l4 l5  h Q => zr_iload_n rfl rfl),
   (fun d l0 l1 l2 l3 l4 l5 x0 h Q => zr_iret rfl rfl)⟩
theorem H_X10_pushOn_32 : ∀ (d : Nat) (l0 : Value) (l1 : Value) (l2 : Value) (l3 : Value) (l4 : Value) (l5 : Int32)  (h : zMm) (Q : Option Value → zMm → Prop), zWp d zi_159 none 32 [l0, l1, l2, l3, l4, .int l5] [] h Q = zWp d zi_159 none 34 [l0, l1, l2, l3, l4, .int l5] [.int l5] h Q := fun d l0 l1 l2 l3 l4 l5  h Q => zr_iload rfl rfl
theorem E_X10_holds : ∀ (d : Nat) (a0 : Nat) (a1 : Int32) (h : zMm) (Q : Option Value → zMm → Prop), zWM (d + 1) 160 [.ref a0, .int a1] h Q = zWp d zi_160 none 0 [.ref a0, .int a1, .retAddr 0, .retAddr 0] [] h Q := fun d a0 a1 h Q => zW_M m_160 (Nat.le_of_ble_eq_true rfl) rfl
set_option maxRecDepth 100000 in
theorem R_X10_holds :
    (∀ (d : Nat) (l0 : Value) (l1 : Value) (l2 : Value) (l3 : Value)  (h : zMm) (Q : Option Value → zMm → Prop), zWp d zi_160 none 0 [l0, l1, l2, l3] [] h Q = zWp d zi_160 none 1 [l0, l1, l2, l3] [.int 0] h Q) ∧
    (∀ (d : Nat) (l0 : Value) (l1 : Int32) (l2 : Value) (l3 : Value) (x0 : Int32) (h : zMm) (Q : Option Value → zMm → Prop), zWp d zi_160 none 1 [l0, .int l1, l2, l3] [.int x0] h Q = zWp d zi_160 none 2 [l0, .int l1, .int x0, l3] [] h Q) ∧
    (∀ (d : Nat) (l0 : Value) (l1 : Int32) (l2 : Value) (l3 : Value)  (h : zMm) (Q : Option Value → zMm → Prop), zWp d zi_160 none 2 [l0, .int l1, l2, l3] [] h Q = zWp d zi_160 none 3 [l0, .int l1, l2, l3] [.int l1] h Q) ∧
    (∀ (d : Nat) (l0 : Value) (l1 : Value) (l2 : Value) (l3 : Value) (x0 : Int32) (h : zMm) (Q : Option Value → zMm → Prop), zWp d zi_160 none 3 [l0, l1, l2, l3] [.int x0] h Q = zWp d zi_160 none 4 [l0, l1, l2, l3] [.int 1, .int x0] h Q) ∧
    (∀ (d : Nat) (l0 : Value) (l1 : Value) (l2 : Value) (l3 : Value) (x1 : Int32) (x0 : Int32) (h : zMm) (Q : Option Value → zMm → Prop), zWp d zi_160 none 4 [l0, l1, l2, l3] [.int x1, .int x0] h Q = zWp d zi_160 none 5 [l0, l1, l2, l3] [.int (x0 + x1)] h Q) ∧
    (∀ (d : Nat) (l0 : Value) (l1 : Value) (l2 : Int32) (l3 : Value) (x0 : Int32) (h : zMm) (Q : Option Value → zMm → Prop), zWp d zi_160 none 5 [l0, l1, .int l2, l3] [.int x0] h Q = zWp d zi_160 none 6 [l0, l1, .int l2, .int x0] [] h Q) ∧
    (∀ (d : Nat) (l0 : Nat) (l1 : Value) (l2 : Value) (l3 : Value) (x0 : Int32) (h : zMm) (Q : Option Value → zMm → Prop), zWp d zi_160 none 7 [.ref l0, l1, l2, l3] [.int x0] h Q = zWp d zi_160 none 8 [.ref l0, l1, l2, l3] [.ref l0, .int x0] h Q) ∧
    (∀ (d : Nat) (l0 : Value) (l1 : Value) (l2 : Value) (l3 : Value) (x1 : Nat) (x0 : Int32) (I : Nat → Nat → Int32) (L : Nat → Nat → Int64) (P : Nat → Nat → Option Nat) (Q : Option Value → zMm → Prop), zSH[x1]? = some (.inl 10) → zWp d zi_160 none 8 [l0, l1, l2, l3] [.ref x1, .int x0] (zSH, I, L, P) Q = zWp d zi_160 none 11 [l0, l1, l2, l3] [.int (I x1 6), .int x0] (zSH, I, L, P) Q) ∧
    (∀ (d : Nat) (l0 : Value) (l1 : Value) (l2 : Value) (l3 : Value) (x1 : Int32) (x0 : Int32) (h : zMm) (Q : Option Value → zMm → Prop), zWp d zi_160 none 11 [l0, l1, l2, l3] [.int x1, .int x0] h Q = if x1 ≤ x0 then zWp d zi_160 none 29 [l0, l1, l2, l3] [] h Q else zWp d zi_160 none 14 [l0, l1, l2, l3] [] h Q) ∧
    (∀ (d : Nat) (l0 : Value) (l1 : Value) (l2 : Int32) (l3 : Value)  (h : zMm) (Q : Option Value → zMm → Prop), zWp d zi_160 none 14 [l0, l1, .int l2, l3] [] h Q = zWp d zi_160 none 15 [l0, l1, .int l2, l3] [.int l2] h Q) ∧
    (∀ (d : Nat) (l0 : Nat) (l1 : Value) (l2 : Value) (l3 : Value) (x0 : Int32) (h : zMm) (Q : Option Value → zMm → Prop), zWp d zi_160 none 15 [.ref l0, l1, l2, l3] [.int x0] h Q = zWp d zi_160 none 16 [.ref l0, l1, l2, l3] [.ref l0, .int x0] h Q) ∧
    (∀ (d : Nat) (l0 : Value) (l1 : Value) (l2 : Value) (l3 : Value) (x1 : Nat) (x0 : Int32) (I : Nat → Nat → Int32) (L : Nat → Nat → Int64) (P : Nat → Nat → Option Nat) (Q : Option Value → zMm → Prop), zSH[x1]? = some (.inl 10) → zWp d zi_160 none 16 [l0, l1, l2, l3] [.ref x1, .int x0] (zSH, I, L, P) Q = zWp d zi_160 none 19 [l0, l1, l2, l3] [va_rf (P x1 23), .int x0] (zSH, I, L, P) Q) ∧
    (∀ (d : Nat) (l0 : Value) (l1 : Value) (l2 : Value) (l3 : Int32) (x1 : Nat) (x0 : Int32) (h : zMm) (Q : Option Value → zMm → Prop), zWp d zi_160 none 19 [l0, l1, l2, .int l3] [.ref x1, .int x0] h Q = zWp d zi_160 none 20 [l0, l1, l2, .int l3] [.int l3, .ref x1, .int x0] h Q) ∧
    (∀ (d : Nat) (l0 : Value) (l1 : Value) (l2 : Value) (l3 : Value) (x2 : Int32) (x1 : Nat) (x0 : Int32) (I : Nat → Nat → Int32) (L : Nat → Nat → Int64) (P : Nat → Nat → Option Nat) (Q : Option Value → zMm → Prop), zAk zSH x1 = some .int → zWp d zi_160 none 20 [l0, l1, l2, l3] [.int x2, .ref x1, .int x0] (zSH, I, L, P) Q = (vp_in x2 (zAn zSH x1) ∧ zWp d zi_160 none 21 [l0, l1, l2, l3] [.int (I x1 x2.toNatClampNeg), .int x0] (zSH, I, L, P) Q)) ∧
    (∀ (d : Nat) (l0 : Value) (l1 : Value) (l2 : Value) (l3 : Value) (x1 : Int32) (x0 : Int32) (h : zMm) (Q : Option Value → zMm → Prop), zWp d zi_160 none 21 [l0, l1, l2, l3] [.int x1, .int x0] h Q = zWp d zi_160 none 22 [l0, l1, l2, l3] [.int (x0 + x1)] h Q) ∧
    (∀ (d : Nat) (l0 : Value) (l1 : Int32) (l2 : Value) (l3 : Value) (x0 : Int32) (h : zMm) (Q : Option Value → zMm → Prop), zWp d zi_160 none 22 [l0, .int l1, l2, l3] [.int x0] h Q = zWp d zi_160 none 23 [l0, .int l1, .int x0, l3] [] h Q) ∧
    (∀ (d : Nat) (l0 : Value) (l1 : Value) (l2 : Int32) (l3 : Int32)  (h : zMm) (Q : Option Value → zMm → Prop), zWp d zi_160 none 23 [l0, l1, .int l2, .int l3] [] h Q = zWp d zi_160 none 26 [l0, l1, .int l2, .int (l3 + 1)] [] h Q) ∧
    (∀ (d : Nat) (l0 : Value) (l1 : Value) (l2 : Value) (l3 : Value)  (h : zMm) (Q : Option Value → zMm → Prop), zWp d zi_160 none 26 [l0, l1, l2, l3] [] h Q = zWp d zi_160 none 6 [l0, l1, l2, l3] [] h Q) ∧
    (∀ (d : Nat) (l0 : Value) (l1 : Value) (l2 : Value) (l3 : Value)  (h : zMm) (Q : Option Value → zMm → Prop), zWp d zi_160 none 29 [l0, l1, l2, l3] [] h Q = zWp d zi_160 none 30 [l0, l1, l2, l3] [.int 3] h Q) ∧
    (∀ (d : Nat) (l0 : Nat) (l1 : Value) (l2 : Value) (l3 : Value) (x0 : Int32) (h : zMm) (Q : Option Value → zMm → Prop), zWp d zi_160 none 30 [.ref l0, l1, l2, l3] [.int x0] h Q = zWp d zi_160 none 31 [.ref l0, l1, l2, l3] [.ref l0, .int x0] h Q) ∧
    (∀ (d : Nat) (l0 : Value) (l1 : Value) (l2 : Value) (l3 : Value) (x1 : Nat) (x0 : Int32) (I : Nat → Nat → Int32) (L : Nat → Nat → Int64) (P : Nat → Nat → Option Nat) (Q : Option Value → zMm → Prop), zSH[x1]? = some (.inl 10) → zWp d zi_160 none 31 [l0, l1, l2, l3] [.ref x1, .int x0] (zSH, I, L, P) Q = zWp d zi_160 none 34 [l0, l1, l2, l3] [va_rf (P x1 23), .int x0] (zSH, I, L, P) Q) ∧
    (∀ (d : Nat) (l0 : Value) (l1 : Int32) (l2 : Value) (l3 : Value) (x1 : Nat) (x0 : Int32) (h : zMm) (Q : Option Value → zMm → Prop), zWp d zi_160 none 34 [l0, .int l1, l2, l3] [.ref x1, .int x0] h Q = zWp d zi_160 none 35 [l0, .int l1, l2, l3] [.int l1, .ref x1, .int x0] h Q) ∧
    (∀ (d : Nat) (l0 : Value) (l1 : Value) (l2 : Value) (l3 : Value) (x2 : Int32) (x1 : Nat) (x0 : Int32) (I : Nat → Nat → Int32) (L : Nat → Nat → Int64) (P : Nat → Nat → Option Nat) (Q : Option Value → zMm → Prop), zAk zSH x1 = some .int → zWp d zi_160 none 35 [l0, l1, l2, l3] [.int x2, .ref x1, .int x0] (zSH, I, L, P) Q = (vp_in x2 (zAn zSH x1) ∧ zWp d zi_160 none 36 [l0, l1, l2, l3] [.int (I x1 x2.toNatClampNeg), .int x0] (zSH, I, L, P) Q)) ∧
    (∀ (d : Nat) (l0 : Value) (l1 : Value) (l2 : Value) (l3 : Value) (x1 : Int32) (x0 : Int32) (h : zMm) (Q : Option Value → zMm → Prop), zWp d zi_160 none 36 [l0, l1, l2, l3] [.int x1, .int x0] h Q = zWp d zi_160 none 37 [l0, l1, l2, l3] [.int (x0 * x1)] h Q) ∧
    (∀ (d : Nat) (l0 : Value) (l1 : Value) (l2 : Int32) (l3 : Value) (x0 : Int32) (h : zMm) (Q : Option Value → zMm → Prop), zWp d zi_160 none 37 [l0, l1, .int l2, l3] [.int x0] h Q = zWp d zi_160 none 38 [l0, l1, .int l2, l3] [.int l2, .int x0] h Q) ∧
    (∀ (d : Nat) (l0 : Value) (l1 : Value) (l2 : Value) (l3 : Value) (x1 : Int32) (x0 : Int32) (h : zMm) (Q : Option Value → zMm → Prop), zWp d zi_160 none 38 [l0, l1, l2, l3] [.int x1, .int x0] h Q = zWp d zi_160 none 39 [l0, l1, l2, l3] [.int (x0 * x1)] h Q) ∧
    (∀ (d : Nat) (l0 : Value) (l1 : Value) (l2 : Int32) (l3 : Value) (x0 : Int32) (h : zMm) (Q : Option Value → zMm → Prop), zWp d zi_160 none 39 [l0, l1, .int l2, l3] [.int x0] h Q = zWp d zi_160 none 40 [l0, l1, .int l2, .int x0] [] h Q) ∧
    (∀ (d : Nat) (l0 : Nat) (l1 : Value) (l2 : Value) (l3 : Value)  (h : zMm) (Q : Option Value → zMm → Prop), zWp d zi_160 none 40 [.ref l0, l1, l2, l3] [] h Q = zWp d zi_160 none 41 [.ref l0, l1, l2, l3] [.ref l0] h Q) ∧
    (∀ (d : Nat) (l0 : Value) (l1 : Int32) (l2 : Value) (l3 : Value) (x0 : Nat) (h : zMm) (Q : Option Value → zMm → Prop), zWp d zi_160 none 41 [l0, .int l1, l2, l3] [.ref x0] h Q = zWp d zi_160 none 42 [l0, .int l1, l2, l3] [.int l1, .ref x0] h Q) ∧
    (∀ (d : Nat) (l0 : Value) (l1 : Value) (l2 : Value) (l3 : Value) (x1 : Int32) (x0 : Nat) (h : zMm) (Q : Option Value → zMm → Prop), zWp d zi_160 none 42 [l0, l1, l2, l3] [.int x1, .ref x0] h Q = zWp d zi_160 none 43 [l0, l1, l2, l3] [.int 0, .int x1, .ref x0] h Q) ∧
    (∀ (d : Nat) (l0 : Value) (l1 : Value) (l2 : Value) (l3 : Value) (x2 : Int32) (x1 : Int32) (x0 : Nat) (I : Nat → Nat → Int32) (L : Nat → Nat → Int64) (P : Nat → Nat → Option Nat) (Q : Option Value → zMm → Prop), zSH[x0]? = some (.inl 10) → zWp d zi_160 none 43 [l0, l1, l2, l3] [.int x2, .int x1, .ref x0] (zSH, I, L, P) Q = zWM d 159 [.ref x0, .int x1, .int x2] (zSH, I, L, P) (fun r h1 => zWp d zi_160 none 46 [l0, l1, l2, l3] (r.toList ++ []) h1 Q)) ∧
    (∀ (d : Nat) (l0 : Value) (l1 : Value) (l2 : Value) (l3 : Value) (x0 : Int32) (h : zMm) (Q : Option Value → zMm → Prop), zWp d zi_160 none 46 [l0, l1, l2, l3] [.int x0] h Q = zWM d 123 [.int x0] h (fun r h1 => zWp d zi_160 none 49 [l0, l1, l2, l3] (r.toList ++ []) h1 Q)) ∧
    (∀ (d : Nat) (l0 : Value) (l1 : Value) (l2 : Value) (l3 : Int32) (x0 : Int32) (h : zMm) (Q : Option Value → zMm → Prop), zWp d zi_160 none 49 [l0, l1, l2, .int l3] [.int x0] h Q = zWp d zi_160 none 50 [l0, l1, l2, .int l3] [.int l3, .int x0] h Q) ∧
    (∀ (d : Nat) (l0 : Value) (l1 : Value) (l2 : Value) (l3 : Value) (x1 : Int32) (x0 : Int32) (h : zMm) (Q : Option Value → zMm → Prop), zWp d zi_160 none 50 [l0, l1, l2, l3] [.int x1, .int x0] h Q = if x1 < x0 then zWp d zi_160 none 70 [l0, l1, l2, l3] [] h Q else zWp d zi_160 none 53 [l0, l1, l2, l3] [] h Q) ∧
    (∀ (d : Nat) (l0 : Nat) (l1 : Value) (l2 : Value) (l3 : Value)  (h : zMm) (Q : Option Value → zMm → Prop), zWp d zi_160 none 53 [.ref l0, l1, l2, l3] [] h Q = zWp d zi_160 none 54 [.ref l0, l1, l2, l3] [.ref l0] h Q) ∧
    (∀ (d : Nat) (l0 : Value) (l1 : Int32) (l2 : Value) (l3 : Value) (x0 : Nat) (h : zMm) (Q : Option Value → zMm → Prop), zWp d zi_160 none 54 [l0, .int l1, l2, l3] [.ref x0] h Q = zWp d zi_160 none 55 [l0, .int l1, l2, l3] [.int l1, .ref x0] h Q) ∧
    (∀ (d : Nat) (l0 : Value) (l1 : Value) (l2 : Value) (l3 : Value) (x1 : Int32) (x0 : Nat) (h : zMm) (Q : Option Value → zMm → Prop), zWp d zi_160 none 55 [l0, l1, l2, l3] [.int x1, .ref x0] h Q = zWp d zi_160 none 56 [l0, l1, l2, l3] [.int 1, .int x1, .ref x0] h Q) ∧
    (∀ (d : Nat) (l0 : Value) (l1 : Value) (l2 : Value) (l3 : Value) (x2 : Int32) (x1 : Int32) (x0 : Nat) (I : Nat → Nat → Int32) (L : Nat → Nat → Int64) (P : Nat → Nat → Option Nat) (Q : Option Value → zMm → Prop), zSH[x0]? = some (.inl 10) → zWp d zi_160 none 56 [l0, l1, l2, l3] [.int x2, .int x1, .ref x0] (zSH, I, L, P) Q = zWM d 159 [.ref x0, .int x1, .int x2] (zSH, I, L, P) (fun r h1 => zWp d zi_160 none 59 [l0, l1, l2, l3] (r.toList ++ []) h1 Q)) ∧
    (∀ (d : Nat) (l0 : Value) (l1 : Value) (l2 : Value) (l3 : Value) (x0 : Int32) (h : zMm) (Q : Option Value → zMm → Prop), zWp d zi_160 none 59 [l0, l1, l2, l3] [.int x0] h Q = zWM d 123 [.int x0] h (fun r h1 => zWp d zi_160 none 62 [l0, l1, l2, l3] (r.toList ++ []) h1 Q)) ∧
    (∀ (d : Nat) (l0 : Value) (l1 : Value) (l2 : Value) (l3 : Int32) (x0 : Int32) (h : zMm) (Q : Option Value → zMm → Prop), zWp d zi_160 none 62 [l0, l1, l2, .int l3] [.int x0] h Q = zWp d zi_160 none 63 [l0, l1, l2, .int l3] [.int l3, .int x0] h Q) ∧
    (∀ (d : Nat) (l0 : Value) (l1 : Value) (l2 : Value) (l3 : Value) (x1 : Int32) (x0 : Int32) (h : zMm) (Q : Option Value → zMm → Prop), zWp d zi_160 none 63 [l0, l1, l2, l3] [.int x1, .int x0] h Q = if x1 < x0 then zWp d zi_160 none 70 [l0, l1, l2, l3] [] h Q else zWp d zi_160 none 66 [l0, l1, l2, l3] [] h Q) ∧
    (∀ (d : Nat) (l0 : Value) (l1 : Value) (l2 : Value) (l3 : Value)  (h : zMm) (Q : Option Value → zMm → Prop), zWp d zi_160 none 66 [l0, l1, l2, l3] [] h Q = zWp d zi_160 none 67 [l0, l1, l2, l3] [.int 1] h Q) ∧
    (∀ (d : Nat) (l0 : Value) (l1 : Value) (l2 : Value) (l3 : Value) (x0 : Int32) (h : zMm) (Q : Option Value → zMm → Prop), zWp d zi_160 none 67 [l0, l1, l2, l3] [.int x0] h Q = zWp d zi_160 none 71 [l0, l1, l2, l3] [.int x0] h Q) ∧
    (∀ (d : Nat) (l0 : Value) (l1 : Value) (l2 : Value) (l3 : Value)  (h : zMm) (Q : Option Value → zMm → Prop), zWp d zi_160 none 70 [l0, l1, l2, l3] [] h Q = zWp d zi_160 none 71 [l0, l1, l2, l3] [.int 0] h Q) ∧
    (∀ (d : Nat) (l0 : Value) (l1 : Value) (l2 : Value) (l3 : Value) (x0 : Int32) (h : zMm) (Q : Option Value → zMm → Prop), x0 = 0 ∨ x0 = 1 → zWp d zi_160 none 71 [l0, l1, l2, l3] [.int x0] h Q = Q (some (.int x0)) h) :=
  ⟨(fun d l0 l1 l2 l3  h Q => zr_iconst rfl (by decide)),
   (fun d l0 l1 l2 l3 x0 h Q => zr_istore_n (n := 2) rfl (Nat.le_of_ble_eq_true rfl) rfl),
   (fun d l0 l1 l2 l3  h Q => zr_iload_n rfl rfl),
   (fun d l0 l1 l2 l3 x0 h Q => zr_iconst rfl (by decide)),
   (fun d l0 l1 l2 l3 x1 x0 h Q => zr_iadd rfl),
   (fun d l0 l1 l2 l3 x0 h Q => zr_istore_n (n := 3) rfl (Nat.le_of_ble_eq_true rfl) rfl),
   (fun d l0 l1 l2 l3 x0 h Q => zr_aload_n rfl rfl),
   (fun d l0 l1 l2 l3 x1 x0 I L P Q p0 => zr_getI rfl lf_10_99 (fun _ _ _ => rfl) p0),
   (fun d l0 l1 l2 l3 x1 x0 h Q => zr_ic_ge rfl (by decide)),
   (fun d l0 l1 l2 l3  h Q => zr_iload_n rfl rfl),
   (fun d l0 l1 l2 l3 x0 h Q => zr_aload_n rfl rfl),
   (fun d l0 l1 l2 l3 x1 x0 I L P Q p0 => zr_getQ rfl lf_10_40 (fun _ _ _ => rfl) p0),
   (fun d l0 l1 l2 l3 x1 x0 h Q => zr_iload_n rfl rfl),
   (fun d l0 l1 l2 l3 x2 x1 x0 I L P Q p0 => zr_ald rfl p0),
   (fun d l0 l1 l2 l3 x1 x0 h Q => zr_iadd rfl),
   (fun d l0 l1 l2 l3 x0 h Q => zr_istore_n (n := 2) rfl (Nat.le_of_ble_eq_true rfl) rfl),
   (fun d l0 l1 l2 l3  h Q => zr_iinc (n := 3) (kc := 1) rfl rfl (Nat.le_of_ble_eq_true rfl) rfl (by decide)),
   (fun d l0 l1 l2 l3  h Q => zr_goto rfl (by decide)),
   (fun d l0 l1 l2 l3  h Q => zr_iconst rfl (by decide)),
   (fun d l0 l1 l2 l3 x0 h Q => zr_aload_n rfl rfl),
   (fun d l0 l1 l2 l3 x1 x0 I L P Q p0 => zr_getQ rfl lf_10_40 (fun _ _ _ => rfl) p0),
   (fun d l0 l1 l2 l3 x1 x0 h Q => zr_iload_n rfl rfl),
   (fun d l0 l1 l2 l3 x2 x1 x0 I L P Q p0 => zr_ald rfl p0),
   (fun d l0 l1 l2 l3 x1 x0 h Q => zr_imul rfl),
   (fun d l0 l1 l2 l3 x0 h Q => zr_iload_n rfl rfl),
   (fun d l0 l1 l2 l3 x1 x0 h Q => zr_imul rfl),
   (fun d l0 l1 l2 l3 x0 h Q => zr_istore_n (n := 3) rfl (Nat.le_of_ble_eq_true rfl) rfl),
   (fun d l0 l1 l2 l3  h Q => zr_aload_n rfl rfl),
   (fun d l0 l1 l2 l3 x0 h Q => zr_iload_n rfl rfl),
   (fun d l0 l1 l2 l3 x1 x0 h Q => zr_iconst rfl (by decide)),
   (fun d l0 l1 l2 l3 x2 x1 x0 I L P Q p0 => zr_vir (as := [.int x2, .int x1]) (rest := []) rfl lm_10_242 m_159 kd_159 rfl (Nat.le_of_ble_eq_true rfl) p0),
   (fun d l0 l1 l2 l3 x0 h Q => zr_sta (as := [.int x0]) (rest := []) rfl lm_10_245 (by decide) m_123 kd_123 rfl (Nat.le_of_ble_eq_true rfl)),
   (fun d l0 l1 l2 l3 x0 h Q => zr_iload_n rfl rfl),
   (fun d l0 l1 l2 l3 x1 x0 h Q => zr_ic_gt rfl (by decide)),
   (fun d l0 l1 l2 l3  h Q => zr_aload_n rfl rfl),
   (fun d l0 l1 l2 l3 x0 h Q => zr_iload_n rfl rfl),
   (fun d l0 l1 l2 l3 x1 x0 h Q => zr_iconst rfl (by decide)),
   (fun d l0 l1 l2 l3 x2 x1 x0 I L P Q p0 => zr_vir (as := [.int x2, .int x1]) (rest := []) rfl lm_10_242 m_159 kd_159 rfl (Nat.le_of_ble_eq_true rfl) p0),
   (fun d l0 l1 l2 l3 x0 h Q => zr_sta (as := [.int x0]) (rest := []) rfl lm_10_245 (by decide) m_123 kd_123 rfl (Nat.le_of_ble_eq_true rfl)),
   (fun d l0 l1 l2 l3 x0 h Q => zr_iload_n rfl rfl),
   (fun d l0 l1 l2 l3 x1 x0 h Q => zr_ic_gt rfl (by decide)),
   (fun d l0 l1 l2 l3  h Q => zr_iconst rfl (by decide)),
   (fun d l0 l1 l2 l3 x0 h Q => zr_goto rfl (by decide)),
   (fun d l0 l1 l2 l3  h Q => zr_iconst rfl (by decide)),
   (fun d l0 l1 l2 l3 x0 h Q p0 => zr_zret rfl rfl p0)⟩
theorem H_X10_holds_6 : ∀ (d : Nat) (l0 : Value) (l1 : Value) (l2 : Value) (l3 : Int32)  (h : zMm) (Q : Option Value → zMm → Prop), zWp d zi_160 none 6 [l0, l1, l2, .int l3] [] h Q = zWp d zi_160 none 7 [l0, l1, l2, .int l3] [.int l3] h Q := fun d l0 l1 l2 l3  h Q => zr_iload_n rfl rfl
theorem E_X10_fallsAt : ∀ (d : Nat) (a0 : Nat) (h : zMm) (Q : Option Value → zMm → Prop), zWM (d + 1) 161 [.ref a0] h Q = zWp d zi_161 none 0 [.ref a0, .retAddr 0] [] h Q := fun d a0 h Q => zW_M m_161 (Nat.le_of_ble_eq_true rfl) rfl
set_option maxRecDepth 100000 in
theorem R_X10_fallsAt :
    (∀ (d : Nat) (l0 : Value) (l1 : Value)  (h : zMm) (Q : Option Value → zMm → Prop), zWp d zi_161 none 0 [l0, l1] [] h Q = zWp d zi_161 none 1 [l0, l1] [.int 0] h Q) ∧
    (∀ (d : Nat) (l0 : Nat) (l1 : Value) (x0 : Int32) (h : zMm) (Q : Option Value → zMm → Prop), zWp d zi_161 none 1 [.ref l0, l1] [.int x0] h Q = zWp d zi_161 none 2 [.ref l0, .int x0] [] h Q) ∧
    (∀ (d : Nat) (l0 : Nat) (l1 : Value) (x0 : Int32) (h : zMm) (Q : Option Value → zMm → Prop), zWp d zi_161 none 3 [.ref l0, l1] [.int x0] h Q = zWp d zi_161 none 4 [.ref l0, l1] [.ref l0, .int x0] h Q) ∧
    (∀ (d : Nat) (l0 : Value) (l1 : Value) (x1 : Nat) (x0 : Int32) (I : Nat → Nat → Int32) (L : Nat → Nat → Int64) (P : Nat → Nat → Option Nat) (Q : Option Value → zMm → Prop), zSH[x1]? = some (.inl 10) → zWp d zi_161 none 4 [l0, l1] [.ref x1, .int x0] (zSH, I, L, P) Q = zWp d zi_161 none 7 [l0, l1] [.int (I x1 6), .int x0] (zSH, I, L, P) Q) ∧
    (∀ (d : Nat) (l0 : Value) (l1 : Value) (x1 : Int32) (x0 : Int32) (h : zMm) (Q : Option Value → zMm → Prop), zWp d zi_161 none 7 [l0, l1] [.int x1, .int x0] h Q = if x1 ≤ x0 then zWp d zi_161 none 26 [l0, l1] [] h Q else zWp d zi_161 none 10 [l0, l1] [] h Q) ∧
    (∀ (d : Nat) (l0 : Nat) (l1 : Value)  (h : zMm) (Q : Option Value → zMm → Prop), zWp d zi_161 none 10 [.ref l0, l1] [] h Q = zWp d zi_161 none 11 [.ref l0, l1] [.ref l0] h Q) ∧
    (∀ (d : Nat) (l0 : Value) (l1 : Int32) (x0 : Nat) (h : zMm) (Q : Option Value → zMm → Prop), zWp d zi_161 none 11 [l0, .int l1] [.ref x0] h Q = zWp d zi_161 none 12 [l0, .int l1] [.int l1, .ref x0] h Q) ∧
    (∀ (d : Nat) (l0 : Value) (l1 : Value) (x1 : Int32) (x0 : Nat) (I : Nat → Nat → Int32) (L : Nat → Nat → Int64) (P : Nat → Nat → Option Nat) (Q : Option Value → zMm → Prop), zSH[x0]? = some (.inl 10) → zWp d zi_161 none 12 [l0, l1] [.int x1, .ref x0] (zSH, I, L, P) Q = zWM d 160 [.ref x0, .int x1] (zSH, I, L, P) (fun r h1 => zWp d zi_161 none 15 [l0, l1] (r.toList ++ []) h1 Q)) ∧
    (∀ (d : Nat) (l0 : Value) (l1 : Value) (x0 : Int32) (h : zMm) (Q : Option Value → zMm → Prop), zWp d zi_161 none 15 [l0, l1] [.int x0] h Q = if x0 = 0 then zWp d zi_161 none 18 [l0, l1] [] h Q else zWp d zi_161 none 20 [l0, l1] [] h Q) ∧
    (∀ (d : Nat) (l0 : Value) (l1 : Int32)  (h : zMm) (Q : Option Value → zMm → Prop), zWp d zi_161 none 18 [l0, .int l1] [] h Q = zWp d zi_161 none 19 [l0, .int l1] [.int l1] h Q) ∧
    (∀ (d : Nat) (l0 : Value) (l1 : Value) (x0 : Int32) (h : zMm) (Q : Option Value → zMm → Prop), zWp d zi_161 none 19 [l0, l1] [.int x0] h Q = Q (some (.int x0)) h) ∧
    (∀ (d : Nat) (l0 : Nat) (l1 : Int32)  (h : zMm) (Q : Option Value → zMm → Prop), zWp d zi_161 none 20 [.ref l0, .int l1] [] h Q = zWp d zi_161 none 23 [.ref l0, .int (l1 + 1)] [] h Q) ∧
    (∀ (d : Nat) (l0 : Value) (l1 : Value)  (h : zMm) (Q : Option Value → zMm → Prop), zWp d zi_161 none 23 [l0, l1] [] h Q = zWp d zi_161 none 2 [l0, l1] [] h Q) ∧
    (∀ (d : Nat) (l0 : Value) (l1 : Value)  (h : zMm) (Q : Option Value → zMm → Prop), zWp d zi_161 none 26 [l0, l1] [] h Q = zWp d zi_161 none 28 [l0, l1] [.int (-2)] h Q) ∧
    (∀ (d : Nat) (l0 : Value) (l1 : Value) (x0 : Int32) (h : zMm) (Q : Option Value → zMm → Prop), zWp d zi_161 none 28 [l0, l1] [.int x0] h Q = Q (some (.int x0)) h) :=
  ⟨(fun d l0 l1  h Q => zr_iconst rfl (by decide)),
   (fun d l0 l1 x0 h Q => zr_istore_n (n := 1) rfl (Nat.le_of_ble_eq_true rfl) rfl),
   (fun d l0 l1 x0 h Q => zr_aload_n rfl rfl),
   (fun d l0 l1 x1 x0 I L P Q p0 => zr_getI rfl lf_10_99 (fun _ _ _ => rfl) p0),
   (fun d l0 l1 x1 x0 h Q => zr_ic_ge rfl (by decide)),
   (fun d l0 l1  h Q => zr_aload_n rfl rfl),
   (fun d l0 l1 x0 h Q => zr_iload_n rfl rfl),
   (fun d l0 l1 x1 x0 I L P Q p0 => zr_vir (as := [.int x1]) (rest := []) rfl lm_10_165 m_160 kd_160 rfl (Nat.le_of_ble_eq_true rfl) p0),
   (fun d l0 l1 x0 h Q => zr_if_ne rfl (by decide)),
   (fun d l0 l1  h Q => zr_iload_n rfl rfl),
   (fun d l0 l1 x0 h Q => zr_iret rfl rfl),
   (fun d l0 l1  h Q => zr_iinc (n := 1) (kc := 1) rfl rfl (Nat.le_of_ble_eq_true rfl) rfl (by decide)),
   (fun d l0 l1  h Q => zr_goto rfl (by decide)),
   (fun d l0 l1  h Q => zr_bipush rfl (by decide)),
   (fun d l0 l1 x0 h Q => zr_iret rfl rfl)⟩
theorem H_X10_fallsAt_2 : ∀ (d : Nat) (l0 : Value) (l1 : Int32)  (h : zMm) (Q : Option Value → zMm → Prop), zWp d zi_161 none 2 [l0, .int l1] [] h Q = zWp d zi_161 none 3 [l0, .int l1] [.int l1] h Q := fun d l0 l1  h Q => zr_iload_n rfl rfl
theorem E_X10_whither : ∀ (d : Nat) (a0 : Nat) (a1 : Int32) (h : zMm) (Q : Option Value → zMm → Prop), zWM (d + 1) 162 [.ref a0, .int a1] h Q = zWp d zi_162 none 0 [.ref a0, .int a1, .retAddr 0, .retAddr 0] [] h Q := fun d a0 a1 h Q => zW_M m_162 (Nat.le_of_ble_eq_true rfl) rfl
set_option maxRecDepth 100000 in
theorem R_X10_whither :
    (∀ (d : Nat) (l0 : Nat) (l1 : Value) (l2 : Value) (l3 : Value)  (h : zMm) (Q : Option Value → zMm → Prop), zWp d zi_162 none 0 [.ref l0, l1, l2, l3] [] h Q = zWp d zi_162 none 1 [.ref l0, l1, l2, l3] [.ref l0] h Q) ∧
    (∀ (d : Nat) (l0 : Value) (l1 : Int32) (l2 : Value) (l3 : Value) (x0 : Nat) (h : zMm) (Q : Option Value → zMm → Prop), zWp d zi_162 none 1 [l0, .int l1, l2, l3] [.ref x0] h Q = zWp d zi_162 none 2 [l0, .int l1, l2, l3] [.int l1, .ref x0] h Q) ∧
    (∀ (d : Nat) (l0 : Value) (l1 : Value) (l2 : Value) (l3 : Value) (x1 : Int32) (x0 : Nat) (h : zMm) (Q : Option Value → zMm → Prop), zWp d zi_162 none 2 [l0, l1, l2, l3] [.int x1, .ref x0] h Q = zWp d zi_162 none 3 [l0, l1, l2, l3] [.int 0, .int x1, .ref x0] h Q) ∧
    (∀ (d : Nat) (l0 : Value) (l1 : Value) (l2 : Value) (l3 : Value) (x2 : Int32) (x1 : Int32) (x0 : Nat) (I : Nat → Nat → Int32) (L : Nat → Nat → Int64) (P : Nat → Nat → Option Nat) (Q : Option Value → zMm → Prop), zSH[x0]? = some (.inl 10) → zWp d zi_162 none 3 [l0, l1, l2, l3] [.int x2, .int x1, .ref x0] (zSH, I, L, P) Q = zWM d 159 [.ref x0, .int x1, .int x2] (zSH, I, L, P) (fun r h1 => zWp d zi_162 none 6 [l0, l1, l2, l3] (r.toList ++ []) h1 Q)) ∧
    (∀ (d : Nat) (l0 : Value) (l1 : Int32) (l2 : Value) (l3 : Value) (x0 : Int32) (h : zMm) (Q : Option Value → zMm → Prop), zWp d zi_162 none 6 [l0, .int l1, l2, l3] [.int x0] h Q = zWp d zi_162 none 7 [l0, .int l1, .int x0, l3] [] h Q) ∧
    (∀ (d : Nat) (l0 : Nat) (l1 : Value) (l2 : Value) (l3 : Value)  (h : zMm) (Q : Option Value → zMm → Prop), zWp d zi_162 none 7 [.ref l0, l1, l2, l3] [] h Q = zWp d zi_162 none 8 [.ref l0, l1, l2, l3] [.ref l0] h Q) ∧
    (∀ (d : Nat) (l0 : Value) (l1 : Int32) (l2 : Value) (l3 : Value) (x0 : Nat) (h : zMm) (Q : Option Value → zMm → Prop), zWp d zi_162 none 8 [l0, .int l1, l2, l3] [.ref x0] h Q = zWp d zi_162 none 9 [l0, .int l1, l2, l3] [.int l1, .ref x0] h Q) ∧
    (∀ (d : Nat) (l0 : Value) (l1 : Value) (l2 : Value) (l3 : Value) (x1 : Int32) (x0 : Nat) (h : zMm) (Q : Option Value → zMm → Prop), zWp d zi_162 none 9 [l0, l1, l2, l3] [.int x1, .ref x0] h Q = zWp d zi_162 none 10 [l0, l1, l2, l3] [.int 1, .int x1, .ref x0] h Q) ∧
    (∀ (d : Nat) (l0 : Value) (l1 : Value) (l2 : Value) (l3 : Value) (x2 : Int32) (x1 : Int32) (x0 : Nat) (I : Nat → Nat → Int32) (L : Nat → Nat → Int64) (P : Nat → Nat → Option Nat) (Q : Option Value → zMm → Prop), zSH[x0]? = some (.inl 10) → zWp d zi_162 none 10 [l0, l1, l2, l3] [.int x2, .int x1, .ref x0] (zSH, I, L, P) Q = zWM d 159 [.ref x0, .int x1, .int x2] (zSH, I, L, P) (fun r h1 => zWp d zi_162 none 13 [l0, l1, l2, l3] (r.toList ++ []) h1 Q)) ∧
    (∀ (d : Nat) (l0 : Value) (l1 : Value) (l2 : Int32) (l3 : Value) (x0 : Int32) (h : zMm) (Q : Option Value → zMm → Prop), zWp d zi_162 none 13 [l0, l1, .int l2, l3] [.int x0] h Q = zWp d zi_162 none 14 [l0, l1, .int l2, .int x0] [] h Q) ∧
    (∀ (d : Nat) (l0 : Value) (l1 : Value) (l2 : Value) (l3 : Int32)  (h : zMm) (Q : Option Value → zMm → Prop), zWp d zi_162 none 14 [l0, l1, l2, .int l3] [] h Q = zWp d zi_162 none 15 [l0, l1, l2, .int l3] [.int l3] h Q) ∧
    (∀ (d : Nat) (l0 : Value) (l1 : Value) (l2 : Value) (l3 : Value) (x0 : Int32) (h : zMm) (Q : Option Value → zMm → Prop), zWp d zi_162 none 15 [l0, l1, l2, l3] [.int x0] h Q = zWM d 123 [.int x0] h (fun r h1 => zWp d zi_162 none 18 [l0, l1, l2, l3] (r.toList ++ []) h1 Q)) ∧
    (∀ (d : Nat) (l0 : Value) (l1 : Value) (l2 : Int32) (l3 : Value) (x0 : Int32) (h : zMm) (Q : Option Value → zMm → Prop), zWp d zi_162 none 18 [l0, l1, .int l2, l3] [.int x0] h Q = zWp d zi_162 none 19 [l0, l1, .int l2, l3] [.int l2, .int x0] h Q) ∧
    (∀ (d : Nat) (l0 : Value) (l1 : Value) (l2 : Value) (l3 : Value) (x1 : Int32) (x0 : Int32) (h : zMm) (Q : Option Value → zMm → Prop), zWp d zi_162 none 19 [l0, l1, l2, l3] [.int x1, .int x0] h Q = zWM d 123 [.int x1] h (fun r h1 => zWp d zi_162 none 22 [l0, l1, l2, l3] (r.toList ++ [.int x0]) h1 Q)) ∧
    (∀ (d : Nat) (l0 : Value) (l1 : Value) (l2 : Value) (l3 : Value) (x1 : Int32) (x0 : Int32) (h : zMm) (Q : Option Value → zMm → Prop), zWp d zi_162 none 22 [l0, l1, l2, l3] [.int x1, .int x0] h Q = if x0 ≤ x1 then zWp d zi_162 none 37 [l0, l1, l2, l3] [] h Q else zWp d zi_162 none 25 [l0, l1, l2, l3] [] h Q) ∧
    (∀ (d : Nat) (l0 : Value) (l1 : Value) (l2 : Value) (l3 : Int32)  (h : zMm) (Q : Option Value → zMm → Prop), zWp d zi_162 none 25 [l0, l1, l2, .int l3] [] h Q = zWp d zi_162 none 26 [l0, l1, l2, .int l3] [.int l3] h Q) ∧
    (∀ (d : Nat) (l0 : Value) (l1 : Value) (l2 : Value) (l3 : Value) (x0 : Int32) (h : zMm) (Q : Option Value → zMm → Prop), zWp d zi_162 none 26 [l0, l1, l2, l3] [.int x0] h Q = if x0 ≤ 0 then zWp d zi_162 none 33 [l0, l1, l2, l3] [] h Q else zWp d zi_162 none 29 [l0, l1, l2, l3] [] h Q) ∧
    (∀ (d : Nat) (l0 : Value) (l1 : Value) (l2 : Value) (l3 : Value)  (h : zMm) (Q : Option Value → zMm → Prop), zWp d zi_162 none 29 [l0, l1, l2, l3] [] h Q = zWp d zi_162 none 30 [l0, l1, l2, l3] [.int 1] h Q) ∧
    (∀ (d : Nat) (l0 : Value) (l1 : Value) (l2 : Value) (l3 : Value) (x0 : Int32) (h : zMm) (Q : Option Value → zMm → Prop), zWp d zi_162 none 30 [l0, l1, l2, l3] [.int x0] h Q = zWp d zi_162 none 46 [l0, l1, l2, l3] [.int x0] h Q) ∧
    (∀ (d : Nat) (l0 : Value) (l1 : Value) (l2 : Value) (l3 : Value)  (h : zMm) (Q : Option Value → zMm → Prop), zWp d zi_162 none 33 [l0, l1, l2, l3] [] h Q = zWp d zi_162 none 34 [l0, l1, l2, l3] [.int 3] h Q) ∧
    (∀ (d : Nat) (l0 : Value) (l1 : Value) (l2 : Value) (l3 : Value) (x0 : Int32) (h : zMm) (Q : Option Value → zMm → Prop), zWp d zi_162 none 34 [l0, l1, l2, l3] [.int x0] h Q = zWp d zi_162 none 46 [l0, l1, l2, l3] [.int x0] h Q) ∧
    (∀ (d : Nat) (l0 : Value) (l1 : Value) (l2 : Int32) (l3 : Value)  (h : zMm) (Q : Option Value → zMm → Prop), zWp d zi_162 none 37 [l0, l1, .int l2, l3] [] h Q = zWp d zi_162 none 38 [l0, l1, .int l2, l3] [.int l2] h Q) ∧
    (∀ (d : Nat) (l0 : Value) (l1 : Value) (l2 : Value) (l3 : Value) (x0 : Int32) (h : zMm) (Q : Option Value → zMm → Prop), zWp d zi_162 none 38 [l0, l1, l2, l3] [.int x0] h Q = if x0 ≤ 0 then zWp d zi_162 none 45 [l0, l1, l2, l3] [] h Q else zWp d zi_162 none 41 [l0, l1, l2, l3] [] h Q) ∧
    (∀ (d : Nat) (l0 : Value) (l1 : Value) (l2 : Value) (l3 : Value)  (h : zMm) (Q : Option Value → zMm → Prop), zWp d zi_162 none 41 [l0, l1, l2, l3] [] h Q = zWp d zi_162 none 42 [l0, l1, l2, l3] [.int 0] h Q) ∧
    (∀ (d : Nat) (l0 : Value) (l1 : Value) (l2 : Value) (l3 : Value) (x0 : Int32) (h : zMm) (Q : Option Value → zMm → Prop), zWp d zi_162 none 42 [l0, l1, l2, l3] [.int x0] h Q = zWp d zi_162 none 46 [l0, l1, l2, l3] [.int x0] h Q) ∧
    (∀ (d : Nat) (l0 : Value) (l1 : Value) (l2 : Value) (l3 : Value)  (h : zMm) (Q : Option Value → zMm → Prop), zWp d zi_162 none 45 [l0, l1, l2, l3] [] h Q = zWp d zi_162 none 46 [l0, l1, l2, l3] [.int 2] h Q) ∧
    (∀ (d : Nat) (l0 : Value) (l1 : Value) (l2 : Value) (l3 : Value) (x0 : Int32) (h : zMm) (Q : Option Value → zMm → Prop), zWp d zi_162 none 46 [l0, l1, l2, l3] [.int x0] h Q = Q (some (.int x0)) h) :=
  ⟨(fun d l0 l1 l2 l3  h Q => zr_aload_n rfl rfl),
   (fun d l0 l1 l2 l3 x0 h Q => zr_iload_n rfl rfl),
   (fun d l0 l1 l2 l3 x1 x0 h Q => zr_iconst rfl (by decide)),
   (fun d l0 l1 l2 l3 x2 x1 x0 I L P Q p0 => zr_vir (as := [.int x2, .int x1]) (rest := []) rfl lm_10_242 m_159 kd_159 rfl (Nat.le_of_ble_eq_true rfl) p0),
   (fun d l0 l1 l2 l3 x0 h Q => zr_istore_n (n := 2) rfl (Nat.le_of_ble_eq_true rfl) rfl),
   (fun d l0 l1 l2 l3  h Q => zr_aload_n rfl rfl),
   (fun d l0 l1 l2 l3 x0 h Q => zr_iload_n rfl rfl),
   (fun d l0 l1 l2 l3 x1 x0 h Q => zr_iconst rfl (by decide)),
   (fun d l0 l1 l2 l3 x2 x1 x0 I L P Q p0 => zr_vir (as := [.int x2, .int x1]) (rest := []) rfl lm_10_242 m_159 kd_159 rfl (Nat.le_of_ble_eq_true rfl) p0),
   (fun d l0 l1 l2 l3 x0 h Q => zr_istore_n (n := 3) rfl (Nat.le_of_ble_eq_true rfl) rfl),
   (fun d l0 l1 l2 l3  h Q => zr_iload_n rfl rfl),
   (fun d l0 l1 l2 l3 x0 h Q => zr_sta (as := [.int x0]) (rest := []) rfl lm_10_245 (by decide) m_123 kd_123 rfl (Nat.le_of_ble_eq_true rfl)),
   (fun d l0 l1 l2 l3 x0 h Q => zr_iload_n rfl rfl),
   (fun d l0 l1 l2 l3 x1 x0 h Q => zr_sta (as := [.int x1]) (rest := [.int x0]) rfl lm_10_245 (by decide) m_123 kd_123 rfl (Nat.le_of_ble_eq_true rfl)),
   (fun d l0 l1 l2 l3 x1 x0 h Q => zr_ic_le rfl (by decide)),
   (fun d l0 l1 l2 l3  h Q => zr_iload_n rfl rfl),
   (fun d l0 l1 l2 l3 x0 h Q => zr_if_le rfl (by decide)),
   (fun d l0 l1 l2 l3  h Q => zr_iconst rfl (by decide)),
   (fun d l0 l1 l2 l3 x0 h Q => zr_goto rfl (by decide)),
   (fun d l0 l1 l2 l3  h Q => zr_iconst rfl (by decide)),
   (fun d l0 l1 l2 l3 x0 h Q => zr_goto rfl (by decide)),
   (fun d l0 l1 l2 l3  h Q => zr_iload_n rfl rfl),
   (fun d l0 l1 l2 l3 x0 h Q => zr_if_le rfl (by decide)),
   (fun d l0 l1 l2 l3  h Q => zr_iconst rfl (by decide)),
   (fun d l0 l1 l2 l3 x0 h Q => zr_goto rfl (by decide)),
   (fun d l0 l1 l2 l3  h Q => zr_iconst rfl (by decide)),
   (fun d l0 l1 l2 l3 x0 h Q => zr_iret rfl rfl)⟩
theorem E_X10_falls : ∀ (d : Nat) (a0 : Nat) (a1 : Int32) (h : zMm) (Q : Option Value → zMm → Prop), zWM (d + 1) 163 [.ref a0, .int a1] h Q = zWp d zi_163 none 0 [.ref a0, .int a1, .retAddr 0] [] h Q := fun d a0 a1 h Q => zW_M m_163 (Nat.le_of_ble_eq_true rfl) rfl
set_option maxRecDepth 100000 in
theorem R_X10_falls :
    (∀ (d : Nat) (l0 : Value) (l1 : Int32) (l2 : Value)  (h : zMm) (Q : Option Value → zMm → Prop), zWp d zi_163 none 0 [l0, .int l1, l2] [] h Q = zWp d zi_163 none 1 [l0, .int l1, l2] [.int l1] h Q) ∧
    (∀ (d : Nat) (l0 : Value) (l1 : Value) (l2 : Value) (x0 : Int32) (h : zMm) (Q : Option Value → zMm → Prop), zWp d zi_163 none 1 [l0, l1, l2] [.int x0] h Q = zWp d zi_163 none 2 [l0, l1, l2] [.long x0.toInt64] h Q) ∧
    (∀ (d : Nat) (l0 : Value) (l1 : Value) (l2 : Value) (x0 : Int64) (h : zMm) (Q : Option Value → zMm → Prop), zWp d zi_163 none 2 [l0, l1, l2] [.long x0] h Q = zWp d zi_163 none 3 [l0, l1, l2] [.long 0, .long x0] h Q) ∧
    (∀ (d : Nat) (l0 : Value) (l1 : Value) (l2 : Value) (x1 : Int64) (x0 : Int64) (h : zMm) (Q : Option Value → zMm → Prop), zWp d zi_163 none 3 [l0, l1, l2] [.long x1, .long x0] h Q = zWp d zi_163 none 4 [l0, l1, l2] [.long 1, .long x1, .long x0] h Q) ∧
    (∀ (d : Nat) (l0 : Value) (l1 : Value) (l2 : Value) (x2 : Int64) (x1 : Int64) (x0 : Int64) (h : zMm) (Q : Option Value → zMm → Prop), zWp d zi_163 none 4 [l0, l1, l2] [.long x2, .long x1, .long x0] h Q = zWM d 122 [.long x0, .long x1, .long x2] h (fun r h1 => zWp d zi_163 none 7 [l0, l1, l2] (r.toList ++ []) h1 Q)) ∧
    (∀ (d : Nat) (l0 : Value) (l1 : Value) (l2 : Value) (x0 : Int32) (h : zMm) (Q : Option Value → zMm → Prop), zWp d zi_163 none 7 [l0, l1, l2] [.int x0] h Q = if x0 = 0 then zWp d zi_163 none 10 [l0, l1, l2] [] h Q else zWp d zi_163 none 12 [l0, l1, l2] [] h Q) ∧
    (∀ (d : Nat) (l0 : Value) (l1 : Value) (l2 : Value)  (h : zMm) (Q : Option Value → zMm → Prop), zWp d zi_163 none 10 [l0, l1, l2] [] h Q = zWp d zi_163 none 11 [l0, l1, l2] [.int (-1)] h Q) ∧
    (∀ (d : Nat) (l0 : Value) (l1 : Value) (l2 : Value) (x0 : Int32) (h : zMm) (Q : Option Value → zMm → Prop), zWp d zi_163 none 11 [l0, l1, l2] [.int x0] h Q = Q (some (.int x0)) h) ∧
    (∀ (d : Nat) (l0 : Nat) (l1 : Value) (l2 : Value)  (h : zMm) (Q : Option Value → zMm → Prop), zWp d zi_163 none 12 [.ref l0, l1, l2] [] h Q = zWp d zi_163 none 13 [.ref l0, l1, l2] [.ref l0] h Q) ∧
    (∀ (d : Nat) (l0 : Value) (l1 : Value) (l2 : Value) (x0 : Nat) (I : Nat → Nat → Int32) (L : Nat → Nat → Int64) (P : Nat → Nat → Option Nat) (Q : Option Value → zMm → Prop), zSH[x0]? = some (.inl 10) → zWp d zi_163 none 13 [l0, l1, l2] [.ref x0] (zSH, I, L, P) Q = zWM d 158 [.ref x0] (zSH, I, L, P) (fun r h1 => zWp d zi_163 none 16 [l0, l1, l2] (r.toList ++ []) h1 Q)) ∧
    (∀ (d : Nat) (l0 : Nat) (l1 : Value) (l2 : Value)  (h : zMm) (Q : Option Value → zMm → Prop), zWp d zi_163 none 16 [.ref l0, l1, l2] [] h Q = zWp d zi_163 none 17 [.ref l0, l1, l2] [.ref l0] h Q) ∧
    (∀ (d : Nat) (l0 : Value) (l1 : Value) (l2 : Value) (x0 : Nat) (I : Nat → Nat → Int32) (L : Nat → Nat → Int64) (P : Nat → Nat → Option Nat) (Q : Option Value → zMm → Prop), zSH[x0]? = some (.inl 10) → zWp d zi_163 none 17 [l0, l1, l2] [.ref x0] (zSH, I, L, P) Q = zWM d 161 [.ref x0] (zSH, I, L, P) (fun r h1 => zWp d zi_163 none 20 [l0, l1, l2] (r.toList ++ []) h1 Q)) ∧
    (∀ (d : Nat) (l0 : Value) (l1 : Int32) (l2 : Value) (x0 : Int32) (h : zMm) (Q : Option Value → zMm → Prop), zWp d zi_163 none 20 [l0, .int l1, l2] [.int x0] h Q = zWp d zi_163 none 21 [l0, .int l1, .int x0] [] h Q) ∧
    (∀ (d : Nat) (l0 : Value) (l1 : Value) (l2 : Int32)  (h : zMm) (Q : Option Value → zMm → Prop), zWp d zi_163 none 21 [l0, l1, .int l2] [] h Q = zWp d zi_163 none 22 [l0, l1, .int l2] [.int l2] h Q) ∧
    (∀ (d : Nat) (l0 : Value) (l1 : Value) (l2 : Value) (x0 : Int32) (h : zMm) (Q : Option Value → zMm → Prop), zWp d zi_163 none 22 [l0, l1, l2] [.int x0] h Q = if x0 < 0 then zWp d zi_163 none 29 [l0, l1, l2] [] h Q else zWp d zi_163 none 25 [l0, l1, l2] [] h Q) ∧
    (∀ (d : Nat) (l0 : Value) (l1 : Int32) (l2 : Value)  (h : zMm) (Q : Option Value → zMm → Prop), zWp d zi_163 none 25 [l0, .int l1, l2] [] h Q = zWp d zi_163 none 26 [l0, .int l1, l2] [.int l1] h Q) ∧
    (∀ (d : Nat) (l0 : Value) (l1 : Value) (l2 : Value) (x0 : Int32) (h : zMm) (Q : Option Value → zMm → Prop), zWp d zi_163 none 26 [l0, l1, l2] [.int x0] h Q = if x0 = 0 then zWp d zi_163 none 29 [l0, l1, l2] [] h Q else zWp d zi_163 none 33 [l0, l1, l2] [] h Q) ∧
    (∀ (d : Nat) (l0 : Value) (l1 : Value) (l2 : Int32)  (h : zMm) (Q : Option Value → zMm → Prop), zWp d zi_163 none 29 [l0, l1, .int l2] [] h Q = zWp d zi_163 none 30 [l0, l1, .int l2] [.int l2] h Q) ∧
    (∀ (d : Nat) (l0 : Value) (l1 : Value) (l2 : Value) (x0 : Int32) (h : zMm) (Q : Option Value → zMm → Prop), zWp d zi_163 none 30 [l0, l1, l2] [.int x0] h Q = zWp d zi_163 none 38 [l0, l1, l2] [.int x0] h Q) ∧
    (∀ (d : Nat) (l0 : Nat) (l1 : Value) (l2 : Value)  (h : zMm) (Q : Option Value → zMm → Prop), zWp d zi_163 none 33 [.ref l0, l1, l2] [] h Q = zWp d zi_163 none 34 [.ref l0, l1, l2] [.ref l0] h Q) ∧
    (∀ (d : Nat) (l0 : Value) (l1 : Value) (l2 : Int32) (x0 : Nat) (h : zMm) (Q : Option Value → zMm → Prop), zWp d zi_163 none 34 [l0, l1, .int l2] [.ref x0] h Q = zWp d zi_163 none 35 [l0, l1, .int l2] [.int l2, .ref x0] h Q) ∧
    (∀ (d : Nat) (l0 : Value) (l1 : Value) (l2 : Value) (x1 : Int32) (x0 : Nat) (I : Nat → Nat → Int32) (L : Nat → Nat → Int64) (P : Nat → Nat → Option Nat) (Q : Option Value → zMm → Prop), zSH[x0]? = some (.inl 10) → zWp d zi_163 none 35 [l0, l1, l2] [.int x1, .ref x0] (zSH, I, L, P) Q = zWM d 162 [.ref x0, .int x1] (zSH, I, L, P) (fun r h1 => zWp d zi_163 none 38 [l0, l1, l2] (r.toList ++ []) h1 Q)) ∧
    (∀ (d : Nat) (l0 : Value) (l1 : Value) (l2 : Value) (x0 : Int32) (h : zMm) (Q : Option Value → zMm → Prop), zWp d zi_163 none 38 [l0, l1, l2] [.int x0] h Q = Q (some (.int x0)) h) :=
  ⟨(fun d l0 l1 l2  h Q => zr_iload_n rfl rfl),
   (fun d l0 l1 l2 x0 h Q => zr_i2l rfl),
   (fun d l0 l1 l2 x0 h Q => zr_lconst rfl (by decide)),
   (fun d l0 l1 l2 x1 x0 h Q => zr_lconst rfl (by decide)),
   (fun d l0 l1 l2 x2 x1 x0 h Q => zr_sta (as := [.long x2, .long x1, .long x0]) (rest := []) rfl lm_10_110 (by decide) m_122 kd_122 rfl (Nat.le_of_ble_eq_true rfl)),
   (fun d l0 l1 l2 x0 h Q => zr_if_ne rfl (by decide)),
   (fun d l0 l1 l2  h Q => zr_iconst rfl (by decide)),
   (fun d l0 l1 l2 x0 h Q => zr_iret rfl rfl),
   (fun d l0 l1 l2  h Q => zr_aload_n rfl rfl),
   (fun d l0 l1 l2 x0 I L P Q p0 => zr_vir (as := []) (rest := []) rfl lm_10_162 m_158 kd_158 rfl (Nat.le_of_ble_eq_true rfl) p0),
   (fun d l0 l1 l2  h Q => zr_aload_n rfl rfl),
   (fun d l0 l1 l2 x0 I L P Q p0 => zr_vir (as := []) (rest := []) rfl lm_10_248 m_161 kd_161 rfl (Nat.le_of_ble_eq_true rfl) p0),
   (fun d l0 l1 l2 x0 h Q => zr_istore_n (n := 2) rfl (Nat.le_of_ble_eq_true rfl) rfl),
   (fun d l0 l1 l2  h Q => zr_iload_n rfl rfl),
   (fun d l0 l1 l2 x0 h Q => zr_if_lt rfl (by decide)),
   (fun d l0 l1 l2  h Q => zr_iload_n rfl rfl),
   (fun d l0 l1 l2 x0 h Q => zr_if_ne rfl (by decide)),
   (fun d l0 l1 l2  h Q => zr_iload_n rfl rfl),
   (fun d l0 l1 l2 x0 h Q => zr_goto rfl (by decide)),
   (fun d l0 l1 l2  h Q => zr_aload_n rfl rfl),
   (fun d l0 l1 l2 x0 h Q => zr_iload_n rfl rfl),
   (fun d l0 l1 l2 x1 x0 I L P Q p0 => zr_vir (as := [.int x1]) (rest := []) rfl lm_10_251 m_162 kd_162 rfl (Nat.le_of_ble_eq_true rfl) p0),
   (fun d l0 l1 l2 x0 h Q => zr_iret rfl rfl)⟩
theorem E_X10_topples : ∀ (d : Nat) (a0 : Nat) (a1 : Int32) (h : zMm) (Q : Option Value → zMm → Prop), zWM (d + 1) 164 [.ref a0, .int a1] h Q = zWp d zi_164 none 0 [.ref a0, .int a1, .retAddr 0, .retAddr 0, .retAddr 0, .retAddr 0, .retAddr 0] [] h Q := fun d a0 a1 h Q => zW_M m_164 (Nat.le_of_ble_eq_true rfl) rfl
set_option maxRecDepth 100000 in
theorem R_X10_topples :
    (∀ (d : Nat) (l0 : Value) (l1 : Int32) (l2 : Value) (l3 : Value) (l4 : Value) (l5 : Value) (l6 : Value)  (h : zMm) (Q : Option Value → zMm → Prop), zWp d zi_164 none 0 [l0, .int l1, l2, l3, l4, l5, l6] [] h Q = zWp d zi_164 none 1 [l0, .int l1, l2, l3, l4, l5, l6] [.int l1] h Q) ∧
    (∀ (d : Nat) (l0 : Value) (l1 : Value) (l2 : Value) (l3 : Value) (l4 : Value) (l5 : Value) (l6 : Value) (x0 : Int32) (h : zMm) (Q : Option Value → zMm → Prop), zWp d zi_164 none 1 [l0, l1, l2, l3, l4, l5, l6] [.int x0] h Q = zWp d zi_164 none 2 [l0, l1, l2, l3, l4, l5, l6] [.long x0.toInt64] h Q) ∧
    (∀ (d : Nat) (l0 : Value) (l1 : Value) (l2 : Value) (l3 : Value) (l4 : Value) (l5 : Value) (l6 : Value) (x0 : Int64) (h : zMm) (Q : Option Value → zMm → Prop), zWp d zi_164 none 2 [l0, l1, l2, l3, l4, l5, l6] [.long x0] h Q = zWp d zi_164 none 3 [l0, l1, l2, l3, l4, l5, l6] [.long 0, .long x0] h Q) ∧
    (∀ (d : Nat) (l0 : Value) (l1 : Value) (l2 : Value) (l3 : Value) (l4 : Value) (l5 : Value) (l6 : Value) (x1 : Int64) (x0 : Int64) (h : zMm) (Q : Option Value → zMm → Prop), zWp d zi_164 none 3 [l0, l1, l2, l3, l4, l5, l6] [.long x1, .long x0] h Q = zWp d zi_164 none 6 [l0, l1, l2, l3, l4, l5, l6] [.long 3, .long x1, .long x0] h Q) ∧
    (∀ (d : Nat) (l0 : Value) (l1 : Value) (l2 : Value) (l3 : Value) (l4 : Value) (l5 : Value) (l6 : Value) (x2 : Int64) (x1 : Int64) (x0 : Int64) (h : zMm) (Q : Option Value → zMm → Prop), zWp d zi_164 none 6 [l0, l1, l2, l3, l4, l5, l6] [.long x2, .long x1, .long x0] h Q = zWM d 122 [.long x0, .long x1, .long x2] h (fun r h1 => zWp d zi_164 none 9 [l0, l1, l2, l3, l4, l5, l6] (r.toList ++ []) h1 Q)) ∧
    (∀ (d : Nat) (l0 : Value) (l1 : Value) (l2 : Value) (l3 : Value) (l4 : Value) (l5 : Value) (l6 : Value) (x0 : Int32) (h : zMm) (Q : Option Value → zMm → Prop), zWp d zi_164 none 9 [l0, l1, l2, l3, l4, l5, l6] [.int x0] h Q = if x0 = 0 then zWp d zi_164 none 12 [l0, l1, l2, l3, l4, l5, l6] [] h Q else zWp d zi_164 none 14 [l0, l1, l2, l3, l4, l5, l6] [] h Q) ∧
    (∀ (d : Nat) (l0 : Value) (l1 : Value) (l2 : Value) (l3 : Value) (l4 : Value) (l5 : Value) (l6 : Value)  (h : zMm) (Q : Option Value → zMm → Prop), zWp d zi_164 none 12 [l0, l1, l2, l3, l4, l5, l6] [] h Q = zWp d zi_164 none 13 [l0, l1, l2, l3, l4, l5, l6] [.int (-1)] h Q) ∧
    (∀ (d : Nat) (l0 : Value) (l1 : Value) (l2 : Value) (l3 : Value) (l4 : Value) (l5 : Value) (l6 : Value) (x0 : Int32) (h : zMm) (Q : Option Value → zMm → Prop), zWp d zi_164 none 13 [l0, l1, l2, l3, l4, l5, l6] [.int x0] h Q = Q (some (.int x0)) h) ∧
    (∀ (d : Nat) (l0 : Nat) (l1 : Value) (l2 : Value) (l3 : Value) (l4 : Value) (l5 : Value) (l6 : Value)  (h : zMm) (Q : Option Value → zMm → Prop), zWp d zi_164 none 14 [.ref l0, l1, l2, l3, l4, l5, l6] [] h Q = zWp d zi_164 none 15 [.ref l0, l1, l2, l3, l4, l5, l6] [.ref l0] h Q) ∧
    (∀ (d : Nat) (l0 : Value) (l1 : Value) (l2 : Value) (l3 : Value) (l4 : Value) (l5 : Value) (l6 : Value) (x0 : Nat) (I : Nat → Nat → Int32) (L : Nat → Nat → Int64) (P : Nat → Nat → Option Nat) (Q : Option Value → zMm → Prop), zSH[x0]? = some (.inl 10) → zWp d zi_164 none 15 [l0, l1, l2, l3, l4, l5, l6] [.ref x0] (zSH, I, L, P) Q = zWp d zi_164 none 18 [l0, l1, l2, l3, l4, l5, l6] [va_rf (P x0 0)] (zSH, I, L, P) Q) ∧
    (∀ (d : Nat) (l0 : Value) (l1 : Value) (l2 : Value) (l3 : Value) (l4 : Value) (l5 : Value) (l6 : Value) (x0 : Nat) (h : zMm) (Q : Option Value → zMm → Prop), zWp d zi_164 none 18 [l0, l1, l2, l3, l4, l5, l6] [.ref x0] h Q = zWp d zi_164 none 20 [l0, l1, l2, l3, l4, l5, l6] [.int 72, .ref x0] h Q) ∧
    (∀ (d : Nat) (l0 : Value) (l1 : Value) (l2 : Value) (l3 : Value) (l4 : Value) (l5 : Value) (l6 : Value) (x1 : Int32) (x0 : Nat) (I : Nat → Nat → Int32) (L : Nat → Nat → Int64) (P : Nat → Nat → Option Nat) (Q : Option Value → zMm → Prop), zAk zSH x0 = some .int → zWp d zi_164 none 20 [l0, l1, l2, l3, l4, l5, l6] [.int x1, .ref x0] (zSH, I, L, P) Q = (vp_in x1 (zAn zSH x0) ∧ zWp d zi_164 none 21 [l0, l1, l2, l3, l4, l5, l6] [.int (I x0 x1.toNatClampNeg)] (zSH, I, L, P) Q)) ∧
    (∀ (d : Nat) (l0 : Value) (l1 : Int32) (l2 : Value) (l3 : Value) (l4 : Value) (l5 : Value) (l6 : Value) (x0 : Int32) (h : zMm) (Q : Option Value → zMm → Prop), zWp d zi_164 none 21 [l0, .int l1, l2, l3, l4, l5, l6] [.int x0] h Q = zWp d zi_164 none 22 [l0, .int l1, .int x0, l3, l4, l5, l6] [] h Q) ∧
    (∀ (d : Nat) (l0 : Nat) (l1 : Value) (l2 : Value) (l3 : Value) (l4 : Value) (l5 : Value) (l6 : Value)  (h : zMm) (Q : Option Value → zMm → Prop), zWp d zi_164 none 22 [.ref l0, l1, l2, l3, l4, l5, l6] [] h Q = zWp d zi_164 none 23 [.ref l0, l1, l2, l3, l4, l5, l6] [.ref l0] h Q) ∧
    (∀ (d : Nat) (l0 : Value) (l1 : Value) (l2 : Value) (l3 : Value) (l4 : Value) (l5 : Value) (l6 : Value) (x0 : Nat) (I : Nat → Nat → Int32) (L : Nat → Nat → Int64) (P : Nat → Nat → Option Nat) (Q : Option Value → zMm → Prop), zSH[x0]? = some (.inl 10) → zWp d zi_164 none 23 [l0, l1, l2, l3, l4, l5, l6] [.ref x0] (zSH, I, L, P) Q = zWp d zi_164 none 26 [l0, l1, l2, l3, l4, l5, l6] [va_rf (P x0 0)] (zSH, I, L, P) Q) ∧
    (∀ (d : Nat) (l0 : Value) (l1 : Value) (l2 : Value) (l3 : Value) (l4 : Value) (l5 : Value) (l6 : Value) (x0 : Nat) (h : zMm) (Q : Option Value → zMm → Prop), zWp d zi_164 none 26 [l0, l1, l2, l3, l4, l5, l6] [.ref x0] h Q = zWp d zi_164 none 28 [l0, l1, l2, l3, l4, l5, l6] [.int 73, .ref x0] h Q) ∧
    (∀ (d : Nat) (l0 : Value) (l1 : Value) (l2 : Value) (l3 : Value) (l4 : Value) (l5 : Value) (l6 : Value) (x1 : Int32) (x0 : Nat) (I : Nat → Nat → Int32) (L : Nat → Nat → Int64) (P : Nat → Nat → Option Nat) (Q : Option Value → zMm → Prop), zAk zSH x0 = some .int → zWp d zi_164 none 28 [l0, l1, l2, l3, l4, l5, l6] [.int x1, .ref x0] (zSH, I, L, P) Q = (vp_in x1 (zAn zSH x0) ∧ zWp d zi_164 none 29 [l0, l1, l2, l3, l4, l5, l6] [.int (I x0 x1.toNatClampNeg)] (zSH, I, L, P) Q)) ∧
    (∀ (d : Nat) (l0 : Value) (l1 : Value) (l2 : Int32) (l3 : Value) (l4 : Value) (l5 : Value) (l6 : Value) (x0 : Int32) (h : zMm) (Q : Option Value → zMm → Prop), zWp d zi_164 none 29 [l0, l1, .int l2, l3, l4, l5, l6] [.int x0] h Q = zWp d zi_164 none 30 [l0, l1, .int l2, .int x0, l4, l5, l6] [] h Q) ∧
    (∀ (d : Nat) (l0 : Nat) (l1 : Value) (l2 : Value) (l3 : Value) (l4 : Value) (l5 : Value) (l6 : Value)  (h : zMm) (Q : Option Value → zMm → Prop), zWp d zi_164 none 30 [.ref l0, l1, l2, l3, l4, l5, l6] [] h Q = zWp d zi_164 none 31 [.ref l0, l1, l2, l3, l4, l5, l6] [.ref l0] h Q) ∧
    (∀ (d : Nat) (l0 : Value) (l1 : Value) (l2 : Value) (l3 : Value) (l4 : Value) (l5 : Value) (l6 : Value) (x0 : Nat) (I : Nat → Nat → Int32) (L : Nat → Nat → Int64) (P : Nat → Nat → Option Nat) (Q : Option Value → zMm → Prop), zSH[x0]? = some (.inl 10) → zWp d zi_164 none 31 [l0, l1, l2, l3, l4, l5, l6] [.ref x0] (zSH, I, L, P) Q = zWM d 158 [.ref x0] (zSH, I, L, P) (fun r h1 => zWp d zi_164 none 34 [l0, l1, l2, l3, l4, l5, l6] (r.toList ++ []) h1 Q)) ∧
    (∀ (d : Nat) (l0 : Value) (l1 : Value) (l2 : Value) (l3 : Value) (l4 : Value) (l5 : Value) (l6 : Value)  (h : zMm) (Q : Option Value → zMm → Prop), zWp d zi_164 none 34 [l0, l1, l2, l3, l4, l5, l6] [] h Q = zWp d zi_164 none 36 [l0, l1, l2, l3, l4, l5, l6] [.int (-2)] h Q) ∧
    (∀ (d : Nat) (l0 : Value) (l1 : Value) (l2 : Value) (l3 : Int32) (l4 : Value) (l5 : Value) (l6 : Value) (x0 : Int32) (h : zMm) (Q : Option Value → zMm → Prop), zWp d zi_164 none 36 [l0, l1, l2, .int l3, l4, l5, l6] [.int x0] h Q = zWp d zi_164 none 38 [l0, l1, l2, .int l3, .int x0, l5, l6] [] h Q) ∧
    (∀ (d : Nat) (l0 : Value) (l1 : Value) (l2 : Value) (l3 : Value) (l4 : Value) (l5 : Value) (l6 : Value)  (h : zMm) (Q : Option Value → zMm → Prop), zWp d zi_164 none 38 [l0, l1, l2, l3, l4, l5, l6] [] h Q = zWp d zi_164 none 39 [l0, l1, l2, l3, l4, l5, l6] [.int 0] h Q) ∧
    (∀ (d : Nat) (l0 : Value) (l1 : Value) (l2 : Value) (l3 : Value) (l4 : Int32) (l5 : Value) (l6 : Value) (x0 : Int32) (h : zMm) (Q : Option Value → zMm → Prop), zWp d zi_164 none 39 [l0, l1, l2, l3, .int l4, l5, l6] [.int x0] h Q = zWp d zi_164 none 41 [l0, l1, l2, l3, .int l4, .int x0, l6] [] h Q) ∧
    (∀ (d : Nat) (l0 : Value) (l1 : Value) (l2 : Value) (l3 : Value) (l4 : Value) (l5 : Value) (l6 : Value) (x0 : Int32) (h : zMm) (Q : Option Value → zMm → Prop), zWp d zi_164 none 43 [l0, l1, l2, l3, l4, l5, l6] [.int x0] h Q = zWp d zi_164 none 45 [l0, l1, l2, l3, l4, l5, l6] [.int 99, .int x0] h Q) ∧
    (∀ (d : Nat) (l0 : Value) (l1 : Value) (l2 : Value) (l3 : Value) (l4 : Value) (l5 : Value) (l6 : Value) (x1 : Int32) (x0 : Int32) (h : zMm) (Q : Option Value → zMm → Prop), zWp d zi_164 none 45 [l0, l1, l2, l3, l4, l5, l6] [.int x1, .int x0] h Q = if x1 < x0 then zWp d zi_164 none 129 [l0, l1, l2, l3, l4, l5, l6] [] h Q else zWp d zi_164 none 48 [l0, l1, l2, l3, l4, l5, l6] [] h Q) ∧
    (∀ (d : Nat) (l0 : Value) (l1 : Value) (l2 : Value) (l3 : Value) (l4 : Int32) (l5 : Value) (l6 : Value)  (h : zMm) (Q : Option Value → zMm → Prop), zWp d zi_164 none 48 [l0, l1, l2, l3, .int l4, l5, l6] [] h Q = zWp d zi_164 none 50 [l0, l1, l2, l3, .int l4, l5, l6] [.int l4] h Q) ∧
    (∀ (d : Nat) (l0 : Value) (l1 : Value) (l2 : Value) (l3 : Value) (l4 : Value) (l5 : Value) (l6 : Value) (x0 : Int32) (h : zMm) (Q : Option Value → zMm → Prop), zWp d zi_164 none 50 [l0, l1, l2, l3, l4, l5, l6] [.int x0] h Q = if 0 ≤ x0 then zWp d zi_164 none 129 [l0, l1, l2, l3, l4, l5, l6] [] h Q else zWp d zi_164 none 53 [l0, l1, l2, l3, l4, l5, l6] [] h Q) ∧
    (∀ (d : Nat) (l0 : Value) (l1 : Int32) (l2 : Value) (l3 : Value) (l4 : Value) (l5 : Value) (l6 : Value)  (h : zMm) (Q : Option Value → zMm → Prop), zWp d zi_164 none 53 [l0, .int l1, l2, l3, l4, l5, l6] [] h Q = zWp d zi_164 none 54 [l0, .int l1, l2, l3, l4, l5, l6] [.int l1] h Q) ∧
    (∀ (d : Nat) (l0 : Value) (l1 : Value) (l2 : Value) (l3 : Value) (l4 : Value) (l5 : Value) (l6 : Value) (x0 : Int32) (h : zMm) (Q : Option Value → zMm → Prop), zWp d zi_164 none 54 [l0, l1, l2, l3, l4, l5, l6] [.int x0] h Q = zWp d zi_164 none 55 [l0, l1, l2, l3, l4, l5, l6] [.int 2, .int x0] h Q) ∧
    (∀ (d : Nat) (l0 : Value) (l1 : Value) (l2 : Value) (l3 : Value) (l4 : Value) (l5 : Value) (l6 : Value) (x1 : Int32) (x0 : Int32) (h : zMm) (Q : Option Value → zMm → Prop), zWp d zi_164 none 55 [l0, l1, l2, l3, l4, l5, l6] [.int x1, .int x0] h Q = if x1 ≤ x0 then zWp d zi_164 none 63 [l0, l1, l2, l3, l4, l5, l6] [] h Q else zWp d zi_164 none 58 [l0, l1, l2, l3, l4, l5, l6] [] h Q) ∧
    (∀ (d : Nat) (l0 : Value) (l1 : Value) (l2 : Value) (l3 : Value) (l4 : Value) (l5 : Int32) (l6 : Value)  (h : zMm) (Q : Option Value → zMm → Prop), zWp d zi_164 none 58 [l0, l1, l2, l3, l4, .int l5, l6] [] h Q = zWp d zi_164 none 60 [l0, l1, l2, l3, l4, .int l5, l6] [.int l5] h Q) ∧
    (∀ (d : Nat) (l0 : Value) (l1 : Value) (l2 : Value) (l3 : Value) (l4 : Value) (l5 : Value) (l6 : Value) (x0 : Int32) (h : zMm) (Q : Option Value → zMm → Prop), zWp d zi_164 none 60 [l0, l1, l2, l3, l4, l5, l6] [.int x0] h Q = zWp d zi_164 none 66 [l0, l1, l2, l3, l4, l5, l6] [.int x0] h Q) ∧
    (∀ (d : Nat) (l0 : Value) (l1 : Value) (l2 : Value) (l3 : Value) (l4 : Value) (l5 : Int32) (l6 : Value)  (h : zMm) (Q : Option Value → zMm → Prop), zWp d zi_164 none 63 [l0, l1, l2, l3, l4, .int l5, l6] [] h Q = zWp d zi_164 none 65 [l0, l1, l2, l3, l4, .int l5, l6] [.int l5] h Q) ∧
    (∀ (d : Nat) (l0 : Value) (l1 : Value) (l2 : Value) (l3 : Value) (l4 : Value) (l5 : Value) (l6 : Value) (x0 : Int32) (h : zMm) (Q : Option Value → zMm → Prop), zWp d zi_164 none 65 [l0, l1, l2, l3, l4, l5, l6] [.int x0] h Q = zWp d zi_164 none 66 [l0, l1, l2, l3, l4, l5, l6] [.int (-x0)] h Q) ∧
    (∀ (d : Nat) (l0 : Value) (l1 : Value) (l2 : Value) (l3 : Value) (l4 : Value) (l5 : Int32) (l6 : Value) (x0 : Int32) (h : zMm) (Q : Option Value → zMm → Prop), zWp d zi_164 none 66 [l0, l1, l2, l3, l4, .int l5, l6] [.int x0] h Q = zWp d zi_164 none 68 [l0, l1, l2, l3, l4, .int l5, .int x0] [] h Q) ∧
    (∀ (d : Nat) (l0 : Nat) (l1 : Value) (l2 : Value) (l3 : Value) (l4 : Value) (l5 : Value) (l6 : Value)  (h : zMm) (Q : Option Value → zMm → Prop), zWp d zi_164 none 68 [.ref l0, l1, l2, l3, l4, l5, l6] [] h Q = zWp d zi_164 none 69 [.ref l0, l1, l2, l3, l4, l5, l6] [.ref l0] h Q) ∧
    (∀ (d : Nat) (l0 : Value) (l1 : Value) (l2 : Value) (l3 : Value) (l4 : Value) (l5 : Value) (l6 : Value) (x0 : Nat) (I : Nat → Nat → Int32) (L : Nat → Nat → Int64) (P : Nat → Nat → Option Nat) (Q : Option Value → zMm → Prop), zSH[x0]? = some (.inl 10) → zWp d zi_164 none 69 [l0, l1, l2, l3, l4, l5, l6] [.ref x0] (zSH, I, L, P) Q = zWp d zi_164 none 72 [l0, l1, l2, l3, l4, l5, l6] [va_rf (P x0 0)] (zSH, I, L, P) Q) ∧
    (∀ (d : Nat) (l0 : Value) (l1 : Value) (l2 : Value) (l3 : Value) (l4 : Value) (l5 : Value) (l6 : Value) (x0 : Nat) (h : zMm) (Q : Option Value → zMm → Prop), zWp d zi_164 none 72 [l0, l1, l2, l3, l4, l5, l6] [.ref x0] h Q = zWp d zi_164 none 74 [l0, l1, l2, l3, l4, l5, l6] [.int 72, .ref x0] h Q) ∧
    (∀ (d : Nat) (l0 : Value) (l1 : Int32) (l2 : Value) (l3 : Value) (l4 : Value) (l5 : Value) (l6 : Value) (x1 : Int32) (x0 : Nat) (h : zMm) (Q : Option Value → zMm → Prop), zWp d zi_164 none 74 [l0, .int l1, l2, l3, l4, l5, l6] [.int x1, .ref x0] h Q = zWp d zi_164 none 75 [l0, .int l1, l2, l3, l4, l5, l6] [.int l1, .int x1, .ref x0] h Q) ∧
    (∀ (d : Nat) (l0 : Value) (l1 : Value) (l2 : Value) (l3 : Value) (l4 : Value) (l5 : Value) (l6 : Value) (x2 : Int32) (x1 : Int32) (x0 : Nat) (h : zMm) (Q : Option Value → zMm → Prop), zWp d zi_164 none 75 [l0, l1, l2, l3, l4, l5, l6] [.int x2, .int x1, .ref x0] h Q = zWp d zi_164 none 76 [l0, l1, l2, l3, l4, l5, l6] [.int 2, .int x2, .int x1, .ref x0] h Q) ∧
    (∀ (d : Nat) (l0 : Value) (l1 : Value) (l2 : Value) (l3 : Value) (l4 : Value) (l5 : Value) (l6 : Value) (x3 : Int32) (x2 : Int32) (x1 : Int32) (x0 : Nat) (h : zMm) (Q : Option Value → zMm → Prop), zWp d zi_164 none 76 [l0, l1, l2, l3, l4, l5, l6] [.int x3, .int x2, .int x1, .ref x0] h Q = (¬ x3 = 0 ∧ zWp d zi_164 none 77 [l0, l1, l2, l3, l4, l5, l6] [.int (x2 - x2 / x3 * x3), .int x1, .ref x0] h Q)) ∧
    (∀ (d : Nat) (l0 : Value) (l1 : Value) (l2 : Value) (l3 : Value) (l4 : Value) (l5 : Value) (l6 : Value) (x2 : Int32) (x1 : Int32) (x0 : Nat) (h : zMm) (Q : Option Value → zMm → Prop), zWp d zi_164 none 77 [l0, l1, l2, l3, l4, l5, l6] [.int x2, .int x1, .ref x0] h Q = if x2 = 0 then zWp d zi_164 none 80 [l0, l1, l2, l3, l4, l5, l6] [.int x1, .ref x0] h Q else zWp d zi_164 none 85 [l0, l1, l2, l3, l4, l5, l6] [.int x1, .ref x0] h Q) ∧
    (∀ (d : Nat) (l0 : Value) (l1 : Value) (l2 : Value) (l3 : Value) (l4 : Value) (l5 : Value) (l6 : Int32) (x1 : Int32) (x0 : Nat) (h : zMm) (Q : Option Value → zMm → Prop), zWp d zi_164 none 80 [l0, l1, l2, l3, l4, l5, .int l6] [.int x1, .ref x0] h Q = zWp d zi_164 none 82 [l0, l1, l2, l3, l4, l5, .int l6] [.int l6, .int x1, .ref x0] h Q) ∧
    (∀ (d : Nat) (l0 : Value) (l1 : Value) (l2 : Value) (l3 : Value) (l4 : Value) (l5 : Value) (l6 : Value) (x2 : Int32) (x1 : Int32) (x0 : Nat) (h : zMm) (Q : Option Value → zMm → Prop), zWp d zi_164 none 82 [l0, l1, l2, l3, l4, l5, l6] [.int x2, .int x1, .ref x0] h Q = zWp d zi_164 none 86 [l0, l1, l2, l3, l4, l5, l6] [.int x2, .int x1, .ref x0] h Q) ∧
    (∀ (d : Nat) (l0 : Value) (l1 : Value) (l2 : Value) (l3 : Value) (l4 : Value) (l5 : Value) (l6 : Value) (x1 : Int32) (x0 : Nat) (h : zMm) (Q : Option Value → zMm → Prop), zWp d zi_164 none 85 [l0, l1, l2, l3, l4, l5, l6] [.int x1, .ref x0] h Q = zWp d zi_164 none 86 [l0, l1, l2, l3, l4, l5, l6] [.int 0, .int x1, .ref x0] h Q) ∧
    (∀ (d : Nat) (l0 : Value) (l1 : Value) (l2 : Value) (l3 : Value) (l4 : Value) (l5 : Value) (l6 : Value) (x2 : Int32) (x1 : Int32) (x0 : Nat) (I : Nat → Nat → Int32) (L : Nat → Nat → Int64) (P : Nat → Nat → Option Nat) (Q : Option Value → zMm → Prop), zAk zSH x0 = some .int → zWp d zi_164 none 86 [l0, l1, l2, l3, l4, l5, l6] [.int x2, .int x1, .ref x0] (zSH, I, L, P) Q = (vp_in x1 (zAn zSH x0) ∧ zWp d zi_164 none 87 [l0, l1, l2, l3, l4, l5, l6] [] (zSH, zw I x0 (upd (I x0) x1.toNatClampNeg x2), L, P) Q)) ∧
    (∀ (d : Nat) (l0 : Nat) (l1 : Value) (l2 : Value) (l3 : Value) (l4 : Value) (l5 : Value) (l6 : Value)  (h : zMm) (Q : Option Value → zMm → Prop), zWp d zi_164 none 87 [.ref l0, l1, l2, l3, l4, l5, l6] [] h Q = zWp d zi_164 none 88 [.ref l0, l1, l2, l3, l4, l5, l6] [.ref l0] h Q) ∧
    (∀ (d : Nat) (l0 : Value) (l1 : Value) (l2 : Value) (l3 : Value) (l4 : Value) (l5 : Value) (l6 : Value) (x0 : Nat) (I : Nat → Nat → Int32) (L : Nat → Nat → Int64) (P : Nat → Nat → Option Nat) (Q : Option Value → zMm → Prop), zSH[x0]? = some (.inl 10) → zWp d zi_164 none 88 [l0, l1, l2, l3, l4, l5, l6] [.ref x0] (zSH, I, L, P) Q = zWp d zi_164 none 91 [l0, l1, l2, l3, l4, l5, l6] [va_rf (P x0 0)] (zSH, I, L, P) Q) ∧
    (∀ (d : Nat) (l0 : Value) (l1 : Value) (l2 : Value) (l3 : Value) (l4 : Value) (l5 : Value) (l6 : Value) (x0 : Nat) (h : zMm) (Q : Option Value → zMm → Prop), zWp d zi_164 none 91 [l0, l1, l2, l3, l4, l5, l6] [.ref x0] h Q = zWp d zi_164 none 93 [l0, l1, l2, l3, l4, l5, l6] [.int 73, .ref x0] h Q) ∧
    (∀ (d : Nat) (l0 : Value) (l1 : Int32) (l2 : Value) (l3 : Value) (l4 : Value) (l5 : Value) (l6 : Value) (x1 : Int32) (x0 : Nat) (h : zMm) (Q : Option Value → zMm → Prop), zWp d zi_164 none 93 [l0, .int l1, l2, l3, l4, l5, l6] [.int x1, .ref x0] h Q = zWp d zi_164 none 94 [l0, .int l1, l2, l3, l4, l5, l6] [.int l1, .int x1, .ref x0] h Q) ∧
    (∀ (d : Nat) (l0 : Value) (l1 : Value) (l2 : Value) (l3 : Value) (l4 : Value) (l5 : Value) (l6 : Value) (x2 : Int32) (x1 : Int32) (x0 : Nat) (h : zMm) (Q : Option Value → zMm → Prop), zWp d zi_164 none 94 [l0, l1, l2, l3, l4, l5, l6] [.int x2, .int x1, .ref x0] h Q = zWp d zi_164 none 95 [l0, l1, l2, l3, l4, l5, l6] [.int 2, .int x2, .int x1, .ref x0] h Q) ∧
    (∀ (d : Nat) (l0 : Value) (l1 : Value) (l2 : Value) (l3 : Value) (l4 : Value) (l5 : Value) (l6 : Value) (x3 : Int32) (x2 : Int32) (x1 : Int32) (x0 : Nat) (h : zMm) (Q : Option Value → zMm → Prop), zWp d zi_164 none 95 [l0, l1, l2, l3, l4, l5, l6] [.int x3, .int x2, .int x1, .ref x0] h Q = (¬ x3 = 0 ∧ zWp d zi_164 none 96 [l0, l1, l2, l3, l4, l5, l6] [.int (x2 - x2 / x3 * x3), .int x1, .ref x0] h Q)) ∧
    (∀ (d : Nat) (l0 : Value) (l1 : Value) (l2 : Value) (l3 : Value) (l4 : Value) (l5 : Value) (l6 : Value) (x2 : Int32) (x1 : Int32) (x0 : Nat) (h : zMm) (Q : Option Value → zMm → Prop), zWp d zi_164 none 96 [l0, l1, l2, l3, l4, l5, l6] [.int x2, .int x1, .ref x0] h Q = zWp d zi_164 none 97 [l0, l1, l2, l3, l4, l5, l6] [.int 1, .int x2, .int x1, .ref x0] h Q) ∧
    (∀ (d : Nat) (l0 : Value) (l1 : Value) (l2 : Value) (l3 : Value) (l4 : Value) (l5 : Value) (l6 : Value) (x3 : Int32) (x2 : Int32) (x1 : Int32) (x0 : Nat) (h : zMm) (Q : Option Value → zMm → Prop), zWp d zi_164 none 97 [l0, l1, l2, l3, l4, l5, l6] [.int x3, .int x2, .int x1, .ref x0] h Q = if x2 = x3 then zWp d zi_164 none 100 [l0, l1, l2, l3, l4, l5, l6] [.int x1, .ref x0] h Q else zWp d zi_164 none 105 [l0, l1, l2, l3, l4, l5, l6] [.int x1, .ref x0] h Q) ∧
    (∀ (d : Nat) (l0 : Value) (l1 : Value) (l2 : Value) (l3 : Value) (l4 : Value) (l5 : Value) (l6 : Int32) (x1 : Int32) (x0 : Nat) (h : zMm) (Q : Option Value → zMm → Prop), zWp d zi_164 none 100 [l0, l1, l2, l3, l4, l5, .int l6] [.int x1, .ref x0] h Q = zWp d zi_164 none 102 [l0, l1, l2, l3, l4, l5, .int l6] [.int l6, .int x1, .ref x0] h Q) ∧
    (∀ (d : Nat) (l0 : Value) (l1 : Value) (l2 : Value) (l3 : Value) (l4 : Value) (l5 : Value) (l6 : Value) (x2 : Int32) (x1 : Int32) (x0 : Nat) (h : zMm) (Q : Option Value → zMm → Prop), zWp d zi_164 none 102 [l0, l1, l2, l3, l4, l5, l6] [.int x2, .int x1, .ref x0] h Q = zWp d zi_164 none 106 [l0, l1, l2, l3, l4, l5, l6] [.int x2, .int x1, .ref x0] h Q) ∧
    (∀ (d : Nat) (l0 : Value) (l1 : Value) (l2 : Value) (l3 : Value) (l4 : Value) (l5 : Value) (l6 : Value) (x1 : Int32) (x0 : Nat) (h : zMm) (Q : Option Value → zMm → Prop), zWp d zi_164 none 105 [l0, l1, l2, l3, l4, l5, l6] [.int x1, .ref x0] h Q = zWp d zi_164 none 106 [l0, l1, l2, l3, l4, l5, l6] [.int 0, .int x1, .ref x0] h Q) ∧
    (∀ (d : Nat) (l0 : Value) (l1 : Value) (l2 : Value) (l3 : Value) (l4 : Value) (l5 : Value) (l6 : Value) (x2 : Int32) (x1 : Int32) (x0 : Nat) (I : Nat → Nat → Int32) (L : Nat → Nat → Int64) (P : Nat → Nat → Option Nat) (Q : Option Value → zMm → Prop), zAk zSH x0 = some .int → zWp d zi_164 none 106 [l0, l1, l2, l3, l4, l5, l6] [.int x2, .int x1, .ref x0] (zSH, I, L, P) Q = (vp_in x1 (zAn zSH x0) ∧ zWp d zi_164 none 107 [l0, l1, l2, l3, l4, l5, l6] [] (zSH, zw I x0 (upd (I x0) x1.toNatClampNeg x2), L, P) Q)) ∧
    (∀ (d : Nat) (l0 : Nat) (l1 : Value) (l2 : Value) (l3 : Value) (l4 : Value) (l5 : Value) (l6 : Value)  (h : zMm) (Q : Option Value → zMm → Prop), zWp d zi_164 none 107 [.ref l0, l1, l2, l3, l4, l5, l6] [] h Q = zWp d zi_164 none 108 [.ref l0, l1, l2, l3, l4, l5, l6] [.ref l0] h Q) ∧
    (∀ (d : Nat) (l0 : Value) (l1 : Value) (l2 : Value) (l3 : Value) (l4 : Value) (l5 : Value) (l6 : Value) (x0 : Nat) (I : Nat → Nat → Int32) (L : Nat → Nat → Int64) (P : Nat → Nat → Option Nat) (Q : Option Value → zMm → Prop), zSH[x0]? = some (.inl 10) → zWp d zi_164 none 108 [l0, l1, l2, l3, l4, l5, l6] [.ref x0] (zSH, I, L, P) Q = zWM d 161 [.ref x0] (zSH, I, L, P) (fun r h1 => zWp d zi_164 none 111 [l0, l1, l2, l3, l4, l5, l6] (r.toList ++ []) h1 Q)) ∧
    (∀ (d : Nat) (l0 : Value) (l1 : Value) (l2 : Value) (l3 : Value) (l4 : Value) (l5 : Value) (l6 : Value) (x0 : Int32) (h : zMm) (Q : Option Value → zMm → Prop), zWp d zi_164 none 111 [l0, l1, l2, l3, l4, l5, l6] [.int x0] h Q = if x0 < 0 then zWp d zi_164 none 119 [l0, l1, l2, l3, l4, l5, l6] [] h Q else zWp d zi_164 none 114 [l0, l1, l2, l3, l4, l5, l6] [] h Q) ∧
    (∀ (d : Nat) (l0 : Value) (l1 : Value) (l2 : Value) (l3 : Value) (l4 : Value) (l5 : Int32) (l6 : Value)  (h : zMm) (Q : Option Value → zMm → Prop), zWp d zi_164 none 114 [l0, l1, l2, l3, l4, .int l5, l6] [] h Q = zWp d zi_164 none 116 [l0, l1, l2, l3, l4, .int l5, l6] [.int l5] h Q) ∧
    (∀ (d : Nat) (l0 : Value) (l1 : Value) (l2 : Value) (l3 : Value) (l4 : Value) (l5 : Value) (l6 : Value) (x0 : Int32) (h : zMm) (Q : Option Value → zMm → Prop), zWp d zi_164 none 116 [l0, l1, l2, l3, l4, l5, l6] [.int x0] h Q = zWp d zi_164 none 121 [l0, l1, l2, l3, l4, l5, l6] [.int x0] h Q) ∧
    (∀ (d : Nat) (l0 : Value) (l1 : Value) (l2 : Value) (l3 : Value) (l4 : Int32) (l5 : Value) (l6 : Value)  (h : zMm) (Q : Option Value → zMm → Prop), zWp d zi_164 none 119 [l0, l1, l2, l3, .int l4, l5, l6] [] h Q = zWp d zi_164 none 121 [l0, l1, l2, l3, .int l4, l5, l6] [.int l4] h Q) ∧
    (∀ (d : Nat) (l0 : Value) (l1 : Value) (l2 : Value) (l3 : Int32) (l4 : Value) (l5 : Value) (l6 : Value) (x0 : Int32) (h : zMm) (Q : Option Value → zMm → Prop), zWp d zi_164 none 121 [l0, l1, l2, .int l3, l4, l5, l6] [.int x0] h Q = zWp d zi_164 none 123 [l0, l1, l2, .int l3, .int x0, l5, l6] [] h Q) ∧
    (∀ (d : Nat) (l0 : Value) (l1 : Value) (l2 : Value) (l3 : Value) (l4 : Int32) (l5 : Int32) (l6 : Value)  (h : zMm) (Q : Option Value → zMm → Prop), zWp d zi_164 none 123 [l0, l1, l2, l3, .int l4, .int l5, l6] [] h Q = zWp d zi_164 none 126 [l0, l1, l2, l3, .int l4, .int (l5 + 1), l6] [] h Q) ∧
    (∀ (d : Nat) (l0 : Value) (l1 : Value) (l2 : Value) (l3 : Value) (l4 : Value) (l5 : Value) (l6 : Value)  (h : zMm) (Q : Option Value → zMm → Prop), zWp d zi_164 none 126 [l0, l1, l2, l3, l4, l5, l6] [] h Q = zWp d zi_164 none 41 [l0, l1, l2, l3, l4, l5, l6] [] h Q) ∧
    (∀ (d : Nat) (l0 : Nat) (l1 : Value) (l2 : Value) (l3 : Value) (l4 : Value) (l5 : Value) (l6 : Value)  (h : zMm) (Q : Option Value → zMm → Prop), zWp d zi_164 none 129 [.ref l0, l1, l2, l3, l4, l5, l6] [] h Q = zWp d zi_164 none 130 [.ref l0, l1, l2, l3, l4, l5, l6] [.ref l0] h Q) ∧
    (∀ (d : Nat) (l0 : Value) (l1 : Value) (l2 : Value) (l3 : Value) (l4 : Value) (l5 : Value) (l6 : Value) (x0 : Nat) (I : Nat → Nat → Int32) (L : Nat → Nat → Int64) (P : Nat → Nat → Option Nat) (Q : Option Value → zMm → Prop), zSH[x0]? = some (.inl 10) → zWp d zi_164 none 130 [l0, l1, l2, l3, l4, l5, l6] [.ref x0] (zSH, I, L, P) Q = zWp d zi_164 none 133 [l0, l1, l2, l3, l4, l5, l6] [va_rf (P x0 0)] (zSH, I, L, P) Q) ∧
    (∀ (d : Nat) (l0 : Value) (l1 : Value) (l2 : Value) (l3 : Value) (l4 : Value) (l5 : Value) (l6 : Value) (x0 : Nat) (h : zMm) (Q : Option Value → zMm → Prop), zWp d zi_164 none 133 [l0, l1, l2, l3, l4, l5, l6] [.ref x0] h Q = zWp d zi_164 none 135 [l0, l1, l2, l3, l4, l5, l6] [.int 72, .ref x0] h Q) ∧
    (∀ (d : Nat) (l0 : Value) (l1 : Value) (l2 : Int32) (l3 : Value) (l4 : Value) (l5 : Value) (l6 : Value) (x1 : Int32) (x0 : Nat) (h : zMm) (Q : Option Value → zMm → Prop), zWp d zi_164 none 135 [l0, l1, .int l2, l3, l4, l5, l6] [.int x1, .ref x0] h Q = zWp d zi_164 none 136 [l0, l1, .int l2, l3, l4, l5, l6] [.int l2, .int x1, .ref x0] h Q) ∧
    (∀ (d : Nat) (l0 : Value) (l1 : Value) (l2 : Value) (l3 : Value) (l4 : Value) (l5 : Value) (l6 : Value) (x2 : Int32) (x1 : Int32) (x0 : Nat) (I : Nat → Nat → Int32) (L : Nat → Nat → Int64) (P : Nat → Nat → Option Nat) (Q : Option Value → zMm → Prop), zAk zSH x0 = some .int → zWp d zi_164 none 136 [l0, l1, l2, l3, l4, l5, l6] [.int x2, .int x1, .ref x0] (zSH, I, L, P) Q = (vp_in x1 (zAn zSH x0) ∧ zWp d zi_164 none 137 [l0, l1, l2, l3, l4, l5, l6] [] (zSH, zw I x0 (upd (I x0) x1.toNatClampNeg x2), L, P) Q)) ∧
    (∀ (d : Nat) (l0 : Nat) (l1 : Value) (l2 : Value) (l3 : Value) (l4 : Value) (l5 : Value) (l6 : Value)  (h : zMm) (Q : Option Value → zMm → Prop), zWp d zi_164 none 137 [.ref l0, l1, l2, l3, l4, l5, l6] [] h Q = zWp d zi_164 none 138 [.ref l0, l1, l2, l3, l4, l5, l6] [.ref l0] h Q) ∧
    (∀ (d : Nat) (l0 : Value) (l1 : Value) (l2 : Value) (l3 : Value) (l4 : Value) (l5 : Value) (l6 : Value) (x0 : Nat) (I : Nat → Nat → Int32) (L : Nat → Nat → Int64) (P : Nat → Nat → Option Nat) (Q : Option Value → zMm → Prop), zSH[x0]? = some (.inl 10) → zWp d zi_164 none 138 [l0, l1, l2, l3, l4, l5, l6] [.ref x0] (zSH, I, L, P) Q = zWp d zi_164 none 141 [l0, l1, l2, l3, l4, l5, l6] [va_rf (P x0 0)] (zSH, I, L, P) Q) ∧
    (∀ (d : Nat) (l0 : Value) (l1 : Value) (l2 : Value) (l3 : Value) (l4 : Value) (l5 : Value) (l6 : Value) (x0 : Nat) (h : zMm) (Q : Option Value → zMm → Prop), zWp d zi_164 none 141 [l0, l1, l2, l3, l4, l5, l6] [.ref x0] h Q = zWp d zi_164 none 143 [l0, l1, l2, l3, l4, l5, l6] [.int 73, .ref x0] h Q) ∧
    (∀ (d : Nat) (l0 : Value) (l1 : Value) (l2 : Value) (l3 : Int32) (l4 : Value) (l5 : Value) (l6 : Value) (x1 : Int32) (x0 : Nat) (h : zMm) (Q : Option Value → zMm → Prop), zWp d zi_164 none 143 [l0, l1, l2, .int l3, l4, l5, l6] [.int x1, .ref x0] h Q = zWp d zi_164 none 144 [l0, l1, l2, .int l3, l4, l5, l6] [.int l3, .int x1, .ref x0] h Q) ∧
    (∀ (d : Nat) (l0 : Value) (l1 : Value) (l2 : Value) (l3 : Value) (l4 : Value) (l5 : Value) (l6 : Value) (x2 : Int32) (x1 : Int32) (x0 : Nat) (I : Nat → Nat → Int32) (L : Nat → Nat → Int64) (P : Nat → Nat → Option Nat) (Q : Option Value → zMm → Prop), zAk zSH x0 = some .int → zWp d zi_164 none 144 [l0, l1, l2, l3, l4, l5, l6] [.int x2, .int x1, .ref x0] (zSH, I, L, P) Q = (vp_in x1 (zAn zSH x0) ∧ zWp d zi_164 none 145 [l0, l1, l2, l3, l4, l5, l6] [] (zSH, zw I x0 (upd (I x0) x1.toNatClampNeg x2), L, P) Q)) ∧
    (∀ (d : Nat) (l0 : Value) (l1 : Value) (l2 : Value) (l3 : Value) (l4 : Int32) (l5 : Value) (l6 : Value)  (h : zMm) (Q : Option Value → zMm → Prop), zWp d zi_164 none 145 [l0, l1, l2, l3, .int l4, l5, l6] [] h Q = zWp d zi_164 none 147 [l0, l1, l2, l3, .int l4, l5, l6] [.int l4] h Q) ∧
    (∀ (d : Nat) (l0 : Value) (l1 : Value) (l2 : Value) (l3 : Value) (l4 : Value) (l5 : Value) (l6 : Value) (x0 : Int32) (h : zMm) (Q : Option Value → zMm → Prop), zWp d zi_164 none 147 [l0, l1, l2, l3, l4, l5, l6] [.int x0] h Q = Q (some (.int x0)) h) :=
  ⟨(fun d l0 l1 l2 l3 l4 l5 l6  h Q => zr_iload_n rfl rfl),
   (fun d l0 l1 l2 l3 l4 l5 l6 x0 h Q => zr_i2l rfl),
   (fun d l0 l1 l2 l3 l4 l5 l6 x0 h Q => zr_lconst rfl (by decide)),
   (fun d l0 l1 l2 l3 l4 l5 l6 x1 x0 h Q => zr_ldc2_w rfl lj_10_254),
   (fun d l0 l1 l2 l3 l4 l5 l6 x2 x1 x0 h Q => zr_sta (as := [.long x2, .long x1, .long x0]) (rest := []) rfl lm_10_110 (by decide) m_122 kd_122 rfl (Nat.le_of_ble_eq_true rfl)),
   (fun d l0 l1 l2 l3 l4 l5 l6 x0 h Q => zr_if_ne rfl (by decide)),
   (fun d l0 l1 l2 l3 l4 l5 l6  h Q => zr_iconst rfl (by decide)),
   (fun d l0 l1 l2 l3 l4 l5 l6 x0 h Q => zr_iret rfl rfl),
   (fun d l0 l1 l2 l3 l4 l5 l6  h Q => zr_aload_n rfl rfl),
   (fun d l0 l1 l2 l3 l4 l5 l6 x0 I L P Q p0 => zr_getQ rfl lf_10_9 (fun _ _ _ => rfl) p0),
   (fun d l0 l1 l2 l3 l4 l5 l6 x0 h Q => zr_bipush rfl (by decide)),
   (fun d l0 l1 l2 l3 l4 l5 l6 x1 x0 I L P Q p0 => zr_ald rfl p0),
   (fun d l0 l1 l2 l3 l4 l5 l6 x0 h Q => zr_istore_n (n := 2) rfl (Nat.le_of_ble_eq_true rfl) rfl),
   (fun d l0 l1 l2 l3 l4 l5 l6  h Q => zr_aload_n rfl rfl),
   (fun d l0 l1 l2 l3 l4 l5 l6 x0 I L P Q p0 => zr_getQ rfl lf_10_9 (fun _ _ _ => rfl) p0),
   (fun d l0 l1 l2 l3 l4 l5 l6 x0 h Q => zr_bipush rfl (by decide)),
   (fun d l0 l1 l2 l3 l4 l5 l6 x1 x0 I L P Q p0 => zr_ald rfl p0),
   (fun d l0 l1 l2 l3 l4 l5 l6 x0 h Q => zr_istore_n (n := 3) rfl (Nat.le_of_ble_eq_true rfl) rfl),
   (fun d l0 l1 l2 l3 l4 l5 l6  h Q => zr_aload_n rfl rfl),
   (fun d l0 l1 l2 l3 l4 l5 l6 x0 I L P Q p0 => zr_vir (as := []) (rest := []) rfl lm_10_162 m_158 kd_158 rfl (Nat.le_of_ble_eq_true rfl) p0),
   (fun d l0 l1 l2 l3 l4 l5 l6  h Q => zr_bipush rfl (by decide)),
   (fun d l0 l1 l2 l3 l4 l5 l6 x0 h Q => zr_istore (n := 4) rfl (Nat.le_of_ble_eq_true rfl) rfl),
   (fun d l0 l1 l2 l3 l4 l5 l6  h Q => zr_iconst rfl (by decide)),
   (fun d l0 l1 l2 l3 l4 l5 l6 x0 h Q => zr_istore (n := 5) rfl (Nat.le_of_ble_eq_true rfl) rfl),
   (fun d l0 l1 l2 l3 l4 l5 l6 x0 h Q => zr_bipush rfl (by decide)),
   (fun d l0 l1 l2 l3 l4 l5 l6 x1 x0 h Q => zr_ic_gt rfl (by decide)),
   (fun d l0 l1 l2 l3 l4 l5 l6  h Q => zr_iload rfl rfl),
   (fun d l0 l1 l2 l3 l4 l5 l6 x0 h Q => zr_if_ge rfl (by decide)),
   (fun d l0 l1 l2 l3 l4 l5 l6  h Q => zr_iload_n rfl rfl),
   (fun d l0 l1 l2 l3 l4 l5 l6 x0 h Q => zr_iconst rfl (by decide)),
   (fun d l0 l1 l2 l3 l4 l5 l6 x1 x0 h Q => zr_ic_ge rfl (by decide)),
   (fun d l0 l1 l2 l3 l4 l5 l6  h Q => zr_iload rfl rfl),
   (fun d l0 l1 l2 l3 l4 l5 l6 x0 h Q => zr_goto rfl (by decide)),
   (fun d l0 l1 l2 l3 l4 l5 l6  h Q => zr_iload rfl rfl),
   (fun d l0 l1 l2 l3 l4 l5 l6 x0 h Q => zr_ineg rfl),
   (fun d l0 l1 l2 l3 l4 l5 l6 x0 h Q => zr_istore (n := 6) rfl (Nat.le_of_ble_eq_true rfl) rfl),
   (fun d l0 l1 l2 l3 l4 l5 l6  h Q => zr_aload_n rfl rfl),
   (fun d l0 l1 l2 l3 l4 l5 l6 x0 I L P Q p0 => zr_getQ rfl lf_10_9 (fun _ _ _ => rfl) p0),
   (fun d l0 l1 l2 l3 l4 l5 l6 x0 h Q => zr_bipush rfl (by decide)),
   (fun d l0 l1 l2 l3 l4 l5 l6 x1 x0 h Q => zr_iload_n rfl rfl),
   (fun d l0 l1 l2 l3 l4 l5 l6 x2 x1 x0 h Q => zr_iconst rfl (by decide)),
   (fun d l0 l1 l2 l3 l4 l5 l6 x3 x2 x1 x0 h Q => zr_irem rfl),
   (fun d l0 l1 l2 l3 l4 l5 l6 x2 x1 x0 h Q => zr_if_ne rfl (by decide)),
   (fun d l0 l1 l2 l3 l4 l5 l6 x1 x0 h Q => zr_iload rfl rfl),
   (fun d l0 l1 l2 l3 l4 l5 l6 x2 x1 x0 h Q => zr_goto rfl (by decide)),
   (fun d l0 l1 l2 l3 l4 l5 l6 x1 x0 h Q => zr_iconst rfl (by decide)),
   (fun d l0 l1 l2 l3 l4 l5 l6 x2 x1 x0 I L P Q p0 => zr_ast rfl p0),
   (fun d l0 l1 l2 l3 l4 l5 l6  h Q => zr_aload_n rfl rfl),
   (fun d l0 l1 l2 l3 l4 l5 l6 x0 I L P Q p0 => zr_getQ rfl lf_10_9 (fun _ _ _ => rfl) p0),
   (fun d l0 l1 l2 l3 l4 l5 l6 x0 h Q => zr_bipush rfl (by decide)),
   (fun d l0 l1 l2 l3 l4 l5 l6 x1 x0 h Q => zr_iload_n rfl rfl),
   (fun d l0 l1 l2 l3 l4 l5 l6 x2 x1 x0 h Q => zr_iconst rfl (by decide)),
   (fun d l0 l1 l2 l3 l4 l5 l6 x3 x2 x1 x0 h Q => zr_irem rfl),
   (fun d l0 l1 l2 l3 l4 l5 l6 x2 x1 x0 h Q => zr_iconst rfl (by decide)),
   (fun d l0 l1 l2 l3 l4 l5 l6 x3 x2 x1 x0 h Q => zr_ic_ne rfl (by decide)),
   (fun d l0 l1 l2 l3 l4 l5 l6 x1 x0 h Q => zr_iload rfl rfl),
   (fun d l0 l1 l2 l3 l4 l5 l6 x2 x1 x0 h Q => zr_goto rfl (by decide)),
   (fun d l0 l1 l2 l3 l4 l5 l6 x1 x0 h Q => zr_iconst rfl (by decide)),
   (fun d l0 l1 l2 l3 l4 l5 l6 x2 x1 x0 I L P Q p0 => zr_ast rfl p0),
   (fun d l0 l1 l2 l3 l4 l5 l6  h Q => zr_aload_n rfl rfl),
   (fun d l0 l1 l2 l3 l4 l5 l6 x0 I L P Q p0 => zr_vir (as := []) (rest := []) rfl lm_10_248 m_161 kd_161 rfl (Nat.le_of_ble_eq_true rfl) p0),
   (fun d l0 l1 l2 l3 l4 l5 l6 x0 h Q => zr_if_lt rfl (by decide)),
   (fun d l0 l1 l2 l3 l4 l5 l6  h Q => zr_iload rfl rfl),
   (fun d l0 l1 l2 l3 l4 l5 l6 x0 h Q => zr_goto rfl (by decide)),
   (fun d l0 l1 l2 l3 l4 l5 l6  h Q => zr_iload rfl rfl),
   (fun d l0 l1 l2 l3 l4 l5 l6 x0 h Q => zr_istore (n := 4) rfl (Nat.le_of_ble_eq_true rfl) rfl),
   (fun d l0 l1 l2 l3 l4 l5 l6  h Q => zr_iinc (n := 5) (kc := 1) rfl rfl (Nat.le_of_ble_eq_true rfl) rfl (by decide)),
   (fun d l0 l1 l2 l3 l4 l5 l6  h Q => zr_goto rfl (by decide)),
   (fun d l0 l1 l2 l3 l4 l5 l6  h Q => zr_aload_n rfl rfl),
   (fun d l0 l1 l2 l3 l4 l5 l6 x0 I L P Q p0 => zr_getQ rfl lf_10_9 (fun _ _ _ => rfl) p0),
   (fun d l0 l1 l2 l3 l4 l5 l6 x0 h Q => zr_bipush rfl (by decide)),
   (fun d l0 l1 l2 l3 l4 l5 l6 x1 x0 h Q => zr_iload_n rfl rfl),
   (fun d l0 l1 l2 l3 l4 l5 l6 x2 x1 x0 I L P Q p0 => zr_ast rfl p0),
   (fun d l0 l1 l2 l3 l4 l5 l6  h Q => zr_aload_n rfl rfl),
   (fun d l0 l1 l2 l3 l4 l5 l6 x0 I L P Q p0 => zr_getQ rfl lf_10_9 (fun _ _ _ => rfl) p0),
   (fun d l0 l1 l2 l3 l4 l5 l6 x0 h Q => zr_bipush rfl (by decide)),
   (fun d l0 l1 l2 l3 l4 l5 l6 x1 x0 h Q => zr_iload_n rfl rfl),
   (fun d l0 l1 l2 l3 l4 l5 l6 x2 x1 x0 I L P Q p0 => zr_ast rfl p0),
   (fun d l0 l1 l2 l3 l4 l5 l6  h Q => zr_iload rfl rfl),
   (fun d l0 l1 l2 l3 l4 l5 l6 x0 h Q => zr_iret rfl rfl)⟩
theorem H_X10_topples_41 : ∀ (d : Nat) (l0 : Value) (l1 : Value) (l2 : Value) (l3 : Value) (l4 : Value) (l5 : Int32) (l6 : Value)  (h : zMm) (Q : Option Value → zMm → Prop), zWp d zi_164 none 41 [l0, l1, l2, l3, l4, .int l5, l6] [] h Q = zWp d zi_164 none 43 [l0, l1, l2, l3, l4, .int l5, l6] [.int l5] h Q := fun d l0 l1 l2 l3 l4 l5 l6  h Q => zr_iload rfl rfl
theorem E_X10_broad : ∀ (d : Nat) (a0 : Nat) (a1 : Int32) (h : zMm) (Q : Option Value → zMm → Prop), zWM (d + 1) 165 [.ref a0, .int a1] h Q = zWp d zi_165 none 0 [.ref a0, .int a1, .retAddr 0] [] h Q := fun d a0 a1 h Q => zW_M m_165 (Nat.le_of_ble_eq_true rfl) rfl
set_option maxRecDepth 100000 in
theorem R_X10_broad :
    (∀ (d : Nat) (l0 : Nat) (l1 : Value) (l2 : Value)  (h : zMm) (Q : Option Value → zMm → Prop), zWp d zi_165 none 0 [.ref l0, l1, l2] [] h Q = zWp d zi_165 none 1 [.ref l0, l1, l2] [.ref l0] h Q) ∧
    (∀ (d : Nat) (l0 : Value) (l1 : Int32) (l2 : Value) (x0 : Nat) (h : zMm) (Q : Option Value → zMm → Prop), zWp d zi_165 none 1 [l0, .int l1, l2] [.ref x0] h Q = zWp d zi_165 none 2 [l0, .int l1, l2] [.int l1, .ref x0] h Q) ∧
    (∀ (d : Nat) (l0 : Value) (l1 : Value) (l2 : Value) (x1 : Int32) (x0 : Nat) (I : Nat → Nat → Int32) (L : Nat → Nat → Int64) (P : Nat → Nat → Option Nat) (Q : Option Value → zMm → Prop), zSH[x0]? = some (.inl 10) → zWp d zi_165 none 2 [l0, l1, l2] [.int x1, .ref x0] (zSH, I, L, P) Q = zWM d 130 [.ref x0, .int x1] (zSH, I, L, P) (fun r h1 => zWp d zi_165 none 5 [l0, l1, l2] (r.toList ++ []) h1 Q)) ∧
    (∀ (d : Nat) (l0 : Value) (l1 : Value) (l2 : Value) (x0 : Int32) (h : zMm) (Q : Option Value → zMm → Prop), zWp d zi_165 none 5 [l0, l1, l2] [.int x0] h Q = if x0 = 0 then zWp d zi_165 none 8 [l0, l1, l2] [] h Q else zWp d zi_165 none 10 [l0, l1, l2] [] h Q) ∧
    (∀ (d : Nat) (l0 : Value) (l1 : Value) (l2 : Value)  (h : zMm) (Q : Option Value → zMm → Prop), zWp d zi_165 none 8 [l0, l1, l2] [] h Q = zWp d zi_165 none 9 [l0, l1, l2] [.int (-1)] h Q) ∧
    (∀ (d : Nat) (l0 : Value) (l1 : Value) (l2 : Value) (x0 : Int32) (h : zMm) (Q : Option Value → zMm → Prop), zWp d zi_165 none 9 [l0, l1, l2] [.int x0] h Q = Q (some (.int x0)) h) ∧
    (∀ (d : Nat) (l0 : Nat) (l1 : Value) (l2 : Value)  (h : zMm) (Q : Option Value → zMm → Prop), zWp d zi_165 none 10 [.ref l0, l1, l2] [] h Q = zWp d zi_165 none 11 [.ref l0, l1, l2] [.ref l0] h Q) ∧
    (∀ (d : Nat) (l0 : Value) (l1 : Value) (l2 : Value) (x0 : Nat) (I : Nat → Nat → Int32) (L : Nat → Nat → Int64) (P : Nat → Nat → Option Nat) (Q : Option Value → zMm → Prop), zSH[x0]? = some (.inl 10) → zWp d zi_165 none 11 [l0, l1, l2] [.ref x0] (zSH, I, L, P) Q = zWM d 158 [.ref x0] (zSH, I, L, P) (fun r h1 => zWp d zi_165 none 14 [l0, l1, l2] (r.toList ++ []) h1 Q)) ∧
    (∀ (d : Nat) (l0 : Value) (l1 : Value) (l2 : Value)  (h : zMm) (Q : Option Value → zMm → Prop), zWp d zi_165 none 14 [l0, l1, l2] [] h Q = zWp d zi_165 none 15 [l0, l1, l2] [.int 1] h Q) ∧
    (∀ (d : Nat) (l0 : Value) (l1 : Int32) (l2 : Value) (x0 : Int32) (h : zMm) (Q : Option Value → zMm → Prop), zWp d zi_165 none 15 [l0, .int l1, l2] [.int x0] h Q = zWp d zi_165 none 16 [l0, .int l1, .int x0] [] h Q) ∧
    (∀ (d : Nat) (l0 : Value) (l1 : Value) (l2 : Value) (x0 : Int32) (h : zMm) (Q : Option Value → zMm → Prop), zWp d zi_165 none 17 [l0, l1, l2] [.int x0] h Q = zWp d zi_165 none 19 [l0, l1, l2] [.int 9, .int x0] h Q) ∧
    (∀ (d : Nat) (l0 : Value) (l1 : Value) (l2 : Value) (x1 : Int32) (x0 : Int32) (h : zMm) (Q : Option Value → zMm → Prop), zWp d zi_165 none 19 [l0, l1, l2] [.int x1, .int x0] h Q = if x1 < x0 then zWp d zi_165 none 45 [l0, l1, l2] [] h Q else zWp d zi_165 none 22 [l0, l1, l2] [] h Q) ∧
    (∀ (d : Nat) (l0 : Nat) (l1 : Value) (l2 : Value)  (h : zMm) (Q : Option Value → zMm → Prop), zWp d zi_165 none 22 [.ref l0, l1, l2] [] h Q = zWp d zi_165 none 23 [.ref l0, l1, l2] [.ref l0] h Q) ∧
    (∀ (d : Nat) (l0 : Value) (l1 : Value) (l2 : Value) (x0 : Nat) (I : Nat → Nat → Int32) (L : Nat → Nat → Int64) (P : Nat → Nat → Option Nat) (Q : Option Value → zMm → Prop), zSH[x0]? = some (.inl 10) → zWp d zi_165 none 23 [l0, l1, l2] [.ref x0] (zSH, I, L, P) Q = zWp d zi_165 none 26 [l0, l1, l2] [va_rf (P x0 23)] (zSH, I, L, P) Q) ∧
    (∀ (d : Nat) (l0 : Value) (l1 : Int32) (l2 : Value) (x0 : Nat) (h : zMm) (Q : Option Value → zMm → Prop), zWp d zi_165 none 26 [l0, .int l1, l2] [.ref x0] h Q = zWp d zi_165 none 27 [l0, .int l1, l2] [.int l1, .ref x0] h Q) ∧
    (∀ (d : Nat) (l0 : Value) (l1 : Value) (l2 : Int32) (x1 : Int32) (x0 : Nat) (h : zMm) (Q : Option Value → zMm → Prop), zWp d zi_165 none 27 [l0, l1, .int l2] [.int x1, .ref x0] h Q = zWp d zi_165 none 28 [l0, l1, .int l2] [.int l2, .int x1, .ref x0] h Q) ∧
    (∀ (d : Nat) (l0 : Value) (l1 : Value) (l2 : Value) (x2 : Int32) (x1 : Int32) (x0 : Nat) (I : Nat → Nat → Int32) (L : Nat → Nat → Int64) (P : Nat → Nat → Option Nat) (Q : Option Value → zMm → Prop), zAk zSH x0 = some .int → zWp d zi_165 none 28 [l0, l1, l2] [.int x2, .int x1, .ref x0] (zSH, I, L, P) Q = (vp_in x1 (zAn zSH x0) ∧ zWp d zi_165 none 29 [l0, l1, l2] [] (zSH, zw I x0 (upd (I x0) x1.toNatClampNeg x2), L, P) Q)) ∧
    (∀ (d : Nat) (l0 : Nat) (l1 : Value) (l2 : Value)  (h : zMm) (Q : Option Value → zMm → Prop), zWp d zi_165 none 29 [.ref l0, l1, l2] [] h Q = zWp d zi_165 none 30 [.ref l0, l1, l2] [.ref l0] h Q) ∧
    (∀ (d : Nat) (l0 : Value) (l1 : Int32) (l2 : Value) (x0 : Nat) (h : zMm) (Q : Option Value → zMm → Prop), zWp d zi_165 none 30 [l0, .int l1, l2] [.ref x0] h Q = zWp d zi_165 none 31 [l0, .int l1, l2] [.int l1, .ref x0] h Q) ∧
    (∀ (d : Nat) (l0 : Value) (l1 : Value) (l2 : Value) (x1 : Int32) (x0 : Nat) (I : Nat → Nat → Int32) (L : Nat → Nat → Int64) (P : Nat → Nat → Option Nat) (Q : Option Value → zMm → Prop), zSH[x0]? = some (.inl 10) → zWp d zi_165 none 31 [l0, l1, l2] [.int x1, .ref x0] (zSH, I, L, P) Q = zWM d 160 [.ref x0, .int x1] (zSH, I, L, P) (fun r h1 => zWp d zi_165 none 34 [l0, l1, l2] (r.toList ++ []) h1 Q)) ∧
    (∀ (d : Nat) (l0 : Value) (l1 : Value) (l2 : Value) (x0 : Int32) (h : zMm) (Q : Option Value → zMm → Prop), zWp d zi_165 none 34 [l0, l1, l2] [.int x0] h Q = if x0 = 0 then zWp d zi_165 none 39 [l0, l1, l2] [] h Q else zWp d zi_165 none 37 [l0, l1, l2] [] h Q) ∧
    (∀ (d : Nat) (l0 : Value) (l1 : Value) (l2 : Int32)  (h : zMm) (Q : Option Value → zMm → Prop), zWp d zi_165 none 37 [l0, l1, .int l2] [] h Q = zWp d zi_165 none 38 [l0, l1, .int l2] [.int l2] h Q) ∧
    (∀ (d : Nat) (l0 : Value) (l1 : Value) (l2 : Value) (x0 : Int32) (h : zMm) (Q : Option Value → zMm → Prop), zWp d zi_165 none 38 [l0, l1, l2] [.int x0] h Q = Q (some (.int x0)) h) ∧
    (∀ (d : Nat) (l0 : Value) (l1 : Int32) (l2 : Int32)  (h : zMm) (Q : Option Value → zMm → Prop), zWp d zi_165 none 39 [l0, .int l1, .int l2] [] h Q = zWp d zi_165 none 42 [l0, .int l1, .int (l2 + 1)] [] h Q) ∧
    (∀ (d : Nat) (l0 : Value) (l1 : Value) (l2 : Value)  (h : zMm) (Q : Option Value → zMm → Prop), zWp d zi_165 none 42 [l0, l1, l2] [] h Q = zWp d zi_165 none 16 [l0, l1, l2] [] h Q) ∧
    (∀ (d : Nat) (l0 : Value) (l1 : Value) (l2 : Value)  (h : zMm) (Q : Option Value → zMm → Prop), zWp d zi_165 none 45 [l0, l1, l2] [] h Q = zWp d zi_165 none 47 [l0, l1, l2] [.int (-2)] h Q) ∧
    (∀ (d : Nat) (l0 : Value) (l1 : Value) (l2 : Value) (x0 : Int32) (h : zMm) (Q : Option Value → zMm → Prop), zWp d zi_165 none 47 [l0, l1, l2] [.int x0] h Q = Q (some (.int x0)) h) :=
  ⟨(fun d l0 l1 l2  h Q => zr_aload_n rfl rfl),
   (fun d l0 l1 l2 x0 h Q => zr_iload_n rfl rfl),
   (fun d l0 l1 l2 x1 x0 I L P Q p0 => zr_vir (as := [.int x1]) (rest := []) rfl lm_10_142 m_130 kd_130 rfl (Nat.le_of_ble_eq_true rfl) p0),
   (fun d l0 l1 l2 x0 h Q => zr_if_ne rfl (by decide)),
   (fun d l0 l1 l2  h Q => zr_iconst rfl (by decide)),
   (fun d l0 l1 l2 x0 h Q => zr_iret rfl rfl),
   (fun d l0 l1 l2  h Q => zr_aload_n rfl rfl),
   (fun d l0 l1 l2 x0 I L P Q p0 => zr_vir (as := []) (rest := []) rfl lm_10_162 m_158 kd_158 rfl (Nat.le_of_ble_eq_true rfl) p0),
   (fun d l0 l1 l2  h Q => zr_iconst rfl (by decide)),
   (fun d l0 l1 l2 x0 h Q => zr_istore_n (n := 2) rfl (Nat.le_of_ble_eq_true rfl) rfl),
   (fun d l0 l1 l2 x0 h Q => zr_bipush rfl (by decide)),
   (fun d l0 l1 l2 x1 x0 h Q => zr_ic_gt rfl (by decide)),
   (fun d l0 l1 l2  h Q => zr_aload_n rfl rfl),
   (fun d l0 l1 l2 x0 I L P Q p0 => zr_getQ rfl lf_10_40 (fun _ _ _ => rfl) p0),
   (fun d l0 l1 l2 x0 h Q => zr_iload_n rfl rfl),
   (fun d l0 l1 l2 x1 x0 h Q => zr_iload_n rfl rfl),
   (fun d l0 l1 l2 x2 x1 x0 I L P Q p0 => zr_ast rfl p0),
   (fun d l0 l1 l2  h Q => zr_aload_n rfl rfl),
   (fun d l0 l1 l2 x0 h Q => zr_iload_n rfl rfl),
   (fun d l0 l1 l2 x1 x0 I L P Q p0 => zr_vir (as := [.int x1]) (rest := []) rfl lm_10_165 m_160 kd_160 rfl (Nat.le_of_ble_eq_true rfl) p0),
   (fun d l0 l1 l2 x0 h Q => zr_if_eq rfl (by decide)),
   (fun d l0 l1 l2  h Q => zr_iload_n rfl rfl),
   (fun d l0 l1 l2 x0 h Q => zr_iret rfl rfl),
   (fun d l0 l1 l2  h Q => zr_iinc (n := 2) (kc := 1) rfl rfl (Nat.le_of_ble_eq_true rfl) rfl (by decide)),
   (fun d l0 l1 l2  h Q => zr_goto rfl (by decide)),
   (fun d l0 l1 l2  h Q => zr_bipush rfl (by decide)),
   (fun d l0 l1 l2 x0 h Q => zr_iret rfl rfl)⟩
theorem H_X10_broad_16 : ∀ (d : Nat) (l0 : Value) (l1 : Value) (l2 : Int32)  (h : zMm) (Q : Option Value → zMm → Prop), zWp d zi_165 none 16 [l0, l1, .int l2] [] h Q = zWp d zi_165 none 17 [l0, l1, .int l2] [.int l2] h Q := fun d l0 l1 l2  h Q => zr_iload_n rfl rfl
theorem E_X10_straight : ∀ (d : Nat) (a0 : Nat) (a1 : Int32) (a2 : Int32) (h : zMm) (Q : Option Value → zMm → Prop), zWM (d + 1) 166 [.ref a0, .int a1, .int a2] h Q = zWp d zi_166 none 0 [.ref a0, .int a1, .int a2, .retAddr 0, .retAddr 0, .retAddr 0, .retAddr 0, .retAddr 0, .retAddr 0, .retAddr 0, .retAddr 0] [] h Q := fun d a0 a1 a2 h Q => zW_M m_166 (Nat.le_of_ble_eq_true rfl) rfl
set_option maxRecDepth 100000 in
theorem R_X10_straight :
    (∀ (d : Nat) (l0 : Value) (l1 : Int32) (l2 : Value) (l3 : Value) (l4 : Value) (l5 : Value) (l6 : Value) (l7 : Value) (l8 : Value) (l9 : Value) (l10 : Value)  (h : zMm) (Q : Option Value → zMm → Prop), zWp d zi_166 none 0 [l0, .int l1, l2, l3, l4, l5, l6, l7, l8, l9, l10] [] h Q = zWp d zi_166 none 1 [l0, .int l1, l2, l3, l4, l5, l6, l7, l8, l9, l10] [.int l1] h Q) ∧
    (∀ (d : Nat) (l0 : Value) (l1 : Value) (l2 : Value) (l3 : Value) (l4 : Value) (l5 : Value) (l6 : Value) (l7 : Value) (l8 : Value) (l9 : Value) (l10 : Value) (x0 : Int32) (h : zMm) (Q : Option Value → zMm → Prop), zWp d zi_166 none 1 [l0, l1, l2, l3, l4, l5, l6, l7, l8, l9, l10] [.int x0] h Q = zWp d zi_166 none 2 [l0, l1, l2, l3, l4, l5, l6, l7, l8, l9, l10] [.long x0.toInt64] h Q) ∧
    (∀ (d : Nat) (l0 : Value) (l1 : Value) (l2 : Value) (l3 : Value) (l4 : Value) (l5 : Value) (l6 : Value) (l7 : Value) (l8 : Value) (l9 : Value) (l10 : Value) (x0 : Int64) (h : zMm) (Q : Option Value → zMm → Prop), zWp d zi_166 none 2 [l0, l1, l2, l3, l4, l5, l6, l7, l8, l9, l10] [.long x0] h Q = zWp d zi_166 none 3 [l0, l1, l2, l3, l4, l5, l6, l7, l8, l9, l10] [.long 1, .long x0] h Q) ∧
    (∀ (d : Nat) (l0 : Value) (l1 : Value) (l2 : Value) (l3 : Value) (l4 : Value) (l5 : Value) (l6 : Value) (l7 : Value) (l8 : Value) (l9 : Value) (l10 : Value) (x1 : Int64) (x0 : Int64) (h : zMm) (Q : Option Value → zMm → Prop), zWp d zi_166 none 3 [l0, l1, l2, l3, l4, l5, l6, l7, l8, l9, l10] [.long x1, .long x0] h Q = zWp d zi_166 none 6 [l0, l1, l2, l3, l4, l5, l6, l7, l8, l9, l10] [.long 9, .long x1, .long x0] h Q) ∧
    (∀ (d : Nat) (l0 : Value) (l1 : Value) (l2 : Value) (l3 : Value) (l4 : Value) (l5 : Value) (l6 : Value) (l7 : Value) (l8 : Value) (l9 : Value) (l10 : Value) (x2 : Int64) (x1 : Int64) (x0 : Int64) (h : zMm) (Q : Option Value → zMm → Prop), zWp d zi_166 none 6 [l0, l1, l2, l3, l4, l5, l6, l7, l8, l9, l10] [.long x2, .long x1, .long x0] h Q = zWM d 122 [.long x0, .long x1, .long x2] h (fun r h1 => zWp d zi_166 none 9 [l0, l1, l2, l3, l4, l5, l6, l7, l8, l9, l10] (r.toList ++ []) h1 Q)) ∧
    (∀ (d : Nat) (l0 : Value) (l1 : Value) (l2 : Value) (l3 : Value) (l4 : Value) (l5 : Value) (l6 : Value) (l7 : Value) (l8 : Value) (l9 : Value) (l10 : Value) (x0 : Int32) (h : zMm) (Q : Option Value → zMm → Prop), zWp d zi_166 none 9 [l0, l1, l2, l3, l4, l5, l6, l7, l8, l9, l10] [.int x0] h Q = if x0 = 0 then zWp d zi_166 none 22 [l0, l1, l2, l3, l4, l5, l6, l7, l8, l9, l10] [] h Q else zWp d zi_166 none 12 [l0, l1, l2, l3, l4, l5, l6, l7, l8, l9, l10] [] h Q) ∧
    (∀ (d : Nat) (l0 : Value) (l1 : Value) (l2 : Int32) (l3 : Value) (l4 : Value) (l5 : Value) (l6 : Value) (l7 : Value) (l8 : Value) (l9 : Value) (l10 : Value)  (h : zMm) (Q : Option Value → zMm → Prop), zWp d zi_166 none 12 [l0, l1, .int l2, l3, l4, l5, l6, l7, l8, l9, l10] [] h Q = zWp d zi_166 none 13 [l0, l1, .int l2, l3, l4, l5, l6, l7, l8, l9, l10] [.int l2] h Q) ∧
    (∀ (d : Nat) (l0 : Value) (l1 : Value) (l2 : Value) (l3 : Value) (l4 : Value) (l5 : Value) (l6 : Value) (l7 : Value) (l8 : Value) (l9 : Value) (l10 : Value) (x0 : Int32) (h : zMm) (Q : Option Value → zMm → Prop), zWp d zi_166 none 13 [l0, l1, l2, l3, l4, l5, l6, l7, l8, l9, l10] [.int x0] h Q = zWp d zi_166 none 14 [l0, l1, l2, l3, l4, l5, l6, l7, l8, l9, l10] [.long x0.toInt64] h Q) ∧
    (∀ (d : Nat) (l0 : Value) (l1 : Value) (l2 : Value) (l3 : Value) (l4 : Value) (l5 : Value) (l6 : Value) (l7 : Value) (l8 : Value) (l9 : Value) (l10 : Value) (x0 : Int64) (h : zMm) (Q : Option Value → zMm → Prop), zWp d zi_166 none 14 [l0, l1, l2, l3, l4, l5, l6, l7, l8, l9, l10] [.long x0] h Q = zWp d zi_166 none 15 [l0, l1, l2, l3, l4, l5, l6, l7, l8, l9, l10] [.long 0, .long x0] h Q) ∧
    (∀ (d : Nat) (l0 : Value) (l1 : Value) (l2 : Value) (l3 : Value) (l4 : Value) (l5 : Value) (l6 : Value) (l7 : Value) (l8 : Value) (l9 : Value) (l10 : Value) (x1 : Int64) (x0 : Int64) (h : zMm) (Q : Option Value → zMm → Prop), zWp d zi_166 none 15 [l0, l1, l2, l3, l4, l5, l6, l7, l8, l9, l10] [.long x1, .long x0] h Q = zWp d zi_166 none 16 [l0, l1, l2, l3, l4, l5, l6, l7, l8, l9, l10] [.long 1, .long x1, .long x0] h Q) ∧
    (∀ (d : Nat) (l0 : Value) (l1 : Value) (l2 : Value) (l3 : Value) (l4 : Value) (l5 : Value) (l6 : Value) (l7 : Value) (l8 : Value) (l9 : Value) (l10 : Value) (x2 : Int64) (x1 : Int64) (x0 : Int64) (h : zMm) (Q : Option Value → zMm → Prop), zWp d zi_166 none 16 [l0, l1, l2, l3, l4, l5, l6, l7, l8, l9, l10] [.long x2, .long x1, .long x0] h Q = zWM d 122 [.long x0, .long x1, .long x2] h (fun r h1 => zWp d zi_166 none 19 [l0, l1, l2, l3, l4, l5, l6, l7, l8, l9, l10] (r.toList ++ []) h1 Q)) ∧
    (∀ (d : Nat) (l0 : Value) (l1 : Value) (l2 : Value) (l3 : Value) (l4 : Value) (l5 : Value) (l6 : Value) (l7 : Value) (l8 : Value) (l9 : Value) (l10 : Value) (x0 : Int32) (h : zMm) (Q : Option Value → zMm → Prop), zWp d zi_166 none 19 [l0, l1, l2, l3, l4, l5, l6, l7, l8, l9, l10] [.int x0] h Q = if x0 = 0 then zWp d zi_166 none 22 [l0, l1, l2, l3, l4, l5, l6, l7, l8, l9, l10] [] h Q else zWp d zi_166 none 24 [l0, l1, l2, l3, l4, l5, l6, l7, l8, l9, l10] [] h Q) ∧
    (∀ (d : Nat) (l0 : Value) (l1 : Value) (l2 : Value) (l3 : Value) (l4 : Value) (l5 : Value) (l6 : Value) (l7 : Value) (l8 : Value) (l9 : Value) (l10 : Value)  (h : zMm) (Q : Option Value → zMm → Prop), zWp d zi_166 none 22 [l0, l1, l2, l3, l4, l5, l6, l7, l8, l9, l10] [] h Q = zWp d zi_166 none 23 [l0, l1, l2, l3, l4, l5, l6, l7, l8, l9, l10] [.int (-1)] h Q) ∧
    (∀ (d : Nat) (l0 : Value) (l1 : Value) (l2 : Value) (l3 : Value) (l4 : Value) (l5 : Value) (l6 : Value) (l7 : Value) (l8 : Value) (l9 : Value) (l10 : Value) (x0 : Int32) (h : zMm) (Q : Option Value → zMm → Prop), zWp d zi_166 none 23 [l0, l1, l2, l3, l4, l5, l6, l7, l8, l9, l10] [.int x0] h Q = Q (some (.int x0)) h) ∧
    (∀ (d : Nat) (l0 : Nat) (l1 : Value) (l2 : Value) (l3 : Value) (l4 : Value) (l5 : Value) (l6 : Value) (l7 : Value) (l8 : Value) (l9 : Value) (l10 : Value)  (h : zMm) (Q : Option Value → zMm → Prop), zWp d zi_166 none 24 [.ref l0, l1, l2, l3, l4, l5, l6, l7, l8, l9, l10] [] h Q = zWp d zi_166 none 25 [.ref l0, l1, l2, l3, l4, l5, l6, l7, l8, l9, l10] [.ref l0] h Q) ∧
    (∀ (d : Nat) (l0 : Value) (l1 : Value) (l2 : Value) (l3 : Value) (l4 : Value) (l5 : Value) (l6 : Value) (l7 : Value) (l8 : Value) (l9 : Value) (l10 : Value) (x0 : Nat) (I : Nat → Nat → Int32) (L : Nat → Nat → Int64) (P : Nat → Nat → Option Nat) (Q : Option Value → zMm → Prop), zSH[x0]? = some (.inl 10) → zWp d zi_166 none 25 [l0, l1, l2, l3, l4, l5, l6, l7, l8, l9, l10] [.ref x0] (zSH, I, L, P) Q = zWp d zi_166 none 28 [l0, l1, l2, l3, l4, l5, l6, l7, l8, l9, l10] [.int (I x0 6)] (zSH, I, L, P) Q) ∧
    (∀ (d : Nat) (l0 : Value) (l1 : Value) (l2 : Value) (l3 : Value) (l4 : Value) (l5 : Value) (l6 : Value) (l7 : Value) (l8 : Value) (l9 : Value) (l10 : Value) (x0 : Int32) (h : zMm) (Q : Option Value → zMm → Prop), zWp d zi_166 none 28 [l0, l1, l2, l3, l4, l5, l6, l7, l8, l9, l10] [.int x0] h Q = zWp d zi_166 none 30 [l0, l1, l2, l3, l4, l5, l6, l7, l8, l9, l10] [.int 24, .int x0] h Q) ∧
    (∀ (d : Nat) (l0 : Value) (l1 : Value) (l2 : Value) (l3 : Value) (l4 : Value) (l5 : Value) (l6 : Value) (l7 : Value) (l8 : Value) (l9 : Value) (l10 : Value) (x1 : Int32) (x0 : Int32) (h : zMm) (Q : Option Value → zMm → Prop), zWp d zi_166 none 30 [l0, l1, l2, l3, l4, l5, l6, l7, l8, l9, l10] [.int x1, .int x0] h Q = if x0 = x1 then zWp d zi_166 none 33 [l0, l1, l2, l3, l4, l5, l6, l7, l8, l9, l10] [] h Q else zWp d zi_166 none 36 [l0, l1, l2, l3, l4, l5, l6, l7, l8, l9, l10] [] h Q) ∧
    (∀ (d : Nat) (l0 : Value) (l1 : Value) (l2 : Value) (l3 : Value) (l4 : Value) (l5 : Value) (l6 : Value) (l7 : Value) (l8 : Value) (l9 : Value) (l10 : Value)  (h : zMm) (Q : Option Value → zMm → Prop), zWp d zi_166 none 33 [l0, l1, l2, l3, l4, l5, l6, l7, l8, l9, l10] [] h Q = zWp d zi_166 none 35 [l0, l1, l2, l3, l4, l5, l6, l7, l8, l9, l10] [.int (-3)] h Q) ∧
    (∀ (d : Nat) (l0 : Value) (l1 : Value) (l2 : Value) (l3 : Value) (l4 : Value) (l5 : Value) (l6 : Value) (l7 : Value) (l8 : Value) (l9 : Value) (l10 : Value) (x0 : Int32) (h : zMm) (Q : Option Value → zMm → Prop), zWp d zi_166 none 35 [l0, l1, l2, l3, l4, l5, l6, l7, l8, l9, l10] [.int x0] h Q = Q (some (.int x0)) h) ∧
    (∀ (d : Nat) (l0 : Nat) (l1 : Value) (l2 : Value) (l3 : Value) (l4 : Value) (l5 : Value) (l6 : Value) (l7 : Value) (l8 : Value) (l9 : Value) (l10 : Value)  (h : zMm) (Q : Option Value → zMm → Prop), zWp d zi_166 none 36 [.ref l0, l1, l2, l3, l4, l5, l6, l7, l8, l9, l10] [] h Q = zWp d zi_166 none 37 [.ref l0, l1, l2, l3, l4, l5, l6, l7, l8, l9, l10] [.ref l0] h Q) ∧
    (∀ (d : Nat) (l0 : Value) (l1 : Value) (l2 : Value) (l3 : Value) (l4 : Value) (l5 : Value) (l6 : Value) (l7 : Value) (l8 : Value) (l9 : Value) (l10 : Value) (x0 : Nat) (I : Nat → Nat → Int32) (L : Nat → Nat → Int64) (P : Nat → Nat → Option Nat) (Q : Option Value → zMm → Prop), zSH[x0]? = some (.inl 10) → zWp d zi_166 none 37 [l0, l1, l2, l3, l4, l5, l6, l7, l8, l9, l10] [.ref x0] (zSH, I, L, P) Q = zWp d zi_166 none 40 [l0, l1, l2, l3, l4, l5, l6, l7, l8, l9, l10] [.int (I x0 6)] (zSH, I, L, P) Q) ∧
    (∀ (d : Nat) (l0 : Value) (l1 : Value) (l2 : Value) (l3 : Value) (l4 : Value) (l5 : Value) (l6 : Value) (l7 : Value) (l8 : Value) (l9 : Value) (l10 : Value) (x0 : Int32) (h : zMm) (Q : Option Value → zMm → Prop), zWp d zi_166 none 40 [l0, l1, l2, l3, l4, l5, l6, l7, l8, l9, l10] [.int x0] h Q = if x0 = 0 then zWp d zi_166 none 43 [l0, l1, l2, l3, l4, l5, l6, l7, l8, l9, l10] [] h Q else zWp d zi_166 none 46 [l0, l1, l2, l3, l4, l5, l6, l7, l8, l9, l10] [] h Q) ∧
    (∀ (d : Nat) (l0 : Value) (l1 : Value) (l2 : Value) (l3 : Value) (l4 : Value) (l5 : Value) (l6 : Value) (l7 : Value) (l8 : Value) (l9 : Value) (l10 : Value)  (h : zMm) (Q : Option Value → zMm → Prop), zWp d zi_166 none 43 [l0, l1, l2, l3, l4, l5, l6, l7, l8, l9, l10] [] h Q = zWp d zi_166 none 45 [l0, l1, l2, l3, l4, l5, l6, l7, l8, l9, l10] [.int (-5)] h Q) ∧
    (∀ (d : Nat) (l0 : Value) (l1 : Value) (l2 : Value) (l3 : Value) (l4 : Value) (l5 : Value) (l6 : Value) (l7 : Value) (l8 : Value) (l9 : Value) (l10 : Value) (x0 : Int32) (h : zMm) (Q : Option Value → zMm → Prop), zWp d zi_166 none 45 [l0, l1, l2, l3, l4, l5, l6, l7, l8, l9, l10] [.int x0] h Q = Q (some (.int x0)) h) ∧
    (∀ (d : Nat) (l0 : Nat) (l1 : Value) (l2 : Value) (l3 : Value) (l4 : Value) (l5 : Value) (l6 : Value) (l7 : Value) (l8 : Value) (l9 : Value) (l10 : Value)  (h : zMm) (Q : Option Value → zMm → Prop), zWp d zi_166 none 46 [.ref l0, l1, l2, l3, l4, l5, l6, l7, l8, l9, l10] [] h Q = zWp d zi_166 none 47 [.ref l0, l1, l2, l3, l4, l5, l6, l7, l8, l9, l10] [.ref l0] h Q) ∧
    (∀ (d : Nat) (l0 : Value) (l1 : Value) (l2 : Value) (l3 : Value) (l4 : Value) (l5 : Value) (l6 : Value) (l7 : Value) (l8 : Value) (l9 : Value) (l10 : Value) (x0 : Nat) (I : Nat → Nat → Int32) (L : Nat → Nat → Int64) (P : Nat → Nat → Option Nat) (Q : Option Value → zMm → Prop), zSH[x0]? = some (.inl 10) → zWp d zi_166 none 47 [l0, l1, l2, l3, l4, l5, l6, l7, l8, l9, l10] [.ref x0] (zSH, I, L, P) Q = zWp d zi_166 none 50 [l0, l1, l2, l3, l4, l5, l6, l7, l8, l9, l10] [va_rf (P x0 0)] (zSH, I, L, P) Q) ∧
    (∀ (d : Nat) (l0 : Nat) (l1 : Value) (l2 : Value) (l3 : Value) (l4 : Value) (l5 : Value) (l6 : Value) (l7 : Value) (l8 : Value) (l9 : Value) (l10 : Value) (x0 : Nat) (h : zMm) (Q : Option Value → zMm → Prop), zWp d zi_166 none 50 [.ref l0, l1, l2, l3, l4, l5, l6, l7, l8, l9, l10] [.ref x0] h Q = zWp d zi_166 none 51 [.ref l0, l1, l2, l3, l4, l5, l6, l7, l8, l9, l10] [.ref l0, .ref x0] h Q) ∧
    (∀ (d : Nat) (l0 : Value) (l1 : Value) (l2 : Value) (l3 : Value) (l4 : Value) (l5 : Value) (l6 : Value) (l7 : Value) (l8 : Value) (l9 : Value) (l10 : Value) (x1 : Nat) (x0 : Nat) (I : Nat → Nat → Int32) (L : Nat → Nat → Int64) (P : Nat → Nat → Option Nat) (Q : Option Value → zMm → Prop), zSH[x1]? = some (.inl 10) → zWp d zi_166 none 51 [l0, l1, l2, l3, l4, l5, l6, l7, l8, l9, l10] [.ref x1, .ref x0] (zSH, I, L, P) Q = zWp d zi_166 none 54 [l0, l1, l2, l3, l4, l5, l6, l7, l8, l9, l10] [.int (I x1 6), .ref x0] (zSH, I, L, P) Q) ∧
    (∀ (d : Nat) (l0 : Value) (l1 : Value) (l2 : Value) (l3 : Value) (l4 : Value) (l5 : Value) (l6 : Value) (l7 : Value) (l8 : Value) (l9 : Value) (l10 : Value) (x1 : Int32) (x0 : Nat) (I : Nat → Nat → Int32) (L : Nat → Nat → Int64) (P : Nat → Nat → Option Nat) (Q : Option Value → zMm → Prop), zAk zSH x0 = some .int → zWp d zi_166 none 54 [l0, l1, l2, l3, l4, l5, l6, l7, l8, l9, l10] [.int x1, .ref x0] (zSH, I, L, P) Q = (vp_in x1 (zAn zSH x0) ∧ zWp d zi_166 none 55 [l0, l1, l2, l3, l4, l5, l6, l7, l8, l9, l10] [.int (I x0 x1.toNatClampNeg)] (zSH, I, L, P) Q)) ∧
    (∀ (d : Nat) (l0 : Value) (l1 : Value) (l2 : Int32) (l3 : Value) (l4 : Value) (l5 : Value) (l6 : Value) (l7 : Value) (l8 : Value) (l9 : Value) (l10 : Value) (x0 : Int32) (h : zMm) (Q : Option Value → zMm → Prop), zWp d zi_166 none 55 [l0, l1, .int l2, l3, l4, l5, l6, l7, l8, l9, l10] [.int x0] h Q = zWp d zi_166 none 56 [l0, l1, .int l2, .int x0, l4, l5, l6, l7, l8, l9, l10] [] h Q) ∧
    (∀ (d : Nat) (l0 : Nat) (l1 : Value) (l2 : Value) (l3 : Value) (l4 : Value) (l5 : Value) (l6 : Value) (l7 : Value) (l8 : Value) (l9 : Value) (l10 : Value)  (h : zMm) (Q : Option Value → zMm → Prop), zWp d zi_166 none 56 [.ref l0, l1, l2, l3, l4, l5, l6, l7, l8, l9, l10] [] h Q = zWp d zi_166 none 57 [.ref l0, l1, l2, l3, l4, l5, l6, l7, l8, l9, l10] [.ref l0] h Q) ∧
    (∀ (d : Nat) (l0 : Value) (l1 : Value) (l2 : Value) (l3 : Value) (l4 : Value) (l5 : Value) (l6 : Value) (l7 : Value) (l8 : Value) (l9 : Value) (l10 : Value) (x0 : Nat) (I : Nat → Nat → Int32) (L : Nat → Nat → Int64) (P : Nat → Nat → Option Nat) (Q : Option Value → zMm → Prop), zSH[x0]? = some (.inl 10) → zWp d zi_166 none 57 [l0, l1, l2, l3, l4, l5, l6, l7, l8, l9, l10] [.ref x0] (zSH, I, L, P) Q = zWp d zi_166 none 60 [l0, l1, l2, l3, l4, l5, l6, l7, l8, l9, l10] [va_rf (P x0 0)] (zSH, I, L, P) Q) ∧
    (∀ (d : Nat) (l0 : Value) (l1 : Value) (l2 : Value) (l3 : Value) (l4 : Value) (l5 : Value) (l6 : Value) (l7 : Value) (l8 : Value) (l9 : Value) (l10 : Value) (x0 : Nat) (h : zMm) (Q : Option Value → zMm → Prop), zWp d zi_166 none 60 [l0, l1, l2, l3, l4, l5, l6, l7, l8, l9, l10] [.ref x0] h Q = zWp d zi_166 none 62 [l0, l1, l2, l3, l4, l5, l6, l7, l8, l9, l10] [.int 24, .ref x0] h Q) ∧
    (∀ (d : Nat) (l0 : Nat) (l1 : Value) (l2 : Value) (l3 : Value) (l4 : Value) (l5 : Value) (l6 : Value) (l7 : Value) (l8 : Value) (l9 : Value) (l10 : Value) (x1 : Int32) (x0 : Nat) (h : zMm) (Q : Option Value → zMm → Prop), zWp d zi_166 none 62 [.ref l0, l1, l2, l3, l4, l5, l6, l7, l8, l9, l10] [.int x1, .ref x0] h Q = zWp d zi_166 none 63 [.ref l0, l1, l2, l3, l4, l5, l6, l7, l8, l9, l10] [.ref l0, .int x1, .ref x0] h Q) ∧
    (∀ (d : Nat) (l0 : Value) (l1 : Value) (l2 : Value) (l3 : Value) (l4 : Value) (l5 : Value) (l6 : Value) (l7 : Value) (l8 : Value) (l9 : Value) (l10 : Value) (x2 : Nat) (x1 : Int32) (x0 : Nat) (I : Nat → Nat → Int32) (L : Nat → Nat → Int64) (P : Nat → Nat → Option Nat) (Q : Option Value → zMm → Prop), zSH[x2]? = some (.inl 10) → zWp d zi_166 none 63 [l0, l1, l2, l3, l4, l5, l6, l7, l8, l9, l10] [.ref x2, .int x1, .ref x0] (zSH, I, L, P) Q = zWp d zi_166 none 66 [l0, l1, l2, l3, l4, l5, l6, l7, l8, l9, l10] [.int (I x2 6), .int x1, .ref x0] (zSH, I, L, P) Q) ∧
    (∀ (d : Nat) (l0 : Value) (l1 : Value) (l2 : Value) (l3 : Value) (l4 : Value) (l5 : Value) (l6 : Value) (l7 : Value) (l8 : Value) (l9 : Value) (l10 : Value) (x2 : Int32) (x1 : Int32) (x0 : Nat) (h : zMm) (Q : Option Value → zMm → Prop), zWp d zi_166 none 66 [l0, l1, l2, l3, l4, l5, l6, l7, l8, l9, l10] [.int x2, .int x1, .ref x0] h Q = zWp d zi_166 none 67 [l0, l1, l2, l3, l4, l5, l6, l7, l8, l9, l10] [.int (x1 + x2), .ref x0] h Q) ∧
    (∀ (d : Nat) (l0 : Value) (l1 : Value) (l2 : Value) (l3 : Value) (l4 : Value) (l5 : Value) (l6 : Value) (l7 : Value) (l8 : Value) (l9 : Value) (l10 : Value) (x1 : Int32) (x0 : Nat) (I : Nat → Nat → Int32) (L : Nat → Nat → Int64) (P : Nat → Nat → Option Nat) (Q : Option Value → zMm → Prop), zAk zSH x0 = some .int → zWp d zi_166 none 67 [l0, l1, l2, l3, l4, l5, l6, l7, l8, l9, l10] [.int x1, .ref x0] (zSH, I, L, P) Q = (vp_in x1 (zAn zSH x0) ∧ zWp d zi_166 none 68 [l0, l1, l2, l3, l4, l5, l6, l7, l8, l9, l10] [.int (I x0 x1.toNatClampNeg)] (zSH, I, L, P) Q)) ∧
    (∀ (d : Nat) (l0 : Value) (l1 : Value) (l2 : Value) (l3 : Int32) (l4 : Value) (l5 : Value) (l6 : Value) (l7 : Value) (l8 : Value) (l9 : Value) (l10 : Value) (x0 : Int32) (h : zMm) (Q : Option Value → zMm → Prop), zWp d zi_166 none 68 [l0, l1, l2, .int l3, l4, l5, l6, l7, l8, l9, l10] [.int x0] h Q = zWp d zi_166 none 70 [l0, l1, l2, .int l3, .int x0, l5, l6, l7, l8, l9, l10] [] h Q) ∧
    (∀ (d : Nat) (l0 : Nat) (l1 : Value) (l2 : Value) (l3 : Value) (l4 : Value) (l5 : Value) (l6 : Value) (l7 : Value) (l8 : Value) (l9 : Value) (l10 : Value)  (h : zMm) (Q : Option Value → zMm → Prop), zWp d zi_166 none 70 [.ref l0, l1, l2, l3, l4, l5, l6, l7, l8, l9, l10] [] h Q = zWp d zi_166 none 71 [.ref l0, l1, l2, l3, l4, l5, l6, l7, l8, l9, l10] [.ref l0] h Q) ∧
    (∀ (d : Nat) (l0 : Value) (l1 : Value) (l2 : Value) (l3 : Value) (l4 : Value) (l5 : Value) (l6 : Value) (l7 : Value) (l8 : Value) (l9 : Value) (l10 : Value) (x0 : Nat) (I : Nat → Nat → Int32) (L : Nat → Nat → Int64) (P : Nat → Nat → Option Nat) (Q : Option Value → zMm → Prop), zSH[x0]? = some (.inl 10) → zWp d zi_166 none 71 [l0, l1, l2, l3, l4, l5, l6, l7, l8, l9, l10] [.ref x0] (zSH, I, L, P) Q = zWM d 158 [.ref x0] (zSH, I, L, P) (fun r h1 => zWp d zi_166 none 74 [l0, l1, l2, l3, l4, l5, l6, l7, l8, l9, l10] (r.toList ++ []) h1 Q)) ∧
    (∀ (d : Nat) (l0 : Nat) (l1 : Value) (l2 : Value) (l3 : Value) (l4 : Value) (l5 : Value) (l6 : Value) (l7 : Value) (l8 : Value) (l9 : Value) (l10 : Value)  (h : zMm) (Q : Option Value → zMm → Prop), zWp d zi_166 none 74 [.ref l0, l1, l2, l3, l4, l5, l6, l7, l8, l9, l10] [] h Q = zWp d zi_166 none 75 [.ref l0, l1, l2, l3, l4, l5, l6, l7, l8, l9, l10] [.ref l0] h Q) ∧
    (∀ (d : Nat) (l0 : Value) (l1 : Value) (l2 : Value) (l3 : Value) (l4 : Value) (l5 : Value) (l6 : Value) (l7 : Value) (l8 : Value) (l9 : Value) (l10 : Value) (x0 : Nat) (I : Nat → Nat → Int32) (L : Nat → Nat → Int64) (P : Nat → Nat → Option Nat) (Q : Option Value → zMm → Prop), zSH[x0]? = some (.inl 10) → zWp d zi_166 none 75 [l0, l1, l2, l3, l4, l5, l6, l7, l8, l9, l10] [.ref x0] (zSH, I, L, P) Q = zWp d zi_166 none 78 [l0, l1, l2, l3, l4, l5, l6, l7, l8, l9, l10] [va_rf (P x0 23)] (zSH, I, L, P) Q) ∧
    (∀ (d : Nat) (l0 : Nat) (l1 : Value) (l2 : Value) (l3 : Value) (l4 : Value) (l5 : Value) (l6 : Value) (l7 : Value) (l8 : Value) (l9 : Value) (l10 : Value) (x0 : Nat) (h : zMm) (Q : Option Value → zMm → Prop), zWp d zi_166 none 78 [.ref l0, l1, l2, l3, l4, l5, l6, l7, l8, l9, l10] [.ref x0] h Q = zWp d zi_166 none 79 [.ref l0, l1, l2, l3, l4, l5, l6, l7, l8, l9, l10] [.ref l0, .ref x0] h Q) ∧
    (∀ (d : Nat) (l0 : Value) (l1 : Value) (l2 : Value) (l3 : Value) (l4 : Value) (l5 : Value) (l6 : Value) (l7 : Value) (l8 : Value) (l9 : Value) (l10 : Value) (x1 : Nat) (x0 : Nat) (I : Nat → Nat → Int32) (L : Nat → Nat → Int64) (P : Nat → Nat → Option Nat) (Q : Option Value → zMm → Prop), zSH[x1]? = some (.inl 10) → zWp d zi_166 none 79 [l0, l1, l2, l3, l4, l5, l6, l7, l8, l9, l10] [.ref x1, .ref x0] (zSH, I, L, P) Q = zWp d zi_166 none 82 [l0, l1, l2, l3, l4, l5, l6, l7, l8, l9, l10] [.int (I x1 6), .ref x0] (zSH, I, L, P) Q) ∧
    (∀ (d : Nat) (l0 : Value) (l1 : Int32) (l2 : Value) (l3 : Value) (l4 : Value) (l5 : Value) (l6 : Value) (l7 : Value) (l8 : Value) (l9 : Value) (l10 : Value) (x1 : Int32) (x0 : Nat) (h : zMm) (Q : Option Value → zMm → Prop), zWp d zi_166 none 82 [l0, .int l1, l2, l3, l4, l5, l6, l7, l8, l9, l10] [.int x1, .ref x0] h Q = zWp d zi_166 none 83 [l0, .int l1, l2, l3, l4, l5, l6, l7, l8, l9, l10] [.int l1, .int x1, .ref x0] h Q) ∧
    (∀ (d : Nat) (l0 : Value) (l1 : Value) (l2 : Value) (l3 : Value) (l4 : Value) (l5 : Value) (l6 : Value) (l7 : Value) (l8 : Value) (l9 : Value) (l10 : Value) (x2 : Int32) (x1 : Int32) (x0 : Nat) (I : Nat → Nat → Int32) (L : Nat → Nat → Int64) (P : Nat → Nat → Option Nat) (Q : Option Value → zMm → Prop), zAk zSH x0 = some .int → zWp d zi_166 none 83 [l0, l1, l2, l3, l4, l5, l6, l7, l8, l9, l10] [.int x2, .int x1, .ref x0] (zSH, I, L, P) Q = (vp_in x1 (zAn zSH x0) ∧ zWp d zi_166 none 84 [l0, l1, l2, l3, l4, l5, l6, l7, l8, l9, l10] [] (zSH, zw I x0 (upd (I x0) x1.toNatClampNeg x2), L, P) Q)) ∧
    (∀ (d : Nat) (l0 : Nat) (l1 : Value) (l2 : Value) (l3 : Value) (l4 : Value) (l5 : Value) (l6 : Value) (l7 : Value) (l8 : Value) (l9 : Value) (l10 : Value)  (h : zMm) (Q : Option Value → zMm → Prop), zWp d zi_166 none 84 [.ref l0, l1, l2, l3, l4, l5, l6, l7, l8, l9, l10] [] h Q = zWp d zi_166 none 85 [.ref l0, l1, l2, l3, l4, l5, l6, l7, l8, l9, l10] [.ref l0] h Q) ∧
    (∀ (d : Nat) (l0 : Value) (l1 : Value) (l2 : Value) (l3 : Value) (l4 : Value) (l5 : Value) (l6 : Value) (l7 : Value) (l8 : Value) (l9 : Value) (l10 : Value) (x0 : Nat) (h : zMm) (Q : Option Value → zMm → Prop), zWp d zi_166 none 85 [l0, l1, l2, l3, l4, l5, l6, l7, l8, l9, l10] [.ref x0] h Q = zWp d zi_166 none 86 [l0, l1, l2, l3, l4, l5, l6, l7, l8, l9, l10] [.ref x0, .ref x0] h Q) ∧
    (∀ (d : Nat) (l0 : Value) (l1 : Value) (l2 : Value) (l3 : Value) (l4 : Value) (l5 : Value) (l6 : Value) (l7 : Value) (l8 : Value) (l9 : Value) (l10 : Value) (x1 : Nat) (x0 : Nat) (I : Nat → Nat → Int32) (L : Nat → Nat → Int64) (P : Nat → Nat → Option Nat) (Q : Option Value → zMm → Prop), zSH[x1]? = some (.inl 10) → zWp d zi_166 none 86 [l0, l1, l2, l3, l4, l5, l6, l7, l8, l9, l10] [.ref x1, .ref x0] (zSH, I, L, P) Q = zWp d zi_166 none 89 [l0, l1, l2, l3, l4, l5, l6, l7, l8, l9, l10] [.int (I x1 6), .ref x0] (zSH, I, L, P) Q) ∧
    (∀ (d : Nat) (l0 : Value) (l1 : Value) (l2 : Value) (l3 : Value) (l4 : Value) (l5 : Value) (l6 : Value) (l7 : Value) (l8 : Value) (l9 : Value) (l10 : Value) (x1 : Int32) (x0 : Nat) (h : zMm) (Q : Option Value → zMm → Prop), zWp d zi_166 none 89 [l0, l1, l2, l3, l4, l5, l6, l7, l8, l9, l10] [.int x1, .ref x0] h Q = zWp d zi_166 none 90 [l0, l1, l2, l3, l4, l5, l6, l7, l8, l9, l10] [.int 1, .int x1, .ref x0] h Q) ∧
    (∀ (d : Nat) (l0 : Value) (l1 : Value) (l2 : Value) (l3 : Value) (l4 : Value) (l5 : Value) (l6 : Value) (l7 : Value) (l8 : Value) (l9 : Value) (l10 : Value) (x2 : Int32) (x1 : Int32) (x0 : Nat) (h : zMm) (Q : Option Value → zMm → Prop), zWp d zi_166 none 90 [l0, l1, l2, l3, l4, l5, l6, l7, l8, l9, l10] [.int x2, .int x1, .ref x0] h Q = zWp d zi_166 none 91 [l0, l1, l2, l3, l4, l5, l6, l7, l8, l9, l10] [.int (x1 + x2), .ref x0] h Q) ∧
    (∀ (d : Nat) (l0 : Value) (l1 : Value) (l2 : Value) (l3 : Value) (l4 : Value) (l5 : Value) (l6 : Value) (l7 : Value) (l8 : Value) (l9 : Value) (l10 : Value) (x1 : Int32) (x0 : Nat) (I : Nat → Nat → Int32) (L : Nat → Nat → Int64) (P : Nat → Nat → Option Nat) (Q : Option Value → zMm → Prop), zSH[x0]? = some (.inl 10) → zWp d zi_166 none 91 [l0, l1, l2, l3, l4, l5, l6, l7, l8, l9, l10] [.int x1, .ref x0] (zSH, I, L, P) Q = zWp d zi_166 none 94 [l0, l1, l2, l3, l4, l5, l6, l7, l8, l9, l10] [] (zSH, zw I x0 (upd (I x0) 6 x1), L, P) Q) ∧
    (∀ (d : Nat) (l0 : Value) (l1 : Value) (l2 : Value) (l3 : Value) (l4 : Value) (l5 : Value) (l6 : Value) (l7 : Value) (l8 : Value) (l9 : Value) (l10 : Value)  (h : zMm) (Q : Option Value → zMm → Prop), zWp d zi_166 none 94 [l0, l1, l2, l3, l4, l5, l6, l7, l8, l9, l10] [] h Q = zWp d zi_166 none 96 [l0, l1, l2, l3, l4, l5, l6, l7, l8, l9, l10] [.int (-2)] h Q) ∧
    (∀ (d : Nat) (l0 : Value) (l1 : Value) (l2 : Value) (l3 : Value) (l4 : Int32) (l5 : Value) (l6 : Value) (l7 : Value) (l8 : Value) (l9 : Value) (l10 : Value) (x0 : Int32) (h : zMm) (Q : Option Value → zMm → Prop), zWp d zi_166 none 96 [l0, l1, l2, l3, .int l4, l5, l6, l7, l8, l9, l10] [.int x0] h Q = zWp d zi_166 none 98 [l0, l1, l2, l3, .int l4, .int x0, l6, l7, l8, l9, l10] [] h Q) ∧
    (∀ (d : Nat) (l0 : Value) (l1 : Value) (l2 : Value) (l3 : Value) (l4 : Value) (l5 : Value) (l6 : Value) (l7 : Value) (l8 : Value) (l9 : Value) (l10 : Value)  (h : zMm) (Q : Option Value → zMm → Prop), zWp d zi_166 none 98 [l0, l1, l2, l3, l4, l5, l6, l7, l8, l9, l10] [] h Q = zWp d zi_166 none 99 [l0, l1, l2, l3, l4, l5, l6, l7, l8, l9, l10] [.int 0] h Q) ∧
    (∀ (d : Nat) (l0 : Value) (l1 : Value) (l2 : Value) (l3 : Value) (l4 : Value) (l5 : Int32) (l6 : Value) (l7 : Value) (l8 : Value) (l9 : Value) (l10 : Value) (x0 : Int32) (h : zMm) (Q : Option Value → zMm → Prop), zWp d zi_166 none 99 [l0, l1, l2, l3, l4, .int l5, l6, l7, l8, l9, l10] [.int x0] h Q = zWp d zi_166 none 101 [l0, l1, l2, l3, l4, .int l5, .int x0, l7, l8, l9, l10] [] h Q) ∧
    (∀ (d : Nat) (l0 : Value) (l1 : Value) (l2 : Value) (l3 : Value) (l4 : Value) (l5 : Value) (l6 : Value) (l7 : Value) (l8 : Value) (l9 : Value) (l10 : Value)  (h : zMm) (Q : Option Value → zMm → Prop), zWp d zi_166 none 101 [l0, l1, l2, l3, l4, l5, l6, l7, l8, l9, l10] [] h Q = zWp d zi_166 none 102 [l0, l1, l2, l3, l4, l5, l6, l7, l8, l9, l10] [.int 0] h Q) ∧
    (∀ (d : Nat) (l0 : Value) (l1 : Value) (l2 : Value) (l3 : Value) (l4 : Value) (l5 : Value) (l6 : Int32) (l7 : Value) (l8 : Value) (l9 : Value) (l10 : Value) (x0 : Int32) (h : zMm) (Q : Option Value → zMm → Prop), zWp d zi_166 none 102 [l0, l1, l2, l3, l4, l5, .int l6, l7, l8, l9, l10] [.int x0] h Q = zWp d zi_166 none 104 [l0, l1, l2, l3, l4, l5, .int l6, .int x0, l8, l9, l10] [] h Q) ∧
    (∀ (d : Nat) (l0 : Value) (l1 : Value) (l2 : Value) (l3 : Value) (l4 : Value) (l5 : Value) (l6 : Value) (l7 : Value) (l8 : Value) (l9 : Value) (l10 : Value) (x0 : Int32) (h : zMm) (Q : Option Value → zMm → Prop), zWp d zi_166 none 106 [l0, l1, l2, l3, l4, l5, l6, l7, l8, l9, l10] [.int x0] h Q = zWp d zi_166 none 108 [l0, l1, l2, l3, l4, l5, l6, l7, l8, l9, l10] [.int 81, .int x0] h Q) ∧
    (∀ (d : Nat) (l0 : Value) (l1 : Value) (l2 : Value) (l3 : Value) (l4 : Value) (l5 : Value) (l6 : Value) (l7 : Value) (l8 : Value) (l9 : Value) (l10 : Value) (x1 : Int32) (x0 : Int32) (h : zMm) (Q : Option Value → zMm → Prop), zWp d zi_166 none 108 [l0, l1, l2, l3, l4, l5, l6, l7, l8, l9, l10] [.int x1, .int x0] h Q = if x1 ≤ x0 then zWp d zi_166 none 226 [l0, l1, l2, l3, l4, l5, l6, l7, l8, l9, l10] [] h Q else zWp d zi_166 none 111 [l0, l1, l2, l3, l4, l5, l6, l7, l8, l9, l10] [] h Q) ∧
    (∀ (d : Nat) (l0 : Nat) (l1 : Value) (l2 : Value) (l3 : Value) (l4 : Value) (l5 : Value) (l6 : Value) (l7 : Value) (l8 : Value) (l9 : Value) (l10 : Value)  (h : zMm) (Q : Option Value → zMm → Prop), zWp d zi_166 none 111 [.ref l0, l1, l2, l3, l4, l5, l6, l7, l8, l9, l10] [] h Q = zWp d zi_166 none 112 [.ref l0, l1, l2, l3, l4, l5, l6, l7, l8, l9, l10] [.ref l0] h Q) ∧
    (∀ (d : Nat) (l0 : Value) (l1 : Value) (l2 : Value) (l3 : Value) (l4 : Value) (l5 : Value) (l6 : Value) (l7 : Value) (l8 : Value) (l9 : Value) (l10 : Value) (x0 : Nat) (I : Nat → Nat → Int32) (L : Nat → Nat → Int64) (P : Nat → Nat → Option Nat) (Q : Option Value → zMm → Prop), zSH[x0]? = some (.inl 10) → zWp d zi_166 none 112 [l0, l1, l2, l3, l4, l5, l6, l7, l8, l9, l10] [.ref x0] (zSH, I, L, P) Q = zWp d zi_166 none 115 [l0, l1, l2, l3, l4, l5, l6, l7, l8, l9, l10] [va_rf (P x0 0)] (zSH, I, L, P) Q) ∧
    (∀ (d : Nat) (l0 : Nat) (l1 : Value) (l2 : Value) (l3 : Value) (l4 : Value) (l5 : Value) (l6 : Value) (l7 : Value) (l8 : Value) (l9 : Value) (l10 : Value) (x0 : Nat) (h : zMm) (Q : Option Value → zMm → Prop), zWp d zi_166 none 115 [.ref l0, l1, l2, l3, l4, l5, l6, l7, l8, l9, l10] [.ref x0] h Q = zWp d zi_166 none 116 [.ref l0, l1, l2, l3, l4, l5, l6, l7, l8, l9, l10] [.ref l0, .ref x0] h Q) ∧
    (∀ (d : Nat) (l0 : Value) (l1 : Value) (l2 : Value) (l3 : Value) (l4 : Value) (l5 : Value) (l6 : Value) (l7 : Value) (l8 : Value) (l9 : Value) (l10 : Value) (x1 : Nat) (x0 : Nat) (I : Nat → Nat → Int32) (L : Nat → Nat → Int64) (P : Nat → Nat → Option Nat) (Q : Option Value → zMm → Prop), zSH[x1]? = some (.inl 10) → zWp d zi_166 none 116 [l0, l1, l2, l3, l4, l5, l6, l7, l8, l9, l10] [.ref x1, .ref x0] (zSH, I, L, P) Q = zWp d zi_166 none 119 [l0, l1, l2, l3, l4, l5, l6, l7, l8, l9, l10] [.int (I x1 6), .ref x0] (zSH, I, L, P) Q) ∧
    (∀ (d : Nat) (l0 : Value) (l1 : Value) (l2 : Value) (l3 : Value) (l4 : Value) (l5 : Value) (l6 : Value) (l7 : Value) (l8 : Value) (l9 : Value) (l10 : Value) (x1 : Int32) (x0 : Nat) (h : zMm) (Q : Option Value → zMm → Prop), zWp d zi_166 none 119 [l0, l1, l2, l3, l4, l5, l6, l7, l8, l9, l10] [.int x1, .ref x0] h Q = zWp d zi_166 none 120 [l0, l1, l2, l3, l4, l5, l6, l7, l8, l9, l10] [.int 1, .int x1, .ref x0] h Q) ∧
    (∀ (d : Nat) (l0 : Value) (l1 : Value) (l2 : Value) (l3 : Value) (l4 : Value) (l5 : Value) (l6 : Value) (l7 : Value) (l8 : Value) (l9 : Value) (l10 : Value) (x2 : Int32) (x1 : Int32) (x0 : Nat) (h : zMm) (Q : Option Value → zMm → Prop), zWp d zi_166 none 120 [l0, l1, l2, l3, l4, l5, l6, l7, l8, l9, l10] [.int x2, .int x1, .ref x0] h Q = zWp d zi_166 none 121 [l0, l1, l2, l3, l4, l5, l6, l7, l8, l9, l10] [.int (x1 - x2), .ref x0] h Q) ∧
    (∀ (d : Nat) (l0 : Value) (l1 : Value) (l2 : Value) (l3 : Value) (l4 : Value) (l5 : Value) (l6 : Value) (l7 : Int32) (l8 : Value) (l9 : Value) (l10 : Value) (x1 : Int32) (x0 : Nat) (h : zMm) (Q : Option Value → zMm → Prop), zWp d zi_166 none 121 [l0, l1, l2, l3, l4, l5, l6, .int l7, l8, l9, l10] [.int x1, .ref x0] h Q = zWp d zi_166 none 123 [l0, l1, l2, l3, l4, l5, l6, .int l7, l8, l9, l10] [.int l7, .int x1, .ref x0] h Q) ∧
    (∀ (d : Nat) (l0 : Value) (l1 : Value) (l2 : Value) (l3 : Value) (l4 : Value) (l5 : Value) (l6 : Value) (l7 : Value) (l8 : Value) (l9 : Value) (l10 : Value) (x2 : Int32) (x1 : Int32) (x0 : Nat) (h : zMm) (Q : Option Value → zMm → Prop), zWp d zi_166 none 123 [l0, l1, l2, l3, l4, l5, l6, l7, l8, l9, l10] [.int x2, .int x1, .ref x0] h Q = zWp d zi_166 none 125 [l0, l1, l2, l3, l4, l5, l6, l7, l8, l9, l10] [.int 9, .int x2, .int x1, .ref x0] h Q) ∧
    (∀ (d : Nat) (l0 : Value) (l1 : Value) (l2 : Value) (l3 : Value) (l4 : Value) (l5 : Value) (l6 : Value) (l7 : Value) (l8 : Value) (l9 : Value) (l10 : Value) (x3 : Int32) (x2 : Int32) (x1 : Int32) (x0 : Nat) (h : zMm) (Q : Option Value → zMm → Prop), zWp d zi_166 none 125 [l0, l1, l2, l3, l4, l5, l6, l7, l8, l9, l10] [.int x3, .int x2, .int x1, .ref x0] h Q = (¬ x3 = 0 ∧ zWp d zi_166 none 126 [l0, l1, l2, l3, l4, l5, l6, l7, l8, l9, l10] [.int (x2 / x3), .int x1, .ref x0] h Q)) ∧
    (∀ (d : Nat) (l0 : Value) (l1 : Value) (l2 : Value) (l3 : Value) (l4 : Value) (l5 : Value) (l6 : Value) (l7 : Value) (l8 : Value) (l9 : Value) (l10 : Value) (x2 : Int32) (x1 : Int32) (x0 : Nat) (h : zMm) (Q : Option Value → zMm → Prop), zWp d zi_166 none 126 [l0, l1, l2, l3, l4, l5, l6, l7, l8, l9, l10] [.int x2, .int x1, .ref x0] h Q = zWp d zi_166 none 127 [l0, l1, l2, l3, l4, l5, l6, l7, l8, l9, l10] [.int 4, .int x2, .int x1, .ref x0] h Q) ∧
    (∀ (d : Nat) (l0 : Value) (l1 : Value) (l2 : Value) (l3 : Value) (l4 : Value) (l5 : Value) (l6 : Value) (l7 : Value) (l8 : Value) (l9 : Value) (l10 : Value) (x3 : Int32) (x2 : Int32) (x1 : Int32) (x0 : Nat) (h : zMm) (Q : Option Value → zMm → Prop), zWp d zi_166 none 127 [l0, l1, l2, l3, l4, l5, l6, l7, l8, l9, l10] [.int x3, .int x2, .int x1, .ref x0] h Q = zWp d zi_166 none 128 [l0, l1, l2, l3, l4, l5, l6, l7, l8, l9, l10] [.int (x2 - x3), .int x1, .ref x0] h Q) ∧
    (∀ (d : Nat) (l0 : Value) (l1 : Value) (l2 : Value) (l3 : Value) (l4 : Value) (l5 : Value) (l6 : Value) (l7 : Value) (l8 : Value) (l9 : Value) (l10 : Value) (x2 : Int32) (x1 : Int32) (x0 : Nat) (I : Nat → Nat → Int32) (L : Nat → Nat → Int64) (P : Nat → Nat → Option Nat) (Q : Option Value → zMm → Prop), zAk zSH x0 = some .int → zWp d zi_166 none 128 [l0, l1, l2, l3, l4, l5, l6, l7, l8, l9, l10] [.int x2, .int x1, .ref x0] (zSH, I, L, P) Q = (vp_in x1 (zAn zSH x0) ∧ zWp d zi_166 none 129 [l0, l1, l2, l3, l4, l5, l6, l7, l8, l9, l10] [] (zSH, zw I x0 (upd (I x0) x1.toNatClampNeg x2), L, P) Q)) ∧
    (∀ (d : Nat) (l0 : Nat) (l1 : Value) (l2 : Value) (l3 : Value) (l4 : Value) (l5 : Value) (l6 : Value) (l7 : Value) (l8 : Value) (l9 : Value) (l10 : Value)  (h : zMm) (Q : Option Value → zMm → Prop), zWp d zi_166 none 129 [.ref l0, l1, l2, l3, l4, l5, l6, l7, l8, l9, l10] [] h Q = zWp d zi_166 none 130 [.ref l0, l1, l2, l3, l4, l5, l6, l7, l8, l9, l10] [.ref l0] h Q) ∧
    (∀ (d : Nat) (l0 : Value) (l1 : Value) (l2 : Value) (l3 : Value) (l4 : Value) (l5 : Value) (l6 : Value) (l7 : Value) (l8 : Value) (l9 : Value) (l10 : Value) (x0 : Nat) (I : Nat → Nat → Int32) (L : Nat → Nat → Int64) (P : Nat → Nat → Option Nat) (Q : Option Value → zMm → Prop), zSH[x0]? = some (.inl 10) → zWp d zi_166 none 130 [l0, l1, l2, l3, l4, l5, l6, l7, l8, l9, l10] [.ref x0] (zSH, I, L, P) Q = zWp d zi_166 none 133 [l0, l1, l2, l3, l4, l5, l6, l7, l8, l9, l10] [va_rf (P x0 0)] (zSH, I, L, P) Q) ∧
    (∀ (d : Nat) (l0 : Value) (l1 : Value) (l2 : Value) (l3 : Value) (l4 : Value) (l5 : Value) (l6 : Value) (l7 : Value) (l8 : Value) (l9 : Value) (l10 : Value) (x0 : Nat) (h : zMm) (Q : Option Value → zMm → Prop), zWp d zi_166 none 133 [l0, l1, l2, l3, l4, l5, l6, l7, l8, l9, l10] [.ref x0] h Q = zWp d zi_166 none 135 [l0, l1, l2, l3, l4, l5, l6, l7, l8, l9, l10] [.int 24, .ref x0] h Q) ∧
    (∀ (d : Nat) (l0 : Nat) (l1 : Value) (l2 : Value) (l3 : Value) (l4 : Value) (l5 : Value) (l6 : Value) (l7 : Value) (l8 : Value) (l9 : Value) (l10 : Value) (x1 : Int32) (x0 : Nat) (h : zMm) (Q : Option Value → zMm → Prop), zWp d zi_166 none 135 [.ref l0, l1, l2, l3, l4, l5, l6, l7, l8, l9, l10] [.int x1, .ref x0] h Q = zWp d zi_166 none 136 [.ref l0, l1, l2, l3, l4, l5, l6, l7, l8, l9, l10] [.ref l0, .int x1, .ref x0] h Q) ∧
    (∀ (d : Nat) (l0 : Value) (l1 : Value) (l2 : Value) (l3 : Value) (l4 : Value) (l5 : Value) (l6 : Value) (l7 : Value) (l8 : Value) (l9 : Value) (l10 : Value) (x2 : Nat) (x1 : Int32) (x0 : Nat) (I : Nat → Nat → Int32) (L : Nat → Nat → Int64) (P : Nat → Nat → Option Nat) (Q : Option Value → zMm → Prop), zSH[x2]? = some (.inl 10) → zWp d zi_166 none 136 [l0, l1, l2, l3, l4, l5, l6, l7, l8, l9, l10] [.ref x2, .int x1, .ref x0] (zSH, I, L, P) Q = zWp d zi_166 none 139 [l0, l1, l2, l3, l4, l5, l6, l7, l8, l9, l10] [.int (I x2 6), .int x1, .ref x0] (zSH, I, L, P) Q) ∧
    (∀ (d : Nat) (l0 : Value) (l1 : Value) (l2 : Value) (l3 : Value) (l4 : Value) (l5 : Value) (l6 : Value) (l7 : Value) (l8 : Value) (l9 : Value) (l10 : Value) (x2 : Int32) (x1 : Int32) (x0 : Nat) (h : zMm) (Q : Option Value → zMm → Prop), zWp d zi_166 none 139 [l0, l1, l2, l3, l4, l5, l6, l7, l8, l9, l10] [.int x2, .int x1, .ref x0] h Q = zWp d zi_166 none 140 [l0, l1, l2, l3, l4, l5, l6, l7, l8, l9, l10] [.int (x1 + x2), .ref x0] h Q) ∧
    (∀ (d : Nat) (l0 : Value) (l1 : Value) (l2 : Value) (l3 : Value) (l4 : Value) (l5 : Value) (l6 : Value) (l7 : Value) (l8 : Value) (l9 : Value) (l10 : Value) (x1 : Int32) (x0 : Nat) (h : zMm) (Q : Option Value → zMm → Prop), zWp d zi_166 none 140 [l0, l1, l2, l3, l4, l5, l6, l7, l8, l9, l10] [.int x1, .ref x0] h Q = zWp d zi_166 none 141 [l0, l1, l2, l3, l4, l5, l6, l7, l8, l9, l10] [.int 1, .int x1, .ref x0] h Q) ∧
    (∀ (d : Nat) (l0 : Value) (l1 : Value) (l2 : Value) (l3 : Value) (l4 : Value) (l5 : Value) (l6 : Value) (l7 : Value) (l8 : Value) (l9 : Value) (l10 : Value) (x2 : Int32) (x1 : Int32) (x0 : Nat) (h : zMm) (Q : Option Value → zMm → Prop), zWp d zi_166 none 141 [l0, l1, l2, l3, l4, l5, l6, l7, l8, l9, l10] [.int x2, .int x1, .ref x0] h Q = zWp d zi_166 none 142 [l0, l1, l2, l3, l4, l5, l6, l7, l8, l9, l10] [.int (x1 - x2), .ref x0] h Q) ∧
    (∀ (d : Nat) (l0 : Value) (l1 : Value) (l2 : Value) (l3 : Value) (l4 : Value) (l5 : Value) (l6 : Value) (l7 : Int32) (l8 : Value) (l9 : Value) (l10 : Value) (x1 : Int32) (x0 : Nat) (h : zMm) (Q : Option Value → zMm → Prop), zWp d zi_166 none 142 [l0, l1, l2, l3, l4, l5, l6, .int l7, l8, l9, l10] [.int x1, .ref x0] h Q = zWp d zi_166 none 144 [l0, l1, l2, l3, l4, l5, l6, .int l7, l8, l9, l10] [.int l7, .int x1, .ref x0] h Q) ∧
    (∀ (d : Nat) (l0 : Value) (l1 : Value) (l2 : Value) (l3 : Value) (l4 : Value) (l5 : Value) (l6 : Value) (l7 : Value) (l8 : Value) (l9 : Value) (l10 : Value) (x2 : Int32) (x1 : Int32) (x0 : Nat) (h : zMm) (Q : Option Value → zMm → Prop), zWp d zi_166 none 144 [l0, l1, l2, l3, l4, l5, l6, l7, l8, l9, l10] [.int x2, .int x1, .ref x0] h Q = zWp d zi_166 none 146 [l0, l1, l2, l3, l4, l5, l6, l7, l8, l9, l10] [.int 9, .int x2, .int x1, .ref x0] h Q) ∧
    (∀ (d : Nat) (l0 : Value) (l1 : Value) (l2 : Value) (l3 : Value) (l4 : Value) (l5 : Value) (l6 : Value) (l7 : Value) (l8 : Value) (l9 : Value) (l10 : Value) (x3 : Int32) (x2 : Int32) (x1 : Int32) (x0 : Nat) (h : zMm) (Q : Option Value → zMm → Prop), zWp d zi_166 none 146 [l0, l1, l2, l3, l4, l5, l6, l7, l8, l9, l10] [.int x3, .int x2, .int x1, .ref x0] h Q = (¬ x3 = 0 ∧ zWp d zi_166 none 147 [l0, l1, l2, l3, l4, l5, l6, l7, l8, l9, l10] [.int (x2 - x2 / x3 * x3), .int x1, .ref x0] h Q)) ∧
    (∀ (d : Nat) (l0 : Value) (l1 : Value) (l2 : Value) (l3 : Value) (l4 : Value) (l5 : Value) (l6 : Value) (l7 : Value) (l8 : Value) (l9 : Value) (l10 : Value) (x2 : Int32) (x1 : Int32) (x0 : Nat) (h : zMm) (Q : Option Value → zMm → Prop), zWp d zi_166 none 147 [l0, l1, l2, l3, l4, l5, l6, l7, l8, l9, l10] [.int x2, .int x1, .ref x0] h Q = zWp d zi_166 none 148 [l0, l1, l2, l3, l4, l5, l6, l7, l8, l9, l10] [.int 4, .int x2, .int x1, .ref x0] h Q) ∧
    (∀ (d : Nat) (l0 : Value) (l1 : Value) (l2 : Value) (l3 : Value) (l4 : Value) (l5 : Value) (l6 : Value) (l7 : Value) (l8 : Value) (l9 : Value) (l10 : Value) (x3 : Int32) (x2 : Int32) (x1 : Int32) (x0 : Nat) (h : zMm) (Q : Option Value → zMm → Prop), zWp d zi_166 none 148 [l0, l1, l2, l3, l4, l5, l6, l7, l8, l9, l10] [.int x3, .int x2, .int x1, .ref x0] h Q = zWp d zi_166 none 149 [l0, l1, l2, l3, l4, l5, l6, l7, l8, l9, l10] [.int (x2 - x3), .int x1, .ref x0] h Q) ∧
    (∀ (d : Nat) (l0 : Value) (l1 : Value) (l2 : Value) (l3 : Value) (l4 : Value) (l5 : Value) (l6 : Value) (l7 : Value) (l8 : Value) (l9 : Value) (l10 : Value) (x2 : Int32) (x1 : Int32) (x0 : Nat) (I : Nat → Nat → Int32) (L : Nat → Nat → Int64) (P : Nat → Nat → Option Nat) (Q : Option Value → zMm → Prop), zAk zSH x0 = some .int → zWp d zi_166 none 149 [l0, l1, l2, l3, l4, l5, l6, l7, l8, l9, l10] [.int x2, .int x1, .ref x0] (zSH, I, L, P) Q = (vp_in x1 (zAn zSH x0) ∧ zWp d zi_166 none 150 [l0, l1, l2, l3, l4, l5, l6, l7, l8, l9, l10] [] (zSH, zw I x0 (upd (I x0) x1.toNatClampNeg x2), L, P) Q)) ∧
    (∀ (d : Nat) (l0 : Nat) (l1 : Value) (l2 : Value) (l3 : Value) (l4 : Value) (l5 : Value) (l6 : Value) (l7 : Value) (l8 : Value) (l9 : Value) (l10 : Value)  (h : zMm) (Q : Option Value → zMm → Prop), zWp d zi_166 none 150 [.ref l0, l1, l2, l3, l4, l5, l6, l7, l8, l9, l10] [] h Q = zWp d zi_166 none 151 [.ref l0, l1, l2, l3, l4, l5, l6, l7, l8, l9, l10] [.ref l0] h Q) ∧
    (∀ (d : Nat) (l0 : Value) (l1 : Value) (l2 : Value) (l3 : Value) (l4 : Value) (l5 : Value) (l6 : Value) (l7 : Value) (l8 : Value) (l9 : Value) (l10 : Value) (x0 : Nat) (h : zMm) (Q : Option Value → zMm → Prop), zWp d zi_166 none 151 [l0, l1, l2, l3, l4, l5, l6, l7, l8, l9, l10] [.ref x0] h Q = zWp d zi_166 none 152 [l0, l1, l2, l3, l4, l5, l6, l7, l8, l9, l10] [.int 0, .ref x0] h Q) ∧
    (∀ (d : Nat) (l0 : Value) (l1 : Value) (l2 : Value) (l3 : Value) (l4 : Value) (l5 : Value) (l6 : Value) (l7 : Value) (l8 : Value) (l9 : Value) (l10 : Value) (x1 : Int32) (x0 : Nat) (h : zMm) (Q : Option Value → zMm → Prop), zWp d zi_166 none 152 [l0, l1, l2, l3, l4, l5, l6, l7, l8, l9, l10] [.int x1, .ref x0] h Q = zWp d zi_166 none 153 [l0, l1, l2, l3, l4, l5, l6, l7, l8, l9, l10] [.int 0, .int x1, .ref x0] h Q) ∧
    (∀ (d : Nat) (l0 : Value) (l1 : Value) (l2 : Value) (l3 : Value) (l4 : Value) (l5 : Value) (l6 : Value) (l7 : Value) (l8 : Value) (l9 : Value) (l10 : Value) (x2 : Int32) (x1 : Int32) (x0 : Nat) (I : Nat → Nat → Int32) (L : Nat → Nat → Int64) (P : Nat → Nat → Option Nat) (Q : Option Value → zMm → Prop), zSH[x0]? = some (.inl 10) → zWp d zi_166 none 153 [l0, l1, l2, l3, l4, l5, l6, l7, l8, l9, l10] [.int x2, .int x1, .ref x0] (zSH, I, L, P) Q = zWM d 159 [.ref x0, .int x1, .int x2] (zSH, I, L, P) (fun r h1 => zWp d zi_166 none 156 [l0, l1, l2, l3, l4, l5, l6, l7, l8, l9, l10] (r.toList ++ []) h1 Q)) ∧
    (∀ (d : Nat) (l0 : Value) (l1 : Value) (l2 : Value) (l3 : Value) (l4 : Value) (l5 : Value) (l6 : Value) (l7 : Value) (l8 : Value) (l9 : Value) (l10 : Value) (x0 : Int32) (h : zMm) (Q : Option Value → zMm → Prop), zWp d zi_166 none 156 [l0, l1, l2, l3, l4, l5, l6, l7, l8, l9, l10] [.int x0] h Q = zWM d 123 [.int x0] h (fun r h1 => zWp d zi_166 none 159 [l0, l1, l2, l3, l4, l5, l6, l7, l8, l9, l10] (r.toList ++ []) h1 Q)) ∧
    (∀ (d : Nat) (l0 : Value) (l1 : Value) (l2 : Value) (l3 : Value) (l4 : Value) (l5 : Value) (l6 : Value) (l7 : Int32) (l8 : Value) (l9 : Value) (l10 : Value) (x0 : Int32) (h : zMm) (Q : Option Value → zMm → Prop), zWp d zi_166 none 159 [l0, l1, l2, l3, l4, l5, l6, .int l7, l8, l9, l10] [.int x0] h Q = zWp d zi_166 none 161 [l0, l1, l2, l3, l4, l5, l6, .int l7, .int x0, l9, l10] [] h Q) ∧
    (∀ (d : Nat) (l0 : Nat) (l1 : Value) (l2 : Value) (l3 : Value) (l4 : Value) (l5 : Value) (l6 : Value) (l7 : Value) (l8 : Value) (l9 : Value) (l10 : Value)  (h : zMm) (Q : Option Value → zMm → Prop), zWp d zi_166 none 161 [.ref l0, l1, l2, l3, l4, l5, l6, l7, l8, l9, l10] [] h Q = zWp d zi_166 none 162 [.ref l0, l1, l2, l3, l4, l5, l6, l7, l8, l9, l10] [.ref l0] h Q) ∧
    (∀ (d : Nat) (l0 : Value) (l1 : Value) (l2 : Value) (l3 : Value) (l4 : Value) (l5 : Value) (l6 : Value) (l7 : Value) (l8 : Value) (l9 : Value) (l10 : Value) (x0 : Nat) (h : zMm) (Q : Option Value → zMm → Prop), zWp d zi_166 none 162 [l0, l1, l2, l3, l4, l5, l6, l7, l8, l9, l10] [.ref x0] h Q = zWp d zi_166 none 163 [l0, l1, l2, l3, l4, l5, l6, l7, l8, l9, l10] [.int 0, .ref x0] h Q) ∧
    (∀ (d : Nat) (l0 : Value) (l1 : Value) (l2 : Value) (l3 : Value) (l4 : Value) (l5 : Value) (l6 : Value) (l7 : Value) (l8 : Value) (l9 : Value) (l10 : Value) (x1 : Int32) (x0 : Nat) (h : zMm) (Q : Option Value → zMm → Prop), zWp d zi_166 none 163 [l0, l1, l2, l3, l4, l5, l6, l7, l8, l9, l10] [.int x1, .ref x0] h Q = zWp d zi_166 none 164 [l0, l1, l2, l3, l4, l5, l6, l7, l8, l9, l10] [.int 1, .int x1, .ref x0] h Q) ∧
    (∀ (d : Nat) (l0 : Value) (l1 : Value) (l2 : Value) (l3 : Value) (l4 : Value) (l5 : Value) (l6 : Value) (l7 : Value) (l8 : Value) (l9 : Value) (l10 : Value) (x2 : Int32) (x1 : Int32) (x0 : Nat) (I : Nat → Nat → Int32) (L : Nat → Nat → Int64) (P : Nat → Nat → Option Nat) (Q : Option Value → zMm → Prop), zSH[x0]? = some (.inl 10) → zWp d zi_166 none 164 [l0, l1, l2, l3, l4, l5, l6, l7, l8, l9, l10] [.int x2, .int x1, .ref x0] (zSH, I, L, P) Q = zWM d 159 [.ref x0, .int x1, .int x2] (zSH, I, L, P) (fun r h1 => zWp d zi_166 none 167 [l0, l1, l2, l3, l4, l5, l6, l7, l8, l9, l10] (r.toList ++ []) h1 Q)) ∧
    (∀ (d : Nat) (l0 : Value) (l1 : Value) (l2 : Value) (l3 : Value) (l4 : Value) (l5 : Value) (l6 : Value) (l7 : Value) (l8 : Value) (l9 : Value) (l10 : Value) (x0 : Int32) (h : zMm) (Q : Option Value → zMm → Prop), zWp d zi_166 none 167 [l0, l1, l2, l3, l4, l5, l6, l7, l8, l9, l10] [.int x0] h Q = zWM d 123 [.int x0] h (fun r h1 => zWp d zi_166 none 170 [l0, l1, l2, l3, l4, l5, l6, l7, l8, l9, l10] (r.toList ++ []) h1 Q)) ∧
    (∀ (d : Nat) (l0 : Value) (l1 : Value) (l2 : Value) (l3 : Value) (l4 : Value) (l5 : Value) (l6 : Value) (l7 : Value) (l8 : Int32) (l9 : Value) (l10 : Value) (x0 : Int32) (h : zMm) (Q : Option Value → zMm → Prop), zWp d zi_166 none 170 [l0, l1, l2, l3, l4, l5, l6, l7, .int l8, l9, l10] [.int x0] h Q = zWp d zi_166 none 172 [l0, l1, l2, l3, l4, l5, l6, l7, .int l8, .int x0, l10] [] h Q) ∧
    (∀ (d : Nat) (l0 : Value) (l1 : Value) (l2 : Value) (l3 : Value) (l4 : Value) (l5 : Value) (l6 : Value) (l7 : Value) (l8 : Int32) (l9 : Value) (l10 : Value)  (h : zMm) (Q : Option Value → zMm → Prop), zWp d zi_166 none 172 [l0, l1, l2, l3, l4, l5, l6, l7, .int l8, l9, l10] [] h Q = zWp d zi_166 none 174 [l0, l1, l2, l3, l4, l5, l6, l7, .int l8, l9, l10] [.int l8] h Q) ∧
    (∀ (d : Nat) (l0 : Value) (l1 : Value) (l2 : Value) (l3 : Value) (l4 : Value) (l5 : Value) (l6 : Value) (l7 : Value) (l8 : Value) (l9 : Int32) (l10 : Value) (x0 : Int32) (h : zMm) (Q : Option Value → zMm → Prop), zWp d zi_166 none 174 [l0, l1, l2, l3, l4, l5, l6, l7, l8, .int l9, l10] [.int x0] h Q = zWp d zi_166 none 176 [l0, l1, l2, l3, l4, l5, l6, l7, l8, .int l9, l10] [.int l9, .int x0] h Q) ∧
    (∀ (d : Nat) (l0 : Value) (l1 : Value) (l2 : Value) (l3 : Value) (l4 : Value) (l5 : Value) (l6 : Value) (l7 : Value) (l8 : Value) (l9 : Value) (l10 : Value) (x1 : Int32) (x0 : Int32) (h : zMm) (Q : Option Value → zMm → Prop), zWp d zi_166 none 176 [l0, l1, l2, l3, l4, l5, l6, l7, l8, l9, l10] [.int x1, .int x0] h Q = if x0 ≤ x1 then zWp d zi_166 none 184 [l0, l1, l2, l3, l4, l5, l6, l7, l8, l9, l10] [] h Q else zWp d zi_166 none 179 [l0, l1, l2, l3, l4, l5, l6, l7, l8, l9, l10] [] h Q) ∧
    (∀ (d : Nat) (l0 : Value) (l1 : Value) (l2 : Value) (l3 : Value) (l4 : Value) (l5 : Value) (l6 : Value) (l7 : Value) (l8 : Int32) (l9 : Value) (l10 : Value)  (h : zMm) (Q : Option Value → zMm → Prop), zWp d zi_166 none 179 [l0, l1, l2, l3, l4, l5, l6, l7, .int l8, l9, l10] [] h Q = zWp d zi_166 none 181 [l0, l1, l2, l3, l4, l5, l6, l7, .int l8, l9, l10] [.int l8] h Q) ∧
    (∀ (d : Nat) (l0 : Value) (l1 : Value) (l2 : Value) (l3 : Value) (l4 : Value) (l5 : Value) (l6 : Value) (l7 : Value) (l8 : Value) (l9 : Value) (l10 : Value) (x0 : Int32) (h : zMm) (Q : Option Value → zMm → Prop), zWp d zi_166 none 181 [l0, l1, l2, l3, l4, l5, l6, l7, l8, l9, l10] [.int x0] h Q = zWp d zi_166 none 186 [l0, l1, l2, l3, l4, l5, l6, l7, l8, l9, l10] [.int x0] h Q) ∧
    (∀ (d : Nat) (l0 : Value) (l1 : Value) (l2 : Value) (l3 : Value) (l4 : Value) (l5 : Value) (l6 : Value) (l7 : Value) (l8 : Value) (l9 : Int32) (l10 : Value)  (h : zMm) (Q : Option Value → zMm → Prop), zWp d zi_166 none 184 [l0, l1, l2, l3, l4, l5, l6, l7, l8, .int l9, l10] [] h Q = zWp d zi_166 none 186 [l0, l1, l2, l3, l4, l5, l6, l7, l8, .int l9, l10] [.int l9] h Q) ∧
    (∀ (d : Nat) (l0 : Value) (l1 : Value) (l2 : Value) (l3 : Value) (l4 : Value) (l5 : Value) (l6 : Value) (l7 : Value) (l8 : Value) (l9 : Int32) (l10 : Value) (x0 : Int32) (h : zMm) (Q : Option Value → zMm → Prop), zWp d zi_166 none 186 [l0, l1, l2, l3, l4, l5, l6, l7, l8, .int l9, l10] [.int x0] h Q = zWp d zi_166 none 188 [l0, l1, l2, l3, l4, l5, l6, l7, l8, .int l9, .int x0] [] h Q) ∧
    (∀ (d : Nat) (l0 : Value) (l1 : Value) (l2 : Value) (l3 : Value) (l4 : Value) (l5 : Int32) (l6 : Value) (l7 : Value) (l8 : Value) (l9 : Value) (l10 : Value)  (h : zMm) (Q : Option Value → zMm → Prop), zWp d zi_166 none 188 [l0, l1, l2, l3, l4, .int l5, l6, l7, l8, l9, l10] [] h Q = zWp d zi_166 none 190 [l0, l1, l2, l3, l4, .int l5, l6, l7, l8, l9, l10] [.int l5] h Q) ∧
    (∀ (d : Nat) (l0 : Value) (l1 : Value) (l2 : Value) (l3 : Value) (l4 : Value) (l5 : Value) (l6 : Value) (l7 : Value) (l8 : Value) (l9 : Value) (l10 : Value) (x0 : Int32) (h : zMm) (Q : Option Value → zMm → Prop), zWp d zi_166 none 190 [l0, l1, l2, l3, l4, l5, l6, l7, l8, l9, l10] [.int x0] h Q = if x0 < 0 then zWp d zi_166 none 200 [l0, l1, l2, l3, l4, l5, l6, l7, l8, l9, l10] [] h Q else zWp d zi_166 none 193 [l0, l1, l2, l3, l4, l5, l6, l7, l8, l9, l10] [] h Q) ∧
    (∀ (d : Nat) (l0 : Value) (l1 : Value) (l2 : Value) (l3 : Value) (l4 : Value) (l5 : Value) (l6 : Value) (l7 : Value) (l8 : Value) (l9 : Value) (l10 : Int32)  (h : zMm) (Q : Option Value → zMm → Prop), zWp d zi_166 none 193 [l0, l1, l2, l3, l4, l5, l6, l7, l8, l9, .int l10] [] h Q = zWp d zi_166 none 195 [l0, l1, l2, l3, l4, l5, l6, l7, l8, l9, .int l10] [.int l10] h Q) ∧
    (∀ (d : Nat) (l0 : Value) (l1 : Value) (l2 : Value) (l3 : Value) (l4 : Value) (l5 : Value) (l6 : Int32) (l7 : Value) (l8 : Value) (l9 : Value) (l10 : Value) (x0 : Int32) (h : zMm) (Q : Option Value → zMm → Prop), zWp d zi_166 none 195 [l0, l1, l2, l3, l4, l5, .int l6, l7, l8, l9, l10] [.int x0] h Q = zWp d zi_166 none 197 [l0, l1, l2, l3, l4, l5, .int l6, l7, l8, l9, l10] [.int l6, .int x0] h Q) ∧
    (∀ (d : Nat) (l0 : Value) (l1 : Value) (l2 : Value) (l3 : Value) (l4 : Value) (l5 : Value) (l6 : Value) (l7 : Value) (l8 : Value) (l9 : Value) (l10 : Value) (x1 : Int32) (x0 : Int32) (h : zMm) (Q : Option Value → zMm → Prop), zWp d zi_166 none 197 [l0, l1, l2, l3, l4, l5, l6, l7, l8, l9, l10] [.int x1, .int x0] h Q = if x1 ≤ x0 then zWp d zi_166 none 220 [l0, l1, l2, l3, l4, l5, l6, l7, l8, l9, l10] [] h Q else zWp d zi_166 none 200 [l0, l1, l2, l3, l4, l5, l6, l7, l8, l9, l10] [] h Q) ∧
    (∀ (d : Nat) (l0 : Value) (l1 : Value) (l2 : Value) (l3 : Value) (l4 : Value) (l5 : Value) (l6 : Value) (l7 : Value) (l8 : Value) (l9 : Value) (l10 : Value)  (h : zMm) (Q : Option Value → zMm → Prop), zWp d zi_166 none 200 [l0, l1, l2, l3, l4, l5, l6, l7, l8, l9, l10] [] h Q = zWp d zi_166 none 202 [l0, l1, l2, l3, l4, l5, l6, l7, l8, l9, l10] [.int 10] h Q) ∧
    (∀ (d : Nat) (l0 : Value) (l1 : Value) (l2 : Value) (l3 : Value) (l4 : Value) (l5 : Value) (l6 : Value) (l7 : Int32) (l8 : Value) (l9 : Value) (l10 : Value) (x0 : Int32) (h : zMm) (Q : Option Value → zMm → Prop), zWp d zi_166 none 202 [l0, l1, l2, l3, l4, l5, l6, .int l7, l8, l9, l10] [.int x0] h Q = zWp d zi_166 none 204 [l0, l1, l2, l3, l4, l5, l6, .int l7, l8, l9, l10] [.int l7, .int x0] h Q) ∧
    (∀ (d : Nat) (l0 : Value) (l1 : Value) (l2 : Value) (l3 : Value) (l4 : Value) (l5 : Value) (l6 : Value) (l7 : Value) (l8 : Value) (l9 : Value) (l10 : Value) (x1 : Int32) (x0 : Int32) (h : zMm) (Q : Option Value → zMm → Prop), zWp d zi_166 none 204 [l0, l1, l2, l3, l4, l5, l6, l7, l8, l9, l10] [.int x1, .int x0] h Q = zWp d zi_166 none 206 [l0, l1, l2, l3, l4, l5, l6, l7, l8, l9, l10] [.int 9, .int x1, .int x0] h Q) ∧
    (∀ (d : Nat) (l0 : Value) (l1 : Value) (l2 : Value) (l3 : Value) (l4 : Value) (l5 : Value) (l6 : Value) (l7 : Value) (l8 : Value) (l9 : Value) (l10 : Value) (x2 : Int32) (x1 : Int32) (x0 : Int32) (h : zMm) (Q : Option Value → zMm → Prop), zWp d zi_166 none 206 [l0, l1, l2, l3, l4, l5, l6, l7, l8, l9, l10] [.int x2, .int x1, .int x0] h Q = (¬ x2 = 0 ∧ zWp d zi_166 none 207 [l0, l1, l2, l3, l4, l5, l6, l7, l8, l9, l10] [.int (x1 / x2), .int x0] h Q)) ∧
    (∀ (d : Nat) (l0 : Value) (l1 : Value) (l2 : Value) (l3 : Value) (l4 : Value) (l5 : Value) (l6 : Value) (l7 : Value) (l8 : Value) (l9 : Value) (l10 : Value) (x1 : Int32) (x0 : Int32) (h : zMm) (Q : Option Value → zMm → Prop), zWp d zi_166 none 207 [l0, l1, l2, l3, l4, l5, l6, l7, l8, l9, l10] [.int x1, .int x0] h Q = zWp d zi_166 none 208 [l0, l1, l2, l3, l4, l5, l6, l7, l8, l9, l10] [.int (x0 * x1)] h Q) ∧
    (∀ (d : Nat) (l0 : Value) (l1 : Value) (l2 : Value) (l3 : Value) (l4 : Value) (l5 : Value) (l6 : Value) (l7 : Int32) (l8 : Value) (l9 : Value) (l10 : Value) (x0 : Int32) (h : zMm) (Q : Option Value → zMm → Prop), zWp d zi_166 none 208 [l0, l1, l2, l3, l4, l5, l6, .int l7, l8, l9, l10] [.int x0] h Q = zWp d zi_166 none 210 [l0, l1, l2, l3, l4, l5, l6, .int l7, l8, l9, l10] [.int l7, .int x0] h Q) ∧
    (∀ (d : Nat) (l0 : Value) (l1 : Value) (l2 : Value) (l3 : Value) (l4 : Value) (l5 : Value) (l6 : Value) (l7 : Value) (l8 : Value) (l9 : Value) (l10 : Value) (x1 : Int32) (x0 : Int32) (h : zMm) (Q : Option Value → zMm → Prop), zWp d zi_166 none 210 [l0, l1, l2, l3, l4, l5, l6, l7, l8, l9, l10] [.int x1, .int x0] h Q = zWp d zi_166 none 212 [l0, l1, l2, l3, l4, l5, l6, l7, l8, l9, l10] [.int 9, .int x1, .int x0] h Q) ∧
    (∀ (d : Nat) (l0 : Value) (l1 : Value) (l2 : Value) (l3 : Value) (l4 : Value) (l5 : Value) (l6 : Value) (l7 : Value) (l8 : Value) (l9 : Value) (l10 : Value) (x2 : Int32) (x1 : Int32) (x0 : Int32) (h : zMm) (Q : Option Value → zMm → Prop), zWp d zi_166 none 212 [l0, l1, l2, l3, l4, l5, l6, l7, l8, l9, l10] [.int x2, .int x1, .int x0] h Q = (¬ x2 = 0 ∧ zWp d zi_166 none 213 [l0, l1, l2, l3, l4, l5, l6, l7, l8, l9, l10] [.int (x1 - x1 / x2 * x2), .int x0] h Q)) ∧
    (∀ (d : Nat) (l0 : Value) (l1 : Value) (l2 : Value) (l3 : Value) (l4 : Value) (l5 : Value) (l6 : Value) (l7 : Value) (l8 : Value) (l9 : Value) (l10 : Value) (x1 : Int32) (x0 : Int32) (h : zMm) (Q : Option Value → zMm → Prop), zWp d zi_166 none 213 [l0, l1, l2, l3, l4, l5, l6, l7, l8, l9, l10] [.int x1, .int x0] h Q = zWp d zi_166 none 214 [l0, l1, l2, l3, l4, l5, l6, l7, l8, l9, l10] [.int (x0 + x1)] h Q) ∧
    (∀ (d : Nat) (l0 : Value) (l1 : Value) (l2 : Value) (l3 : Value) (l4 : Int32) (l5 : Value) (l6 : Value) (l7 : Value) (l8 : Value) (l9 : Value) (l10 : Value) (x0 : Int32) (h : zMm) (Q : Option Value → zMm → Prop), zWp d zi_166 none 214 [l0, l1, l2, l3, .int l4, l5, l6, l7, l8, l9, l10] [.int x0] h Q = zWp d zi_166 none 216 [l0, l1, l2, l3, .int l4, .int x0, l6, l7, l8, l9, l10] [] h Q) ∧
    (∀ (d : Nat) (l0 : Value) (l1 : Value) (l2 : Value) (l3 : Value) (l4 : Value) (l5 : Value) (l6 : Value) (l7 : Value) (l8 : Value) (l9 : Value) (l10 : Int32)  (h : zMm) (Q : Option Value → zMm → Prop), zWp d zi_166 none 216 [l0, l1, l2, l3, l4, l5, l6, l7, l8, l9, .int l10] [] h Q = zWp d zi_166 none 218 [l0, l1, l2, l3, l4, l5, l6, l7, l8, l9, .int l10] [.int l10] h Q) ∧
    (∀ (d : Nat) (l0 : Value) (l1 : Value) (l2 : Value) (l3 : Value) (l4 : Value) (l5 : Int32) (l6 : Value) (l7 : Value) (l8 : Value) (l9 : Value) (l10 : Value) (x0 : Int32) (h : zMm) (Q : Option Value → zMm → Prop), zWp d zi_166 none 218 [l0, l1, l2, l3, l4, .int l5, l6, l7, l8, l9, l10] [.int x0] h Q = zWp d zi_166 none 220 [l0, l1, l2, l3, l4, .int l5, .int x0, l7, l8, l9, l10] [] h Q) ∧
    (∀ (d : Nat) (l0 : Value) (l1 : Value) (l2 : Value) (l3 : Value) (l4 : Value) (l5 : Value) (l6 : Int32) (l7 : Int32) (l8 : Value) (l9 : Value) (l10 : Value)  (h : zMm) (Q : Option Value → zMm → Prop), zWp d zi_166 none 220 [l0, l1, l2, l3, l4, l5, .int l6, .int l7, l8, l9, l10] [] h Q = zWp d zi_166 none 223 [l0, l1, l2, l3, l4, l5, .int l6, .int (l7 + 1), l8, l9, l10] [] h Q) ∧
    (∀ (d : Nat) (l0 : Value) (l1 : Value) (l2 : Value) (l3 : Value) (l4 : Value) (l5 : Value) (l6 : Value) (l7 : Value) (l8 : Value) (l9 : Value) (l10 : Value)  (h : zMm) (Q : Option Value → zMm → Prop), zWp d zi_166 none 223 [l0, l1, l2, l3, l4, l5, l6, l7, l8, l9, l10] [] h Q = zWp d zi_166 none 104 [l0, l1, l2, l3, l4, l5, l6, l7, l8, l9, l10] [] h Q) ∧
    (∀ (d : Nat) (l0 : Nat) (l1 : Value) (l2 : Value) (l3 : Value) (l4 : Value) (l5 : Value) (l6 : Value) (l7 : Value) (l8 : Value) (l9 : Value) (l10 : Value)  (h : zMm) (Q : Option Value → zMm → Prop), zWp d zi_166 none 226 [.ref l0, l1, l2, l3, l4, l5, l6, l7, l8, l9, l10] [] h Q = zWp d zi_166 none 227 [.ref l0, l1, l2, l3, l4, l5, l6, l7, l8, l9, l10] [.ref l0] h Q) ∧
    (∀ (d : Nat) (l0 : Value) (l1 : Value) (l2 : Value) (l3 : Value) (l4 : Value) (l5 : Value) (l6 : Value) (l7 : Value) (l8 : Value) (l9 : Value) (l10 : Value) (x0 : Nat) (h : zMm) (Q : Option Value → zMm → Prop), zWp d zi_166 none 227 [l0, l1, l2, l3, l4, l5, l6, l7, l8, l9, l10] [.ref x0] h Q = zWp d zi_166 none 228 [l0, l1, l2, l3, l4, l5, l6, l7, l8, l9, l10] [.ref x0, .ref x0] h Q) ∧
    (∀ (d : Nat) (l0 : Value) (l1 : Value) (l2 : Value) (l3 : Value) (l4 : Value) (l5 : Value) (l6 : Value) (l7 : Value) (l8 : Value) (l9 : Value) (l10 : Value) (x1 : Nat) (x0 : Nat) (I : Nat → Nat → Int32) (L : Nat → Nat → Int64) (P : Nat → Nat → Option Nat) (Q : Option Value → zMm → Prop), zSH[x1]? = some (.inl 10) → zWp d zi_166 none 228 [l0, l1, l2, l3, l4, l5, l6, l7, l8, l9, l10] [.ref x1, .ref x0] (zSH, I, L, P) Q = zWp d zi_166 none 231 [l0, l1, l2, l3, l4, l5, l6, l7, l8, l9, l10] [.int (I x1 6), .ref x0] (zSH, I, L, P) Q) ∧
    (∀ (d : Nat) (l0 : Value) (l1 : Value) (l2 : Value) (l3 : Value) (l4 : Value) (l5 : Value) (l6 : Value) (l7 : Value) (l8 : Value) (l9 : Value) (l10 : Value) (x1 : Int32) (x0 : Nat) (h : zMm) (Q : Option Value → zMm → Prop), zWp d zi_166 none 231 [l0, l1, l2, l3, l4, l5, l6, l7, l8, l9, l10] [.int x1, .ref x0] h Q = zWp d zi_166 none 232 [l0, l1, l2, l3, l4, l5, l6, l7, l8, l9, l10] [.int 1, .int x1, .ref x0] h Q) ∧
    (∀ (d : Nat) (l0 : Value) (l1 : Value) (l2 : Value) (l3 : Value) (l4 : Value) (l5 : Value) (l6 : Value) (l7 : Value) (l8 : Value) (l9 : Value) (l10 : Value) (x2 : Int32) (x1 : Int32) (x0 : Nat) (h : zMm) (Q : Option Value → zMm → Prop), zWp d zi_166 none 232 [l0, l1, l2, l3, l4, l5, l6, l7, l8, l9, l10] [.int x2, .int x1, .ref x0] h Q = zWp d zi_166 none 233 [l0, l1, l2, l3, l4, l5, l6, l7, l8, l9, l10] [.int (x1 - x2), .ref x0] h Q) ∧
    (∀ (d : Nat) (l0 : Value) (l1 : Value) (l2 : Value) (l3 : Value) (l4 : Value) (l5 : Value) (l6 : Value) (l7 : Value) (l8 : Value) (l9 : Value) (l10 : Value) (x1 : Int32) (x0 : Nat) (I : Nat → Nat → Int32) (L : Nat → Nat → Int64) (P : Nat → Nat → Option Nat) (Q : Option Value → zMm → Prop), zSH[x0]? = some (.inl 10) → zWp d zi_166 none 233 [l0, l1, l2, l3, l4, l5, l6, l7, l8, l9, l10] [.int x1, .ref x0] (zSH, I, L, P) Q = zWp d zi_166 none 236 [l0, l1, l2, l3, l4, l5, l6, l7, l8, l9, l10] [] (zSH, zw I x0 (upd (I x0) 6 x1), L, P) Q) ∧
    (∀ (d : Nat) (l0 : Nat) (l1 : Value) (l2 : Value) (l3 : Value) (l4 : Value) (l5 : Value) (l6 : Value) (l7 : Value) (l8 : Value) (l9 : Value) (l10 : Value)  (h : zMm) (Q : Option Value → zMm → Prop), zWp d zi_166 none 236 [.ref l0, l1, l2, l3, l4, l5, l6, l7, l8, l9, l10] [] h Q = zWp d zi_166 none 237 [.ref l0, l1, l2, l3, l4, l5, l6, l7, l8, l9, l10] [.ref l0] h Q) ∧
    (∀ (d : Nat) (l0 : Value) (l1 : Value) (l2 : Value) (l3 : Value) (l4 : Value) (l5 : Value) (l6 : Value) (l7 : Value) (l8 : Value) (l9 : Value) (l10 : Value) (x0 : Nat) (I : Nat → Nat → Int32) (L : Nat → Nat → Int64) (P : Nat → Nat → Option Nat) (Q : Option Value → zMm → Prop), zSH[x0]? = some (.inl 10) → zWp d zi_166 none 237 [l0, l1, l2, l3, l4, l5, l6, l7, l8, l9, l10] [.ref x0] (zSH, I, L, P) Q = zWp d zi_166 none 240 [l0, l1, l2, l3, l4, l5, l6, l7, l8, l9, l10] [va_rf (P x0 0)] (zSH, I, L, P) Q) ∧
    (∀ (d : Nat) (l0 : Nat) (l1 : Value) (l2 : Value) (l3 : Value) (l4 : Value) (l5 : Value) (l6 : Value) (l7 : Value) (l8 : Value) (l9 : Value) (l10 : Value) (x0 : Nat) (h : zMm) (Q : Option Value → zMm → Prop), zWp d zi_166 none 240 [.ref l0, l1, l2, l3, l4, l5, l6, l7, l8, l9, l10] [.ref x0] h Q = zWp d zi_166 none 241 [.ref l0, l1, l2, l3, l4, l5, l6, l7, l8, l9, l10] [.ref l0, .ref x0] h Q) ∧
    (∀ (d : Nat) (l0 : Value) (l1 : Value) (l2 : Value) (l3 : Value) (l4 : Value) (l5 : Value) (l6 : Value) (l7 : Value) (l8 : Value) (l9 : Value) (l10 : Value) (x1 : Nat) (x0 : Nat) (I : Nat → Nat → Int32) (L : Nat → Nat → Int64) (P : Nat → Nat → Option Nat) (Q : Option Value → zMm → Prop), zSH[x1]? = some (.inl 10) → zWp d zi_166 none 241 [l0, l1, l2, l3, l4, l5, l6, l7, l8, l9, l10] [.ref x1, .ref x0] (zSH, I, L, P) Q = zWp d zi_166 none 244 [l0, l1, l2, l3, l4, l5, l6, l7, l8, l9, l10] [.int (I x1 6), .ref x0] (zSH, I, L, P) Q) ∧
    (∀ (d : Nat) (l0 : Value) (l1 : Value) (l2 : Value) (l3 : Int32) (l4 : Value) (l5 : Value) (l6 : Value) (l7 : Value) (l8 : Value) (l9 : Value) (l10 : Value) (x1 : Int32) (x0 : Nat) (h : zMm) (Q : Option Value → zMm → Prop), zWp d zi_166 none 244 [l0, l1, l2, .int l3, l4, l5, l6, l7, l8, l9, l10] [.int x1, .ref x0] h Q = zWp d zi_166 none 245 [l0, l1, l2, .int l3, l4, l5, l6, l7, l8, l9, l10] [.int l3, .int x1, .ref x0] h Q) ∧
    (∀ (d : Nat) (l0 : Value) (l1 : Value) (l2 : Value) (l3 : Value) (l4 : Value) (l5 : Value) (l6 : Value) (l7 : Value) (l8 : Value) (l9 : Value) (l10 : Value) (x2 : Int32) (x1 : Int32) (x0 : Nat) (I : Nat → Nat → Int32) (L : Nat → Nat → Int64) (P : Nat → Nat → Option Nat) (Q : Option Value → zMm → Prop), zAk zSH x0 = some .int → zWp d zi_166 none 245 [l0, l1, l2, l3, l4, l5, l6, l7, l8, l9, l10] [.int x2, .int x1, .ref x0] (zSH, I, L, P) Q = (vp_in x1 (zAn zSH x0) ∧ zWp d zi_166 none 246 [l0, l1, l2, l3, l4, l5, l6, l7, l8, l9, l10] [] (zSH, zw I x0 (upd (I x0) x1.toNatClampNeg x2), L, P) Q)) ∧
    (∀ (d : Nat) (l0 : Nat) (l1 : Value) (l2 : Value) (l3 : Value) (l4 : Value) (l5 : Value) (l6 : Value) (l7 : Value) (l8 : Value) (l9 : Value) (l10 : Value)  (h : zMm) (Q : Option Value → zMm → Prop), zWp d zi_166 none 246 [.ref l0, l1, l2, l3, l4, l5, l6, l7, l8, l9, l10] [] h Q = zWp d zi_166 none 247 [.ref l0, l1, l2, l3, l4, l5, l6, l7, l8, l9, l10] [.ref l0] h Q) ∧
    (∀ (d : Nat) (l0 : Value) (l1 : Value) (l2 : Value) (l3 : Value) (l4 : Value) (l5 : Value) (l6 : Value) (l7 : Value) (l8 : Value) (l9 : Value) (l10 : Value) (x0 : Nat) (I : Nat → Nat → Int32) (L : Nat → Nat → Int64) (P : Nat → Nat → Option Nat) (Q : Option Value → zMm → Prop), zSH[x0]? = some (.inl 10) → zWp d zi_166 none 247 [l0, l1, l2, l3, l4, l5, l6, l7, l8, l9, l10] [.ref x0] (zSH, I, L, P) Q = zWp d zi_166 none 250 [l0, l1, l2, l3, l4, l5, l6, l7, l8, l9, l10] [va_rf (P x0 0)] (zSH, I, L, P) Q) ∧
    (∀ (d : Nat) (l0 : Value) (l1 : Value) (l2 : Value) (l3 : Value) (l4 : Value) (l5 : Value) (l6 : Value) (l7 : Value) (l8 : Value) (l9 : Value) (l10 : Value) (x0 : Nat) (h : zMm) (Q : Option Value → zMm → Prop), zWp d zi_166 none 250 [l0, l1, l2, l3, l4, l5, l6, l7, l8, l9, l10] [.ref x0] h Q = zWp d zi_166 none 252 [l0, l1, l2, l3, l4, l5, l6, l7, l8, l9, l10] [.int 24, .ref x0] h Q) ∧
    (∀ (d : Nat) (l0 : Nat) (l1 : Value) (l2 : Value) (l3 : Value) (l4 : Value) (l5 : Value) (l6 : Value) (l7 : Value) (l8 : Value) (l9 : Value) (l10 : Value) (x1 : Int32) (x0 : Nat) (h : zMm) (Q : Option Value → zMm → Prop), zWp d zi_166 none 252 [.ref l0, l1, l2, l3, l4, l5, l6, l7, l8, l9, l10] [.int x1, .ref x0] h Q = zWp d zi_166 none 253 [.ref l0, l1, l2, l3, l4, l5, l6, l7, l8, l9, l10] [.ref l0, .int x1, .ref x0] h Q) ∧
    (∀ (d : Nat) (l0 : Value) (l1 : Value) (l2 : Value) (l3 : Value) (l4 : Value) (l5 : Value) (l6 : Value) (l7 : Value) (l8 : Value) (l9 : Value) (l10 : Value) (x2 : Nat) (x1 : Int32) (x0 : Nat) (I : Nat → Nat → Int32) (L : Nat → Nat → Int64) (P : Nat → Nat → Option Nat) (Q : Option Value → zMm → Prop), zSH[x2]? = some (.inl 10) → zWp d zi_166 none 253 [l0, l1, l2, l3, l4, l5, l6, l7, l8, l9, l10] [.ref x2, .int x1, .ref x0] (zSH, I, L, P) Q = zWp d zi_166 none 256 [l0, l1, l2, l3, l4, l5, l6, l7, l8, l9, l10] [.int (I x2 6), .int x1, .ref x0] (zSH, I, L, P) Q) ∧
    (∀ (d : Nat) (l0 : Value) (l1 : Value) (l2 : Value) (l3 : Value) (l4 : Value) (l5 : Value) (l6 : Value) (l7 : Value) (l8 : Value) (l9 : Value) (l10 : Value) (x2 : Int32) (x1 : Int32) (x0 : Nat) (h : zMm) (Q : Option Value → zMm → Prop), zWp d zi_166 none 256 [l0, l1, l2, l3, l4, l5, l6, l7, l8, l9, l10] [.int x2, .int x1, .ref x0] h Q = zWp d zi_166 none 257 [l0, l1, l2, l3, l4, l5, l6, l7, l8, l9, l10] [.int (x1 + x2), .ref x0] h Q) ∧
    (∀ (d : Nat) (l0 : Value) (l1 : Value) (l2 : Value) (l3 : Value) (l4 : Int32) (l5 : Value) (l6 : Value) (l7 : Value) (l8 : Value) (l9 : Value) (l10 : Value) (x1 : Int32) (x0 : Nat) (h : zMm) (Q : Option Value → zMm → Prop), zWp d zi_166 none 257 [l0, l1, l2, l3, .int l4, l5, l6, l7, l8, l9, l10] [.int x1, .ref x0] h Q = zWp d zi_166 none 259 [l0, l1, l2, l3, .int l4, l5, l6, l7, l8, l9, l10] [.int l4, .int x1, .ref x0] h Q) ∧
    (∀ (d : Nat) (l0 : Value) (l1 : Value) (l2 : Value) (l3 : Value) (l4 : Value) (l5 : Value) (l6 : Value) (l7 : Value) (l8 : Value) (l9 : Value) (l10 : Value) (x2 : Int32) (x1 : Int32) (x0 : Nat) (I : Nat → Nat → Int32) (L : Nat → Nat → Int64) (P : Nat → Nat → Option Nat) (Q : Option Value → zMm → Prop), zAk zSH x0 = some .int → zWp d zi_166 none 259 [l0, l1, l2, l3, l4, l5, l6, l7, l8, l9, l10] [.int x2, .int x1, .ref x0] (zSH, I, L, P) Q = (vp_in x1 (zAn zSH x0) ∧ zWp d zi_166 none 260 [l0, l1, l2, l3, l4, l5, l6, l7, l8, l9, l10] [] (zSH, zw I x0 (upd (I x0) x1.toNatClampNeg x2), L, P) Q)) ∧
    (∀ (d : Nat) (l0 : Value) (l1 : Value) (l2 : Int32) (l3 : Value) (l4 : Value) (l5 : Value) (l6 : Value) (l7 : Value) (l8 : Value) (l9 : Value) (l10 : Value)  (h : zMm) (Q : Option Value → zMm → Prop), zWp d zi_166 none 260 [l0, l1, .int l2, l3, l4, l5, l6, l7, l8, l9, l10] [] h Q = zWp d zi_166 none 261 [l0, l1, .int l2, l3, l4, l5, l6, l7, l8, l9, l10] [.int l2] h Q) ∧
    (∀ (d : Nat) (l0 : Value) (l1 : Value) (l2 : Value) (l3 : Value) (l4 : Value) (l5 : Value) (l6 : Value) (l7 : Value) (l8 : Value) (l9 : Value) (l10 : Value) (x0 : Int32) (h : zMm) (Q : Option Value → zMm → Prop), zWp d zi_166 none 261 [l0, l1, l2, l3, l4, l5, l6, l7, l8, l9, l10] [.int x0] h Q = if x0 = 0 then zWp d zi_166 none 264 [l0, l1, l2, l3, l4, l5, l6, l7, l8, l9, l10] [] h Q else zWp d zi_166 none 269 [l0, l1, l2, l3, l4, l5, l6, l7, l8, l9, l10] [] h Q) ∧
    (∀ (d : Nat) (l0 : Value) (l1 : Value) (l2 : Value) (l3 : Value) (l4 : Value) (l5 : Int32) (l6 : Value) (l7 : Value) (l8 : Value) (l9 : Value) (l10 : Value)  (h : zMm) (Q : Option Value → zMm → Prop), zWp d zi_166 none 264 [l0, l1, l2, l3, l4, .int l5, l6, l7, l8, l9, l10] [] h Q = zWp d zi_166 none 266 [l0, l1, l2, l3, l4, .int l5, l6, l7, l8, l9, l10] [.int l5] h Q) ∧
    (∀ (d : Nat) (l0 : Value) (l1 : Value) (l2 : Value) (l3 : Value) (l4 : Value) (l5 : Value) (l6 : Value) (l7 : Value) (l8 : Value) (l9 : Value) (l10 : Value) (x0 : Int32) (h : zMm) (Q : Option Value → zMm → Prop), zWp d zi_166 none 266 [l0, l1, l2, l3, l4, l5, l6, l7, l8, l9, l10] [.int x0] h Q = zWp d zi_166 none 271 [l0, l1, l2, l3, l4, l5, l6, l7, l8, l9, l10] [.int x0] h Q) ∧
    (∀ (d : Nat) (l0 : Value) (l1 : Value) (l2 : Value) (l3 : Value) (l4 : Value) (l5 : Value) (l6 : Int32) (l7 : Value) (l8 : Value) (l9 : Value) (l10 : Value)  (h : zMm) (Q : Option Value → zMm → Prop), zWp d zi_166 none 269 [l0, l1, l2, l3, l4, l5, .int l6, l7, l8, l9, l10] [] h Q = zWp d zi_166 none 271 [l0, l1, l2, l3, l4, l5, .int l6, l7, l8, l9, l10] [.int l6] h Q) ∧
    (∀ (d : Nat) (l0 : Value) (l1 : Value) (l2 : Value) (l3 : Value) (l4 : Value) (l5 : Value) (l6 : Value) (l7 : Value) (l8 : Value) (l9 : Value) (l10 : Value) (x0 : Int32) (h : zMm) (Q : Option Value → zMm → Prop), zWp d zi_166 none 271 [l0, l1, l2, l3, l4, l5, l6, l7, l8, l9, l10] [.int x0] h Q = Q (some (.int x0)) h) :=
  ⟨(fun d l0 l1 l2 l3 l4 l5 l6 l7 l8 l9 l10  h Q => zr_iload_n rfl rfl),
   (fun d l0 l1 l2 l3 l4 l5 l6 l7 l8 l9 l10 x0 h Q => zr_i2l rfl),
   (fun d l0 l1 l2 l3 l4 l5 l6 l7 l8 l9 l10 x0 h Q => zr_lconst rfl (by decide)),
   (fun d l0 l1 l2 l3 l4 l5 l6 l7 l8 l9 l10 x1 x0 h Q => zr_ldc2_w rfl lj_10_117),
   (fun d l0 l1 l2 l3 l4 l5 l6 l7 l8 l9 l10 x2 x1 x0 h Q => zr_sta (as := [.long x2, .long x1, .long x0]) (rest := []) rfl lm_10_110 (by decide) m_122 kd_122 rfl (Nat.le_of_ble_eq_true rfl)),
   (fun d l0 l1 l2 l3 l4 l5 l6 l7 l8 l9 l10 x0 h Q => zr_if_eq rfl (by decide)),
   (fun d l0 l1 l2 l3 l4 l5 l6 l7 l8 l9 l10  h Q => zr_iload_n rfl rfl),
   (fun d l0 l1 l2 l3 l4 l5 l6 l7 l8 l9 l10 x0 h Q => zr_i2l rfl),
   (fun d l0 l1 l2 l3 l4 l5 l6 l7 l8 l9 l10 x0 h Q => zr_lconst rfl (by decide)),
   (fun d l0 l1 l2 l3 l4 l5 l6 l7 l8 l9 l10 x1 x0 h Q => zr_lconst rfl (by decide)),
   (fun d l0 l1 l2 l3 l4 l5 l6 l7 l8 l9 l10 x2 x1 x0 h Q => zr_sta (as := [.long x2, .long x1, .long x0]) (rest := []) rfl lm_10_110 (by decide) m_122 kd_122 rfl (Nat.le_of_ble_eq_true rfl)),
   (fun d l0 l1 l2 l3 l4 l5 l6 l7 l8 l9 l10 x0 h Q => zr_if_ne rfl (by decide)),
   (fun d l0 l1 l2 l3 l4 l5 l6 l7 l8 l9 l10  h Q => zr_iconst rfl (by decide)),
   (fun d l0 l1 l2 l3 l4 l5 l6 l7 l8 l9 l10 x0 h Q => zr_iret rfl rfl),
   (fun d l0 l1 l2 l3 l4 l5 l6 l7 l8 l9 l10  h Q => zr_aload_n rfl rfl),
   (fun d l0 l1 l2 l3 l4 l5 l6 l7 l8 l9 l10 x0 I L P Q p0 => zr_getI rfl lf_10_99 (fun _ _ _ => rfl) p0),
   (fun d l0 l1 l2 l3 l4 l5 l6 l7 l8 l9 l10 x0 h Q => zr_bipush rfl (by decide)),
   (fun d l0 l1 l2 l3 l4 l5 l6 l7 l8 l9 l10 x1 x0 h Q => zr_ic_ne rfl (by decide)),
   (fun d l0 l1 l2 l3 l4 l5 l6 l7 l8 l9 l10  h Q => zr_bipush rfl (by decide)),
   (fun d l0 l1 l2 l3 l4 l5 l6 l7 l8 l9 l10 x0 h Q => zr_iret rfl rfl),
   (fun d l0 l1 l2 l3 l4 l5 l6 l7 l8 l9 l10  h Q => zr_aload_n rfl rfl),
   (fun d l0 l1 l2 l3 l4 l5 l6 l7 l8 l9 l10 x0 I L P Q p0 => zr_getI rfl lf_10_99 (fun _ _ _ => rfl) p0),
   (fun d l0 l1 l2 l3 l4 l5 l6 l7 l8 l9 l10 x0 h Q => zr_if_ne rfl (by decide)),
   (fun d l0 l1 l2 l3 l4 l5 l6 l7 l8 l9 l10  h Q => zr_bipush rfl (by decide)),
   (fun d l0 l1 l2 l3 l4 l5 l6 l7 l8 l9 l10 x0 h Q => zr_iret rfl rfl),
   (fun d l0 l1 l2 l3 l4 l5 l6 l7 l8 l9 l10  h Q => zr_aload_n rfl rfl),
   (fun d l0 l1 l2 l3 l4 l5 l6 l7 l8 l9 l10 x0 I L P Q p0 => zr_getQ rfl lf_10_9 (fun _ _ _ => rfl) p0),
   (fun d l0 l1 l2 l3 l4 l5 l6 l7 l8 l9 l10 x0 h Q => zr_aload_n rfl rfl),
   (fun d l0 l1 l2 l3 l4 l5 l6 l7 l8 l9 l10 x1 x0 I L P Q p0 => zr_getI rfl lf_10_99 (fun _ _ _ => rfl) p0),
   (fun d l0 l1 l2 l3 l4 l5 l6 l7 l8 l9 l10 x1 x0 I L P Q p0 => zr_ald rfl p0),
   (fun d l0 l1 l2 l3 l4 l5 l6 l7 l8 l9 l10 x0 h Q => zr_istore_n (n := 3) rfl (Nat.le_of_ble_eq_true rfl) rfl),
   (fun d l0 l1 l2 l3 l4 l5 l6 l7 l8 l9 l10  h Q => zr_aload_n rfl rfl),
   (fun d l0 l1 l2 l3 l4 l5 l6 l7 l8 l9 l10 x0 I L P Q p0 => zr_getQ rfl lf_10_9 (fun _ _ _ => rfl) p0),
   (fun d l0 l1 l2 l3 l4 l5 l6 l7 l8 l9 l10 x0 h Q => zr_bipush rfl (by decide)),
   (fun d l0 l1 l2 l3 l4 l5 l6 l7 l8 l9 l10 x1 x0 h Q => zr_aload_n rfl rfl),
   (fun d l0 l1 l2 l3 l4 l5 l6 l7 l8 l9 l10 x2 x1 x0 I L P Q p0 => zr_getI rfl lf_10_99 (fun _ _ _ => rfl) p0),
   (fun d l0 l1 l2 l3 l4 l5 l6 l7 l8 l9 l10 x2 x1 x0 h Q => zr_iadd rfl),
   (fun d l0 l1 l2 l3 l4 l5 l6 l7 l8 l9 l10 x1 x0 I L P Q p0 => zr_ald rfl p0),
   (fun d l0 l1 l2 l3 l4 l5 l6 l7 l8 l9 l10 x0 h Q => zr_istore (n := 4) rfl (Nat.le_of_ble_eq_true rfl) rfl),
   (fun d l0 l1 l2 l3 l4 l5 l6 l7 l8 l9 l10  h Q => zr_aload_n rfl rfl),
   (fun d l0 l1 l2 l3 l4 l5 l6 l7 l8 l9 l10 x0 I L P Q p0 => zr_vir (as := []) (rest := []) rfl lm_10_162 m_158 kd_158 rfl (Nat.le_of_ble_eq_true rfl) p0),
   (fun d l0 l1 l2 l3 l4 l5 l6 l7 l8 l9 l10  h Q => zr_aload_n rfl rfl),
   (fun d l0 l1 l2 l3 l4 l5 l6 l7 l8 l9 l10 x0 I L P Q p0 => zr_getQ rfl lf_10_40 (fun _ _ _ => rfl) p0),
   (fun d l0 l1 l2 l3 l4 l5 l6 l7 l8 l9 l10 x0 h Q => zr_aload_n rfl rfl),
   (fun d l0 l1 l2 l3 l4 l5 l6 l7 l8 l9 l10 x1 x0 I L P Q p0 => zr_getI rfl lf_10_99 (fun _ _ _ => rfl) p0),
   (fun d l0 l1 l2 l3 l4 l5 l6 l7 l8 l9 l10 x1 x0 h Q => zr_iload_n rfl rfl),
   (fun d l0 l1 l2 l3 l4 l5 l6 l7 l8 l9 l10 x2 x1 x0 I L P Q p0 => zr_ast rfl p0),
   (fun d l0 l1 l2 l3 l4 l5 l6 l7 l8 l9 l10  h Q => zr_aload_n rfl rfl),
   (fun d l0 l1 l2 l3 l4 l5 l6 l7 l8 l9 l10 x0 h Q => zr_dup rfl rfl),
   (fun d l0 l1 l2 l3 l4 l5 l6 l7 l8 l9 l10 x1 x0 I L P Q p0 => zr_getI rfl lf_10_99 (fun _ _ _ => rfl) p0),
   (fun d l0 l1 l2 l3 l4 l5 l6 l7 l8 l9 l10 x1 x0 h Q => zr_iconst rfl (by decide)),
   (fun d l0 l1 l2 l3 l4 l5 l6 l7 l8 l9 l10 x2 x1 x0 h Q => zr_iadd rfl),
   (fun d l0 l1 l2 l3 l4 l5 l6 l7 l8 l9 l10 x1 x0 I L P Q p0 => zr_putI rfl lf_10_99 (by decide) rfl p0),
   (fun d l0 l1 l2 l3 l4 l5 l6 l7 l8 l9 l10  h Q => zr_bipush rfl (by decide)),
   (fun d l0 l1 l2 l3 l4 l5 l6 l7 l8 l9 l10 x0 h Q => zr_istore (n := 5) rfl (Nat.le_of_ble_eq_true rfl) rfl),
   (fun d l0 l1 l2 l3 l4 l5 l6 l7 l8 l9 l10  h Q => zr_iconst rfl (by decide)),
   (fun d l0 l1 l2 l3 l4 l5 l6 l7 l8 l9 l10 x0 h Q => zr_istore (n := 6) rfl (Nat.le_of_ble_eq_true rfl) rfl),
   (fun d l0 l1 l2 l3 l4 l5 l6 l7 l8 l9 l10  h Q => zr_iconst rfl (by decide)),
   (fun d l0 l1 l2 l3 l4 l5 l6 l7 l8 l9 l10 x0 h Q => zr_istore (n := 7) rfl (Nat.le_of_ble_eq_true rfl) rfl),
   (fun d l0 l1 l2 l3 l4 l5 l6 l7 l8 l9 l10 x0 h Q => zr_bipush rfl (by decide)),
   (fun d l0 l1 l2 l3 l4 l5 l6 l7 l8 l9 l10 x1 x0 h Q => zr_ic_ge rfl (by decide)),
   (fun d l0 l1 l2 l3 l4 l5 l6 l7 l8 l9 l10  h Q => zr_aload_n rfl rfl),
   (fun d l0 l1 l2 l3 l4 l5 l6 l7 l8 l9 l10 x0 I L P Q p0 => zr_getQ rfl lf_10_9 (fun _ _ _ => rfl) p0),
   (fun d l0 l1 l2 l3 l4 l5 l6 l7 l8 l9 l10 x0 h Q => zr_aload_n rfl rfl),
   (fun d l0 l1 l2 l3 l4 l5 l6 l7 l8 l9 l10 x1 x0 I L P Q p0 => zr_getI rfl lf_10_99 (fun _ _ _ => rfl) p0),
   (fun d l0 l1 l2 l3 l4 l5 l6 l7 l8 l9 l10 x1 x0 h Q => zr_iconst rfl (by decide)),
   (fun d l0 l1 l2 l3 l4 l5 l6 l7 l8 l9 l10 x2 x1 x0 h Q => zr_isub rfl),
   (fun d l0 l1 l2 l3 l4 l5 l6 l7 l8 l9 l10 x1 x0 h Q => zr_iload rfl rfl),
   (fun d l0 l1 l2 l3 l4 l5 l6 l7 l8 l9 l10 x2 x1 x0 h Q => zr_bipush rfl (by decide)),
   (fun d l0 l1 l2 l3 l4 l5 l6 l7 l8 l9 l10 x3 x2 x1 x0 h Q => zr_idiv rfl),
   (fun d l0 l1 l2 l3 l4 l5 l6 l7 l8 l9 l10 x2 x1 x0 h Q => zr_iconst rfl (by decide)),
   (fun d l0 l1 l2 l3 l4 l5 l6 l7 l8 l9 l10 x3 x2 x1 x0 h Q => zr_isub rfl),
   (fun d l0 l1 l2 l3 l4 l5 l6 l7 l8 l9 l10 x2 x1 x0 I L P Q p0 => zr_ast rfl p0),
   (fun d l0 l1 l2 l3 l4 l5 l6 l7 l8 l9 l10  h Q => zr_aload_n rfl rfl),
   (fun d l0 l1 l2 l3 l4 l5 l6 l7 l8 l9 l10 x0 I L P Q p0 => zr_getQ rfl lf_10_9 (fun _ _ _ => rfl) p0),
   (fun d l0 l1 l2 l3 l4 l5 l6 l7 l8 l9 l10 x0 h Q => zr_bipush rfl (by decide)),
   (fun d l0 l1 l2 l3 l4 l5 l6 l7 l8 l9 l10 x1 x0 h Q => zr_aload_n rfl rfl),
   (fun d l0 l1 l2 l3 l4 l5 l6 l7 l8 l9 l10 x2 x1 x0 I L P Q p0 => zr_getI rfl lf_10_99 (fun _ _ _ => rfl) p0),
   (fun d l0 l1 l2 l3 l4 l5 l6 l7 l8 l9 l10 x2 x1 x0 h Q => zr_iadd rfl),
   (fun d l0 l1 l2 l3 l4 l5 l6 l7 l8 l9 l10 x1 x0 h Q => zr_iconst rfl (by decide)),
   (fun d l0 l1 l2 l3 l4 l5 l6 l7 l8 l9 l10 x2 x1 x0 h Q => zr_isub rfl),
   (fun d l0 l1 l2 l3 l4 l5 l6 l7 l8 l9 l10 x1 x0 h Q => zr_iload rfl rfl),
   (fun d l0 l1 l2 l3 l4 l5 l6 l7 l8 l9 l10 x2 x1 x0 h Q => zr_bipush rfl (by decide)),
   (fun d l0 l1 l2 l3 l4 l5 l6 l7 l8 l9 l10 x3 x2 x1 x0 h Q => zr_irem rfl),
   (fun d l0 l1 l2 l3 l4 l5 l6 l7 l8 l9 l10 x2 x1 x0 h Q => zr_iconst rfl (by decide)),
   (fun d l0 l1 l2 l3 l4 l5 l6 l7 l8 l9 l10 x3 x2 x1 x0 h Q => zr_isub rfl),
   (fun d l0 l1 l2 l3 l4 l5 l6 l7 l8 l9 l10 x2 x1 x0 I L P Q p0 => zr_ast rfl p0),
   (fun d l0 l1 l2 l3 l4 l5 l6 l7 l8 l9 l10  h Q => zr_aload_n rfl rfl),
   (fun d l0 l1 l2 l3 l4 l5 l6 l7 l8 l9 l10 x0 h Q => zr_iconst rfl (by decide)),
   (fun d l0 l1 l2 l3 l4 l5 l6 l7 l8 l9 l10 x1 x0 h Q => zr_iconst rfl (by decide)),
   (fun d l0 l1 l2 l3 l4 l5 l6 l7 l8 l9 l10 x2 x1 x0 I L P Q p0 => zr_vir (as := [.int x2, .int x1]) (rest := []) rfl lm_10_242 m_159 kd_159 rfl (Nat.le_of_ble_eq_true rfl) p0),
   (fun d l0 l1 l2 l3 l4 l5 l6 l7 l8 l9 l10 x0 h Q => zr_sta (as := [.int x0]) (rest := []) rfl lm_10_245 (by decide) m_123 kd_123 rfl (Nat.le_of_ble_eq_true rfl)),
   (fun d l0 l1 l2 l3 l4 l5 l6 l7 l8 l9 l10 x0 h Q => zr_istore (n := 8) rfl (Nat.le_of_ble_eq_true rfl) rfl),
   (fun d l0 l1 l2 l3 l4 l5 l6 l7 l8 l9 l10  h Q => zr_aload_n rfl rfl),
   (fun d l0 l1 l2 l3 l4 l5 l6 l7 l8 l9 l10 x0 h Q => zr_iconst rfl (by decide)),
   (fun d l0 l1 l2 l3 l4 l5 l6 l7 l8 l9 l10 x1 x0 h Q => zr_iconst rfl (by decide)),
   (fun d l0 l1 l2 l3 l4 l5 l6 l7 l8 l9 l10 x2 x1 x0 I L P Q p0 => zr_vir (as := [.int x2, .int x1]) (rest := []) rfl lm_10_242 m_159 kd_159 rfl (Nat.le_of_ble_eq_true rfl) p0),
   (fun d l0 l1 l2 l3 l4 l5 l6 l7 l8 l9 l10 x0 h Q => zr_sta (as := [.int x0]) (rest := []) rfl lm_10_245 (by decide) m_123 kd_123 rfl (Nat.le_of_ble_eq_true rfl)),
   (fun d l0 l1 l2 l3 l4 l5 l6 l7 l8 l9 l10 x0 h Q => zr_istore (n := 9) rfl (Nat.le_of_ble_eq_true rfl) rfl),
   (fun d l0 l1 l2 l3 l4 l5 l6 l7 l8 l9 l10  h Q => zr_iload rfl rfl),
   (fun d l0 l1 l2 l3 l4 l5 l6 l7 l8 l9 l10 x0 h Q => zr_iload rfl rfl),
   (fun d l0 l1 l2 l3 l4 l5 l6 l7 l8 l9 l10 x1 x0 h Q => zr_ic_le rfl (by decide)),
   (fun d l0 l1 l2 l3 l4 l5 l6 l7 l8 l9 l10  h Q => zr_iload rfl rfl),
   (fun d l0 l1 l2 l3 l4 l5 l6 l7 l8 l9 l10 x0 h Q => zr_goto rfl (by decide)),
   (fun d l0 l1 l2 l3 l4 l5 l6 l7 l8 l9 l10  h Q => zr_iload rfl rfl),
   (fun d l0 l1 l2 l3 l4 l5 l6 l7 l8 l9 l10 x0 h Q => zr_istore (n := 10) rfl (Nat.le_of_ble_eq_true rfl) rfl),
   (fun d l0 l1 l2 l3 l4 l5 l6 l7 l8 l9 l10  h Q => zr_iload rfl rfl),
   (fun d l0 l1 l2 l3 l4 l5 l6 l7 l8 l9 l10 x0 h Q => zr_if_lt rfl (by decide)),
   (fun d l0 l1 l2 l3 l4 l5 l6 l7 l8 l9 l10  h Q => zr_iload rfl rfl),
   (fun d l0 l1 l2 l3 l4 l5 l6 l7 l8 l9 l10 x0 h Q => zr_iload rfl rfl),
   (fun d l0 l1 l2 l3 l4 l5 l6 l7 l8 l9 l10 x1 x0 h Q => zr_ic_ge rfl (by decide)),
   (fun d l0 l1 l2 l3 l4 l5 l6 l7 l8 l9 l10  h Q => zr_bipush rfl (by decide)),
   (fun d l0 l1 l2 l3 l4 l5 l6 l7 l8 l9 l10 x0 h Q => zr_iload rfl rfl),
   (fun d l0 l1 l2 l3 l4 l5 l6 l7 l8 l9 l10 x1 x0 h Q => zr_bipush rfl (by decide)),
   (fun d l0 l1 l2 l3 l4 l5 l6 l7 l8 l9 l10 x2 x1 x0 h Q => zr_idiv rfl),
   (fun d l0 l1 l2 l3 l4 l5 l6 l7 l8 l9 l10 x1 x0 h Q => zr_imul rfl),
   (fun d l0 l1 l2 l3 l4 l5 l6 l7 l8 l9 l10 x0 h Q => zr_iload rfl rfl),
   (fun d l0 l1 l2 l3 l4 l5 l6 l7 l8 l9 l10 x1 x0 h Q => zr_bipush rfl (by decide)),
   (fun d l0 l1 l2 l3 l4 l5 l6 l7 l8 l9 l10 x2 x1 x0 h Q => zr_irem rfl),
   (fun d l0 l1 l2 l3 l4 l5 l6 l7 l8 l9 l10 x1 x0 h Q => zr_iadd rfl),
   (fun d l0 l1 l2 l3 l4 l5 l6 l7 l8 l9 l10 x0 h Q => zr_istore (n := 5) rfl (Nat.le_of_ble_eq_true rfl) rfl),
   (fun d l0 l1 l2 l3 l4 l5 l6 l7 l8 l9 l10  h Q => zr_iload rfl rfl),
   (fun d l0 l1 l2 l3 l4 l5 l6 l7 l8 l9 l10 x0 h Q => zr_istore (n := 6) rfl (Nat.le_of_ble_eq_true rfl) rfl),
   (fun d l0 l1 l2 l3 l4 l5 l6 l7 l8 l9 l10  h Q => zr_iinc (n := 7) (kc := 1) rfl rfl (Nat.le_of_ble_eq_true rfl) rfl (by decide)),
   (fun d l0 l1 l2 l3 l4 l5 l6 l7 l8 l9 l10  h Q => zr_goto rfl (by decide)),
   (fun d l0 l1 l2 l3 l4 l5 l6 l7 l8 l9 l10  h Q => zr_aload_n rfl rfl),
   (fun d l0 l1 l2 l3 l4 l5 l6 l7 l8 l9 l10 x0 h Q => zr_dup rfl rfl),
   (fun d l0 l1 l2 l3 l4 l5 l6 l7 l8 l9 l10 x1 x0 I L P Q p0 => zr_getI rfl lf_10_99 (fun _ _ _ => rfl) p0),
   (fun d l0 l1 l2 l3 l4 l5 l6 l7 l8 l9 l10 x1 x0 h Q => zr_iconst rfl (by decide)),
   (fun d l0 l1 l2 l3 l4 l5 l6 l7 l8 l9 l10 x2 x1 x0 h Q => zr_isub rfl),
   (fun d l0 l1 l2 l3 l4 l5 l6 l7 l8 l9 l10 x1 x0 I L P Q p0 => zr_putI rfl lf_10_99 (by decide) rfl p0),
   (fun d l0 l1 l2 l3 l4 l5 l6 l7 l8 l9 l10  h Q => zr_aload_n rfl rfl),
   (fun d l0 l1 l2 l3 l4 l5 l6 l7 l8 l9 l10 x0 I L P Q p0 => zr_getQ rfl lf_10_9 (fun _ _ _ => rfl) p0),
   (fun d l0 l1 l2 l3 l4 l5 l6 l7 l8 l9 l10 x0 h Q => zr_aload_n rfl rfl),
   (fun d l0 l1 l2 l3 l4 l5 l6 l7 l8 l9 l10 x1 x0 I L P Q p0 => zr_getI rfl lf_10_99 (fun _ _ _ => rfl) p0),
   (fun d l0 l1 l2 l3 l4 l5 l6 l7 l8 l9 l10 x1 x0 h Q => zr_iload_n rfl rfl),
   (fun d l0 l1 l2 l3 l4 l5 l6 l7 l8 l9 l10 x2 x1 x0 I L P Q p0 => zr_ast rfl p0),
   (fun d l0 l1 l2 l3 l4 l5 l6 l7 l8 l9 l10  h Q => zr_aload_n rfl rfl),
   (fun d l0 l1 l2 l3 l4 l5 l6 l7 l8 l9 l10 x0 I L P Q p0 => zr_getQ rfl lf_10_9 (fun _ _ _ => rfl) p0),
   (fun d l0 l1 l2 l3 l4 l5 l6 l7 l8 l9 l10 x0 h Q => zr_bipush rfl (by decide)),
   (fun d l0 l1 l2 l3 l4 l5 l6 l7 l8 l9 l10 x1 x0 h Q => zr_aload_n rfl rfl),
   (fun d l0 l1 l2 l3 l4 l5 l6 l7 l8 l9 l10 x2 x1 x0 I L P Q p0 => zr_getI rfl lf_10_99 (fun _ _ _ => rfl) p0),
   (fun d l0 l1 l2 l3 l4 l5 l6 l7 l8 l9 l10 x2 x1 x0 h Q => zr_iadd rfl),
   (fun d l0 l1 l2 l3 l4 l5 l6 l7 l8 l9 l10 x1 x0 h Q => zr_iload rfl rfl),
   (fun d l0 l1 l2 l3 l4 l5 l6 l7 l8 l9 l10 x2 x1 x0 I L P Q p0 => zr_ast rfl p0),
   (fun d l0 l1 l2 l3 l4 l5 l6 l7 l8 l9 l10  h Q => zr_iload_n rfl rfl),
   (fun d l0 l1 l2 l3 l4 l5 l6 l7 l8 l9 l10 x0 h Q => zr_if_ne rfl (by decide)),
   (fun d l0 l1 l2 l3 l4 l5 l6 l7 l8 l9 l10  h Q => zr_iload rfl rfl),
   (fun d l0 l1 l2 l3 l4 l5 l6 l7 l8 l9 l10 x0 h Q => zr_goto rfl (by decide)),
   (fun d l0 l1 l2 l3 l4 l5 l6 l7 l8 l9 l10  h Q => zr_iload rfl rfl),
   (fun d l0 l1 l2 l3 l4 l5 l6 l7 l8 l9 l10 x0 h Q => zr_iret rfl rfl)⟩
theorem H_X10_straight_104 : ∀ (d : Nat) (l0 : Value) (l1 : Value) (l2 : Value) (l3 : Value) (l4 : Value) (l5 : Value) (l6 : Value) (l7 : Int32) (l8 : Value) (l9 : Value) (l10 : Value)  (h : zMm) (Q : Option Value → zMm → Prop), zWp d zi_166 none 104 [l0, l1, l2, l3, l4, l5, l6, .int l7, l8, l9, l10] [] h Q = zWp d zi_166 none 106 [l0, l1, l2, l3, l4, l5, l6, .int l7, l8, l9, l10] [.int l7] h Q := fun d l0 l1 l2 l3 l4 l5 l6 l7 l8 l9 l10  h Q => zr_iload rfl rfl
theorem E_X10_without : ∀ (d : Nat) (a0 : Nat) (h : zMm) (Q : Option Value → zMm → Prop), zWM (d + 1) 167 [.ref a0] h Q = zWp d zi_167 none 0 [.ref a0, .retAddr 0, .retAddr 0] [] h Q := fun d a0 h Q => zW_M m_167 (Nat.le_of_ble_eq_true rfl) rfl
set_option maxRecDepth 100000 in
theorem R_X10_without :
    (∀ (d : Nat) (l0 : Value) (l1 : Value) (l2 : Value)  (h : zMm) (Q : Option Value → zMm → Prop), zWp d zi_167 none 0 [l0, l1, l2] [] h Q = zWp d zi_167 none 1 [l0, l1, l2] [.int 0] h Q) ∧
    (∀ (d : Nat) (l0 : Nat) (l1 : Value) (l2 : Value) (x0 : Int32) (h : zMm) (Q : Option Value → zMm → Prop), zWp d zi_167 none 1 [.ref l0, l1, l2] [.int x0] h Q = zWp d zi_167 none 2 [.ref l0, .int x0, l2] [] h Q) ∧
    (∀ (d : Nat) (l0 : Value) (l1 : Value) (l2 : Value)  (h : zMm) (Q : Option Value → zMm → Prop), zWp d zi_167 none 2 [l0, l1, l2] [] h Q = zWp d zi_167 none 3 [l0, l1, l2] [.int 0] h Q) ∧
    (∀ (d : Nat) (l0 : Value) (l1 : Int32) (l2 : Value) (x0 : Int32) (h : zMm) (Q : Option Value → zMm → Prop), zWp d zi_167 none 3 [l0, .int l1, l2] [.int x0] h Q = zWp d zi_167 none 4 [l0, .int l1, .int x0] [] h Q) ∧
    (∀ (d : Nat) (l0 : Nat) (l1 : Value) (l2 : Value) (x0 : Int32) (h : zMm) (Q : Option Value → zMm → Prop), zWp d zi_167 none 5 [.ref l0, l1, l2] [.int x0] h Q = zWp d zi_167 none 6 [.ref l0, l1, l2] [.ref l0, .int x0] h Q) ∧
    (∀ (d : Nat) (l0 : Value) (l1 : Value) (l2 : Value) (x1 : Nat) (x0 : Int32) (I : Nat → Nat → Int32) (L : Nat → Nat → Int64) (P : Nat → Nat → Option Nat) (Q : Option Value → zMm → Prop), zSH[x1]? = some (.inl 10) → zWp d zi_167 none 6 [l0, l1, l2] [.ref x1, .int x0] (zSH, I, L, P) Q = zWp d zi_167 none 9 [l0, l1, l2] [.int (I x1 6), .int x0] (zSH, I, L, P) Q) ∧
    (∀ (d : Nat) (l0 : Value) (l1 : Value) (l2 : Value) (x1 : Int32) (x0 : Int32) (h : zMm) (Q : Option Value → zMm → Prop), zWp d zi_167 none 9 [l0, l1, l2] [.int x1, .int x0] h Q = if x1 ≤ x0 then zWp d zi_167 none 59 [l0, l1, l2] [] h Q else zWp d zi_167 none 12 [l0, l1, l2] [] h Q) ∧
    (∀ (d : Nat) (l0 : Nat) (l1 : Value) (l2 : Value)  (h : zMm) (Q : Option Value → zMm → Prop), zWp d zi_167 none 12 [.ref l0, l1, l2] [] h Q = zWp d zi_167 none 13 [.ref l0, l1, l2] [.ref l0] h Q) ∧
    (∀ (d : Nat) (l0 : Value) (l1 : Value) (l2 : Value) (x0 : Nat) (I : Nat → Nat → Int32) (L : Nat → Nat → Int64) (P : Nat → Nat → Option Nat) (Q : Option Value → zMm → Prop), zSH[x0]? = some (.inl 10) → zWp d zi_167 none 13 [l0, l1, l2] [.ref x0] (zSH, I, L, P) Q = zWM d 158 [.ref x0] (zSH, I, L, P) (fun r h1 => zWp d zi_167 none 16 [l0, l1, l2] (r.toList ++ []) h1 Q)) ∧
    (∀ (d : Nat) (l0 : Nat) (l1 : Value) (l2 : Value)  (h : zMm) (Q : Option Value → zMm → Prop), zWp d zi_167 none 16 [.ref l0, l1, l2] [] h Q = zWp d zi_167 none 17 [.ref l0, l1, l2] [.ref l0] h Q) ∧
    (∀ (d : Nat) (l0 : Value) (l1 : Value) (l2 : Value) (x0 : Nat) (I : Nat → Nat → Int32) (L : Nat → Nat → Int64) (P : Nat → Nat → Option Nat) (Q : Option Value → zMm → Prop), zSH[x0]? = some (.inl 10) → zWp d zi_167 none 17 [l0, l1, l2] [.ref x0] (zSH, I, L, P) Q = zWp d zi_167 none 20 [l0, l1, l2] [va_rf (P x0 23)] (zSH, I, L, P) Q) ∧
    (∀ (d : Nat) (l0 : Value) (l1 : Value) (l2 : Int32) (x0 : Nat) (h : zMm) (Q : Option Value → zMm → Prop), zWp d zi_167 none 20 [l0, l1, .int l2] [.ref x0] h Q = zWp d zi_167 none 21 [l0, l1, .int l2] [.int l2, .ref x0] h Q) ∧
    (∀ (d : Nat) (l0 : Value) (l1 : Value) (l2 : Value) (x1 : Int32) (x0 : Nat) (h : zMm) (Q : Option Value → zMm → Prop), zWp d zi_167 none 21 [l0, l1, l2] [.int x1, .ref x0] h Q = zWp d zi_167 none 22 [l0, l1, l2] [.int x1, .ref x0, .int x1, .ref x0] h Q) ∧
    (∀ (d : Nat) (l0 : Value) (l1 : Value) (l2 : Value) (x3 : Int32) (x2 : Nat) (x1 : Int32) (x0 : Nat) (I : Nat → Nat → Int32) (L : Nat → Nat → Int64) (P : Nat → Nat → Option Nat) (Q : Option Value → zMm → Prop), zAk zSH x2 = some .int → zWp d zi_167 none 22 [l0, l1, l2] [.int x3, .ref x2, .int x1, .ref x0] (zSH, I, L, P) Q = (vp_in x3 (zAn zSH x2) ∧ zWp d zi_167 none 23 [l0, l1, l2] [.int (I x2 x3.toNatClampNeg), .int x1, .ref x0] (zSH, I, L, P) Q)) ∧
    (∀ (d : Nat) (l0 : Value) (l1 : Value) (l2 : Value) (x2 : Int32) (x1 : Int32) (x0 : Nat) (h : zMm) (Q : Option Value → zMm → Prop), zWp d zi_167 none 23 [l0, l1, l2] [.int x2, .int x1, .ref x0] h Q = zWp d zi_167 none 24 [l0, l1, l2] [.int 1, .int x2, .int x1, .ref x0] h Q) ∧
    (∀ (d : Nat) (l0 : Value) (l1 : Value) (l2 : Value) (x3 : Int32) (x2 : Int32) (x1 : Int32) (x0 : Nat) (h : zMm) (Q : Option Value → zMm → Prop), zWp d zi_167 none 24 [l0, l1, l2] [.int x3, .int x2, .int x1, .ref x0] h Q = zWp d zi_167 none 25 [l0, l1, l2] [.int (x2 - x3), .int x1, .ref x0] h Q) ∧
    (∀ (d : Nat) (l0 : Value) (l1 : Value) (l2 : Value) (x2 : Int32) (x1 : Int32) (x0 : Nat) (I : Nat → Nat → Int32) (L : Nat → Nat → Int64) (P : Nat → Nat → Option Nat) (Q : Option Value → zMm → Prop), zAk zSH x0 = some .int → zWp d zi_167 none 25 [l0, l1, l2] [.int x2, .int x1, .ref x0] (zSH, I, L, P) Q = (vp_in x1 (zAn zSH x0) ∧ zWp d zi_167 none 26 [l0, l1, l2] [] (zSH, zw I x0 (upd (I x0) x1.toNatClampNeg x2), L, P) Q)) ∧
    (∀ (d : Nat) (l0 : Value) (l1 : Int32) (l2 : Value)  (h : zMm) (Q : Option Value → zMm → Prop), zWp d zi_167 none 26 [l0, .int l1, l2] [] h Q = zWp d zi_167 none 27 [l0, .int l1, l2] [.int l1] h Q) ∧
    (∀ (d : Nat) (l0 : Nat) (l1 : Value) (l2 : Value) (x0 : Int32) (h : zMm) (Q : Option Value → zMm → Prop), zWp d zi_167 none 27 [.ref l0, l1, l2] [.int x0] h Q = zWp d zi_167 none 28 [.ref l0, l1, l2] [.ref l0, .int x0] h Q) ∧
    (∀ (d : Nat) (l0 : Value) (l1 : Value) (l2 : Value) (x1 : Nat) (x0 : Int32) (I : Nat → Nat → Int32) (L : Nat → Nat → Int64) (P : Nat → Nat → Option Nat) (Q : Option Value → zMm → Prop), zSH[x1]? = some (.inl 10) → zWp d zi_167 none 28 [l0, l1, l2] [.ref x1, .int x0] (zSH, I, L, P) Q = zWp d zi_167 none 31 [l0, l1, l2] [va_rf (P x1 7), .int x0] (zSH, I, L, P) Q) ∧
    (∀ (d : Nat) (l0 : Value) (l1 : Value) (l2 : Int32) (x1 : Nat) (x0 : Int32) (h : zMm) (Q : Option Value → zMm → Prop), zWp d zi_167 none 31 [l0, l1, .int l2] [.ref x1, .int x0] h Q = zWp d zi_167 none 32 [l0, l1, .int l2] [.int l2, .ref x1, .int x0] h Q) ∧
    (∀ (d : Nat) (l0 : Value) (l1 : Value) (l2 : Value) (x2 : Int32) (x1 : Nat) (x0 : Int32) (I : Nat → Nat → Int32) (L : Nat → Nat → Int64) (P : Nat → Nat → Option Nat) (Q : Option Value → zMm → Prop), zAk zSH x1 = some .int → zWp d zi_167 none 32 [l0, l1, l2] [.int x2, .ref x1, .int x0] (zSH, I, L, P) Q = (vp_in x2 (zAn zSH x1) ∧ zWp d zi_167 none 33 [l0, l1, l2] [.int (I x1 x2.toNatClampNeg), .int x0] (zSH, I, L, P) Q)) ∧
    (∀ (d : Nat) (l0 : Value) (l1 : Value) (l2 : Value) (x1 : Int32) (x0 : Int32) (h : zMm) (Q : Option Value → zMm → Prop), zWp d zi_167 none 33 [l0, l1, l2] [.int x1, .int x0] h Q = zWp d zi_167 none 34 [l0, l1, l2] [.int 1, .int x1, .int x0] h Q) ∧
    (∀ (d : Nat) (l0 : Value) (l1 : Value) (l2 : Value) (x2 : Int32) (x1 : Int32) (x0 : Int32) (h : zMm) (Q : Option Value → zMm → Prop), zWp d zi_167 none 34 [l0, l1, l2] [.int x2, .int x1, .int x0] h Q = if x1 ≤ x2 then zWp d zi_167 none 50 [l0, l1, l2] [.int x0] h Q else zWp d zi_167 none 37 [l0, l1, l2] [.int x0] h Q) ∧
    (∀ (d : Nat) (l0 : Nat) (l1 : Value) (l2 : Value) (x0 : Int32) (h : zMm) (Q : Option Value → zMm → Prop), zWp d zi_167 none 37 [.ref l0, l1, l2] [.int x0] h Q = zWp d zi_167 none 38 [.ref l0, l1, l2] [.ref l0, .int x0] h Q) ∧
    (∀ (d : Nat) (l0 : Value) (l1 : Value) (l2 : Value) (x1 : Nat) (x0 : Int32) (I : Nat → Nat → Int32) (L : Nat → Nat → Int64) (P : Nat → Nat → Option Nat) (Q : Option Value → zMm → Prop), zSH[x1]? = some (.inl 10) → zWp d zi_167 none 38 [l0, l1, l2] [.ref x1, .int x0] (zSH, I, L, P) Q = zWM d 161 [.ref x1] (zSH, I, L, P) (fun r h1 => zWp d zi_167 none 41 [l0, l1, l2] (r.toList ++ [.int x0]) h1 Q)) ∧
    (∀ (d : Nat) (l0 : Value) (l1 : Value) (l2 : Value) (x1 : Int32) (x0 : Int32) (h : zMm) (Q : Option Value → zMm → Prop), zWp d zi_167 none 41 [l0, l1, l2] [.int x1, .int x0] h Q = if 0 ≤ x1 then zWp d zi_167 none 50 [l0, l1, l2] [.int x0] h Q else zWp d zi_167 none 44 [l0, l1, l2] [.int x0] h Q) ∧
    (∀ (d : Nat) (l0 : Value) (l1 : Value) (l2 : Value) (x0 : Int32) (h : zMm) (Q : Option Value → zMm → Prop), zWp d zi_167 none 44 [l0, l1, l2] [.int x0] h Q = zWp d zi_167 none 45 [l0, l1, l2] [.int 1, .int x0] h Q) ∧
    (∀ (d : Nat) (l0 : Value) (l1 : Value) (l2 : Int32) (x1 : Int32) (x0 : Int32) (h : zMm) (Q : Option Value → zMm → Prop), zWp d zi_167 none 45 [l0, l1, .int l2] [.int x1, .int x0] h Q = zWp d zi_167 none 46 [l0, l1, .int l2] [.int l2, .int x1, .int x0] h Q) ∧
    (∀ (d : Nat) (l0 : Value) (l1 : Value) (l2 : Value) (x2 : Int32) (x1 : Int32) (x0 : Int32) (h : zMm) (Q : Option Value → zMm → Prop), zWp d zi_167 none 46 [l0, l1, l2] [.int x2, .int x1, .int x0] h Q = zWp d zi_167 none 47 [l0, l1, l2] [.int (x1 <<< (x2 &&& 31)), .int x0] h Q) ∧
    (∀ (d : Nat) (l0 : Value) (l1 : Value) (l2 : Value) (x1 : Int32) (x0 : Int32) (h : zMm) (Q : Option Value → zMm → Prop), zWp d zi_167 none 47 [l0, l1, l2] [.int x1, .int x0] h Q = zWp d zi_167 none 51 [l0, l1, l2] [.int x1, .int x0] h Q) ∧
    (∀ (d : Nat) (l0 : Value) (l1 : Value) (l2 : Value) (x0 : Int32) (h : zMm) (Q : Option Value → zMm → Prop), zWp d zi_167 none 50 [l0, l1, l2] [.int x0] h Q = zWp d zi_167 none 51 [l0, l1, l2] [.int 0, .int x0] h Q) ∧
    (∀ (d : Nat) (l0 : Value) (l1 : Value) (l2 : Value) (x1 : Int32) (x0 : Int32) (h : zMm) (Q : Option Value → zMm → Prop), zWp d zi_167 none 51 [l0, l1, l2] [.int x1, .int x0] h Q = zWp d zi_167 none 52 [l0, l1, l2] [.int (x0 ||| x1)] h Q) ∧
    (∀ (d : Nat) (l0 : Nat) (l1 : Value) (l2 : Value) (x0 : Int32) (h : zMm) (Q : Option Value → zMm → Prop), zWp d zi_167 none 52 [.ref l0, l1, l2] [.int x0] h Q = zWp d zi_167 none 53 [.ref l0, .int x0, l2] [] h Q) ∧
    (∀ (d : Nat) (l0 : Value) (l1 : Int32) (l2 : Int32)  (h : zMm) (Q : Option Value → zMm → Prop), zWp d zi_167 none 53 [l0, .int l1, .int l2] [] h Q = zWp d zi_167 none 56 [l0, .int l1, .int (l2 + 1)] [] h Q) ∧
    (∀ (d : Nat) (l0 : Value) (l1 : Value) (l2 : Value)  (h : zMm) (Q : Option Value → zMm → Prop), zWp d zi_167 none 56 [l0, l1, l2] [] h Q = zWp d zi_167 none 4 [l0, l1, l2] [] h Q) ∧
    (∀ (d : Nat) (l0 : Value) (l1 : Int32) (l2 : Value)  (h : zMm) (Q : Option Value → zMm → Prop), zWp d zi_167 none 59 [l0, .int l1, l2] [] h Q = zWp d zi_167 none 60 [l0, .int l1, l2] [.int l1] h Q) ∧
    (∀ (d : Nat) (l0 : Value) (l1 : Value) (l2 : Value) (x0 : Int32) (h : zMm) (Q : Option Value → zMm → Prop), zWp d zi_167 none 60 [l0, l1, l2] [.int x0] h Q = Q (some (.int x0)) h) :=
  ⟨(fun d l0 l1 l2  h Q => zr_iconst rfl (by decide)),
   (fun d l0 l1 l2 x0 h Q => zr_istore_n (n := 1) rfl (Nat.le_of_ble_eq_true rfl) rfl),
   (fun d l0 l1 l2  h Q => zr_iconst rfl (by decide)),
   (fun d l0 l1 l2 x0 h Q => zr_istore_n (n := 2) rfl (Nat.le_of_ble_eq_true rfl) rfl),
   (fun d l0 l1 l2 x0 h Q => zr_aload_n rfl rfl),
   (fun d l0 l1 l2 x1 x0 I L P Q p0 => zr_getI rfl lf_10_99 (fun _ _ _ => rfl) p0),
   (fun d l0 l1 l2 x1 x0 h Q => zr_ic_ge rfl (by decide)),
   (fun d l0 l1 l2  h Q => zr_aload_n rfl rfl),
   (fun d l0 l1 l2 x0 I L P Q p0 => zr_vir (as := []) (rest := []) rfl lm_10_162 m_158 kd_158 rfl (Nat.le_of_ble_eq_true rfl) p0),
   (fun d l0 l1 l2  h Q => zr_aload_n rfl rfl),
   (fun d l0 l1 l2 x0 I L P Q p0 => zr_getQ rfl lf_10_40 (fun _ _ _ => rfl) p0),
   (fun d l0 l1 l2 x0 h Q => zr_iload_n rfl rfl),
   (fun d l0 l1 l2 x1 x0 h Q => zr_dup2 rfl rfl rfl),
   (fun d l0 l1 l2 x3 x2 x1 x0 I L P Q p0 => zr_ald rfl p0),
   (fun d l0 l1 l2 x2 x1 x0 h Q => zr_iconst rfl (by decide)),
   (fun d l0 l1 l2 x3 x2 x1 x0 h Q => zr_isub rfl),
   (fun d l0 l1 l2 x2 x1 x0 I L P Q p0 => zr_ast rfl p0),
   (fun d l0 l1 l2  h Q => zr_iload_n rfl rfl),
   (fun d l0 l1 l2 x0 h Q => zr_aload_n rfl rfl),
   (fun d l0 l1 l2 x1 x0 I L P Q p0 => zr_getQ rfl lf_10_22 (fun _ _ _ => rfl) p0),
   (fun d l0 l1 l2 x1 x0 h Q => zr_iload_n rfl rfl),
   (fun d l0 l1 l2 x2 x1 x0 I L P Q p0 => zr_ald rfl p0),
   (fun d l0 l1 l2 x1 x0 h Q => zr_iconst rfl (by decide)),
   (fun d l0 l1 l2 x2 x1 x0 h Q => zr_ic_le rfl (by decide)),
   (fun d l0 l1 l2 x0 h Q => zr_aload_n rfl rfl),
   (fun d l0 l1 l2 x1 x0 I L P Q p0 => zr_vir (as := []) (rest := [.int x0]) rfl lm_10_248 m_161 kd_161 rfl (Nat.le_of_ble_eq_true rfl) p0),
   (fun d l0 l1 l2 x1 x0 h Q => zr_if_ge rfl (by decide)),
   (fun d l0 l1 l2 x0 h Q => zr_iconst rfl (by decide)),
   (fun d l0 l1 l2 x1 x0 h Q => zr_iload_n rfl rfl),
   (fun d l0 l1 l2 x2 x1 x0 h Q => zr_ishl rfl),
   (fun d l0 l1 l2 x1 x0 h Q => zr_goto rfl (by decide)),
   (fun d l0 l1 l2 x0 h Q => zr_iconst rfl (by decide)),
   (fun d l0 l1 l2 x1 x0 h Q => zr_ior rfl),
   (fun d l0 l1 l2 x0 h Q => zr_istore_n (n := 1) rfl (Nat.le_of_ble_eq_true rfl) rfl),
   (fun d l0 l1 l2  h Q => zr_iinc (n := 2) (kc := 1) rfl rfl (Nat.le_of_ble_eq_true rfl) rfl (by decide)),
   (fun d l0 l1 l2  h Q => zr_goto rfl (by decide)),
   (fun d l0 l1 l2  h Q => zr_iload_n rfl rfl),
   (fun d l0 l1 l2 x0 h Q => zr_iret rfl rfl)⟩
theorem H_X10_without_4 : ∀ (d : Nat) (l0 : Value) (l1 : Value) (l2 : Int32)  (h : zMm) (Q : Option Value → zMm → Prop), zWp d zi_167 none 4 [l0, l1, .int l2] [] h Q = zWp d zi_167 none 5 [l0, l1, .int l2] [.int l2] h Q := fun d l0 l1 l2  h Q => zr_iload_n rfl rfl
theorem E_X10_highest : ∀ (d : Nat) (a0 : Nat) (h : zMm) (Q : Option Value → zMm → Prop), zWM (d + 1) 168 [.ref a0] h Q = zWp d zi_168 none 0 [.ref a0, .retAddr 0, .retAddr 0, .retAddr 0, .retAddr 0, .retAddr 0, .retAddr 0] [] h Q := fun d a0 h Q => zW_M m_168 (Nat.le_of_ble_eq_true rfl) rfl
set_option maxRecDepth 100000 in
theorem R_X10_highest :
    (∀ (d : Nat) (l0 : Nat) (l1 : Value) (l2 : Value) (l3 : Value) (l4 : Value) (l5 : Value) (l6 : Value)  (h : zMm) (Q : Option Value → zMm → Prop), zWp d zi_168 none 0 [.ref l0, l1, l2, l3, l4, l5, l6] [] h Q = zWp d zi_168 none 1 [.ref l0, l1, l2, l3, l4, l5, l6] [.ref l0] h Q) ∧
    (∀ (d : Nat) (l0 : Value) (l1 : Value) (l2 : Value) (l3 : Value) (l4 : Value) (l5 : Value) (l6 : Value) (x0 : Nat) (I : Nat → Nat → Int32) (L : Nat → Nat → Int64) (P : Nat → Nat → Option Nat) (Q : Option Value → zMm → Prop), zSH[x0]? = some (.inl 10) → zWp d zi_168 none 1 [l0, l1, l2, l3, l4, l5, l6] [.ref x0] (zSH, I, L, P) Q = zWp d zi_168 none 4 [l0, l1, l2, l3, l4, l5, l6] [.int (I x0 6)] (zSH, I, L, P) Q) ∧
    (∀ (d : Nat) (l0 : Nat) (l1 : Value) (l2 : Value) (l3 : Value) (l4 : Value) (l5 : Value) (l6 : Value) (x0 : Int32) (h : zMm) (Q : Option Value → zMm → Prop), zWp d zi_168 none 4 [.ref l0, l1, l2, l3, l4, l5, l6] [.int x0] h Q = zWp d zi_168 none 5 [.ref l0, .int x0, l2, l3, l4, l5, l6] [] h Q) ∧
    (∀ (d : Nat) (l0 : Nat) (l1 : Value) (l2 : Value) (l3 : Value) (l4 : Value) (l5 : Value) (l6 : Value)  (h : zMm) (Q : Option Value → zMm → Prop), zWp d zi_168 none 5 [.ref l0, l1, l2, l3, l4, l5, l6] [] h Q = zWp d zi_168 none 6 [.ref l0, l1, l2, l3, l4, l5, l6] [.ref l0] h Q) ∧
    (∀ (d : Nat) (l0 : Value) (l1 : Value) (l2 : Value) (l3 : Value) (l4 : Value) (l5 : Value) (l6 : Value) (x0 : Nat) (I : Nat → Nat → Int32) (L : Nat → Nat → Int64) (P : Nat → Nat → Option Nat) (Q : Option Value → zMm → Prop), zSH[x0]? = some (.inl 10) → zWp d zi_168 none 6 [l0, l1, l2, l3, l4, l5, l6] [.ref x0] (zSH, I, L, P) Q = zWM d 158 [.ref x0] (zSH, I, L, P) (fun r h1 => zWp d zi_168 none 9 [l0, l1, l2, l3, l4, l5, l6] (r.toList ++ []) h1 Q)) ∧
    (∀ (d : Nat) (l0 : Nat) (l1 : Value) (l2 : Value) (l3 : Value) (l4 : Value) (l5 : Value) (l6 : Value)  (h : zMm) (Q : Option Value → zMm → Prop), zWp d zi_168 none 9 [.ref l0, l1, l2, l3, l4, l5, l6] [] h Q = zWp d zi_168 none 10 [.ref l0, l1, l2, l3, l4, l5, l6] [.ref l0] h Q) ∧
    (∀ (d : Nat) (l0 : Value) (l1 : Value) (l2 : Value) (l3 : Value) (l4 : Value) (l5 : Value) (l6 : Value) (x0 : Nat) (I : Nat → Nat → Int32) (L : Nat → Nat → Int64) (P : Nat → Nat → Option Nat) (Q : Option Value → zMm → Prop), zSH[x0]? = some (.inl 10) → zWp d zi_168 none 10 [l0, l1, l2, l3, l4, l5, l6] [.ref x0] (zSH, I, L, P) Q = zWp d zi_168 none 13 [l0, l1, l2, l3, l4, l5, l6] [.int (I x0 8)] (zSH, I, L, P) Q) ∧
    (∀ (d : Nat) (l0 : Nat) (l1 : Value) (l2 : Value) (l3 : Value) (l4 : Value) (l5 : Value) (l6 : Value) (x0 : Int32) (h : zMm) (Q : Option Value → zMm → Prop), zWp d zi_168 none 13 [.ref l0, l1, l2, l3, l4, l5, l6] [.int x0] h Q = zWp d zi_168 none 14 [.ref l0, l1, l2, l3, l4, l5, l6] [.ref l0, .int x0] h Q) ∧
    (∀ (d : Nat) (l0 : Value) (l1 : Value) (l2 : Value) (l3 : Value) (l4 : Value) (l5 : Value) (l6 : Value) (x1 : Nat) (x0 : Int32) (I : Nat → Nat → Int32) (L : Nat → Nat → Int64) (P : Nat → Nat → Option Nat) (Q : Option Value → zMm → Prop), zSH[x1]? = some (.inl 10) → zWp d zi_168 none 14 [l0, l1, l2, l3, l4, l5, l6] [.ref x1, .int x0] (zSH, I, L, P) Q = zWp d zi_168 none 17 [l0, l1, l2, l3, l4, l5, l6] [.int (I x1 9), .int x0] (zSH, I, L, P) Q) ∧
    (∀ (d : Nat) (l0 : Value) (l1 : Value) (l2 : Value) (l3 : Value) (l4 : Value) (l5 : Value) (l6 : Value) (x1 : Int32) (x0 : Int32) (h : zMm) (Q : Option Value → zMm → Prop), zWp d zi_168 none 17 [l0, l1, l2, l3, l4, l5, l6] [.int x1, .int x0] h Q = zWp d zi_168 none 18 [l0, l1, l2, l3, l4, l5, l6] [.int (x0 + x1)] h Q) ∧
    (∀ (d : Nat) (l0 : Value) (l1 : Int32) (l2 : Value) (l3 : Value) (l4 : Value) (l5 : Value) (l6 : Value) (x0 : Int32) (h : zMm) (Q : Option Value → zMm → Prop), zWp d zi_168 none 18 [l0, .int l1, l2, l3, l4, l5, l6] [.int x0] h Q = zWp d zi_168 none 19 [l0, .int l1, .int x0, l3, l4, l5, l6] [] h Q) ∧
    (∀ (d : Nat) (l0 : Value) (l1 : Value) (l2 : Value) (l3 : Value) (l4 : Value) (l5 : Value) (l6 : Value)  (h : zMm) (Q : Option Value → zMm → Prop), zWp d zi_168 none 19 [l0, l1, l2, l3, l4, l5, l6] [] h Q = zWp d zi_168 none 20 [l0, l1, l2, l3, l4, l5, l6] [.int 0] h Q) ∧
    (∀ (d : Nat) (l0 : Value) (l1 : Value) (l2 : Int32) (l3 : Value) (l4 : Value) (l5 : Value) (l6 : Value) (x0 : Int32) (h : zMm) (Q : Option Value → zMm → Prop), zWp d zi_168 none 20 [l0, l1, .int l2, l3, l4, l5, l6] [.int x0] h Q = zWp d zi_168 none 21 [l0, l1, .int l2, .int x0, l4, l5, l6] [] h Q) ∧
    (∀ (d : Nat) (l0 : Nat) (l1 : Value) (l2 : Value) (l3 : Value) (l4 : Value) (l5 : Value) (l6 : Value)  (h : zMm) (Q : Option Value → zMm → Prop), zWp d zi_168 none 21 [.ref l0, l1, l2, l3, l4, l5, l6] [] h Q = zWp d zi_168 none 22 [.ref l0, l1, l2, l3, l4, l5, l6] [.ref l0] h Q) ∧
    (∀ (d : Nat) (l0 : Value) (l1 : Value) (l2 : Value) (l3 : Value) (l4 : Value) (l5 : Value) (l6 : Value) (x0 : Nat) (I : Nat → Nat → Int32) (L : Nat → Nat → Int64) (P : Nat → Nat → Option Nat) (Q : Option Value → zMm → Prop), zSH[x0]? = some (.inl 10) → zWp d zi_168 none 22 [l0, l1, l2, l3, l4, l5, l6] [.ref x0] (zSH, I, L, P) Q = zWM d 161 [.ref x0] (zSH, I, L, P) (fun r h1 => zWp d zi_168 none 25 [l0, l1, l2, l3, l4, l5, l6] (r.toList ++ []) h1 Q)) ∧
    (∀ (d : Nat) (l0 : Value) (l1 : Value) (l2 : Value) (l3 : Value) (l4 : Value) (l5 : Value) (l6 : Value) (x0 : Int32) (h : zMm) (Q : Option Value → zMm → Prop), zWp d zi_168 none 25 [l0, l1, l2, l3, l4, l5, l6] [.int x0] h Q = if 0 ≤ x0 then zWp d zi_168 none 32 [l0, l1, l2, l3, l4, l5, l6] [] h Q else zWp d zi_168 none 28 [l0, l1, l2, l3, l4, l5, l6] [] h Q) ∧
    (∀ (d : Nat) (l0 : Value) (l1 : Value) (l2 : Value) (l3 : Value) (l4 : Value) (l5 : Value) (l6 : Value)  (h : zMm) (Q : Option Value → zMm → Prop), zWp d zi_168 none 28 [l0, l1, l2, l3, l4, l5, l6] [] h Q = zWp d zi_168 none 29 [l0, l1, l2, l3, l4, l5, l6] [.int 1] h Q) ∧
    (∀ (d : Nat) (l0 : Value) (l1 : Value) (l2 : Value) (l3 : Value) (l4 : Value) (l5 : Value) (l6 : Value) (x0 : Int32) (h : zMm) (Q : Option Value → zMm → Prop), zWp d zi_168 none 29 [l0, l1, l2, l3, l4, l5, l6] [.int x0] h Q = zWp d zi_168 none 33 [l0, l1, l2, l3, l4, l5, l6] [.int x0] h Q) ∧
    (∀ (d : Nat) (l0 : Value) (l1 : Value) (l2 : Value) (l3 : Value) (l4 : Value) (l5 : Value) (l6 : Value)  (h : zMm) (Q : Option Value → zMm → Prop), zWp d zi_168 none 32 [l0, l1, l2, l3, l4, l5, l6] [] h Q = zWp d zi_168 none 33 [l0, l1, l2, l3, l4, l5, l6] [.int 0] h Q) ∧
    (∀ (d : Nat) (l0 : Value) (l1 : Value) (l2 : Value) (l3 : Int32) (l4 : Value) (l5 : Value) (l6 : Value) (x0 : Int32) (h : zMm) (Q : Option Value → zMm → Prop), zWp d zi_168 none 33 [l0, l1, l2, .int l3, l4, l5, l6] [.int x0] h Q = zWp d zi_168 none 35 [l0, l1, l2, .int l3, .int x0, l5, l6] [] h Q) ∧
    (∀ (d : Nat) (l0 : Value) (l1 : Value) (l2 : Value) (l3 : Value) (l4 : Value) (l5 : Value) (l6 : Value) (x0 : Int32) (h : zMm) (Q : Option Value → zMm → Prop), zWp d zi_168 none 37 [l0, l1, l2, l3, l4, l5, l6] [.int x0] h Q = if x0 = 0 then zWp d zi_168 none 183 [l0, l1, l2, l3, l4, l5, l6] [] h Q else zWp d zi_168 none 40 [l0, l1, l2, l3, l4, l5, l6] [] h Q) ∧
    (∀ (d : Nat) (l0 : Nat) (l1 : Value) (l2 : Value) (l3 : Value) (l4 : Value) (l5 : Value) (l6 : Value)  (h : zMm) (Q : Option Value → zMm → Prop), zWp d zi_168 none 40 [.ref l0, l1, l2, l3, l4, l5, l6] [] h Q = zWp d zi_168 none 41 [.ref l0, l1, l2, l3, l4, l5, l6] [.ref l0] h Q) ∧
    (∀ (d : Nat) (l0 : Value) (l1 : Value) (l2 : Value) (l3 : Value) (l4 : Value) (l5 : Value) (l6 : Value) (x0 : Nat) (I : Nat → Nat → Int32) (L : Nat → Nat → Int64) (P : Nat → Nat → Option Nat) (Q : Option Value → zMm → Prop), zSH[x0]? = some (.inl 10) → zWp d zi_168 none 41 [l0, l1, l2, l3, l4, l5, l6] [.ref x0] (zSH, I, L, P) Q = zWp d zi_168 none 44 [l0, l1, l2, l3, l4, l5, l6] [.int (I x0 6)] (zSH, I, L, P) Q) ∧
    (∀ (d : Nat) (l0 : Value) (l1 : Value) (l2 : Value) (l3 : Value) (l4 : Value) (l5 : Value) (l6 : Value) (x0 : Int32) (h : zMm) (Q : Option Value → zMm → Prop), zWp d zi_168 none 44 [l0, l1, l2, l3, l4, l5, l6] [.int x0] h Q = zWp d zi_168 none 46 [l0, l1, l2, l3, l4, l5, l6] [.int 24, .int x0] h Q) ∧
    (∀ (d : Nat) (l0 : Value) (l1 : Value) (l2 : Value) (l3 : Value) (l4 : Value) (l5 : Value) (l6 : Value) (x1 : Int32) (x0 : Int32) (h : zMm) (Q : Option Value → zMm → Prop), zWp d zi_168 none 46 [l0, l1, l2, l3, l4, l5, l6] [.int x1, .int x0] h Q = if x1 ≤ x0 then zWp d zi_168 none 183 [l0, l1, l2, l3, l4, l5, l6] [] h Q else zWp d zi_168 none 49 [l0, l1, l2, l3, l4, l5, l6] [] h Q) ∧
    (∀ (d : Nat) (l0 : Value) (l1 : Value) (l2 : Int32) (l3 : Value) (l4 : Value) (l5 : Value) (l6 : Value)  (h : zMm) (Q : Option Value → zMm → Prop), zWp d zi_168 none 49 [l0, l1, .int l2, l3, l4, l5, l6] [] h Q = zWp d zi_168 none 50 [l0, l1, .int l2, l3, l4, l5, l6] [.int l2] h Q) ∧
    (∀ (d : Nat) (l0 : Value) (l1 : Value) (l2 : Value) (l3 : Value) (l4 : Value) (l5 : Value) (l6 : Value) (x0 : Int32) (h : zMm) (Q : Option Value → zMm → Prop), zWp d zi_168 none 50 [l0, l1, l2, l3, l4, l5, l6] [.int x0] h Q = zWp d zi_168 none 51 [l0, l1, l2, l3, l4, l5, l6] [.int 3, .int x0] h Q) ∧
    (∀ (d : Nat) (l0 : Value) (l1 : Value) (l2 : Value) (l3 : Value) (l4 : Value) (l5 : Value) (l6 : Value) (x1 : Int32) (x0 : Int32) (h : zMm) (Q : Option Value → zMm → Prop), zWp d zi_168 none 51 [l0, l1, l2, l3, l4, l5, l6] [.int x1, .int x0] h Q = if x0 < x1 then zWp d zi_168 none 183 [l0, l1, l2, l3, l4, l5, l6] [] h Q else zWp d zi_168 none 54 [l0, l1, l2, l3, l4, l5, l6] [] h Q) ∧
    (∀ (d : Nat) (l0 : Nat) (l1 : Value) (l2 : Value) (l3 : Value) (l4 : Value) (l5 : Value) (l6 : Value)  (h : zMm) (Q : Option Value → zMm → Prop), zWp d zi_168 none 54 [.ref l0, l1, l2, l3, l4, l5, l6] [] h Q = zWp d zi_168 none 55 [.ref l0, l1, l2, l3, l4, l5, l6] [.ref l0] h Q) ∧
    (∀ (d : Nat) (l0 : Value) (l1 : Value) (l2 : Value) (l3 : Value) (l4 : Value) (l5 : Value) (l6 : Value) (x0 : Nat) (I : Nat → Nat → Int32) (L : Nat → Nat → Int64) (P : Nat → Nat → Option Nat) (Q : Option Value → zMm → Prop), zSH[x0]? = some (.inl 10) → zWp d zi_168 none 55 [l0, l1, l2, l3, l4, l5, l6] [.ref x0] (zSH, I, L, P) Q = zWp d zi_168 none 58 [l0, l1, l2, l3, l4, l5, l6] [va_rf (P x0 0)] (zSH, I, L, P) Q) ∧
    (∀ (d : Nat) (l0 : Nat) (l1 : Value) (l2 : Value) (l3 : Value) (l4 : Value) (l5 : Value) (l6 : Value) (x0 : Nat) (h : zMm) (Q : Option Value → zMm → Prop), zWp d zi_168 none 58 [.ref l0, l1, l2, l3, l4, l5, l6] [.ref x0] h Q = zWp d zi_168 none 59 [.ref l0, l1, l2, l3, l4, l5, l6] [.ref l0, .ref x0] h Q) ∧
    (∀ (d : Nat) (l0 : Value) (l1 : Value) (l2 : Value) (l3 : Value) (l4 : Value) (l5 : Value) (l6 : Value) (x1 : Nat) (x0 : Nat) (I : Nat → Nat → Int32) (L : Nat → Nat → Int64) (P : Nat → Nat → Option Nat) (Q : Option Value → zMm → Prop), zSH[x1]? = some (.inl 10) → zWp d zi_168 none 59 [l0, l1, l2, l3, l4, l5, l6] [.ref x1, .ref x0] (zSH, I, L, P) Q = zWp d zi_168 none 62 [l0, l1, l2, l3, l4, l5, l6] [.int (I x1 6), .ref x0] (zSH, I, L, P) Q) ∧
    (∀ (d : Nat) (l0 : Value) (l1 : Value) (l2 : Value) (l3 : Value) (l4 : Value) (l5 : Value) (l6 : Value) (x1 : Int32) (x0 : Nat) (I : Nat → Nat → Int32) (L : Nat → Nat → Int64) (P : Nat → Nat → Option Nat) (Q : Option Value → zMm → Prop), zAk zSH x0 = some .int → zWp d zi_168 none 62 [l0, l1, l2, l3, l4, l5, l6] [.int x1, .ref x0] (zSH, I, L, P) Q = (vp_in x1 (zAn zSH x0) ∧ zWp d zi_168 none 63 [l0, l1, l2, l3, l4, l5, l6] [.int (I x0 x1.toNatClampNeg)] (zSH, I, L, P) Q)) ∧
    (∀ (d : Nat) (l0 : Value) (l1 : Value) (l2 : Value) (l3 : Value) (l4 : Int32) (l5 : Value) (l6 : Value) (x0 : Int32) (h : zMm) (Q : Option Value → zMm → Prop), zWp d zi_168 none 63 [l0, l1, l2, l3, .int l4, l5, l6] [.int x0] h Q = zWp d zi_168 none 65 [l0, l1, l2, l3, .int l4, .int x0, l6] [] h Q) ∧
    (∀ (d : Nat) (l0 : Nat) (l1 : Value) (l2 : Value) (l3 : Value) (l4 : Value) (l5 : Value) (l6 : Value)  (h : zMm) (Q : Option Value → zMm → Prop), zWp d zi_168 none 65 [.ref l0, l1, l2, l3, l4, l5, l6] [] h Q = zWp d zi_168 none 66 [.ref l0, l1, l2, l3, l4, l5, l6] [.ref l0] h Q) ∧
    (∀ (d : Nat) (l0 : Value) (l1 : Value) (l2 : Value) (l3 : Value) (l4 : Value) (l5 : Value) (l6 : Value) (x0 : Nat) (I : Nat → Nat → Int32) (L : Nat → Nat → Int64) (P : Nat → Nat → Option Nat) (Q : Option Value → zMm → Prop), zSH[x0]? = some (.inl 10) → zWp d zi_168 none 66 [l0, l1, l2, l3, l4, l5, l6] [.ref x0] (zSH, I, L, P) Q = zWp d zi_168 none 69 [l0, l1, l2, l3, l4, l5, l6] [va_rf (P x0 0)] (zSH, I, L, P) Q) ∧
    (∀ (d : Nat) (l0 : Value) (l1 : Value) (l2 : Value) (l3 : Value) (l4 : Value) (l5 : Value) (l6 : Value) (x0 : Nat) (h : zMm) (Q : Option Value → zMm → Prop), zWp d zi_168 none 69 [l0, l1, l2, l3, l4, l5, l6] [.ref x0] h Q = zWp d zi_168 none 71 [l0, l1, l2, l3, l4, l5, l6] [.int 24, .ref x0] h Q) ∧
    (∀ (d : Nat) (l0 : Nat) (l1 : Value) (l2 : Value) (l3 : Value) (l4 : Value) (l5 : Value) (l6 : Value) (x1 : Int32) (x0 : Nat) (h : zMm) (Q : Option Value → zMm → Prop), zWp d zi_168 none 71 [.ref l0, l1, l2, l3, l4, l5, l6] [.int x1, .ref x0] h Q = zWp d zi_168 none 72 [.ref l0, l1, l2, l3, l4, l5, l6] [.ref l0, .int x1, .ref x0] h Q) ∧
    (∀ (d : Nat) (l0 : Value) (l1 : Value) (l2 : Value) (l3 : Value) (l4 : Value) (l5 : Value) (l6 : Value) (x2 : Nat) (x1 : Int32) (x0 : Nat) (I : Nat → Nat → Int32) (L : Nat → Nat → Int64) (P : Nat → Nat → Option Nat) (Q : Option Value → zMm → Prop), zSH[x2]? = some (.inl 10) → zWp d zi_168 none 72 [l0, l1, l2, l3, l4, l5, l6] [.ref x2, .int x1, .ref x0] (zSH, I, L, P) Q = zWp d zi_168 none 75 [l0, l1, l2, l3, l4, l5, l6] [.int (I x2 6), .int x1, .ref x0] (zSH, I, L, P) Q) ∧
    (∀ (d : Nat) (l0 : Value) (l1 : Value) (l2 : Value) (l3 : Value) (l4 : Value) (l5 : Value) (l6 : Value) (x2 : Int32) (x1 : Int32) (x0 : Nat) (h : zMm) (Q : Option Value → zMm → Prop), zWp d zi_168 none 75 [l0, l1, l2, l3, l4, l5, l6] [.int x2, .int x1, .ref x0] h Q = zWp d zi_168 none 76 [l0, l1, l2, l3, l4, l5, l6] [.int (x1 + x2), .ref x0] h Q) ∧
    (∀ (d : Nat) (l0 : Value) (l1 : Value) (l2 : Value) (l3 : Value) (l4 : Value) (l5 : Value) (l6 : Value) (x1 : Int32) (x0 : Nat) (I : Nat → Nat → Int32) (L : Nat → Nat → Int64) (P : Nat → Nat → Option Nat) (Q : Option Value → zMm → Prop), zAk zSH x0 = some .int → zWp d zi_168 none 76 [l0, l1, l2, l3, l4, l5, l6] [.int x1, .ref x0] (zSH, I, L, P) Q = (vp_in x1 (zAn zSH x0) ∧ zWp d zi_168 none 77 [l0, l1, l2, l3, l4, l5, l6] [.int (I x0 x1.toNatClampNeg)] (zSH, I, L, P) Q)) ∧
    (∀ (d : Nat) (l0 : Value) (l1 : Value) (l2 : Value) (l3 : Value) (l4 : Value) (l5 : Int32) (l6 : Value) (x0 : Int32) (h : zMm) (Q : Option Value → zMm → Prop), zWp d zi_168 none 77 [l0, l1, l2, l3, l4, .int l5, l6] [.int x0] h Q = zWp d zi_168 none 79 [l0, l1, l2, l3, l4, .int l5, .int x0] [] h Q) ∧
    (∀ (d : Nat) (l0 : Nat) (l1 : Value) (l2 : Value) (l3 : Value) (l4 : Value) (l5 : Value) (l6 : Value)  (h : zMm) (Q : Option Value → zMm → Prop), zWp d zi_168 none 79 [.ref l0, l1, l2, l3, l4, l5, l6] [] h Q = zWp d zi_168 none 80 [.ref l0, l1, l2, l3, l4, l5, l6] [.ref l0] h Q) ∧
    (∀ (d : Nat) (l0 : Value) (l1 : Value) (l2 : Value) (l3 : Value) (l4 : Value) (l5 : Value) (l6 : Value) (x0 : Nat) (I : Nat → Nat → Int32) (L : Nat → Nat → Int64) (P : Nat → Nat → Option Nat) (Q : Option Value → zMm → Prop), zSH[x0]? = some (.inl 10) → zWp d zi_168 none 80 [l0, l1, l2, l3, l4, l5, l6] [.ref x0] (zSH, I, L, P) Q = zWp d zi_168 none 83 [l0, l1, l2, l3, l4, l5, l6] [va_rf (P x0 24)] (zSH, I, L, P) Q) ∧
    (∀ (d : Nat) (l0 : Value) (l1 : Value) (l2 : Value) (l3 : Value) (l4 : Value) (l5 : Value) (l6 : Value) (x0 : Nat) (h : zMm) (Q : Option Value → zMm → Prop), zWp d zi_168 none 83 [l0, l1, l2, l3, l4, l5, l6] [.ref x0] h Q = zWp d zi_168 none 84 [l0, l1, l2, l3, l4, l5, l6] [.int 2, .ref x0] h Q) ∧
    (∀ (d : Nat) (l0 : Nat) (l1 : Value) (l2 : Value) (l3 : Value) (l4 : Value) (l5 : Value) (l6 : Value) (x1 : Int32) (x0 : Nat) (h : zMm) (Q : Option Value → zMm → Prop), zWp d zi_168 none 84 [.ref l0, l1, l2, l3, l4, l5, l6] [.int x1, .ref x0] h Q = zWp d zi_168 none 85 [.ref l0, l1, l2, l3, l4, l5, l6] [.ref l0, .int x1, .ref x0] h Q) ∧
    (∀ (d : Nat) (l0 : Value) (l1 : Value) (l2 : Value) (l3 : Value) (l4 : Value) (l5 : Value) (l6 : Value) (x2 : Nat) (x1 : Int32) (x0 : Nat) (I : Nat → Nat → Int32) (L : Nat → Nat → Int64) (P : Nat → Nat → Option Nat) (Q : Option Value → zMm → Prop), zSH[x2]? = some (.inl 10) → zWp d zi_168 none 85 [l0, l1, l2, l3, l4, l5, l6] [.ref x2, .int x1, .ref x0] (zSH, I, L, P) Q = zWp d zi_168 none 88 [l0, l1, l2, l3, l4, l5, l6] [.int (I x2 6), .int x1, .ref x0] (zSH, I, L, P) Q) ∧
    (∀ (d : Nat) (l0 : Value) (l1 : Value) (l2 : Value) (l3 : Value) (l4 : Value) (l5 : Value) (l6 : Value) (x2 : Int32) (x1 : Int32) (x0 : Nat) (h : zMm) (Q : Option Value → zMm → Prop), zWp d zi_168 none 88 [l0, l1, l2, l3, l4, l5, l6] [.int x2, .int x1, .ref x0] h Q = zWp d zi_168 none 89 [l0, l1, l2, l3, l4, l5, l6] [.int (x1 * x2), .ref x0] h Q) ∧
    (∀ (d : Nat) (l0 : Value) (l1 : Value) (l2 : Value) (l3 : Value) (l4 : Value) (l5 : Int32) (l6 : Value) (x1 : Int32) (x0 : Nat) (h : zMm) (Q : Option Value → zMm → Prop), zWp d zi_168 none 89 [l0, l1, l2, l3, l4, .int l5, l6] [.int x1, .ref x0] h Q = zWp d zi_168 none 91 [l0, l1, l2, l3, l4, .int l5, l6] [.int l5, .int x1, .ref x0] h Q) ∧
    (∀ (d : Nat) (l0 : Value) (l1 : Value) (l2 : Value) (l3 : Value) (l4 : Value) (l5 : Value) (l6 : Value) (x2 : Int32) (x1 : Int32) (x0 : Nat) (I : Nat → Nat → Int32) (L : Nat → Nat → Int64) (P : Nat → Nat → Option Nat) (Q : Option Value → zMm → Prop), zAk zSH x0 = some .int → zWp d zi_168 none 91 [l0, l1, l2, l3, l4, l5, l6] [.int x2, .int x1, .ref x0] (zSH, I, L, P) Q = (vp_in x1 (zAn zSH x0) ∧ zWp d zi_168 none 92 [l0, l1, l2, l3, l4, l5, l6] [] (zSH, zw I x0 (upd (I x0) x1.toNatClampNeg x2), L, P) Q)) ∧
    (∀ (d : Nat) (l0 : Nat) (l1 : Value) (l2 : Value) (l3 : Value) (l4 : Value) (l5 : Value) (l6 : Value)  (h : zMm) (Q : Option Value → zMm → Prop), zWp d zi_168 none 92 [.ref l0, l1, l2, l3, l4, l5, l6] [] h Q = zWp d zi_168 none 93 [.ref l0, l1, l2, l3, l4, l5, l6] [.ref l0] h Q) ∧
    (∀ (d : Nat) (l0 : Value) (l1 : Value) (l2 : Value) (l3 : Value) (l4 : Value) (l5 : Value) (l6 : Value) (x0 : Nat) (I : Nat → Nat → Int32) (L : Nat → Nat → Int64) (P : Nat → Nat → Option Nat) (Q : Option Value → zMm → Prop), zSH[x0]? = some (.inl 10) → zWp d zi_168 none 93 [l0, l1, l2, l3, l4, l5, l6] [.ref x0] (zSH, I, L, P) Q = zWp d zi_168 none 96 [l0, l1, l2, l3, l4, l5, l6] [va_rf (P x0 24)] (zSH, I, L, P) Q) ∧
    (∀ (d : Nat) (l0 : Value) (l1 : Value) (l2 : Value) (l3 : Value) (l4 : Value) (l5 : Value) (l6 : Value) (x0 : Nat) (h : zMm) (Q : Option Value → zMm → Prop), zWp d zi_168 none 96 [l0, l1, l2, l3, l4, l5, l6] [.ref x0] h Q = zWp d zi_168 none 97 [l0, l1, l2, l3, l4, l5, l6] [.int 2, .ref x0] h Q) ∧
    (∀ (d : Nat) (l0 : Nat) (l1 : Value) (l2 : Value) (l3 : Value) (l4 : Value) (l5 : Value) (l6 : Value) (x1 : Int32) (x0 : Nat) (h : zMm) (Q : Option Value → zMm → Prop), zWp d zi_168 none 97 [.ref l0, l1, l2, l3, l4, l5, l6] [.int x1, .ref x0] h Q = zWp d zi_168 none 98 [.ref l0, l1, l2, l3, l4, l5, l6] [.ref l0, .int x1, .ref x0] h Q) ∧
    (∀ (d : Nat) (l0 : Value) (l1 : Value) (l2 : Value) (l3 : Value) (l4 : Value) (l5 : Value) (l6 : Value) (x2 : Nat) (x1 : Int32) (x0 : Nat) (I : Nat → Nat → Int32) (L : Nat → Nat → Int64) (P : Nat → Nat → Option Nat) (Q : Option Value → zMm → Prop), zSH[x2]? = some (.inl 10) → zWp d zi_168 none 98 [l0, l1, l2, l3, l4, l5, l6] [.ref x2, .int x1, .ref x0] (zSH, I, L, P) Q = zWp d zi_168 none 101 [l0, l1, l2, l3, l4, l5, l6] [.int (I x2 6), .int x1, .ref x0] (zSH, I, L, P) Q) ∧
    (∀ (d : Nat) (l0 : Value) (l1 : Value) (l2 : Value) (l3 : Value) (l4 : Value) (l5 : Value) (l6 : Value) (x2 : Int32) (x1 : Int32) (x0 : Nat) (h : zMm) (Q : Option Value → zMm → Prop), zWp d zi_168 none 101 [l0, l1, l2, l3, l4, l5, l6] [.int x2, .int x1, .ref x0] h Q = zWp d zi_168 none 102 [l0, l1, l2, l3, l4, l5, l6] [.int (x1 * x2), .ref x0] h Q) ∧
    (∀ (d : Nat) (l0 : Value) (l1 : Value) (l2 : Value) (l3 : Value) (l4 : Value) (l5 : Value) (l6 : Value) (x1 : Int32) (x0 : Nat) (h : zMm) (Q : Option Value → zMm → Prop), zWp d zi_168 none 102 [l0, l1, l2, l3, l4, l5, l6] [.int x1, .ref x0] h Q = zWp d zi_168 none 103 [l0, l1, l2, l3, l4, l5, l6] [.int 1, .int x1, .ref x0] h Q) ∧
    (∀ (d : Nat) (l0 : Value) (l1 : Value) (l2 : Value) (l3 : Value) (l4 : Value) (l5 : Value) (l6 : Value) (x2 : Int32) (x1 : Int32) (x0 : Nat) (h : zMm) (Q : Option Value → zMm → Prop), zWp d zi_168 none 103 [l0, l1, l2, l3, l4, l5, l6] [.int x2, .int x1, .ref x0] h Q = zWp d zi_168 none 104 [l0, l1, l2, l3, l4, l5, l6] [.int (x1 + x2), .ref x0] h Q) ∧
    (∀ (d : Nat) (l0 : Value) (l1 : Value) (l2 : Value) (l3 : Value) (l4 : Value) (l5 : Value) (l6 : Int32) (x1 : Int32) (x0 : Nat) (h : zMm) (Q : Option Value → zMm → Prop), zWp d zi_168 none 104 [l0, l1, l2, l3, l4, l5, .int l6] [.int x1, .ref x0] h Q = zWp d zi_168 none 106 [l0, l1, l2, l3, l4, l5, .int l6] [.int l6, .int x1, .ref x0] h Q) ∧
    (∀ (d : Nat) (l0 : Value) (l1 : Value) (l2 : Value) (l3 : Value) (l4 : Value) (l5 : Value) (l6 : Value) (x2 : Int32) (x1 : Int32) (x0 : Nat) (I : Nat → Nat → Int32) (L : Nat → Nat → Int64) (P : Nat → Nat → Option Nat) (Q : Option Value → zMm → Prop), zAk zSH x0 = some .int → zWp d zi_168 none 106 [l0, l1, l2, l3, l4, l5, l6] [.int x2, .int x1, .ref x0] (zSH, I, L, P) Q = (vp_in x1 (zAn zSH x0) ∧ zWp d zi_168 none 107 [l0, l1, l2, l3, l4, l5, l6] [] (zSH, zw I x0 (upd (I x0) x1.toNatClampNeg x2), L, P) Q)) ∧
    (∀ (d : Nat) (l0 : Nat) (l1 : Value) (l2 : Value) (l3 : Value) (l4 : Value) (l5 : Value) (l6 : Value)  (h : zMm) (Q : Option Value → zMm → Prop), zWp d zi_168 none 107 [.ref l0, l1, l2, l3, l4, l5, l6] [] h Q = zWp d zi_168 none 108 [.ref l0, l1, l2, l3, l4, l5, l6] [.ref l0] h Q) ∧
    (∀ (d : Nat) (l0 : Value) (l1 : Value) (l2 : Value) (l3 : Value) (l4 : Value) (l5 : Value) (l6 : Value) (x0 : Nat) (I : Nat → Nat → Int32) (L : Nat → Nat → Int64) (P : Nat → Nat → Option Nat) (Q : Option Value → zMm → Prop), zSH[x0]? = some (.inl 10) → zWp d zi_168 none 108 [l0, l1, l2, l3, l4, l5, l6] [.ref x0] (zSH, I, L, P) Q = zWp d zi_168 none 111 [l0, l1, l2, l3, l4, l5, l6] [va_rf (P x0 0)] (zSH, I, L, P) Q) ∧
    (∀ (d : Nat) (l0 : Nat) (l1 : Value) (l2 : Value) (l3 : Value) (l4 : Value) (l5 : Value) (l6 : Value) (x0 : Nat) (h : zMm) (Q : Option Value → zMm → Prop), zWp d zi_168 none 111 [.ref l0, l1, l2, l3, l4, l5, l6] [.ref x0] h Q = zWp d zi_168 none 112 [.ref l0, l1, l2, l3, l4, l5, l6] [.ref l0, .ref x0] h Q) ∧
    (∀ (d : Nat) (l0 : Value) (l1 : Value) (l2 : Value) (l3 : Value) (l4 : Value) (l5 : Value) (l6 : Value) (x1 : Nat) (x0 : Nat) (I : Nat → Nat → Int32) (L : Nat → Nat → Int64) (P : Nat → Nat → Option Nat) (Q : Option Value → zMm → Prop), zSH[x1]? = some (.inl 10) → zWp d zi_168 none 112 [l0, l1, l2, l3, l4, l5, l6] [.ref x1, .ref x0] (zSH, I, L, P) Q = zWp d zi_168 none 115 [l0, l1, l2, l3, l4, l5, l6] [.int (I x1 6), .ref x0] (zSH, I, L, P) Q) ∧
    (∀ (d : Nat) (l0 : Value) (l1 : Value) (l2 : Value) (l3 : Value) (l4 : Value) (l5 : Value) (l6 : Value) (x1 : Int32) (x0 : Nat) (h : zMm) (Q : Option Value → zMm → Prop), zWp d zi_168 none 115 [l0, l1, l2, l3, l4, l5, l6] [.int x1, .ref x0] h Q = zWp d zi_168 none 116 [l0, l1, l2, l3, l4, l5, l6] [.int 0, .int x1, .ref x0] h Q) ∧
    (∀ (d : Nat) (l0 : Value) (l1 : Value) (l2 : Value) (l3 : Value) (l4 : Value) (l5 : Value) (l6 : Value) (x2 : Int32) (x1 : Int32) (x0 : Nat) (I : Nat → Nat → Int32) (L : Nat → Nat → Int64) (P : Nat → Nat → Option Nat) (Q : Option Value → zMm → Prop), zAk zSH x0 = some .int → zWp d zi_168 none 116 [l0, l1, l2, l3, l4, l5, l6] [.int x2, .int x1, .ref x0] (zSH, I, L, P) Q = (vp_in x1 (zAn zSH x0) ∧ zWp d zi_168 none 117 [l0, l1, l2, l3, l4, l5, l6] [] (zSH, zw I x0 (upd (I x0) x1.toNatClampNeg x2), L, P) Q)) ∧
    (∀ (d : Nat) (l0 : Nat) (l1 : Value) (l2 : Value) (l3 : Value) (l4 : Value) (l5 : Value) (l6 : Value)  (h : zMm) (Q : Option Value → zMm → Prop), zWp d zi_168 none 117 [.ref l0, l1, l2, l3, l4, l5, l6] [] h Q = zWp d zi_168 none 118 [.ref l0, l1, l2, l3, l4, l5, l6] [.ref l0] h Q) ∧
    (∀ (d : Nat) (l0 : Value) (l1 : Value) (l2 : Value) (l3 : Value) (l4 : Value) (l5 : Value) (l6 : Value) (x0 : Nat) (I : Nat → Nat → Int32) (L : Nat → Nat → Int64) (P : Nat → Nat → Option Nat) (Q : Option Value → zMm → Prop), zSH[x0]? = some (.inl 10) → zWp d zi_168 none 118 [l0, l1, l2, l3, l4, l5, l6] [.ref x0] (zSH, I, L, P) Q = zWp d zi_168 none 121 [l0, l1, l2, l3, l4, l5, l6] [va_rf (P x0 0)] (zSH, I, L, P) Q) ∧
    (∀ (d : Nat) (l0 : Value) (l1 : Value) (l2 : Value) (l3 : Value) (l4 : Value) (l5 : Value) (l6 : Value) (x0 : Nat) (h : zMm) (Q : Option Value → zMm → Prop), zWp d zi_168 none 121 [l0, l1, l2, l3, l4, l5, l6] [.ref x0] h Q = zWp d zi_168 none 123 [l0, l1, l2, l3, l4, l5, l6] [.int 24, .ref x0] h Q) ∧
    (∀ (d : Nat) (l0 : Nat) (l1 : Value) (l2 : Value) (l3 : Value) (l4 : Value) (l5 : Value) (l6 : Value) (x1 : Int32) (x0 : Nat) (h : zMm) (Q : Option Value → zMm → Prop), zWp d zi_168 none 123 [.ref l0, l1, l2, l3, l4, l5, l6] [.int x1, .ref x0] h Q = zWp d zi_168 none 124 [.ref l0, l1, l2, l3, l4, l5, l6] [.ref l0, .int x1, .ref x0] h Q) ∧
    (∀ (d : Nat) (l0 : Value) (l1 : Value) (l2 : Value) (l3 : Value) (l4 : Value) (l5 : Value) (l6 : Value) (x2 : Nat) (x1 : Int32) (x0 : Nat) (I : Nat → Nat → Int32) (L : Nat → Nat → Int64) (P : Nat → Nat → Option Nat) (Q : Option Value → zMm → Prop), zSH[x2]? = some (.inl 10) → zWp d zi_168 none 124 [l0, l1, l2, l3, l4, l5, l6] [.ref x2, .int x1, .ref x0] (zSH, I, L, P) Q = zWp d zi_168 none 127 [l0, l1, l2, l3, l4, l5, l6] [.int (I x2 6), .int x1, .ref x0] (zSH, I, L, P) Q) ∧
    (∀ (d : Nat) (l0 : Value) (l1 : Value) (l2 : Value) (l3 : Value) (l4 : Value) (l5 : Value) (l6 : Value) (x2 : Int32) (x1 : Int32) (x0 : Nat) (h : zMm) (Q : Option Value → zMm → Prop), zWp d zi_168 none 127 [l0, l1, l2, l3, l4, l5, l6] [.int x2, .int x1, .ref x0] h Q = zWp d zi_168 none 128 [l0, l1, l2, l3, l4, l5, l6] [.int (x1 + x2), .ref x0] h Q) ∧
    (∀ (d : Nat) (l0 : Value) (l1 : Value) (l2 : Value) (l3 : Value) (l4 : Value) (l5 : Value) (l6 : Value) (x1 : Int32) (x0 : Nat) (h : zMm) (Q : Option Value → zMm → Prop), zWp d zi_168 none 128 [l0, l1, l2, l3, l4, l5, l6] [.int x1, .ref x0] h Q = zWp d zi_168 none 129 [l0, l1, l2, l3, l4, l5, l6] [.int 0, .int x1, .ref x0] h Q) ∧
    (∀ (d : Nat) (l0 : Value) (l1 : Value) (l2 : Value) (l3 : Value) (l4 : Value) (l5 : Value) (l6 : Value) (x2 : Int32) (x1 : Int32) (x0 : Nat) (I : Nat → Nat → Int32) (L : Nat → Nat → Int64) (P : Nat → Nat → Option Nat) (Q : Option Value → zMm → Prop), zAk zSH x0 = some .int → zWp d zi_168 none 129 [l0, l1, l2, l3, l4, l5, l6] [.int x2, .int x1, .ref x0] (zSH, I, L, P) Q = (vp_in x1 (zAn zSH x0) ∧ zWp d zi_168 none 130 [l0, l1, l2, l3, l4, l5, l6] [] (zSH, zw I x0 (upd (I x0) x1.toNatClampNeg x2), L, P) Q)) ∧
    (∀ (d : Nat) (l0 : Nat) (l1 : Value) (l2 : Value) (l3 : Value) (l4 : Value) (l5 : Value) (l6 : Value)  (h : zMm) (Q : Option Value → zMm → Prop), zWp d zi_168 none 130 [.ref l0, l1, l2, l3, l4, l5, l6] [] h Q = zWp d zi_168 none 131 [.ref l0, l1, l2, l3, l4, l5, l6] [.ref l0] h Q) ∧
    (∀ (d : Nat) (l0 : Value) (l1 : Value) (l2 : Value) (l3 : Value) (l4 : Value) (l5 : Value) (l6 : Value) (x0 : Nat) (I : Nat → Nat → Int32) (L : Nat → Nat → Int64) (P : Nat → Nat → Option Nat) (Q : Option Value → zMm → Prop), zSH[x0]? = some (.inl 10) → zWp d zi_168 none 131 [l0, l1, l2, l3, l4, l5, l6] [.ref x0] (zSH, I, L, P) Q = zWp d zi_168 none 134 [l0, l1, l2, l3, l4, l5, l6] [va_rf (P x0 23)] (zSH, I, L, P) Q) ∧
    (∀ (d : Nat) (l0 : Nat) (l1 : Value) (l2 : Value) (l3 : Value) (l4 : Value) (l5 : Value) (l6 : Value) (x0 : Nat) (h : zMm) (Q : Option Value → zMm → Prop), zWp d zi_168 none 134 [.ref l0, l1, l2, l3, l4, l5, l6] [.ref x0] h Q = zWp d zi_168 none 135 [.ref l0, l1, l2, l3, l4, l5, l6] [.ref l0, .ref x0] h Q) ∧
    (∀ (d : Nat) (l0 : Value) (l1 : Value) (l2 : Value) (l3 : Value) (l4 : Value) (l5 : Value) (l6 : Value) (x1 : Nat) (x0 : Nat) (I : Nat → Nat → Int32) (L : Nat → Nat → Int64) (P : Nat → Nat → Option Nat) (Q : Option Value → zMm → Prop), zSH[x1]? = some (.inl 10) → zWp d zi_168 none 135 [l0, l1, l2, l3, l4, l5, l6] [.ref x1, .ref x0] (zSH, I, L, P) Q = zWp d zi_168 none 138 [l0, l1, l2, l3, l4, l5, l6] [.int (I x1 6), .ref x0] (zSH, I, L, P) Q) ∧
    (∀ (d : Nat) (l0 : Value) (l1 : Value) (l2 : Value) (l3 : Value) (l4 : Value) (l5 : Value) (l6 : Value) (x1 : Int32) (x0 : Nat) (h : zMm) (Q : Option Value → zMm → Prop), zWp d zi_168 none 138 [l0, l1, l2, l3, l4, l5, l6] [.int x1, .ref x0] h Q = zWp d zi_168 none 139 [l0, l1, l2, l3, l4, l5, l6] [.int 3, .int x1, .ref x0] h Q) ∧
    (∀ (d : Nat) (l0 : Value) (l1 : Value) (l2 : Value) (l3 : Value) (l4 : Value) (l5 : Value) (l6 : Value) (x2 : Int32) (x1 : Int32) (x0 : Nat) (I : Nat → Nat → Int32) (L : Nat → Nat → Int64) (P : Nat → Nat → Option Nat) (Q : Option Value → zMm → Prop), zAk zSH x0 = some .int → zWp d zi_168 none 139 [l0, l1, l2, l3, l4, l5, l6] [.int x2, .int x1, .ref x0] (zSH, I, L, P) Q = (vp_in x1 (zAn zSH x0) ∧ zWp d zi_168 none 140 [l0, l1, l2, l3, l4, l5, l6] [] (zSH, zw I x0 (upd (I x0) x1.toNatClampNeg x2), L, P) Q)) ∧
    (∀ (d : Nat) (l0 : Nat) (l1 : Value) (l2 : Value) (l3 : Value) (l4 : Value) (l5 : Value) (l6 : Value)  (h : zMm) (Q : Option Value → zMm → Prop), zWp d zi_168 none 140 [.ref l0, l1, l2, l3, l4, l5, l6] [] h Q = zWp d zi_168 none 141 [.ref l0, l1, l2, l3, l4, l5, l6] [.ref l0] h Q) ∧
    (∀ (d : Nat) (l0 : Value) (l1 : Value) (l2 : Value) (l3 : Value) (l4 : Value) (l5 : Value) (l6 : Value) (x0 : Nat) (h : zMm) (Q : Option Value → zMm → Prop), zWp d zi_168 none 141 [l0, l1, l2, l3, l4, l5, l6] [.ref x0] h Q = zWp d zi_168 none 142 [l0, l1, l2, l3, l4, l5, l6] [.ref x0, .ref x0] h Q) ∧
    (∀ (d : Nat) (l0 : Value) (l1 : Value) (l2 : Value) (l3 : Value) (l4 : Value) (l5 : Value) (l6 : Value) (x1 : Nat) (x0 : Nat) (I : Nat → Nat → Int32) (L : Nat → Nat → Int64) (P : Nat → Nat → Option Nat) (Q : Option Value → zMm → Prop), zSH[x1]? = some (.inl 10) → zWp d zi_168 none 142 [l0, l1, l2, l3, l4, l5, l6] [.ref x1, .ref x0] (zSH, I, L, P) Q = zWp d zi_168 none 145 [l0, l1, l2, l3, l4, l5, l6] [.int (I x1 6), .ref x0] (zSH, I, L, P) Q) ∧
    (∀ (d : Nat) (l0 : Value) (l1 : Value) (l2 : Value) (l3 : Value) (l4 : Value) (l5 : Value) (l6 : Value) (x1 : Int32) (x0 : Nat) (h : zMm) (Q : Option Value → zMm → Prop), zWp d zi_168 none 145 [l0, l1, l2, l3, l4, l5, l6] [.int x1, .ref x0] h Q = zWp d zi_168 none 146 [l0, l1, l2, l3, l4, l5, l6] [.int 1, .int x1, .ref x0] h Q) ∧
    (∀ (d : Nat) (l0 : Value) (l1 : Value) (l2 : Value) (l3 : Value) (l4 : Value) (l5 : Value) (l6 : Value) (x2 : Int32) (x1 : Int32) (x0 : Nat) (h : zMm) (Q : Option Value → zMm → Prop), zWp d zi_168 none 146 [l0, l1, l2, l3, l4, l5, l6] [.int x2, .int x1, .ref x0] h Q = zWp d zi_168 none 147 [l0, l1, l2, l3, l4, l5, l6] [.int (x1 + x2), .ref x0] h Q) ∧
    (∀ (d : Nat) (l0 : Value) (l1 : Value) (l2 : Value) (l3 : Value) (l4 : Value) (l5 : Value) (l6 : Value) (x1 : Int32) (x0 : Nat) (I : Nat → Nat → Int32) (L : Nat → Nat → Int64) (P : Nat → Nat → Option Nat) (Q : Option Value → zMm → Prop), zSH[x0]? = some (.inl 10) → zWp d zi_168 none 147 [l0, l1, l2, l3, l4, l5, l6] [.int x1, .ref x0] (zSH, I, L, P) Q = zWp d zi_168 none 150 [l0, l1, l2, l3, l4, l5, l6] [] (zSH, zw I x0 (upd (I x0) 6 x1), L, P) Q) ∧
    (∀ (d : Nat) (l0 : Value) (l1 : Int32) (l2 : Int32) (l3 : Value) (l4 : Value) (l5 : Value) (l6 : Value)  (h : zMm) (Q : Option Value → zMm → Prop), zWp d zi_168 none 150 [l0, .int l1, .int l2, l3, l4, l5, l6] [] h Q = zWp d zi_168 none 153 [l0, .int l1, .int (l2 + (-3)), l3, l4, l5, l6] [] h Q) ∧
    (∀ (d : Nat) (l0 : Nat) (l1 : Value) (l2 : Value) (l3 : Value) (l4 : Value) (l5 : Value) (l6 : Value)  (h : zMm) (Q : Option Value → zMm → Prop), zWp d zi_168 none 153 [.ref l0, l1, l2, l3, l4, l5, l6] [] h Q = zWp d zi_168 none 154 [.ref l0, l1, l2, l3, l4, l5, l6] [.ref l0] h Q) ∧
    (∀ (d : Nat) (l0 : Value) (l1 : Value) (l2 : Value) (l3 : Value) (l4 : Value) (l5 : Value) (l6 : Value) (x0 : Nat) (I : Nat → Nat → Int32) (L : Nat → Nat → Int64) (P : Nat → Nat → Option Nat) (Q : Option Value → zMm → Prop), zSH[x0]? = some (.inl 10) → zWp d zi_168 none 154 [l0, l1, l2, l3, l4, l5, l6] [.ref x0] (zSH, I, L, P) Q = zWM d 161 [.ref x0] (zSH, I, L, P) (fun r h1 => zWp d zi_168 none 157 [l0, l1, l2, l3, l4, l5, l6] (r.toList ++ []) h1 Q)) ∧
    (∀ (d : Nat) (l0 : Value) (l1 : Value) (l2 : Value) (l3 : Value) (l4 : Value) (l5 : Value) (l6 : Value) (x0 : Int32) (h : zMm) (Q : Option Value → zMm → Prop), zWp d zi_168 none 157 [l0, l1, l2, l3, l4, l5, l6] [.int x0] h Q = if 0 ≤ x0 then zWp d zi_168 none 164 [l0, l1, l2, l3, l4, l5, l6] [] h Q else zWp d zi_168 none 160 [l0, l1, l2, l3, l4, l5, l6] [] h Q) ∧
    (∀ (d : Nat) (l0 : Value) (l1 : Value) (l2 : Value) (l3 : Value) (l4 : Value) (l5 : Value) (l6 : Value)  (h : zMm) (Q : Option Value → zMm → Prop), zWp d zi_168 none 160 [l0, l1, l2, l3, l4, l5, l6] [] h Q = zWp d zi_168 none 161 [l0, l1, l2, l3, l4, l5, l6] [.int 1] h Q) ∧
    (∀ (d : Nat) (l0 : Value) (l1 : Value) (l2 : Value) (l3 : Value) (l4 : Value) (l5 : Value) (l6 : Value) (x0 : Int32) (h : zMm) (Q : Option Value → zMm → Prop), zWp d zi_168 none 161 [l0, l1, l2, l3, l4, l5, l6] [.int x0] h Q = zWp d zi_168 none 165 [l0, l1, l2, l3, l4, l5, l6] [.int x0] h Q) ∧
    (∀ (d : Nat) (l0 : Value) (l1 : Value) (l2 : Value) (l3 : Value) (l4 : Value) (l5 : Value) (l6 : Value)  (h : zMm) (Q : Option Value → zMm → Prop), zWp d zi_168 none 164 [l0, l1, l2, l3, l4, l5, l6] [] h Q = zWp d zi_168 none 165 [l0, l1, l2, l3, l4, l5, l6] [.int 0] h Q) ∧
    (∀ (d : Nat) (l0 : Value) (l1 : Value) (l2 : Value) (l3 : Int32) (l4 : Value) (l5 : Value) (l6 : Value) (x0 : Int32) (h : zMm) (Q : Option Value → zMm → Prop), zWp d zi_168 none 165 [l0, l1, l2, .int l3, l4, l5, l6] [.int x0] h Q = zWp d zi_168 none 167 [l0, l1, l2, .int l3, .int x0, l5, l6] [] h Q) ∧
    (∀ (d : Nat) (l0 : Value) (l1 : Value) (l2 : Value) (l3 : Int32) (l4 : Value) (l5 : Value) (l6 : Value)  (h : zMm) (Q : Option Value → zMm → Prop), zWp d zi_168 none 167 [l0, l1, l2, .int l3, l4, l5, l6] [] h Q = zWp d zi_168 none 168 [l0, l1, l2, .int l3, l4, l5, l6] [.int l3] h Q) ∧
    (∀ (d : Nat) (l0 : Value) (l1 : Value) (l2 : Value) (l3 : Value) (l4 : Int32) (l5 : Value) (l6 : Value) (x0 : Int32) (h : zMm) (Q : Option Value → zMm → Prop), zWp d zi_168 none 168 [l0, l1, l2, l3, .int l4, l5, l6] [.int x0] h Q = zWp d zi_168 none 170 [l0, l1, l2, l3, .int l4, l5, l6] [.int l4, .int x0] h Q) ∧
    (∀ (d : Nat) (l0 : Value) (l1 : Value) (l2 : Value) (l3 : Value) (l4 : Value) (l5 : Value) (l6 : Value) (x1 : Int32) (x0 : Int32) (h : zMm) (Q : Option Value → zMm → Prop), zWp d zi_168 none 170 [l0, l1, l2, l3, l4, l5, l6] [.int x1, .int x0] h Q = if x1 = 0 then zWp d zi_168 none 177 [l0, l1, l2, l3, l4, l5, l6] [.int x0] h Q else zWp d zi_168 none 173 [l0, l1, l2, l3, l4, l5, l6] [.int x0] h Q) ∧
    (∀ (d : Nat) (l0 : Value) (l1 : Value) (l2 : Value) (l3 : Value) (l4 : Value) (l5 : Value) (l6 : Value) (x0 : Int32) (h : zMm) (Q : Option Value → zMm → Prop), zWp d zi_168 none 173 [l0, l1, l2, l3, l4, l5, l6] [.int x0] h Q = zWp d zi_168 none 174 [l0, l1, l2, l3, l4, l5, l6] [.int 1, .int x0] h Q) ∧
    (∀ (d : Nat) (l0 : Value) (l1 : Value) (l2 : Value) (l3 : Value) (l4 : Value) (l5 : Value) (l6 : Value) (x1 : Int32) (x0 : Int32) (h : zMm) (Q : Option Value → zMm → Prop), zWp d zi_168 none 174 [l0, l1, l2, l3, l4, l5, l6] [.int x1, .int x0] h Q = zWp d zi_168 none 178 [l0, l1, l2, l3, l4, l5, l6] [.int x1, .int x0] h Q) ∧
    (∀ (d : Nat) (l0 : Value) (l1 : Value) (l2 : Value) (l3 : Value) (l4 : Value) (l5 : Value) (l6 : Value) (x0 : Int32) (h : zMm) (Q : Option Value → zMm → Prop), zWp d zi_168 none 177 [l0, l1, l2, l3, l4, l5, l6] [.int x0] h Q = zWp d zi_168 none 178 [l0, l1, l2, l3, l4, l5, l6] [.int 0, .int x0] h Q) ∧
    (∀ (d : Nat) (l0 : Value) (l1 : Value) (l2 : Value) (l3 : Value) (l4 : Value) (l5 : Value) (l6 : Value) (x1 : Int32) (x0 : Int32) (h : zMm) (Q : Option Value → zMm → Prop), zWp d zi_168 none 178 [l0, l1, l2, l3, l4, l5, l6] [.int x1, .int x0] h Q = zWp d zi_168 none 179 [l0, l1, l2, l3, l4, l5, l6] [.int (x0 + x1)] h Q) ∧
    (∀ (d : Nat) (l0 : Value) (l1 : Value) (l2 : Int32) (l3 : Value) (l4 : Value) (l5 : Value) (l6 : Value) (x0 : Int32) (h : zMm) (Q : Option Value → zMm → Prop), zWp d zi_168 none 179 [l0, l1, .int l2, l3, l4, l5, l6] [.int x0] h Q = zWp d zi_168 none 180 [l0, l1, .int l2, .int x0, l4, l5, l6] [] h Q) ∧
    (∀ (d : Nat) (l0 : Value) (l1 : Value) (l2 : Value) (l3 : Value) (l4 : Value) (l5 : Value) (l6 : Value)  (h : zMm) (Q : Option Value → zMm → Prop), zWp d zi_168 none 180 [l0, l1, l2, l3, l4, l5, l6] [] h Q = zWp d zi_168 none 35 [l0, l1, l2, l3, l4, l5, l6] [] h Q) ∧
    (∀ (d : Nat) (l0 : Value) (l1 : Value) (l2 : Value) (l3 : Value) (l4 : Value) (l5 : Value) (l6 : Value) (x0 : Nat) (I : Nat → Nat → Int32) (L : Nat → Nat → Int64) (P : Nat → Nat → Option Nat) (Q : Option Value → zMm → Prop), zSH[x0]? = some (.inl 10) → zWp d zi_168 none 184 [l0, l1, l2, l3, l4, l5, l6] [.ref x0] (zSH, I, L, P) Q = zWp d zi_168 none 187 [l0, l1, l2, l3, l4, l5, l6] [.int (I x0 6)] (zSH, I, L, P) Q) ∧
    (∀ (d : Nat) (l0 : Value) (l1 : Int32) (l2 : Value) (l3 : Value) (l4 : Value) (l5 : Value) (l6 : Value) (x0 : Int32) (h : zMm) (Q : Option Value → zMm → Prop), zWp d zi_168 none 187 [l0, .int l1, l2, l3, l4, l5, l6] [.int x0] h Q = zWp d zi_168 none 188 [l0, .int l1, l2, l3, l4, l5, l6] [.int l1, .int x0] h Q) ∧
    (∀ (d : Nat) (l0 : Value) (l1 : Value) (l2 : Value) (l3 : Value) (l4 : Value) (l5 : Value) (l6 : Value) (x1 : Int32) (x0 : Int32) (h : zMm) (Q : Option Value → zMm → Prop), zWp d zi_168 none 188 [l0, l1, l2, l3, l4, l5, l6] [.int x1, .int x0] h Q = if x0 ≤ x1 then zWp d zi_168 none 249 [l0, l1, l2, l3, l4, l5, l6] [] h Q else zWp d zi_168 none 191 [l0, l1, l2, l3, l4, l5, l6] [] h Q) ∧
    (∀ (d : Nat) (l0 : Nat) (l1 : Value) (l2 : Value) (l3 : Value) (l4 : Value) (l5 : Value) (l6 : Value)  (h : zMm) (Q : Option Value → zMm → Prop), zWp d zi_168 none 191 [.ref l0, l1, l2, l3, l4, l5, l6] [] h Q = zWp d zi_168 none 192 [.ref l0, l1, l2, l3, l4, l5, l6] [.ref l0] h Q) ∧
    (∀ (d : Nat) (l0 : Value) (l1 : Value) (l2 : Value) (l3 : Value) (l4 : Value) (l5 : Value) (l6 : Value) (x0 : Nat) (h : zMm) (Q : Option Value → zMm → Prop), zWp d zi_168 none 192 [l0, l1, l2, l3, l4, l5, l6] [.ref x0] h Q = zWp d zi_168 none 193 [l0, l1, l2, l3, l4, l5, l6] [.ref x0, .ref x0] h Q) ∧
    (∀ (d : Nat) (l0 : Value) (l1 : Value) (l2 : Value) (l3 : Value) (l4 : Value) (l5 : Value) (l6 : Value) (x1 : Nat) (x0 : Nat) (I : Nat → Nat → Int32) (L : Nat → Nat → Int64) (P : Nat → Nat → Option Nat) (Q : Option Value → zMm → Prop), zSH[x1]? = some (.inl 10) → zWp d zi_168 none 193 [l0, l1, l2, l3, l4, l5, l6] [.ref x1, .ref x0] (zSH, I, L, P) Q = zWp d zi_168 none 196 [l0, l1, l2, l3, l4, l5, l6] [.int (I x1 6), .ref x0] (zSH, I, L, P) Q) ∧
    (∀ (d : Nat) (l0 : Value) (l1 : Value) (l2 : Value) (l3 : Value) (l4 : Value) (l5 : Value) (l6 : Value) (x1 : Int32) (x0 : Nat) (h : zMm) (Q : Option Value → zMm → Prop), zWp d zi_168 none 196 [l0, l1, l2, l3, l4, l5, l6] [.int x1, .ref x0] h Q = zWp d zi_168 none 197 [l0, l1, l2, l3, l4, l5, l6] [.int 1, .int x1, .ref x0] h Q) ∧
    (∀ (d : Nat) (l0 : Value) (l1 : Value) (l2 : Value) (l3 : Value) (l4 : Value) (l5 : Value) (l6 : Value) (x2 : Int32) (x1 : Int32) (x0 : Nat) (h : zMm) (Q : Option Value → zMm → Prop), zWp d zi_168 none 197 [l0, l1, l2, l3, l4, l5, l6] [.int x2, .int x1, .ref x0] h Q = zWp d zi_168 none 198 [l0, l1, l2, l3, l4, l5, l6] [.int (x1 - x2), .ref x0] h Q) ∧
    (∀ (d : Nat) (l0 : Value) (l1 : Value) (l2 : Value) (l3 : Value) (l4 : Value) (l5 : Value) (l6 : Value) (x1 : Int32) (x0 : Nat) (I : Nat → Nat → Int32) (L : Nat → Nat → Int64) (P : Nat → Nat → Option Nat) (Q : Option Value → zMm → Prop), zSH[x0]? = some (.inl 10) → zWp d zi_168 none 198 [l0, l1, l2, l3, l4, l5, l6] [.int x1, .ref x0] (zSH, I, L, P) Q = zWp d zi_168 none 201 [l0, l1, l2, l3, l4, l5, l6] [] (zSH, zw I x0 (upd (I x0) 6 x1), L, P) Q) ∧
    (∀ (d : Nat) (l0 : Nat) (l1 : Value) (l2 : Value) (l3 : Value) (l4 : Value) (l5 : Value) (l6 : Value)  (h : zMm) (Q : Option Value → zMm → Prop), zWp d zi_168 none 201 [.ref l0, l1, l2, l3, l4, l5, l6] [] h Q = zWp d zi_168 none 202 [.ref l0, l1, l2, l3, l4, l5, l6] [.ref l0] h Q) ∧
    (∀ (d : Nat) (l0 : Value) (l1 : Value) (l2 : Value) (l3 : Value) (l4 : Value) (l5 : Value) (l6 : Value) (x0 : Nat) (I : Nat → Nat → Int32) (L : Nat → Nat → Int64) (P : Nat → Nat → Option Nat) (Q : Option Value → zMm → Prop), zSH[x0]? = some (.inl 10) → zWp d zi_168 none 202 [l0, l1, l2, l3, l4, l5, l6] [.ref x0] (zSH, I, L, P) Q = zWp d zi_168 none 205 [l0, l1, l2, l3, l4, l5, l6] [va_rf (P x0 0)] (zSH, I, L, P) Q) ∧
    (∀ (d : Nat) (l0 : Nat) (l1 : Value) (l2 : Value) (l3 : Value) (l4 : Value) (l5 : Value) (l6 : Value) (x0 : Nat) (h : zMm) (Q : Option Value → zMm → Prop), zWp d zi_168 none 205 [.ref l0, l1, l2, l3, l4, l5, l6] [.ref x0] h Q = zWp d zi_168 none 206 [.ref l0, l1, l2, l3, l4, l5, l6] [.ref l0, .ref x0] h Q) ∧
    (∀ (d : Nat) (l0 : Value) (l1 : Value) (l2 : Value) (l3 : Value) (l4 : Value) (l5 : Value) (l6 : Value) (x1 : Nat) (x0 : Nat) (I : Nat → Nat → Int32) (L : Nat → Nat → Int64) (P : Nat → Nat → Option Nat) (Q : Option Value → zMm → Prop), zSH[x1]? = some (.inl 10) → zWp d zi_168 none 206 [l0, l1, l2, l3, l4, l5, l6] [.ref x1, .ref x0] (zSH, I, L, P) Q = zWp d zi_168 none 209 [l0, l1, l2, l3, l4, l5, l6] [.int (I x1 6), .ref x0] (zSH, I, L, P) Q) ∧
    (∀ (d : Nat) (l0 : Nat) (l1 : Value) (l2 : Value) (l3 : Value) (l4 : Value) (l5 : Value) (l6 : Value) (x1 : Int32) (x0 : Nat) (h : zMm) (Q : Option Value → zMm → Prop), zWp d zi_168 none 209 [.ref l0, l1, l2, l3, l4, l5, l6] [.int x1, .ref x0] h Q = zWp d zi_168 none 210 [.ref l0, l1, l2, l3, l4, l5, l6] [.ref l0, .int x1, .ref x0] h Q) ∧
    (∀ (d : Nat) (l0 : Value) (l1 : Value) (l2 : Value) (l3 : Value) (l4 : Value) (l5 : Value) (l6 : Value) (x2 : Nat) (x1 : Int32) (x0 : Nat) (I : Nat → Nat → Int32) (L : Nat → Nat → Int64) (P : Nat → Nat → Option Nat) (Q : Option Value → zMm → Prop), zSH[x2]? = some (.inl 10) → zWp d zi_168 none 210 [l0, l1, l2, l3, l4, l5, l6] [.ref x2, .int x1, .ref x0] (zSH, I, L, P) Q = zWp d zi_168 none 213 [l0, l1, l2, l3, l4, l5, l6] [va_rf (P x2 24), .int x1, .ref x0] (zSH, I, L, P) Q) ∧
    (∀ (d : Nat) (l0 : Value) (l1 : Value) (l2 : Value) (l3 : Value) (l4 : Value) (l5 : Value) (l6 : Value) (x2 : Nat) (x1 : Int32) (x0 : Nat) (h : zMm) (Q : Option Value → zMm → Prop), zWp d zi_168 none 213 [l0, l1, l2, l3, l4, l5, l6] [.ref x2, .int x1, .ref x0] h Q = zWp d zi_168 none 214 [l0, l1, l2, l3, l4, l5, l6] [.int 2, .ref x2, .int x1, .ref x0] h Q) ∧
    (∀ (d : Nat) (l0 : Nat) (l1 : Value) (l2 : Value) (l3 : Value) (l4 : Value) (l5 : Value) (l6 : Value) (x3 : Int32) (x2 : Nat) (x1 : Int32) (x0 : Nat) (h : zMm) (Q : Option Value → zMm → Prop), zWp d zi_168 none 214 [.ref l0, l1, l2, l3, l4, l5, l6] [.int x3, .ref x2, .int x1, .ref x0] h Q = zWp d zi_168 none 215 [.ref l0, l1, l2, l3, l4, l5, l6] [.ref l0, .int x3, .ref x2, .int x1, .ref x0] h Q) ∧
    (∀ (d : Nat) (l0 : Value) (l1 : Value) (l2 : Value) (l3 : Value) (l4 : Value) (l5 : Value) (l6 : Value) (x4 : Nat) (x3 : Int32) (x2 : Nat) (x1 : Int32) (x0 : Nat) (I : Nat → Nat → Int32) (L : Nat → Nat → Int64) (P : Nat → Nat → Option Nat) (Q : Option Value → zMm → Prop), zSH[x4]? = some (.inl 10) → zWp d zi_168 none 215 [l0, l1, l2, l3, l4, l5, l6] [.ref x4, .int x3, .ref x2, .int x1, .ref x0] (zSH, I, L, P) Q = zWp d zi_168 none 218 [l0, l1, l2, l3, l4, l5, l6] [.int (I x4 6), .int x3, .ref x2, .int x1, .ref x0] (zSH, I, L, P) Q) ∧
    (∀ (d : Nat) (l0 : Value) (l1 : Value) (l2 : Value) (l3 : Value) (l4 : Value) (l5 : Value) (l6 : Value) (x4 : Int32) (x3 : Int32) (x2 : Nat) (x1 : Int32) (x0 : Nat) (h : zMm) (Q : Option Value → zMm → Prop), zWp d zi_168 none 218 [l0, l1, l2, l3, l4, l5, l6] [.int x4, .int x3, .ref x2, .int x1, .ref x0] h Q = zWp d zi_168 none 219 [l0, l1, l2, l3, l4, l5, l6] [.int (x3 * x4), .ref x2, .int x1, .ref x0] h Q) ∧
    (∀ (d : Nat) (l0 : Value) (l1 : Value) (l2 : Value) (l3 : Value) (l4 : Value) (l5 : Value) (l6 : Value) (x3 : Int32) (x2 : Nat) (x1 : Int32) (x0 : Nat) (I : Nat → Nat → Int32) (L : Nat → Nat → Int64) (P : Nat → Nat → Option Nat) (Q : Option Value → zMm → Prop), zAk zSH x2 = some .int → zWp d zi_168 none 219 [l0, l1, l2, l3, l4, l5, l6] [.int x3, .ref x2, .int x1, .ref x0] (zSH, I, L, P) Q = (vp_in x3 (zAn zSH x2) ∧ zWp d zi_168 none 220 [l0, l1, l2, l3, l4, l5, l6] [.int (I x2 x3.toNatClampNeg), .int x1, .ref x0] (zSH, I, L, P) Q)) ∧
    (∀ (d : Nat) (l0 : Value) (l1 : Value) (l2 : Value) (l3 : Value) (l4 : Value) (l5 : Value) (l6 : Value) (x2 : Int32) (x1 : Int32) (x0 : Nat) (I : Nat → Nat → Int32) (L : Nat → Nat → Int64) (P : Nat → Nat → Option Nat) (Q : Option Value → zMm → Prop), zAk zSH x0 = some .int → zWp d zi_168 none 220 [l0, l1, l2, l3, l4, l5, l6] [.int x2, .int x1, .ref x0] (zSH, I, L, P) Q = (vp_in x1 (zAn zSH x0) ∧ zWp d zi_168 none 221 [l0, l1, l2, l3, l4, l5, l6] [] (zSH, zw I x0 (upd (I x0) x1.toNatClampNeg x2), L, P) Q)) ∧
    (∀ (d : Nat) (l0 : Nat) (l1 : Value) (l2 : Value) (l3 : Value) (l4 : Value) (l5 : Value) (l6 : Value)  (h : zMm) (Q : Option Value → zMm → Prop), zWp d zi_168 none 221 [.ref l0, l1, l2, l3, l4, l5, l6] [] h Q = zWp d zi_168 none 222 [.ref l0, l1, l2, l3, l4, l5, l6] [.ref l0] h Q) ∧
    (∀ (d : Nat) (l0 : Value) (l1 : Value) (l2 : Value) (l3 : Value) (l4 : Value) (l5 : Value) (l6 : Value) (x0 : Nat) (I : Nat → Nat → Int32) (L : Nat → Nat → Int64) (P : Nat → Nat → Option Nat) (Q : Option Value → zMm → Prop), zSH[x0]? = some (.inl 10) → zWp d zi_168 none 222 [l0, l1, l2, l3, l4, l5, l6] [.ref x0] (zSH, I, L, P) Q = zWp d zi_168 none 225 [l0, l1, l2, l3, l4, l5, l6] [va_rf (P x0 0)] (zSH, I, L, P) Q) ∧
    (∀ (d : Nat) (l0 : Value) (l1 : Value) (l2 : Value) (l3 : Value) (l4 : Value) (l5 : Value) (l6 : Value) (x0 : Nat) (h : zMm) (Q : Option Value → zMm → Prop), zWp d zi_168 none 225 [l0, l1, l2, l3, l4, l5, l6] [.ref x0] h Q = zWp d zi_168 none 227 [l0, l1, l2, l3, l4, l5, l6] [.int 24, .ref x0] h Q) ∧
    (∀ (d : Nat) (l0 : Nat) (l1 : Value) (l2 : Value) (l3 : Value) (l4 : Value) (l5 : Value) (l6 : Value) (x1 : Int32) (x0 : Nat) (h : zMm) (Q : Option Value → zMm → Prop), zWp d zi_168 none 227 [.ref l0, l1, l2, l3, l4, l5, l6] [.int x1, .ref x0] h Q = zWp d zi_168 none 228 [.ref l0, l1, l2, l3, l4, l5, l6] [.ref l0, .int x1, .ref x0] h Q) ∧
    (∀ (d : Nat) (l0 : Value) (l1 : Value) (l2 : Value) (l3 : Value) (l4 : Value) (l5 : Value) (l6 : Value) (x2 : Nat) (x1 : Int32) (x0 : Nat) (I : Nat → Nat → Int32) (L : Nat → Nat → Int64) (P : Nat → Nat → Option Nat) (Q : Option Value → zMm → Prop), zSH[x2]? = some (.inl 10) → zWp d zi_168 none 228 [l0, l1, l2, l3, l4, l5, l6] [.ref x2, .int x1, .ref x0] (zSH, I, L, P) Q = zWp d zi_168 none 231 [l0, l1, l2, l3, l4, l5, l6] [.int (I x2 6), .int x1, .ref x0] (zSH, I, L, P) Q) ∧
    (∀ (d : Nat) (l0 : Value) (l1 : Value) (l2 : Value) (l3 : Value) (l4 : Value) (l5 : Value) (l6 : Value) (x2 : Int32) (x1 : Int32) (x0 : Nat) (h : zMm) (Q : Option Value → zMm → Prop), zWp d zi_168 none 231 [l0, l1, l2, l3, l4, l5, l6] [.int x2, .int x1, .ref x0] h Q = zWp d zi_168 none 232 [l0, l1, l2, l3, l4, l5, l6] [.int (x1 + x2), .ref x0] h Q) ∧
    (∀ (d : Nat) (l0 : Nat) (l1 : Value) (l2 : Value) (l3 : Value) (l4 : Value) (l5 : Value) (l6 : Value) (x1 : Int32) (x0 : Nat) (h : zMm) (Q : Option Value → zMm → Prop), zWp d zi_168 none 232 [.ref l0, l1, l2, l3, l4, l5, l6] [.int x1, .ref x0] h Q = zWp d zi_168 none 233 [.ref l0, l1, l2, l3, l4, l5, l6] [.ref l0, .int x1, .ref x0] h Q) ∧
    (∀ (d : Nat) (l0 : Value) (l1 : Value) (l2 : Value) (l3 : Value) (l4 : Value) (l5 : Value) (l6 : Value) (x2 : Nat) (x1 : Int32) (x0 : Nat) (I : Nat → Nat → Int32) (L : Nat → Nat → Int64) (P : Nat → Nat → Option Nat) (Q : Option Value → zMm → Prop), zSH[x2]? = some (.inl 10) → zWp d zi_168 none 233 [l0, l1, l2, l3, l4, l5, l6] [.ref x2, .int x1, .ref x0] (zSH, I, L, P) Q = zWp d zi_168 none 236 [l0, l1, l2, l3, l4, l5, l6] [va_rf (P x2 24), .int x1, .ref x0] (zSH, I, L, P) Q) ∧
    (∀ (d : Nat) (l0 : Value) (l1 : Value) (l2 : Value) (l3 : Value) (l4 : Value) (l5 : Value) (l6 : Value) (x2 : Nat) (x1 : Int32) (x0 : Nat) (h : zMm) (Q : Option Value → zMm → Prop), zWp d zi_168 none 236 [l0, l1, l2, l3, l4, l5, l6] [.ref x2, .int x1, .ref x0] h Q = zWp d zi_168 none 237 [l0, l1, l2, l3, l4, l5, l6] [.int 2, .ref x2, .int x1, .ref x0] h Q) ∧
    (∀ (d : Nat) (l0 : Nat) (l1 : Value) (l2 : Value) (l3 : Value) (l4 : Value) (l5 : Value) (l6 : Value) (x3 : Int32) (x2 : Nat) (x1 : Int32) (x0 : Nat) (h : zMm) (Q : Option Value → zMm → Prop), zWp d zi_168 none 237 [.ref l0, l1, l2, l3, l4, l5, l6] [.int x3, .ref x2, .int x1, .ref x0] h Q = zWp d zi_168 none 238 [.ref l0, l1, l2, l3, l4, l5, l6] [.ref l0, .int x3, .ref x2, .int x1, .ref x0] h Q) ∧
    (∀ (d : Nat) (l0 : Value) (l1 : Value) (l2 : Value) (l3 : Value) (l4 : Value) (l5 : Value) (l6 : Value) (x4 : Nat) (x3 : Int32) (x2 : Nat) (x1 : Int32) (x0 : Nat) (I : Nat → Nat → Int32) (L : Nat → Nat → Int64) (P : Nat → Nat → Option Nat) (Q : Option Value → zMm → Prop), zSH[x4]? = some (.inl 10) → zWp d zi_168 none 238 [l0, l1, l2, l3, l4, l5, l6] [.ref x4, .int x3, .ref x2, .int x1, .ref x0] (zSH, I, L, P) Q = zWp d zi_168 none 241 [l0, l1, l2, l3, l4, l5, l6] [.int (I x4 6), .int x3, .ref x2, .int x1, .ref x0] (zSH, I, L, P) Q) ∧
    (∀ (d : Nat) (l0 : Value) (l1 : Value) (l2 : Value) (l3 : Value) (l4 : Value) (l5 : Value) (l6 : Value) (x4 : Int32) (x3 : Int32) (x2 : Nat) (x1 : Int32) (x0 : Nat) (h : zMm) (Q : Option Value → zMm → Prop), zWp d zi_168 none 241 [l0, l1, l2, l3, l4, l5, l6] [.int x4, .int x3, .ref x2, .int x1, .ref x0] h Q = zWp d zi_168 none 242 [l0, l1, l2, l3, l4, l5, l6] [.int (x3 * x4), .ref x2, .int x1, .ref x0] h Q) ∧
    (∀ (d : Nat) (l0 : Value) (l1 : Value) (l2 : Value) (l3 : Value) (l4 : Value) (l5 : Value) (l6 : Value) (x3 : Int32) (x2 : Nat) (x1 : Int32) (x0 : Nat) (h : zMm) (Q : Option Value → zMm → Prop), zWp d zi_168 none 242 [l0, l1, l2, l3, l4, l5, l6] [.int x3, .ref x2, .int x1, .ref x0] h Q = zWp d zi_168 none 243 [l0, l1, l2, l3, l4, l5, l6] [.int 1, .int x3, .ref x2, .int x1, .ref x0] h Q) ∧
    (∀ (d : Nat) (l0 : Value) (l1 : Value) (l2 : Value) (l3 : Value) (l4 : Value) (l5 : Value) (l6 : Value) (x4 : Int32) (x3 : Int32) (x2 : Nat) (x1 : Int32) (x0 : Nat) (h : zMm) (Q : Option Value → zMm → Prop), zWp d zi_168 none 243 [l0, l1, l2, l3, l4, l5, l6] [.int x4, .int x3, .ref x2, .int x1, .ref x0] h Q = zWp d zi_168 none 244 [l0, l1, l2, l3, l4, l5, l6] [.int (x3 + x4), .ref x2, .int x1, .ref x0] h Q) ∧
    (∀ (d : Nat) (l0 : Value) (l1 : Value) (l2 : Value) (l3 : Value) (l4 : Value) (l5 : Value) (l6 : Value) (x3 : Int32) (x2 : Nat) (x1 : Int32) (x0 : Nat) (I : Nat → Nat → Int32) (L : Nat → Nat → Int64) (P : Nat → Nat → Option Nat) (Q : Option Value → zMm → Prop), zAk zSH x2 = some .int → zWp d zi_168 none 244 [l0, l1, l2, l3, l4, l5, l6] [.int x3, .ref x2, .int x1, .ref x0] (zSH, I, L, P) Q = (vp_in x3 (zAn zSH x2) ∧ zWp d zi_168 none 245 [l0, l1, l2, l3, l4, l5, l6] [.int (I x2 x3.toNatClampNeg), .int x1, .ref x0] (zSH, I, L, P) Q)) ∧
    (∀ (d : Nat) (l0 : Value) (l1 : Value) (l2 : Value) (l3 : Value) (l4 : Value) (l5 : Value) (l6 : Value) (x2 : Int32) (x1 : Int32) (x0 : Nat) (I : Nat → Nat → Int32) (L : Nat → Nat → Int64) (P : Nat → Nat → Option Nat) (Q : Option Value → zMm → Prop), zAk zSH x0 = some .int → zWp d zi_168 none 245 [l0, l1, l2, l3, l4, l5, l6] [.int x2, .int x1, .ref x0] (zSH, I, L, P) Q = (vp_in x1 (zAn zSH x0) ∧ zWp d zi_168 none 246 [l0, l1, l2, l3, l4, l5, l6] [] (zSH, zw I x0 (upd (I x0) x1.toNatClampNeg x2), L, P) Q)) ∧
    (∀ (d : Nat) (l0 : Value) (l1 : Value) (l2 : Value) (l3 : Value) (l4 : Value) (l5 : Value) (l6 : Value)  (h : zMm) (Q : Option Value → zMm → Prop), zWp d zi_168 none 246 [l0, l1, l2, l3, l4, l5, l6] [] h Q = zWp d zi_168 none 183 [l0, l1, l2, l3, l4, l5, l6] [] h Q) ∧
    (∀ (d : Nat) (l0 : Value) (l1 : Value) (l2 : Value) (l3 : Int32) (l4 : Value) (l5 : Value) (l6 : Value)  (h : zMm) (Q : Option Value → zMm → Prop), zWp d zi_168 none 249 [l0, l1, l2, .int l3, l4, l5, l6] [] h Q = zWp d zi_168 none 250 [l0, l1, l2, .int l3, l4, l5, l6] [.int l3] h Q) ∧
    (∀ (d : Nat) (l0 : Value) (l1 : Value) (l2 : Value) (l3 : Value) (l4 : Value) (l5 : Value) (l6 : Value) (x0 : Int32) (h : zMm) (Q : Option Value → zMm → Prop), zWp d zi_168 none 250 [l0, l1, l2, l3, l4, l5, l6] [.int x0] h Q = Q (some (.int x0)) h) :=
  ⟨(fun d l0 l1 l2 l3 l4 l5 l6  h Q => zr_aload_n rfl rfl),
   (fun d l0 l1 l2 l3 l4 l5 l6 x0 I L P Q p0 => zr_getI rfl lf_10_99 (fun _ _ _ => rfl) p0),
   (fun d l0 l1 l2 l3 l4 l5 l6 x0 h Q => zr_istore_n (n := 1) rfl (Nat.le_of_ble_eq_true rfl) rfl),
   (fun d l0 l1 l2 l3 l4 l5 l6  h Q => zr_aload_n rfl rfl),
   (fun d l0 l1 l2 l3 l4 l5 l6 x0 I L P Q p0 => zr_vir (as := []) (rest := []) rfl lm_10_162 m_158 kd_158 rfl (Nat.le_of_ble_eq_true rfl) p0),
   (fun d l0 l1 l2 l3 l4 l5 l6  h Q => zr_aload_n rfl rfl),
   (fun d l0 l1 l2 l3 l4 l5 l6 x0 I L P Q p0 => zr_getI rfl lf_10_84 (fun _ _ _ => rfl) p0),
   (fun d l0 l1 l2 l3 l4 l5 l6 x0 h Q => zr_aload_n rfl rfl),
   (fun d l0 l1 l2 l3 l4 l5 l6 x1 x0 I L P Q p0 => zr_getI rfl lf_10_87 (fun _ _ _ => rfl) p0),
   (fun d l0 l1 l2 l3 l4 l5 l6 x1 x0 h Q => zr_iadd rfl),
   (fun d l0 l1 l2 l3 l4 l5 l6 x0 h Q => zr_istore_n (n := 2) rfl (Nat.le_of_ble_eq_true rfl) rfl),
   (fun d l0 l1 l2 l3 l4 l5 l6  h Q => zr_iconst rfl (by decide)),
   (fun d l0 l1 l2 l3 l4 l5 l6 x0 h Q => zr_istore_n (n := 3) rfl (Nat.le_of_ble_eq_true rfl) rfl),
   (fun d l0 l1 l2 l3 l4 l5 l6  h Q => zr_aload_n rfl rfl),
   (fun d l0 l1 l2 l3 l4 l5 l6 x0 I L P Q p0 => zr_vir (as := []) (rest := []) rfl lm_10_248 m_161 kd_161 rfl (Nat.le_of_ble_eq_true rfl) p0),
   (fun d l0 l1 l2 l3 l4 l5 l6 x0 h Q => zr_if_ge rfl (by decide)),
   (fun d l0 l1 l2 l3 l4 l5 l6  h Q => zr_iconst rfl (by decide)),
   (fun d l0 l1 l2 l3 l4 l5 l6 x0 h Q => zr_goto rfl (by decide)),
   (fun d l0 l1 l2 l3 l4 l5 l6  h Q => zr_iconst rfl (by decide)),
   (fun d l0 l1 l2 l3 l4 l5 l6 x0 h Q => zr_istore (n := 4) rfl (Nat.le_of_ble_eq_true rfl) rfl),
   (fun d l0 l1 l2 l3 l4 l5 l6 x0 h Q => zr_if_eq rfl (by decide)),
   (fun d l0 l1 l2 l3 l4 l5 l6  h Q => zr_aload_n rfl rfl),
   (fun d l0 l1 l2 l3 l4 l5 l6 x0 I L P Q p0 => zr_getI rfl lf_10_99 (fun _ _ _ => rfl) p0),
   (fun d l0 l1 l2 l3 l4 l5 l6 x0 h Q => zr_bipush rfl (by decide)),
   (fun d l0 l1 l2 l3 l4 l5 l6 x1 x0 h Q => zr_ic_ge rfl (by decide)),
   (fun d l0 l1 l2 l3 l4 l5 l6  h Q => zr_iload_n rfl rfl),
   (fun d l0 l1 l2 l3 l4 l5 l6 x0 h Q => zr_iconst rfl (by decide)),
   (fun d l0 l1 l2 l3 l4 l5 l6 x1 x0 h Q => zr_ic_lt rfl (by decide)),
   (fun d l0 l1 l2 l3 l4 l5 l6  h Q => zr_aload_n rfl rfl),
   (fun d l0 l1 l2 l3 l4 l5 l6 x0 I L P Q p0 => zr_getQ rfl lf_10_9 (fun _ _ _ => rfl) p0),
   (fun d l0 l1 l2 l3 l4 l5 l6 x0 h Q => zr_aload_n rfl rfl),
   (fun d l0 l1 l2 l3 l4 l5 l6 x1 x0 I L P Q p0 => zr_getI rfl lf_10_99 (fun _ _ _ => rfl) p0),
   (fun d l0 l1 l2 l3 l4 l5 l6 x1 x0 I L P Q p0 => zr_ald rfl p0),
   (fun d l0 l1 l2 l3 l4 l5 l6 x0 h Q => zr_istore (n := 5) rfl (Nat.le_of_ble_eq_true rfl) rfl),
   (fun d l0 l1 l2 l3 l4 l5 l6  h Q => zr_aload_n rfl rfl),
   (fun d l0 l1 l2 l3 l4 l5 l6 x0 I L P Q p0 => zr_getQ rfl lf_10_9 (fun _ _ _ => rfl) p0),
   (fun d l0 l1 l2 l3 l4 l5 l6 x0 h Q => zr_bipush rfl (by decide)),
   (fun d l0 l1 l2 l3 l4 l5 l6 x1 x0 h Q => zr_aload_n rfl rfl),
   (fun d l0 l1 l2 l3 l4 l5 l6 x2 x1 x0 I L P Q p0 => zr_getI rfl lf_10_99 (fun _ _ _ => rfl) p0),
   (fun d l0 l1 l2 l3 l4 l5 l6 x2 x1 x0 h Q => zr_iadd rfl),
   (fun d l0 l1 l2 l3 l4 l5 l6 x1 x0 I L P Q p0 => zr_ald rfl p0),
   (fun d l0 l1 l2 l3 l4 l5 l6 x0 h Q => zr_istore (n := 6) rfl (Nat.le_of_ble_eq_true rfl) rfl),
   (fun d l0 l1 l2 l3 l4 l5 l6  h Q => zr_aload_n rfl rfl),
   (fun d l0 l1 l2 l3 l4 l5 l6 x0 I L P Q p0 => zr_getQ rfl lf_10_43 (fun _ _ _ => rfl) p0),
   (fun d l0 l1 l2 l3 l4 l5 l6 x0 h Q => zr_iconst rfl (by decide)),
   (fun d l0 l1 l2 l3 l4 l5 l6 x1 x0 h Q => zr_aload_n rfl rfl),
   (fun d l0 l1 l2 l3 l4 l5 l6 x2 x1 x0 I L P Q p0 => zr_getI rfl lf_10_99 (fun _ _ _ => rfl) p0),
   (fun d l0 l1 l2 l3 l4 l5 l6 x2 x1 x0 h Q => zr_imul rfl),
   (fun d l0 l1 l2 l3 l4 l5 l6 x1 x0 h Q => zr_iload rfl rfl),
   (fun d l0 l1 l2 l3 l4 l5 l6 x2 x1 x0 I L P Q p0 => zr_ast rfl p0),
   (fun d l0 l1 l2 l3 l4 l5 l6  h Q => zr_aload_n rfl rfl),
   (fun d l0 l1 l2 l3 l4 l5 l6 x0 I L P Q p0 => zr_getQ rfl lf_10_43 (fun _ _ _ => rfl) p0),
   (fun d l0 l1 l2 l3 l4 l5 l6 x0 h Q => zr_iconst rfl (by decide)),
   (fun d l0 l1 l2 l3 l4 l5 l6 x1 x0 h Q => zr_aload_n rfl rfl),
   (fun d l0 l1 l2 l3 l4 l5 l6 x2 x1 x0 I L P Q p0 => zr_getI rfl lf_10_99 (fun _ _ _ => rfl) p0),
   (fun d l0 l1 l2 l3 l4 l5 l6 x2 x1 x0 h Q => zr_imul rfl),
   (fun d l0 l1 l2 l3 l4 l5 l6 x1 x0 h Q => zr_iconst rfl (by decide)),
   (fun d l0 l1 l2 l3 l4 l5 l6 x2 x1 x0 h Q => zr_iadd rfl),
   (fun d l0 l1 l2 l3 l4 l5 l6 x1 x0 h Q => zr_iload rfl rfl),
   (fun d l0 l1 l2 l3 l4 l5 l6 x2 x1 x0 I L P Q p0 => zr_ast rfl p0),
   (fun d l0 l1 l2 l3 l4 l5 l6  h Q => zr_aload_n rfl rfl),
   (fun d l0 l1 l2 l3 l4 l5 l6 x0 I L P Q p0 => zr_getQ rfl lf_10_9 (fun _ _ _ => rfl) p0),
   (fun d l0 l1 l2 l3 l4 l5 l6 x0 h Q => zr_aload_n rfl rfl),
   (fun d l0 l1 l2 l3 l4 l5 l6 x1 x0 I L P Q p0 => zr_getI rfl lf_10_99 (fun _ _ _ => rfl) p0),
   (fun d l0 l1 l2 l3 l4 l5 l6 x1 x0 h Q => zr_iconst rfl (by decide)),
   (fun d l0 l1 l2 l3 l4 l5 l6 x2 x1 x0 I L P Q p0 => zr_ast rfl p0),
   (fun d l0 l1 l2 l3 l4 l5 l6  h Q => zr_aload_n rfl rfl),
   (fun d l0 l1 l2 l3 l4 l5 l6 x0 I L P Q p0 => zr_getQ rfl lf_10_9 (fun _ _ _ => rfl) p0),
   (fun d l0 l1 l2 l3 l4 l5 l6 x0 h Q => zr_bipush rfl (by decide)),
   (fun d l0 l1 l2 l3 l4 l5 l6 x1 x0 h Q => zr_aload_n rfl rfl),
   (fun d l0 l1 l2 l3 l4 l5 l6 x2 x1 x0 I L P Q p0 => zr_getI rfl lf_10_99 (fun _ _ _ => rfl) p0),
   (fun d l0 l1 l2 l3 l4 l5 l6 x2 x1 x0 h Q => zr_iadd rfl),
   (fun d l0 l1 l2 l3 l4 l5 l6 x1 x0 h Q => zr_iconst rfl (by decide)),
   (fun d l0 l1 l2 l3 l4 l5 l6 x2 x1 x0 I L P Q p0 => zr_ast rfl p0),
   (fun d l0 l1 l2 l3 l4 l5 l6  h Q => zr_aload_n rfl rfl),
   (fun d l0 l1 l2 l3 l4 l5 l6 x0 I L P Q p0 => zr_getQ rfl lf_10_40 (fun _ _ _ => rfl) p0),
   (fun d l0 l1 l2 l3 l4 l5 l6 x0 h Q => zr_aload_n rfl rfl),
   (fun d l0 l1 l2 l3 l4 l5 l6 x1 x0 I L P Q p0 => zr_getI rfl lf_10_99 (fun _ _ _ => rfl) p0),
   (fun d l0 l1 l2 l3 l4 l5 l6 x1 x0 h Q => zr_iconst rfl (by decide)),
   (fun d l0 l1 l2 l3 l4 l5 l6 x2 x1 x0 I L P Q p0 => zr_ast rfl p0),
   (fun d l0 l1 l2 l3 l4 l5 l6  h Q => zr_aload_n rfl rfl),
   (fun d l0 l1 l2 l3 l4 l5 l6 x0 h Q => zr_dup rfl rfl),
   (fun d l0 l1 l2 l3 l4 l5 l6 x1 x0 I L P Q p0 => zr_getI rfl lf_10_99 (fun _ _ _ => rfl) p0),
   (fun d l0 l1 l2 l3 l4 l5 l6 x1 x0 h Q => zr_iconst rfl (by decide)),
   (fun d l0 l1 l2 l3 l4 l5 l6 x2 x1 x0 h Q => zr_iadd rfl),
   (fun d l0 l1 l2 l3 l4 l5 l6 x1 x0 I L P Q p0 => zr_putI rfl lf_10_99 (by decide) rfl p0),
   (fun d l0 l1 l2 l3 l4 l5 l6  h Q => zr_iinc (n := 2) (kc := (-3)) rfl rfl (Nat.le_of_ble_eq_true rfl) rfl (by decide)),
   (fun d l0 l1 l2 l3 l4 l5 l6  h Q => zr_aload_n rfl rfl),
   (fun d l0 l1 l2 l3 l4 l5 l6 x0 I L P Q p0 => zr_vir (as := []) (rest := []) rfl lm_10_248 m_161 kd_161 rfl (Nat.le_of_ble_eq_true rfl) p0),
   (fun d l0 l1 l2 l3 l4 l5 l6 x0 h Q => zr_if_ge rfl (by decide)),
   (fun d l0 l1 l2 l3 l4 l5 l6  h Q => zr_iconst rfl (by decide)),
   (fun d l0 l1 l2 l3 l4 l5 l6 x0 h Q => zr_goto rfl (by decide)),
   (fun d l0 l1 l2 l3 l4 l5 l6  h Q => zr_iconst rfl (by decide)),
   (fun d l0 l1 l2 l3 l4 l5 l6 x0 h Q => zr_istore (n := 4) rfl (Nat.le_of_ble_eq_true rfl) rfl),
   (fun d l0 l1 l2 l3 l4 l5 l6  h Q => zr_iload_n rfl rfl),
   (fun d l0 l1 l2 l3 l4 l5 l6 x0 h Q => zr_iload rfl rfl),
   (fun d l0 l1 l2 l3 l4 l5 l6 x1 x0 h Q => zr_if_eq rfl (by decide)),
   (fun d l0 l1 l2 l3 l4 l5 l6 x0 h Q => zr_iconst rfl (by decide)),
   (fun d l0 l1 l2 l3 l4 l5 l6 x1 x0 h Q => zr_goto rfl (by decide)),
   (fun d l0 l1 l2 l3 l4 l5 l6 x0 h Q => zr_iconst rfl (by decide)),
   (fun d l0 l1 l2 l3 l4 l5 l6 x1 x0 h Q => zr_iadd rfl),
   (fun d l0 l1 l2 l3 l4 l5 l6 x0 h Q => zr_istore_n (n := 3) rfl (Nat.le_of_ble_eq_true rfl) rfl),
   (fun d l0 l1 l2 l3 l4 l5 l6  h Q => zr_goto rfl (by decide)),
   (fun d l0 l1 l2 l3 l4 l5 l6 x0 I L P Q p0 => zr_getI rfl lf_10_99 (fun _ _ _ => rfl) p0),
   (fun d l0 l1 l2 l3 l4 l5 l6 x0 h Q => zr_iload_n rfl rfl),
   (fun d l0 l1 l2 l3 l4 l5 l6 x1 x0 h Q => zr_ic_le rfl (by decide)),
   (fun d l0 l1 l2 l3 l4 l5 l6  h Q => zr_aload_n rfl rfl),
   (fun d l0 l1 l2 l3 l4 l5 l6 x0 h Q => zr_dup rfl rfl),
   (fun d l0 l1 l2 l3 l4 l5 l6 x1 x0 I L P Q p0 => zr_getI rfl lf_10_99 (fun _ _ _ => rfl) p0),
   (fun d l0 l1 l2 l3 l4 l5 l6 x1 x0 h Q => zr_iconst rfl (by decide)),
   (fun d l0 l1 l2 l3 l4 l5 l6 x2 x1 x0 h Q => zr_isub rfl),
   (fun d l0 l1 l2 l3 l4 l5 l6 x1 x0 I L P Q p0 => zr_putI rfl lf_10_99 (by decide) rfl p0),
   (fun d l0 l1 l2 l3 l4 l5 l6  h Q => zr_aload_n rfl rfl),
   (fun d l0 l1 l2 l3 l4 l5 l6 x0 I L P Q p0 => zr_getQ rfl lf_10_9 (fun _ _ _ => rfl) p0),
   (fun d l0 l1 l2 l3 l4 l5 l6 x0 h Q => zr_aload_n rfl rfl),
   (fun d l0 l1 l2 l3 l4 l5 l6 x1 x0 I L P Q p0 => zr_getI rfl lf_10_99 (fun _ _ _ => rfl) p0),
   (fun d l0 l1 l2 l3 l4 l5 l6 x1 x0 h Q => zr_aload_n rfl rfl),
   (fun d l0 l1 l2 l3 l4 l5 l6 x2 x1 x0 I L P Q p0 => zr_getQ rfl lf_10_43 (fun _ _ _ => rfl) p0),
   (fun d l0 l1 l2 l3 l4 l5 l6 x2 x1 x0 h Q => zr_iconst rfl (by decide)),
   (fun d l0 l1 l2 l3 l4 l5 l6 x3 x2 x1 x0 h Q => zr_aload_n rfl rfl),
   (fun d l0 l1 l2 l3 l4 l5 l6 x4 x3 x2 x1 x0 I L P Q p0 => zr_getI rfl lf_10_99 (fun _ _ _ => rfl) p0),
   (fun d l0 l1 l2 l3 l4 l5 l6 x4 x3 x2 x1 x0 h Q => zr_imul rfl),
   (fun d l0 l1 l2 l3 l4 l5 l6 x3 x2 x1 x0 I L P Q p0 => zr_ald rfl p0),
   (fun d l0 l1 l2 l3 l4 l5 l6 x2 x1 x0 I L P Q p0 => zr_ast rfl p0),
   (fun d l0 l1 l2 l3 l4 l5 l6  h Q => zr_aload_n rfl rfl),
   (fun d l0 l1 l2 l3 l4 l5 l6 x0 I L P Q p0 => zr_getQ rfl lf_10_9 (fun _ _ _ => rfl) p0),
   (fun d l0 l1 l2 l3 l4 l5 l6 x0 h Q => zr_bipush rfl (by decide)),
   (fun d l0 l1 l2 l3 l4 l5 l6 x1 x0 h Q => zr_aload_n rfl rfl),
   (fun d l0 l1 l2 l3 l4 l5 l6 x2 x1 x0 I L P Q p0 => zr_getI rfl lf_10_99 (fun _ _ _ => rfl) p0),
   (fun d l0 l1 l2 l3 l4 l5 l6 x2 x1 x0 h Q => zr_iadd rfl),
   (fun d l0 l1 l2 l3 l4 l5 l6 x1 x0 h Q => zr_aload_n rfl rfl),
   (fun d l0 l1 l2 l3 l4 l5 l6 x2 x1 x0 I L P Q p0 => zr_getQ rfl lf_10_43 (fun _ _ _ => rfl) p0),
   (fun d l0 l1 l2 l3 l4 l5 l6 x2 x1 x0 h Q => zr_iconst rfl (by decide)),
   (fun d l0 l1 l2 l3 l4 l5 l6 x3 x2 x1 x0 h Q => zr_aload_n rfl rfl),
   (fun d l0 l1 l2 l3 l4 l5 l6 x4 x3 x2 x1 x0 I L P Q p0 => zr_getI rfl lf_10_99 (fun _ _ _ => rfl) p0),
   (fun d l0 l1 l2 l3 l4 l5 l6 x4 x3 x2 x1 x0 h Q => zr_imul rfl),
   (fun d l0 l1 l2 l3 l4 l5 l6 x3 x2 x1 x0 h Q => zr_iconst rfl (by decide)),
   (fun d l0 l1 l2 l3 l4 l5 l6 x4 x3 x2 x1 x0 h Q => zr_iadd rfl),
   (fun d l0 l1 l2 l3 l4 l5 l6 x3 x2 x1 x0 I L P Q p0 => zr_ald rfl p0),
   (fun d l0 l1 l2 l3 l4 l5 l6 x2 x1 x0 I L P Q p0 => zr_ast rfl p0),
   (fun d l0 l1 l2 l3 l4 l5 l6  h Q => zr_goto rfl (by decide)),
   (fun d l0 l1 l2 l3 l4 l5 l6  h Q => zr_iload_n rfl rfl),
   (fun d l0 l1 l2 l3 l4 l5 l6 x0 h Q => zr_iret rfl rfl)⟩
theorem H_X10_highest_35 : ∀ (d : Nat) (l0 : Value) (l1 : Value) (l2 : Value) (l3 : Value) (l4 : Int32) (l5 : Value) (l6 : Value)  (h : zMm) (Q : Option Value → zMm → Prop), zWp d zi_168 none 35 [l0, l1, l2, l3, .int l4, l5, l6] [] h Q = zWp d zi_168 none 37 [l0, l1, l2, l3, .int l4, l5, l6] [.int l4] h Q := fun d l0 l1 l2 l3 l4 l5 l6  h Q => zr_iload rfl rfl
theorem H_X10_highest_183 : ∀ (d : Nat) (l0 : Nat) (l1 : Value) (l2 : Value) (l3 : Value) (l4 : Value) (l5 : Value) (l6 : Value)  (h : zMm) (Q : Option Value → zMm → Prop), zWp d zi_168 none 183 [.ref l0, l1, l2, l3, l4, l5, l6] [] h Q = zWp d zi_168 none 184 [.ref l0, l1, l2, l3, l4, l5, l6] [.ref l0] h Q := fun d l0 l1 l2 l3 l4 l5 l6  h Q => zr_aload_n rfl rfl
