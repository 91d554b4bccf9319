theorem E_X10_firstFuel : ∀ (d : Nat) (a0 : Nat) (a1 : Int32) (h : zMm) (Q : Option Value → zMm → Prop), zWM (d + 1) 169 [.ref a0, .int a1] h Q = zWp d zi_169 none 0 [.ref a0, .int a1] [] h Q := fun d a0 a1 h Q => zW_M m_169 (Nat.le_of_ble_eq_true rfl) rfl
set_option maxRecDepth 100000 in
theorem R_X10_firstFuel :
    (∀ (d : Nat) (l0 : Value) (l1 : Value)  (h : zMm) (Q : Option Value → zMm → Prop), zWp d zi_169 none 0 [l0, l1] [] h Q = zWp d zi_169 none 2 [l0, l1] [.int 12] h Q) ∧
    (∀ (d : Nat) (l0 : Nat) (l1 : Value) (x0 : Int32) (h : zMm) (Q : Option Value → zMm → Prop), zWp d zi_169 none 2 [.ref l0, l1] [.int x0] h Q = zWp d zi_169 none 3 [.ref l0, l1] [.ref l0, .int x0] h Q) ∧
    (∀ (d : Nat) (l0 : Value) (l1 : Value) (x1 : Nat) (x0 : Int32) (I : Nat → Nat → Int32) (L : Nat → Nat → Int64) (P : Nat → Nat → Option Nat) (Q : Option Value → zMm → Prop), zSH[x1]? = some (.inl 10) → zWp d zi_169 none 3 [l0, l1] [.ref x1, .int x0] (zSH, I, L, P) Q = zWp d zi_169 none 6 [l0, l1] [va_rf (P x1 7), .int x0] (zSH, I, L, P) Q) ∧
    (∀ (d : Nat) (l0 : Value) (l1 : Int32) (x1 : Nat) (x0 : Int32) (h : zMm) (Q : Option Value → zMm → Prop), zWp d zi_169 none 6 [l0, .int l1] [.ref x1, .int x0] h Q = zWp d zi_169 none 7 [l0, .int l1] [.int l1, .ref x1, .int x0] h Q) ∧
    (∀ (d : Nat) (l0 : Value) (l1 : Value) (x2 : Int32) (x1 : Nat) (x0 : Int32) (I : Nat → Nat → Int32) (L : Nat → Nat → Int64) (P : Nat → Nat → Option Nat) (Q : Option Value → zMm → Prop), zAk zSH x1 = some .int → zWp d zi_169 none 7 [l0, l1] [.int x2, .ref x1, .int x0] (zSH, I, L, P) Q = (vp_in x2 (zAn zSH x1) ∧ zWp d zi_169 none 8 [l0, l1] [.int (I x1 x2.toNatClampNeg), .int x0] (zSH, I, L, P) Q)) ∧
    (∀ (d : Nat) (l0 : Nat) (l1 : Value) (x1 : Int32) (x0 : Int32) (h : zMm) (Q : Option Value → zMm → Prop), zWp d zi_169 none 8 [.ref l0, l1] [.int x1, .int x0] h Q = zWp d zi_169 none 9 [.ref l0, l1] [.ref l0, .int x1, .int x0] h Q) ∧
    (∀ (d : Nat) (l0 : Value) (l1 : Value) (x2 : Nat) (x1 : Int32) (x0 : Int32) (I : Nat → Nat → Int32) (L : Nat → Nat → Int64) (P : Nat → Nat → Option Nat) (Q : Option Value → zMm → Prop), zSH[x2]? = some (.inl 10) → zWp d zi_169 none 9 [l0, l1] [.ref x2, .int x1, .int x0] (zSH, I, L, P) Q = zWp d zi_169 none 12 [l0, l1] [va_rf (P x2 0), .int x1, .int x0] (zSH, I, L, P) Q) ∧
    (∀ (d : Nat) (l0 : Value) (l1 : Value) (x2 : Nat) (x1 : Int32) (x0 : Int32) (h : zMm) (Q : Option Value → zMm → Prop), zWp d zi_169 none 12 [l0, l1] [.ref x2, .int x1, .int x0] h Q = zWp d zi_169 none 14 [l0, l1] [.int 48, .ref x2, .int x1, .int x0] h Q) ∧
    (∀ (d : Nat) (l0 : Value) (l1 : Int32) (x3 : Int32) (x2 : Nat) (x1 : Int32) (x0 : Int32) (h : zMm) (Q : Option Value → zMm → Prop), zWp d zi_169 none 14 [l0, .int l1] [.int x3, .ref x2, .int x1, .int x0] h Q = zWp d zi_169 none 15 [l0, .int l1] [.int l1, .int x3, .ref x2, .int x1, .int x0] h Q) ∧
    (∀ (d : Nat) (l0 : Value) (l1 : Value) (x4 : Int32) (x3 : Int32) (x2 : Nat) (x1 : Int32) (x0 : Int32) (h : zMm) (Q : Option Value → zMm → Prop), zWp d zi_169 none 15 [l0, l1] [.int x4, .int x3, .ref x2, .int x1, .int x0] h Q = zWp d zi_169 none 16 [l0, l1] [.int (x3 + x4), .ref x2, .int x1, .int x0] h Q) ∧
    (∀ (d : Nat) (l0 : Value) (l1 : Value) (x3 : Int32) (x2 : Nat) (x1 : Int32) (x0 : Int32) (I : Nat → Nat → Int32) (L : Nat → Nat → Int64) (P : Nat → Nat → Option Nat) (Q : Option Value → zMm → Prop), zAk zSH x2 = some .int → zWp d zi_169 none 16 [l0, l1] [.int x3, .ref x2, .int x1, .int x0] (zSH, I, L, P) Q = (vp_in x3 (zAn zSH x2) ∧ zWp d zi_169 none 17 [l0, l1] [.int (I x2 x3.toNatClampNeg), .int x1, .int x0] (zSH, I, L, P) Q)) ∧
    (∀ (d : Nat) (l0 : Value) (l1 : Value) (x2 : Int32) (x1 : Int32) (x0 : Int32) (h : zMm) (Q : Option Value → zMm → Prop), zWp d zi_169 none 17 [l0, l1] [.int x2, .int x1, .int x0] h Q = zWp d zi_169 none 18 [l0, l1] [.int (x1 - x2), .int x0] h Q) ∧
    (∀ (d : Nat) (l0 : Value) (l1 : Value) (x1 : Int32) (x0 : Int32) (h : zMm) (Q : Option Value → zMm → Prop), zWp d zi_169 none 18 [l0, l1] [.int x1, .int x0] h Q = zWp d zi_169 none 19 [l0, l1] [.int (x0 * x1)] h Q) ∧
    (∀ (d : Nat) (l0 : Value) (l1 : Value) (x0 : Int32) (h : zMm) (Q : Option Value → zMm → Prop), zWp d zi_169 none 19 [l0, l1] [.int x0] h Q = zWp d zi_169 none 21 [l0, l1] [.int 8, .int x0] h Q) ∧
    (∀ (d : Nat) (l0 : Nat) (l1 : Value) (x1 : Int32) (x0 : Int32) (h : zMm) (Q : Option Value → zMm → Prop), zWp d zi_169 none 21 [.ref l0, l1] [.int x1, .int x0] h Q = zWp d zi_169 none 22 [.ref l0, l1] [.ref l0, .int x1, .int x0] h Q) ∧
    (∀ (d : Nat) (l0 : Value) (l1 : Value) (x2 : Nat) (x1 : Int32) (x0 : Int32) (I : Nat → Nat → Int32) (L : Nat → Nat → Int64) (P : Nat → Nat → Option Nat) (Q : Option Value → zMm → Prop), zSH[x2]? = some (.inl 10) → zWp d zi_169 none 22 [l0, l1] [.ref x2, .int x1, .int x0] (zSH, I, L, P) Q = zWp d zi_169 none 25 [l0, l1] [va_rf (P x2 0), .int x1, .int x0] (zSH, I, L, P) Q) ∧
    (∀ (d : Nat) (l0 : Value) (l1 : Value) (x2 : Nat) (x1 : Int32) (x0 : Int32) (h : zMm) (Q : Option Value → zMm → Prop), zWp d zi_169 none 25 [l0, l1] [.ref x2, .int x1, .int x0] h Q = zWp d zi_169 none 27 [l0, l1] [.int 48, .ref x2, .int x1, .int x0] h Q) ∧
    (∀ (d : Nat) (l0 : Value) (l1 : Int32) (x3 : Int32) (x2 : Nat) (x1 : Int32) (x0 : Int32) (h : zMm) (Q : Option Value → zMm → Prop), zWp d zi_169 none 27 [l0, .int l1] [.int x3, .ref x2, .int x1, .int x0] h Q = zWp d zi_169 none 28 [l0, .int l1] [.int l1, .int x3, .ref x2, .int x1, .int x0] h Q) ∧
    (∀ (d : Nat) (l0 : Value) (l1 : Value) (x4 : Int32) (x3 : Int32) (x2 : Nat) (x1 : Int32) (x0 : Int32) (h : zMm) (Q : Option Value → zMm → Prop), zWp d zi_169 none 28 [l0, l1] [.int x4, .int x3, .ref x2, .int x1, .int x0] h Q = zWp d zi_169 none 29 [l0, l1] [.int (x3 + x4), .ref x2, .int x1, .int x0] h Q) ∧
    (∀ (d : Nat) (l0 : Value) (l1 : Value) (x3 : Int32) (x2 : Nat) (x1 : Int32) (x0 : Int32) (I : Nat → Nat → Int32) (L : Nat → Nat → Int64) (P : Nat → Nat → Option Nat) (Q : Option Value → zMm → Prop), zAk zSH x2 = some .int → zWp d zi_169 none 29 [l0, l1] [.int x3, .ref x2, .int x1, .int x0] (zSH, I, L, P) Q = (vp_in x3 (zAn zSH x2) ∧ zWp d zi_169 none 30 [l0, l1] [.int (I x2 x3.toNatClampNeg), .int x1, .int x0] (zSH, I, L, P) Q)) ∧
    (∀ (d : Nat) (l0 : Value) (l1 : Value) (x2 : Int32) (x1 : Int32) (x0 : Int32) (h : zMm) (Q : Option Value → zMm → Prop), zWp d zi_169 none 30 [l0, l1] [.int x2, .int x1, .int x0] h Q = zWp d zi_169 none 31 [l0, l1] [.int (x1 * x2), .int x0] h Q) ∧
    (∀ (d : Nat) (l0 : Value) (l1 : Value) (x1 : Int32) (x0 : Int32) (h : zMm) (Q : Option Value → zMm → Prop), zWp d zi_169 none 31 [l0, l1] [.int x1, .int x0] h Q = zWp d zi_169 none 32 [l0, l1] [.int (x0 + x1)] h Q) ∧
    (∀ (d : Nat) (l0 : Value) (l1 : Value) (x0 : Int32) (h : zMm) (Q : Option Value → zMm → Prop), zWp d zi_169 none 32 [l0, l1] [.int x0] h Q = Q (some (.int x0)) h) :=
  ⟨(fun d l0 l1  h Q => zr_bipush rfl (by decide)),
   (fun d l0 l1 x0 h Q => zr_aload_n rfl rfl),
   (fun d l0 l1 x1 x0 I L P Q p0 => zr_getQ rfl lf_10_22 (fun _ _ _ => rfl) p0),
   (fun d l0 l1 x1 x0 h Q => zr_iload_n rfl rfl),
   (fun d l0 l1 x2 x1 x0 I L P Q p0 => zr_ald rfl p0),
   (fun d l0 l1 x1 x0 h Q => zr_aload_n rfl rfl),
   (fun d l0 l1 x2 x1 x0 I L P Q p0 => zr_getQ rfl lf_10_9 (fun _ _ _ => rfl) p0),
   (fun d l0 l1 x2 x1 x0 h Q => zr_bipush rfl (by decide)),
   (fun d l0 l1 x3 x2 x1 x0 h Q => zr_iload_n rfl rfl),
   (fun d l0 l1 x4 x3 x2 x1 x0 h Q => zr_iadd rfl),
   (fun d l0 l1 x3 x2 x1 x0 I L P Q p0 => zr_ald rfl p0),
   (fun d l0 l1 x2 x1 x0 h Q => zr_isub rfl),
   (fun d l0 l1 x1 x0 h Q => zr_imul rfl),
   (fun d l0 l1 x0 h Q => zr_bipush rfl (by decide)),
   (fun d l0 l1 x1 x0 h Q => zr_aload_n rfl rfl),
   (fun d l0 l1 x2 x1 x0 I L P Q p0 => zr_getQ rfl lf_10_9 (fun _ _ _ => rfl) p0),
   (fun d l0 l1 x2 x1 x0 h Q => zr_bipush rfl (by decide)),
   (fun d l0 l1 x3 x2 x1 x0 h Q => zr_iload_n rfl rfl),
   (fun d l0 l1 x4 x3 x2 x1 x0 h Q => zr_iadd rfl),
   (fun d l0 l1 x3 x2 x1 x0 I L P Q p0 => zr_ald rfl p0),
   (fun d l0 l1 x2 x1 x0 h Q => zr_imul rfl),
   (fun d l0 l1 x1 x0 h Q => zr_iadd rfl),
   (fun d l0 l1 x0 h Q => zr_iret rfl rfl)⟩
theorem E_X10_burnsOf : ∀ (d : Nat) (a0 : Nat) (a1 : Int32) (a2 : Int32) (h : zMm) (Q : Option Value → zMm → Prop), zWM (d + 1) 170 [.ref a0, .int a1, .int a2] h Q = zWp d zi_170 none 0 [.ref a0, .int a1, .int a2, .retAddr 0, .retAddr 0] [] h Q := fun d a0 a1 a2 h Q => zW_M m_170 (Nat.le_of_ble_eq_true rfl) rfl
set_option maxRecDepth 100000 in
theorem R_X10_burnsOf :
    (∀ (d : Nat) (l0 : Nat) (l1 : Value) (l2 : Value) (l3 : Value) (l4 : Value)  (h : zMm) (Q : Option Value → zMm → Prop), zWp d zi_170 none 0 [.ref l0, l1, l2, l3, l4] [] h Q = zWp d zi_170 none 1 [.ref l0, l1, l2, l3, l4] [.ref l0] h Q) ∧
    (∀ (d : Nat) (l0 : Value) (l1 : Value) (l2 : Value) (l3 : Value) (l4 : Value) (x0 : Nat) (I : Nat → Nat → Int32) (L : Nat → Nat → Int64) (P : Nat → Nat → Option Nat) (Q : Option Value → zMm → Prop), zSH[x0]? = some (.inl 10) → zWp d zi_170 none 1 [l0, l1, l2, l3, l4] [.ref x0] (zSH, I, L, P) Q = zWp d zi_170 none 4 [l0, l1, l2, l3, l4] [va_rf (P x0 25)] (zSH, I, L, P) Q) ∧
    (∀ (d : Nat) (l0 : Value) (l1 : Int32) (l2 : Value) (l3 : Value) (l4 : Value) (x0 : Nat) (h : zMm) (Q : Option Value → zMm → Prop), zWp d zi_170 none 4 [l0, .int l1, l2, l3, l4] [.ref x0] h Q = zWp d zi_170 none 5 [l0, .int l1, l2, l3, l4] [.int l1, .ref x0] h Q) ∧
    (∀ (d : Nat) (l0 : Value) (l1 : Value) (l2 : Value) (l3 : Value) (l4 : Value) (x1 : Int32) (x0 : Nat) (I : Nat → Nat → Int32) (L : Nat → Nat → Int64) (P : Nat → Nat → Option Nat) (Q : Option Value → zMm → Prop), zAk zSH x0 = some .int → zWp d zi_170 none 5 [l0, l1, l2, l3, l4] [.int x1, .ref x0] (zSH, I, L, P) Q = (vp_in x1 (zAn zSH x0) ∧ zWp d zi_170 none 6 [l0, l1, l2, l3, l4] [.int (I x0 x1.toNatClampNeg)] (zSH, I, L, P) Q)) ∧
    (∀ (d : Nat) (l0 : Value) (l1 : Value) (l2 : Int32) (l3 : Value) (l4 : Value) (x0 : Int32) (h : zMm) (Q : Option Value → zMm → Prop), zWp d zi_170 none 6 [l0, l1, .int l2, l3, l4] [.int x0] h Q = zWp d zi_170 none 7 [l0, l1, .int l2, l3, l4] [.int l2, .int x0] h Q) ∧
    (∀ (d : Nat) (l0 : Value) (l1 : Value) (l2 : Value) (l3 : Value) (l4 : Value) (x1 : Int32) (x0 : Int32) (h : zMm) (Q : Option Value → zMm → Prop), zWp d zi_170 none 7 [l0, l1, l2, l3, l4] [.int x1, .int x0] h Q = if x1 < x0 then zWp d zi_170 none 19 [l0, l1, l2, l3, l4] [] h Q else zWp d zi_170 none 10 [l0, l1, l2, l3, l4] [] h Q) ∧
    (∀ (d : Nat) (l0 : Nat) (l1 : Value) (l2 : Value) (l3 : Value) (l4 : Value)  (h : zMm) (Q : Option Value → zMm → Prop), zWp d zi_170 none 10 [.ref l0, l1, l2, l3, l4] [] h Q = zWp d zi_170 none 11 [.ref l0, l1, l2, l3, l4] [.ref l0] h Q) ∧
    (∀ (d : Nat) (l0 : Value) (l1 : Value) (l2 : Value) (l3 : Value) (l4 : Value) (x0 : Nat) (I : Nat → Nat → Int32) (L : Nat → Nat → Int64) (P : Nat → Nat → Option Nat) (Q : Option Value → zMm → Prop), zSH[x0]? = some (.inl 10) → zWp d zi_170 none 11 [l0, l1, l2, l3, l4] [.ref x0] (zSH, I, L, P) Q = zWp d zi_170 none 14 [l0, l1, l2, l3, l4] [va_rf (P x0 26)] (zSH, I, L, P) Q) ∧
    (∀ (d : Nat) (l0 : Value) (l1 : Int32) (l2 : Value) (l3 : Value) (l4 : Value) (x0 : Nat) (h : zMm) (Q : Option Value → zMm → Prop), zWp d zi_170 none 14 [l0, .int l1, l2, l3, l4] [.ref x0] h Q = zWp d zi_170 none 15 [l0, .int l1, l2, l3, l4] [.int l1, .ref x0] h Q) ∧
    (∀ (d : Nat) (l0 : Value) (l1 : Value) (l2 : Value) (l3 : Value) (l4 : Value) (x1 : Int32) (x0 : Nat) (I : Nat → Nat → Int32) (L : Nat → Nat → Int64) (P : Nat → Nat → Option Nat) (Q : Option Value → zMm → Prop), zAk zSH x0 = some .int → zWp d zi_170 none 15 [l0, l1, l2, l3, l4] [.int x1, .ref x0] (zSH, I, L, P) Q = (vp_in x1 (zAn zSH x0) ∧ zWp d zi_170 none 16 [l0, l1, l2, l3, l4] [.int (I x0 x1.toNatClampNeg)] (zSH, I, L, P) Q)) ∧
    (∀ (d : Nat) (l0 : Value) (l1 : Value) (l2 : Value) (l3 : Value) (l4 : Value) (x0 : Int32) (h : zMm) (Q : Option Value → zMm → Prop), zWp d zi_170 none 16 [l0, l1, l2, l3, l4] [.int x0] h Q = if x0 = 0 then zWp d zi_170 none 19 [l0, l1, l2, l3, l4] [] h Q else zWp d zi_170 none 21 [l0, l1, l2, l3, l4] [] h Q) ∧
    (∀ (d : Nat) (l0 : Value) (l1 : Value) (l2 : Value) (l3 : Value) (l4 : Value)  (h : zMm) (Q : Option Value → zMm → Prop), zWp d zi_170 none 19 [l0, l1, l2, l3, l4] [] h Q = zWp d zi_170 none 20 [l0, l1, l2, l3, l4] [.int 0] h Q) ∧
    (∀ (d : Nat) (l0 : Value) (l1 : Value) (l2 : Value) (l3 : Value) (l4 : Value) (x0 : Int32) (h : zMm) (Q : Option Value → zMm → Prop), zWp d zi_170 none 20 [l0, l1, l2, l3, l4] [.int x0] h Q = Q (some (.int x0)) h) ∧
    (∀ (d : Nat) (l0 : Nat) (l1 : Value) (l2 : Value) (l3 : Value) (l4 : Value)  (h : zMm) (Q : Option Value → zMm → Prop), zWp d zi_170 none 21 [.ref l0, l1, l2, l3, l4] [] h Q = zWp d zi_170 none 22 [.ref l0, l1, l2, l3, l4] [.ref l0] h Q) ∧
    (∀ (d : Nat) (l0 : Value) (l1 : Value) (l2 : Value) (l3 : Value) (l4 : Value) (x0 : Nat) (I : Nat → Nat → Int32) (L : Nat → Nat → Int64) (P : Nat → Nat → Option Nat) (Q : Option Value → zMm → Prop), zSH[x0]? = some (.inl 10) → zWp d zi_170 none 22 [l0, l1, l2, l3, l4] [.ref x0] (zSH, I, L, P) Q = zWp d zi_170 none 25 [l0, l1, l2, l3, l4] [va_rf (P x0 0)] (zSH, I, L, P) Q) ∧
    (∀ (d : Nat) (l0 : Value) (l1 : Value) (l2 : Value) (l3 : Value) (l4 : Value) (x0 : Nat) (h : zMm) (Q : Option Value → zMm → Prop), zWp d zi_170 none 25 [l0, l1, l2, l3, l4] [.ref x0] h Q = zWp d zi_170 none 27 [l0, l1, l2, l3, l4] [.int 72, .ref x0] h Q) ∧
    (∀ (d : Nat) (l0 : Value) (l1 : Value) (l2 : Value) (l3 : Value) (l4 : Value) (x1 : Int32) (x0 : Nat) (I : Nat → Nat → Int32) (L : Nat → Nat → Int64) (P : Nat → Nat → Option Nat) (Q : Option Value → zMm → Prop), zAk zSH x0 = some .int → zWp d zi_170 none 27 [l0, l1, l2, l3, l4] [.int x1, .ref x0] (zSH, I, L, P) Q = (vp_in x1 (zAn zSH x0) ∧ zWp d zi_170 none 28 [l0, l1, l2, l3, l4] [.int (I x0 x1.toNatClampNeg)] (zSH, I, L, P) Q)) ∧
    (∀ (d : Nat) (l0 : Value) (l1 : Value) (l2 : Value) (l3 : Value) (l4 : Value) (x0 : Int32) (h : zMm) (Q : Option Value → zMm → Prop), zWp d zi_170 none 28 [l0, l1, l2, l3, l4] [.int x0] h Q = zWM d 123 [.int x0] h (fun r h1 => zWp d zi_170 none 31 [l0, l1, l2, l3, l4] (r.toList ++ []) h1 Q)) ∧
    (∀ (d : Nat) (l0 : Nat) (l1 : Value) (l2 : Value) (l3 : Value) (l4 : Value) (x0 : Int32) (h : zMm) (Q : Option Value → zMm → Prop), zWp d zi_170 none 31 [.ref l0, l1, l2, l3, l4] [.int x0] h Q = zWp d zi_170 none 32 [.ref l0, l1, l2, l3, l4] [.ref l0, .int x0] h Q) ∧
    (∀ (d : Nat) (l0 : Value) (l1 : Value) (l2 : Value) (l3 : Value) (l4 : Value) (x1 : Nat) (x0 : Int32) (I : Nat → Nat → Int32) (L : Nat → Nat → Int64) (P : Nat → Nat → Option Nat) (Q : Option Value → zMm → Prop), zSH[x1]? = some (.inl 10) → zWp d zi_170 none 32 [l0, l1, l2, l3, l4] [.ref x1, .int x0] (zSH, I, L, P) Q = zWp d zi_170 none 35 [l0, l1, l2, l3, l4] [va_rf (P x1 0), .int x0] (zSH, I, L, P) Q) ∧
    (∀ (d : Nat) (l0 : Value) (l1 : Value) (l2 : Value) (l3 : Value) (l4 : Value) (x1 : Nat) (x0 : Int32) (h : zMm) (Q : Option Value → zMm → Prop), zWp d zi_170 none 35 [l0, l1, l2, l3, l4] [.ref x1, .int x0] h Q = zWp d zi_170 none 37 [l0, l1, l2, l3, l4] [.int 73, .ref x1, .int x0] h Q) ∧
    (∀ (d : Nat) (l0 : Value) (l1 : Value) (l2 : Value) (l3 : Value) (l4 : Value) (x2 : Int32) (x1 : Nat) (x0 : Int32) (I : Nat → Nat → Int32) (L : Nat → Nat → Int64) (P : Nat → Nat → Option Nat) (Q : Option Value → zMm → Prop), zAk zSH x1 = some .int → zWp d zi_170 none 37 [l0, l1, l2, l3, l4] [.int x2, .ref x1, .int x0] (zSH, I, L, P) Q = (vp_in x2 (zAn zSH x1) ∧ zWp d zi_170 none 38 [l0, l1, l2, l3, l4] [.int (I x1 x2.toNatClampNeg), .int x0] (zSH, I, L, P) Q)) ∧
    (∀ (d : Nat) (l0 : Value) (l1 : Value) (l2 : Value) (l3 : Value) (l4 : Value) (x1 : Int32) (x0 : Int32) (h : zMm) (Q : Option Value → zMm → Prop), zWp d zi_170 none 38 [l0, l1, l2, l3, l4] [.int x1, .int x0] h Q = zWM d 123 [.int x1] h (fun r h1 => zWp d zi_170 none 41 [l0, l1, l2, l3, l4] (r.toList ++ [.int x0]) h1 Q)) ∧
    (∀ (d : Nat) (l0 : Value) (l1 : Value) (l2 : Value) (l3 : Value) (l4 : Value) (x1 : Int32) (x0 : Int32) (h : zMm) (Q : Option Value → zMm → Prop), zWp d zi_170 none 41 [l0, l1, l2, l3, l4] [.int x1, .int x0] h Q = zWp d zi_170 none 42 [l0, l1, l2, l3, l4] [.int (x0 + x1)] h Q) ∧
    (∀ (d : Nat) (l0 : Value) (l1 : Value) (l2 : Int32) (l3 : Value) (l4 : Value) (x0 : Int32) (h : zMm) (Q : Option Value → zMm → Prop), zWp d zi_170 none 42 [l0, l1, .int l2, l3, l4] [.int x0] h Q = zWp d zi_170 none 43 [l0, l1, .int l2, .int x0, l4] [] h Q) ∧
    (∀ (d : Nat) (l0 : Nat) (l1 : Value) (l2 : Value) (l3 : Value) (l4 : Value)  (h : zMm) (Q : Option Value → zMm → Prop), zWp d zi_170 none 43 [.ref l0, l1, l2, l3, l4] [] h Q = zWp d zi_170 none 44 [.ref l0, l1, l2, l3, l4] [.ref l0] h Q) ∧
    (∀ (d : Nat) (l0 : Value) (l1 : Value) (l2 : Value) (l3 : Value) (l4 : Value) (x0 : Nat) (I : Nat → Nat → Int32) (L : Nat → Nat → Int64) (P : Nat → Nat → Option Nat) (Q : Option Value → zMm → Prop), zSH[x0]? = some (.inl 10) → zWp d zi_170 none 44 [l0, l1, l2, l3, l4] [.ref x0] (zSH, I, L, P) Q = zWp d zi_170 none 47 [l0, l1, l2, l3, l4] [va_rf (P x0 7)] (zSH, I, L, P) Q) ∧
    (∀ (d : Nat) (l0 : Value) (l1 : Int32) (l2 : Value) (l3 : Value) (l4 : Value) (x0 : Nat) (h : zMm) (Q : Option Value → zMm → Prop), zWp d zi_170 none 47 [l0, .int l1, l2, l3, l4] [.ref x0] h Q = zWp d zi_170 none 48 [l0, .int l1, l2, l3, l4] [.int l1, .ref x0] h Q) ∧
    (∀ (d : Nat) (l0 : Value) (l1 : Value) (l2 : Value) (l3 : Value) (l4 : Value) (x1 : Int32) (x0 : Nat) (I : Nat → Nat → Int32) (L : Nat → Nat → Int64) (P : Nat → Nat → Option Nat) (Q : Option Value → zMm → Prop), zAk zSH x0 = some .int → zWp d zi_170 none 48 [l0, l1, l2, l3, l4] [.int x1, .ref x0] (zSH, I, L, P) Q = (vp_in x1 (zAn zSH x0) ∧ zWp d zi_170 none 49 [l0, l1, l2, l3, l4] [.int (I x0 x1.toNatClampNeg)] (zSH, I, L, P) Q)) ∧
    (∀ (d : Nat) (l0 : Value) (l1 : Value) (l2 : Value) (l3 : Int32) (l4 : Value) (x0 : Int32) (h : zMm) (Q : Option Value → zMm → Prop), zWp d zi_170 none 49 [l0, l1, l2, .int l3, l4] [.int x0] h Q = zWp d zi_170 none 50 [l0, l1, l2, .int l3, l4] [.int l3, .int x0] h Q) ∧
    (∀ (d : Nat) (l0 : Value) (l1 : Value) (l2 : Value) (l3 : Value) (l4 : Value) (x1 : Int32) (x0 : Int32) (h : zMm) (Q : Option Value → zMm → Prop), zWp d zi_170 none 50 [l0, l1, l2, l3, l4] [.int x1, .int x0] h Q = zWp d zi_170 none 51 [l0, l1, l2, l3, l4] [.int (x0 + x1)] h Q) ∧
    (∀ (d : Nat) (l0 : Value) (l1 : Value) (l2 : Value) (l3 : Value) (l4 : Value) (x0 : Int32) (h : zMm) (Q : Option Value → zMm → Prop), zWp d zi_170 none 51 [l0, l1, l2, l3, l4] [.int x0] h Q = zWp d zi_170 none 52 [l0, l1, l2, l3, l4] [.int 2, .int x0] h Q) ∧
    (∀ (d : Nat) (l0 : Value) (l1 : Value) (l2 : Value) (l3 : Value) (l4 : Value) (x1 : Int32) (x0 : Int32) (h : zMm) (Q : Option Value → zMm → Prop), zWp d zi_170 none 52 [l0, l1, l2, l3, l4] [.int x1, .int x0] h Q = (¬ x1 = 0 ∧ zWp d zi_170 none 53 [l0, l1, l2, l3, l4] [.int (x0 / x1)] h Q)) ∧
    (∀ (d : Nat) (l0 : Value) (l1 : Value) (l2 : Value) (l3 : Value) (l4 : Value) (x0 : Int32) (h : zMm) (Q : Option Value → zMm → Prop), zWp d zi_170 none 53 [l0, l1, l2, l3, l4] [.int x0] h Q = zWp d zi_170 none 54 [l0, l1, l2, l3, l4] [.int 1, .int x0] h Q) ∧
    (∀ (d : Nat) (l0 : Value) (l1 : Value) (l2 : Value) (l3 : Value) (l4 : Value) (x1 : Int32) (x0 : Int32) (h : zMm) (Q : Option Value → zMm → Prop), zWp d zi_170 none 54 [l0, l1, l2, l3, l4] [.int x1, .int x0] h Q = zWp d zi_170 none 55 [l0, l1, l2, l3, l4] [.int (x0 + x1)] h Q) ∧
    (∀ (d : Nat) (l0 : Value) (l1 : Value) (l2 : Value) (l3 : Int32) (l4 : Value) (x0 : Int32) (h : zMm) (Q : Option Value → zMm → Prop), zWp d zi_170 none 55 [l0, l1, l2, .int l3, l4] [.int x0] h Q = zWp d zi_170 none 57 [l0, l1, l2, .int l3, .int x0] [] h Q) ∧
    (∀ (d : Nat) (l0 : Nat) (l1 : Value) (l2 : Value) (l3 : Value) (l4 : Value)  (h : zMm) (Q : Option Value → zMm → Prop), zWp d zi_170 none 57 [.ref l0, l1, l2, l3, l4] [] h Q = zWp d zi_170 none 58 [.ref l0, l1, l2, l3, l4] [.ref l0] h Q) ∧
    (∀ (d : Nat) (l0 : Value) (l1 : Value) (l2 : Value) (l3 : Value) (l4 : Value) (x0 : Nat) (I : Nat → Nat → Int32) (L : Nat → Nat → Int64) (P : Nat → Nat → Option Nat) (Q : Option Value → zMm → Prop), zSH[x0]? = some (.inl 10) → zWp d zi_170 none 58 [l0, l1, l2, l3, l4] [.ref x0] (zSH, I, L, P) Q = zWp d zi_170 none 61 [l0, l1, l2, l3, l4] [.int (I x0 16)] (zSH, I, L, P) Q) ∧
    (∀ (d : Nat) (l0 : Value) (l1 : Value) (l2 : Value) (l3 : Value) (l4 : Value) (x0 : Int32) (h : zMm) (Q : Option Value → zMm → Prop), zWp d zi_170 none 61 [l0, l1, l2, l3, l4] [.int x0] h Q = if x0 < 0 then zWp d zi_170 none 135 [l0, l1, l2, l3, l4] [] h Q else zWp d zi_170 none 64 [l0, l1, l2, l3, l4] [] h Q) ∧
    (∀ (d : Nat) (l0 : Nat) (l1 : Value) (l2 : Value) (l3 : Value) (l4 : Value)  (h : zMm) (Q : Option Value → zMm → Prop), zWp d zi_170 none 64 [.ref l0, l1, l2, l3, l4] [] h Q = zWp d zi_170 none 65 [.ref l0, l1, l2, l3, l4] [.ref l0] h Q) ∧
    (∀ (d : Nat) (l0 : Value) (l1 : Value) (l2 : Value) (l3 : Value) (l4 : Value) (x0 : Nat) (I : Nat → Nat → Int32) (L : Nat → Nat → Int64) (P : Nat → Nat → Option Nat) (Q : Option Value → zMm → Prop), zSH[x0]? = some (.inl 10) → zWp d zi_170 none 65 [l0, l1, l2, l3, l4] [.ref x0] (zSH, I, L, P) Q = zWp d zi_170 none 68 [l0, l1, l2, l3, l4] [va_rf (P x0 22)] (zSH, I, L, P) Q) ∧
    (∀ (d : Nat) (l0 : Value) (l1 : Value) (l2 : Value) (l3 : Value) (l4 : Value) (x0 : Nat) (h : zMm) (Q : Option Value → zMm → Prop), zWp d zi_170 none 68 [l0, l1, l2, l3, l4] [.ref x0] h Q = zWp d zi_170 none 69 [l0, l1, l2, l3, l4] [.int 0, .ref x0] h Q) ∧
    (∀ (d : Nat) (l0 : Nat) (l1 : Value) (l2 : Value) (l3 : Value) (l4 : Value) (x1 : Int32) (x0 : Nat) (h : zMm) (Q : Option Value → zMm → Prop), zWp d zi_170 none 69 [.ref l0, l1, l2, l3, l4] [.int x1, .ref x0] h Q = zWp d zi_170 none 70 [.ref l0, l1, l2, l3, l4] [.ref l0, .int x1, .ref x0] h Q) ∧
    (∀ (d : Nat) (l0 : Value) (l1 : Value) (l2 : Value) (l3 : Value) (l4 : Value) (x2 : Nat) (x1 : Int32) (x0 : Nat) (I : Nat → Nat → Int32) (L : Nat → Nat → Int64) (P : Nat → Nat → Option Nat) (Q : Option Value → zMm → Prop), zSH[x2]? = some (.inl 10) → zWp d zi_170 none 70 [l0, l1, l2, l3, l4] [.ref x2, .int x1, .ref x0] (zSH, I, L, P) Q = zWp d zi_170 none 73 [l0, l1, l2, l3, l4] [va_rf (P x2 26), .int x1, .ref x0] (zSH, I, L, P) Q) ∧
    (∀ (d : Nat) (l0 : Value) (l1 : Int32) (l2 : Value) (l3 : Value) (l4 : Value) (x2 : Nat) (x1 : Int32) (x0 : Nat) (h : zMm) (Q : Option Value → zMm → Prop), zWp d zi_170 none 73 [l0, .int l1, l2, l3, l4] [.ref x2, .int x1, .ref x0] h Q = zWp d zi_170 none 74 [l0, .int l1, l2, l3, l4] [.int l1, .ref x2, .int x1, .ref x0] h Q) ∧
    (∀ (d : Nat) (l0 : Value) (l1 : Value) (l2 : Value) (l3 : Value) (l4 : Value) (x3 : Int32) (x2 : Nat) (x1 : Int32) (x0 : Nat) (I : Nat → Nat → Int32) (L : Nat → Nat → Int64) (P : Nat → Nat → Option Nat) (Q : Option Value → zMm → Prop), zAk zSH x2 = some .int → zWp d zi_170 none 74 [l0, l1, l2, l3, l4] [.int x3, .ref x2, .int x1, .ref x0] (zSH, I, L, P) Q = (vp_in x3 (zAn zSH x2) ∧ zWp d zi_170 none 75 [l0, l1, l2, l3, l4] [.int (I x2 x3.toNatClampNeg), .int x1, .ref x0] (zSH, I, L, P) Q)) ∧
    (∀ (d : Nat) (l0 : Value) (l1 : Value) (l2 : Value) (l3 : Value) (l4 : Value) (x2 : Int32) (x1 : Int32) (x0 : Nat) (I : Nat → Nat → Int32) (L : Nat → Nat → Int64) (P : Nat → Nat → Option Nat) (Q : Option Value → zMm → Prop), zAk zSH x0 = some .int → zWp d zi_170 none 75 [l0, l1, l2, l3, l4] [.int x2, .int x1, .ref x0] (zSH, I, L, P) Q = (vp_in x1 (zAn zSH x0) ∧ zWp d zi_170 none 76 [l0, l1, l2, l3, l4] [] (zSH, zw I x0 (upd (I x0) x1.toNatClampNeg x2), L, P) Q)) ∧
    (∀ (d : Nat) (l0 : Nat) (l1 : Value) (l2 : Value) (l3 : Value) (l4 : Value)  (h : zMm) (Q : Option Value → zMm → Prop), zWp d zi_170 none 76 [.ref l0, l1, l2, l3, l4] [] h Q = zWp d zi_170 none 77 [.ref l0, l1, l2, l3, l4] [.ref l0] h Q) ∧
    (∀ (d : Nat) (l0 : Value) (l1 : Value) (l2 : Value) (l3 : Value) (l4 : Value) (x0 : Nat) (I : Nat → Nat → Int32) (L : Nat → Nat → Int64) (P : Nat → Nat → Option Nat) (Q : Option Value → zMm → Prop), zSH[x0]? = some (.inl 10) → zWp d zi_170 none 77 [l0, l1, l2, l3, l4] [.ref x0] (zSH, I, L, P) Q = zWp d zi_170 none 80 [l0, l1, l2, l3, l4] [va_rf (P x0 22)] (zSH, I, L, P) Q) ∧
    (∀ (d : Nat) (l0 : Value) (l1 : Value) (l2 : Value) (l3 : Value) (l4 : Value) (x0 : Nat) (h : zMm) (Q : Option Value → zMm → Prop), zWp d zi_170 none 80 [l0, l1, l2, l3, l4] [.ref x0] h Q = zWp d zi_170 none 81 [l0, l1, l2, l3, l4] [.int 1, .ref x0] h Q) ∧
    (∀ (d : Nat) (l0 : Nat) (l1 : Value) (l2 : Value) (l3 : Value) (l4 : Value) (x1 : Int32) (x0 : Nat) (h : zMm) (Q : Option Value → zMm → Prop), zWp d zi_170 none 81 [.ref l0, l1, l2, l3, l4] [.int x1, .ref x0] h Q = zWp d zi_170 none 82 [.ref l0, l1, l2, l3, l4] [.ref l0, .int x1, .ref x0] h Q) ∧
    (∀ (d : Nat) (l0 : Value) (l1 : Value) (l2 : Value) (l3 : Value) (l4 : Value) (x2 : Nat) (x1 : Int32) (x0 : Nat) (I : Nat → Nat → Int32) (L : Nat → Nat → Int64) (P : Nat → Nat → Option Nat) (Q : Option Value → zMm → Prop), zSH[x2]? = some (.inl 10) → zWp d zi_170 none 82 [l0, l1, l2, l3, l4] [.ref x2, .int x1, .ref x0] (zSH, I, L, P) Q = zWp d zi_170 none 85 [l0, l1, l2, l3, l4] [va_rf (P x2 7), .int x1, .ref x0] (zSH, I, L, P) Q) ∧
    (∀ (d : Nat) (l0 : Value) (l1 : Int32) (l2 : Value) (l3 : Value) (l4 : Value) (x2 : Nat) (x1 : Int32) (x0 : Nat) (h : zMm) (Q : Option Value → zMm → Prop), zWp d zi_170 none 85 [l0, .int l1, l2, l3, l4] [.ref x2, .int x1, .ref x0] h Q = zWp d zi_170 none 86 [l0, .int l1, l2, l3, l4] [.int l1, .ref x2, .int x1, .ref x0] h Q) ∧
    (∀ (d : Nat) (l0 : Value) (l1 : Value) (l2 : Value) (l3 : Value) (l4 : Value) (x3 : Int32) (x2 : Nat) (x1 : Int32) (x0 : Nat) (I : Nat → Nat → Int32) (L : Nat → Nat → Int64) (P : Nat → Nat → Option Nat) (Q : Option Value → zMm → Prop), zAk zSH x2 = some .int → zWp d zi_170 none 86 [l0, l1, l2, l3, l4] [.int x3, .ref x2, .int x1, .ref x0] (zSH, I, L, P) Q = (vp_in x3 (zAn zSH x2) ∧ zWp d zi_170 none 87 [l0, l1, l2, l3, l4] [.int (I x2 x3.toNatClampNeg), .int x1, .ref x0] (zSH, I, L, P) Q)) ∧
    (∀ (d : Nat) (l0 : Value) (l1 : Value) (l2 : Value) (l3 : Value) (l4 : Value) (x2 : Int32) (x1 : Int32) (x0 : Nat) (I : Nat → Nat → Int32) (L : Nat → Nat → Int64) (P : Nat → Nat → Option Nat) (Q : Option Value → zMm → Prop), zAk zSH x0 = some .int → zWp d zi_170 none 87 [l0, l1, l2, l3, l4] [.int x2, .int x1, .ref x0] (zSH, I, L, P) Q = (vp_in x1 (zAn zSH x0) ∧ zWp d zi_170 none 88 [l0, l1, l2, l3, l4] [] (zSH, zw I x0 (upd (I x0) x1.toNatClampNeg x2), L, P) Q)) ∧
    (∀ (d : Nat) (l0 : Nat) (l1 : Value) (l2 : Value) (l3 : Value) (l4 : Value)  (h : zMm) (Q : Option Value → zMm → Prop), zWp d zi_170 none 88 [.ref l0, l1, l2, l3, l4] [] h Q = zWp d zi_170 none 89 [.ref l0, l1, l2, l3, l4] [.ref l0] h Q) ∧
    (∀ (d : Nat) (l0 : Value) (l1 : Value) (l2 : Value) (l3 : Value) (l4 : Value) (x0 : Nat) (I : Nat → Nat → Int32) (L : Nat → Nat → Int64) (P : Nat → Nat → Option Nat) (Q : Option Value → zMm → Prop), zSH[x0]? = some (.inl 10) → zWp d zi_170 none 89 [l0, l1, l2, l3, l4] [.ref x0] (zSH, I, L, P) Q = zWp d zi_170 none 92 [l0, l1, l2, l3, l4] [va_rf (P x0 22)] (zSH, I, L, P) Q) ∧
    (∀ (d : Nat) (l0 : Value) (l1 : Value) (l2 : Value) (l3 : Value) (l4 : Value) (x0 : Nat) (h : zMm) (Q : Option Value → zMm → Prop), zWp d zi_170 none 92 [l0, l1, l2, l3, l4] [.ref x0] h Q = zWp d zi_170 none 93 [l0, l1, l2, l3, l4] [.int 2, .ref x0] h Q) ∧
    (∀ (d : Nat) (l0 : Nat) (l1 : Value) (l2 : Value) (l3 : Value) (l4 : Value) (x1 : Int32) (x0 : Nat) (h : zMm) (Q : Option Value → zMm → Prop), zWp d zi_170 none 93 [.ref l0, l1, l2, l3, l4] [.int x1, .ref x0] h Q = zWp d zi_170 none 94 [.ref l0, l1, l2, l3, l4] [.ref l0, .int x1, .ref x0] h Q) ∧
    (∀ (d : Nat) (l0 : Value) (l1 : Value) (l2 : Value) (l3 : Value) (l4 : Value) (x2 : Nat) (x1 : Int32) (x0 : Nat) (I : Nat → Nat → Int32) (L : Nat → Nat → Int64) (P : Nat → Nat → Option Nat) (Q : Option Value → zMm → Prop), zSH[x2]? = some (.inl 10) → zWp d zi_170 none 94 [l0, l1, l2, l3, l4] [.ref x2, .int x1, .ref x0] (zSH, I, L, P) Q = zWp d zi_170 none 97 [l0, l1, l2, l3, l4] [va_rf (P x2 0), .int x1, .ref x0] (zSH, I, L, P) Q) ∧
    (∀ (d : Nat) (l0 : Value) (l1 : Value) (l2 : Value) (l3 : Value) (l4 : Value) (x2 : Nat) (x1 : Int32) (x0 : Nat) (h : zMm) (Q : Option Value → zMm → Prop), zWp d zi_170 none 97 [l0, l1, l2, l3, l4] [.ref x2, .int x1, .ref x0] h Q = zWp d zi_170 none 99 [l0, l1, l2, l3, l4] [.int 48, .ref x2, .int x1, .ref x0] h Q) ∧
    (∀ (d : Nat) (l0 : Value) (l1 : Int32) (l2 : Value) (l3 : Value) (l4 : Value) (x3 : Int32) (x2 : Nat) (x1 : Int32) (x0 : Nat) (h : zMm) (Q : Option Value → zMm → Prop), zWp d zi_170 none 99 [l0, .int l1, l2, l3, l4] [.int x3, .ref x2, .int x1, .ref x0] h Q = zWp d zi_170 none 100 [l0, .int l1, l2, l3, l4] [.int l1, .int x3, .ref x2, .int x1, .ref x0] h Q) ∧
    (∀ (d : Nat) (l0 : Value) (l1 : Value) (l2 : Value) (l3 : Value) (l4 : Value) (x4 : Int32) (x3 : Int32) (x2 : Nat) (x1 : Int32) (x0 : Nat) (h : zMm) (Q : Option Value → zMm → Prop), zWp d zi_170 none 100 [l0, l1, l2, l3, l4] [.int x4, .int x3, .ref x2, .int x1, .ref x0] h Q = zWp d zi_170 none 101 [l0, l1, l2, l3, l4] [.int (x3 + x4), .ref x2, .int x1, .ref x0] h Q) ∧
    (∀ (d : Nat) (l0 : Value) (l1 : Value) (l2 : Value) (l3 : Value) (l4 : Value) (x3 : Int32) (x2 : Nat) (x1 : Int32) (x0 : Nat) (I : Nat → Nat → Int32) (L : Nat → Nat → Int64) (P : Nat → Nat → Option Nat) (Q : Option Value → zMm → Prop), zAk zSH x2 = some .int → zWp d zi_170 none 101 [l0, l1, l2, l3, l4] [.int x3, .ref x2, .int x1, .ref x0] (zSH, I, L, P) Q = (vp_in x3 (zAn zSH x2) ∧ zWp d zi_170 none 102 [l0, l1, l2, l3, l4] [.int (I x2 x3.toNatClampNeg), .int x1, .ref x0] (zSH, I, L, P) Q)) ∧
    (∀ (d : Nat) (l0 : Value) (l1 : Value) (l2 : Value) (l3 : Value) (l4 : Value) (x2 : Int32) (x1 : Int32) (x0 : Nat) (I : Nat → Nat → Int32) (L : Nat → Nat → Int64) (P : Nat → Nat → Option Nat) (Q : Option Value → zMm → Prop), zAk zSH x0 = some .int → zWp d zi_170 none 102 [l0, l1, l2, l3, l4] [.int x2, .int x1, .ref x0] (zSH, I, L, P) Q = (vp_in x1 (zAn zSH x0) ∧ zWp d zi_170 none 103 [l0, l1, l2, l3, l4] [] (zSH, zw I x0 (upd (I x0) x1.toNatClampNeg x2), L, P) Q)) ∧
    (∀ (d : Nat) (l0 : Nat) (l1 : Value) (l2 : Value) (l3 : Value) (l4 : Value)  (h : zMm) (Q : Option Value → zMm → Prop), zWp d zi_170 none 103 [.ref l0, l1, l2, l3, l4] [] h Q = zWp d zi_170 none 104 [.ref l0, l1, l2, l3, l4] [.ref l0] h Q) ∧
    (∀ (d : Nat) (l0 : Value) (l1 : Value) (l2 : Value) (l3 : Value) (l4 : Value) (x0 : Nat) (I : Nat → Nat → Int32) (L : Nat → Nat → Int64) (P : Nat → Nat → Option Nat) (Q : Option Value → zMm → Prop), zSH[x0]? = some (.inl 10) → zWp d zi_170 none 104 [l0, l1, l2, l3, l4] [.ref x0] (zSH, I, L, P) Q = zWp d zi_170 none 107 [l0, l1, l2, l3, l4] [va_rf (P x0 22)] (zSH, I, L, P) Q) ∧
    (∀ (d : Nat) (l0 : Value) (l1 : Value) (l2 : Value) (l3 : Value) (l4 : Value) (x0 : Nat) (h : zMm) (Q : Option Value → zMm → Prop), zWp d zi_170 none 107 [l0, l1, l2, l3, l4] [.ref x0] h Q = zWp d zi_170 none 108 [l0, l1, l2, l3, l4] [.int 3, .ref x0] h Q) ∧
    (∀ (d : Nat) (l0 : Value) (l1 : Int32) (l2 : Value) (l3 : Value) (l4 : Value) (x1 : Int32) (x0 : Nat) (h : zMm) (Q : Option Value → zMm → Prop), zWp d zi_170 none 108 [l0, .int l1, l2, l3, l4] [.int x1, .ref x0] h Q = zWp d zi_170 none 109 [l0, .int l1, l2, l3, l4] [.int l1, .int x1, .ref x0] h Q) ∧
    (∀ (d : Nat) (l0 : Value) (l1 : Value) (l2 : Value) (l3 : Value) (l4 : Value) (x2 : Int32) (x1 : Int32) (x0 : Nat) (I : Nat → Nat → Int32) (L : Nat → Nat → Int64) (P : Nat → Nat → Option Nat) (Q : Option Value → zMm → Prop), zAk zSH x0 = some .int → zWp d zi_170 none 109 [l0, l1, l2, l3, l4] [.int x2, .int x1, .ref x0] (zSH, I, L, P) Q = (vp_in x1 (zAn zSH x0) ∧ zWp d zi_170 none 110 [l0, l1, l2, l3, l4] [] (zSH, zw I x0 (upd (I x0) x1.toNatClampNeg x2), L, P) Q)) ∧
    (∀ (d : Nat) (l0 : Nat) (l1 : Value) (l2 : Value) (l3 : Value) (l4 : Value)  (h : zMm) (Q : Option Value → zMm → Prop), zWp d zi_170 none 110 [.ref l0, l1, l2, l3, l4] [] h Q = zWp d zi_170 none 111 [.ref l0, l1, l2, l3, l4] [.ref l0] h Q) ∧
    (∀ (d : Nat) (l0 : Value) (l1 : Value) (l2 : Value) (l3 : Value) (l4 : Value) (x0 : Nat) (I : Nat → Nat → Int32) (L : Nat → Nat → Int64) (P : Nat → Nat → Option Nat) (Q : Option Value → zMm → Prop), zSH[x0]? = some (.inl 10) → zWp d zi_170 none 111 [l0, l1, l2, l3, l4] [.ref x0] (zSH, I, L, P) Q = zWp d zi_170 none 114 [l0, l1, l2, l3, l4] [va_rf (P x0 22)] (zSH, I, L, P) Q) ∧
    (∀ (d : Nat) (l0 : Value) (l1 : Value) (l2 : Value) (l3 : Value) (l4 : Value) (x0 : Nat) (h : zMm) (Q : Option Value → zMm → Prop), zWp d zi_170 none 114 [l0, l1, l2, l3, l4] [.ref x0] h Q = zWp d zi_170 none 115 [l0, l1, l2, l3, l4] [.int 4, .ref x0] h Q) ∧
    (∀ (d : Nat) (l0 : Value) (l1 : Value) (l2 : Int32) (l3 : Value) (l4 : Value) (x1 : Int32) (x0 : Nat) (h : zMm) (Q : Option Value → zMm → Prop), zWp d zi_170 none 115 [l0, l1, .int l2, l3, l4] [.int x1, .ref x0] h Q = zWp d zi_170 none 116 [l0, l1, .int l2, l3, l4] [.int l2, .int x1, .ref x0] h Q) ∧
    (∀ (d : Nat) (l0 : Value) (l1 : Value) (l2 : Value) (l3 : Value) (l4 : Value) (x2 : Int32) (x1 : Int32) (x0 : Nat) (I : Nat → Nat → Int32) (L : Nat → Nat → Int64) (P : Nat → Nat → Option Nat) (Q : Option Value → zMm → Prop), zAk zSH x0 = some .int → zWp d zi_170 none 116 [l0, l1, l2, l3, l4] [.int x2, .int x1, .ref x0] (zSH, I, L, P) Q = (vp_in x1 (zAn zSH x0) ∧ zWp d zi_170 none 117 [l0, l1, l2, l3, l4] [] (zSH, zw I x0 (upd (I x0) x1.toNatClampNeg x2), L, P) Q)) ∧
    (∀ (d : Nat) (l0 : Nat) (l1 : Value) (l2 : Value) (l3 : Value) (l4 : Value)  (h : zMm) (Q : Option Value → zMm → Prop), zWp d zi_170 none 117 [.ref l0, l1, l2, l3, l4] [] h Q = zWp d zi_170 none 118 [.ref l0, l1, l2, l3, l4] [.ref l0] h Q) ∧
    (∀ (d : Nat) (l0 : Value) (l1 : Value) (l2 : Value) (l3 : Value) (l4 : Value) (x0 : Nat) (I : Nat → Nat → Int32) (L : Nat → Nat → Int64) (P : Nat → Nat → Option Nat) (Q : Option Value → zMm → Prop), zSH[x0]? = some (.inl 10) → zWp d zi_170 none 118 [l0, l1, l2, l3, l4] [.ref x0] (zSH, I, L, P) Q = zWp d zi_170 none 121 [l0, l1, l2, l3, l4] [va_rf (P x0 22)] (zSH, I, L, P) Q) ∧
    (∀ (d : Nat) (l0 : Value) (l1 : Value) (l2 : Value) (l3 : Value) (l4 : Value) (x0 : Nat) (h : zMm) (Q : Option Value → zMm → Prop), zWp d zi_170 none 121 [l0, l1, l2, l3, l4] [.ref x0] h Q = zWp d zi_170 none 122 [l0, l1, l2, l3, l4] [.int 5, .ref x0] h Q) ∧
    (∀ (d : Nat) (l0 : Value) (l1 : Value) (l2 : Value) (l3 : Int32) (l4 : Value) (x1 : Int32) (x0 : Nat) (h : zMm) (Q : Option Value → zMm → Prop), zWp d zi_170 none 122 [l0, l1, l2, .int l3, l4] [.int x1, .ref x0] h Q = zWp d zi_170 none 123 [l0, l1, l2, .int l3, l4] [.int l3, .int x1, .ref x0] h Q) ∧
    (∀ (d : Nat) (l0 : Value) (l1 : Value) (l2 : Value) (l3 : Value) (l4 : Value) (x2 : Int32) (x1 : Int32) (x0 : Nat) (I : Nat → Nat → Int32) (L : Nat → Nat → Int64) (P : Nat → Nat → Option Nat) (Q : Option Value → zMm → Prop), zAk zSH x0 = some .int → zWp d zi_170 none 123 [l0, l1, l2, l3, l4] [.int x2, .int x1, .ref x0] (zSH, I, L, P) Q = (vp_in x1 (zAn zSH x0) ∧ zWp d zi_170 none 124 [l0, l1, l2, l3, l4] [] (zSH, zw I x0 (upd (I x0) x1.toNatClampNeg x2), L, P) Q)) ∧
    (∀ (d : Nat) (l0 : Nat) (l1 : Value) (l2 : Value) (l3 : Value) (l4 : Value)  (h : zMm) (Q : Option Value → zMm → Prop), zWp d zi_170 none 124 [.ref l0, l1, l2, l3, l4] [] h Q = zWp d zi_170 none 125 [.ref l0, l1, l2, l3, l4] [.ref l0] h Q) ∧
    (∀ (d : Nat) (l0 : Value) (l1 : Value) (l2 : Value) (l3 : Value) (l4 : Value) (x0 : Nat) (h : zMm) (Q : Option Value → zMm → Prop), zWp d zi_170 none 125 [l0, l1, l2, l3, l4] [.ref x0] h Q = zWp d zi_170 none 126 [l0, l1, l2, l3, l4] [.int 0, .ref x0] h Q) ∧
    (∀ (d : Nat) (l0 : Nat) (l1 : Value) (l2 : Value) (l3 : Value) (l4 : Value) (x1 : Int32) (x0 : Nat) (h : zMm) (Q : Option Value → zMm → Prop), zWp d zi_170 none 126 [.ref l0, l1, l2, l3, l4] [.int x1, .ref x0] h Q = zWp d zi_170 none 127 [.ref l0, l1, l2, l3, l4] [.ref l0, .int x1, .ref x0] h Q) ∧
    (∀ (d : Nat) (l0 : Value) (l1 : Value) (l2 : Value) (l3 : Value) (l4 : Value) (x2 : Nat) (x1 : Int32) (x0 : Nat) (I : Nat → Nat → Int32) (L : Nat → Nat → Int64) (P : Nat → Nat → Option Nat) (Q : Option Value → zMm → Prop), zSH[x2]? = some (.inl 10) → zWp d zi_170 none 127 [l0, l1, l2, l3, l4] [.ref x2, .int x1, .ref x0] (zSH, I, L, P) Q = zWp d zi_170 none 130 [l0, l1, l2, l3, l4] [.int (I x2 16), .int x1, .ref x0] (zSH, I, L, P) Q) ∧
    (∀ (d : Nat) (l0 : Value) (l1 : Value) (l2 : Value) (l3 : Value) (l4 : Value) (x2 : Int32) (x1 : Int32) (x0 : Nat) (I : Nat → Nat → Int32) (L : Nat → Nat → Int64) (P : Nat → Nat → Option Nat) (Q : Option Value → zMm → Prop), zSH[x0]? = some (.inl 10) → zWp d zi_170 none 130 [l0, l1, l2, l3, l4] [.int x2, .int x1, .ref x0] (zSH, I, L, P) Q = zWM d 156 [.ref x0, .int x1, .int x2] (zSH, I, L, P) (fun r h1 => zWp d zi_170 none 133 [l0, l1, l2, l3, l4] (r.toList ++ []) h1 Q)) ∧
    (∀ (d : Nat) (l0 : Value) (l1 : Value) (l2 : Value) (l3 : Int32) (l4 : Value) (x0 : Int32) (h : zMm) (Q : Option Value → zMm → Prop), zWp d zi_170 none 133 [l0, l1, l2, .int l3, l4] [.int x0] h Q = zWp d zi_170 none 135 [l0, l1, l2, .int l3, .int x0] [] h Q) ∧
    (∀ (d : Nat) (l0 : Value) (l1 : Value) (l2 : Value) (l3 : Value) (l4 : Int32)  (h : zMm) (Q : Option Value → zMm → Prop), zWp d zi_170 none 135 [l0, l1, l2, l3, .int l4] [] h Q = zWp d zi_170 none 137 [l0, l1, l2, l3, .int l4] [.int l4] h Q) ∧
    (∀ (d : Nat) (l0 : Value) (l1 : Value) (l2 : Value) (l3 : Value) (l4 : Value) (x0 : Int32) (h : zMm) (Q : Option Value → zMm → Prop), zWp d zi_170 none 137 [l0, l1, l2, l3, l4] [.int x0] h Q = if 0 ≤ x0 then zWp d zi_170 none 144 [l0, l1, l2, l3, l4] [] h Q else zWp d zi_170 none 140 [l0, l1, l2, l3, l4] [] h Q) ∧
    (∀ (d : Nat) (l0 : Value) (l1 : Value) (l2 : Value) (l3 : Value) (l4 : Value)  (h : zMm) (Q : Option Value → zMm → Prop), zWp d zi_170 none 140 [l0, l1, l2, l3, l4] [] h Q = zWp d zi_170 none 141 [l0, l1, l2, l3, l4] [.int 0] h Q) ∧
    (∀ (d : Nat) (l0 : Value) (l1 : Value) (l2 : Value) (l3 : Value) (l4 : Value) (x0 : Int32) (h : zMm) (Q : Option Value → zMm → Prop), zWp d zi_170 none 141 [l0, l1, l2, l3, l4] [.int x0] h Q = zWp d zi_170 none 166 [l0, l1, l2, l3, l4] [.int x0] h Q) ∧
    (∀ (d : Nat) (l0 : Value) (l1 : Value) (l2 : Value) (l3 : Value) (l4 : Int32)  (h : zMm) (Q : Option Value → zMm → Prop), zWp d zi_170 none 144 [l0, l1, l2, l3, .int l4] [] h Q = zWp d zi_170 none 146 [l0, l1, l2, l3, .int l4] [.int l4] h Q) ∧
    (∀ (d : Nat) (l0 : Nat) (l1 : Value) (l2 : Value) (l3 : Value) (l4 : Value) (x0 : Int32) (h : zMm) (Q : Option Value → zMm → Prop), zWp d zi_170 none 146 [.ref l0, l1, l2, l3, l4] [.int x0] h Q = zWp d zi_170 none 147 [.ref l0, l1, l2, l3, l4] [.ref l0, .int x0] h Q) ∧
    (∀ (d : Nat) (l0 : Value) (l1 : Value) (l2 : Value) (l3 : Value) (l4 : Value) (x1 : Nat) (x0 : Int32) (I : Nat → Nat → Int32) (L : Nat → Nat → Int64) (P : Nat → Nat → Option Nat) (Q : Option Value → zMm → Prop), zSH[x1]? = some (.inl 10) → zWp d zi_170 none 147 [l0, l1, l2, l3, l4] [.ref x1, .int x0] (zSH, I, L, P) Q = zWp d zi_170 none 150 [l0, l1, l2, l3, l4] [va_rf (P x1 26), .int x0] (zSH, I, L, P) Q) ∧
    (∀ (d : Nat) (l0 : Value) (l1 : Int32) (l2 : Value) (l3 : Value) (l4 : Value) (x1 : Nat) (x0 : Int32) (h : zMm) (Q : Option Value → zMm → Prop), zWp d zi_170 none 150 [l0, .int l1, l2, l3, l4] [.ref x1, .int x0] h Q = zWp d zi_170 none 151 [l0, .int l1, l2, l3, l4] [.int l1, .ref x1, .int x0] h Q) ∧
    (∀ (d : Nat) (l0 : Value) (l1 : Value) (l2 : Value) (l3 : Value) (l4 : Value) (x2 : Int32) (x1 : Nat) (x0 : Int32) (I : Nat → Nat → Int32) (L : Nat → Nat → Int64) (P : Nat → Nat → Option Nat) (Q : Option Value → zMm → Prop), zAk zSH x1 = some .int → zWp d zi_170 none 151 [l0, l1, l2, l3, l4] [.int x2, .ref x1, .int x0] (zSH, I, L, P) Q = (vp_in x2 (zAn zSH x1) ∧ zWp d zi_170 none 152 [l0, l1, l2, l3, l4] [.int (I x1 x2.toNatClampNeg), .int x0] (zSH, I, L, P) Q)) ∧
    (∀ (d : Nat) (l0 : Value) (l1 : Value) (l2 : Value) (l3 : Value) (l4 : Value) (x1 : Int32) (x0 : Int32) (h : zMm) (Q : Option Value → zMm → Prop), zWp d zi_170 none 152 [l0, l1, l2, l3, l4] [.int x1, .int x0] h Q = if x0 ≤ x1 then zWp d zi_170 none 164 [l0, l1, l2, l3, l4] [] h Q else zWp d zi_170 none 155 [l0, l1, l2, l3, l4] [] h Q) ∧
    (∀ (d : Nat) (l0 : Nat) (l1 : Value) (l2 : Value) (l3 : Value) (l4 : Value)  (h : zMm) (Q : Option Value → zMm → Prop), zWp d zi_170 none 155 [.ref l0, l1, l2, l3, l4] [] h Q = zWp d zi_170 none 156 [.ref l0, l1, l2, l3, l4] [.ref l0] h Q) ∧
    (∀ (d : Nat) (l0 : Value) (l1 : Value) (l2 : Value) (l3 : Value) (l4 : Value) (x0 : Nat) (I : Nat → Nat → Int32) (L : Nat → Nat → Int64) (P : Nat → Nat → Option Nat) (Q : Option Value → zMm → Prop), zSH[x0]? = some (.inl 10) → zWp d zi_170 none 156 [l0, l1, l2, l3, l4] [.ref x0] (zSH, I, L, P) Q = zWp d zi_170 none 159 [l0, l1, l2, l3, l4] [va_rf (P x0 26)] (zSH, I, L, P) Q) ∧
    (∀ (d : Nat) (l0 : Value) (l1 : Int32) (l2 : Value) (l3 : Value) (l4 : Value) (x0 : Nat) (h : zMm) (Q : Option Value → zMm → Prop), zWp d zi_170 none 159 [l0, .int l1, l2, l3, l4] [.ref x0] h Q = zWp d zi_170 none 160 [l0, .int l1, l2, l3, l4] [.int l1, .ref x0] h Q) ∧
    (∀ (d : Nat) (l0 : Value) (l1 : Value) (l2 : Value) (l3 : Value) (l4 : Value) (x1 : Int32) (x0 : Nat) (I : Nat → Nat → Int32) (L : Nat → Nat → Int64) (P : Nat → Nat → Option Nat) (Q : Option Value → zMm → Prop), zAk zSH x0 = some .int → zWp d zi_170 none 160 [l0, l1, l2, l3, l4] [.int x1, .ref x0] (zSH, I, L, P) Q = (vp_in x1 (zAn zSH x0) ∧ zWp d zi_170 none 161 [l0, l1, l2, l3, l4] [.int (I x0 x1.toNatClampNeg)] (zSH, I, L, P) Q)) ∧
    (∀ (d : Nat) (l0 : Value) (l1 : Value) (l2 : Value) (l3 : Value) (l4 : Value) (x0 : Int32) (h : zMm) (Q : Option Value → zMm → Prop), zWp d zi_170 none 161 [l0, l1, l2, l3, l4] [.int x0] h Q = zWp d zi_170 none 166 [l0, l1, l2, l3, l4] [.int x0] h Q) ∧
    (∀ (d : Nat) (l0 : Value) (l1 : Value) (l2 : Value) (l3 : Value) (l4 : Int32)  (h : zMm) (Q : Option Value → zMm → Prop), zWp d zi_170 none 164 [l0, l1, l2, l3, .int l4] [] h Q = zWp d zi_170 none 166 [l0, l1, l2, l3, .int l4] [.int l4] h Q) ∧
    (∀ (d : Nat) (l0 : Value) (l1 : Value) (l2 : Value) (l3 : Value) (l4 : Value) (x0 : Int32) (h : zMm) (Q : Option Value → zMm → Prop), zWp d zi_170 none 166 [l0, l1, l2, l3, l4] [.int x0] h Q = Q (some (.int x0)) h) :=
  ⟨(fun d l0 l1 l2 l3 l4  h Q => zr_aload_n rfl rfl),
   (fun d l0 l1 l2 l3 l4 x0 I L P Q p0 => zr_getQ rfl lf_10_46 (fun _ _ _ => rfl) p0),
   (fun d l0 l1 l2 l3 l4 x0 h Q => zr_iload_n rfl rfl),
   (fun d l0 l1 l2 l3 l4 x1 x0 I L P Q p0 => zr_ald rfl p0),
   (fun d l0 l1 l2 l3 l4 x0 h Q => zr_iload_n rfl rfl),
   (fun d l0 l1 l2 l3 l4 x1 x0 h Q => zr_ic_gt rfl (by decide)),
   (fun d l0 l1 l2 l3 l4  h Q => zr_aload_n rfl rfl),
   (fun d l0 l1 l2 l3 l4 x0 I L P Q p0 => zr_getQ rfl lf_10_49 (fun _ _ _ => rfl) p0),
   (fun d l0 l1 l2 l3 l4 x0 h Q => zr_iload_n rfl rfl),
   (fun d l0 l1 l2 l3 l4 x1 x0 I L P Q p0 => zr_ald rfl p0),
   (fun d l0 l1 l2 l3 l4 x0 h Q => zr_if_ne rfl (by decide)),
   (fun d l0 l1 l2 l3 l4  h Q => zr_iconst rfl (by decide)),
   (fun d l0 l1 l2 l3 l4 x0 h Q => zr_iret rfl rfl),
   (fun d l0 l1 l2 l3 l4  h Q => zr_aload_n rfl rfl),
   (fun d l0 l1 l2 l3 l4 x0 I L P Q p0 => zr_getQ rfl lf_10_9 (fun _ _ _ => rfl) p0),
   (fun d l0 l1 l2 l3 l4 x0 h Q => zr_bipush rfl (by decide)),
   (fun d l0 l1 l2 l3 l4 x1 x0 I L P Q p0 => zr_ald rfl p0),
   (fun d l0 l1 l2 l3 l4 x0 h Q => zr_sta (as := [.int x0]) (rest := []) rfl lm_10_245 (by decide) m_123 kd_123 rfl (Nat.le_of_ble_eq_true rfl)),
   (fun d l0 l1 l2 l3 l4 x0 h Q => zr_aload_n rfl rfl),
   (fun d l0 l1 l2 l3 l4 x1 x0 I L P Q p0 => zr_getQ rfl lf_10_9 (fun _ _ _ => rfl) p0),
   (fun d l0 l1 l2 l3 l4 x1 x0 h Q => zr_bipush rfl (by decide)),
   (fun d l0 l1 l2 l3 l4 x2 x1 x0 I L P Q p0 => zr_ald rfl p0),
   (fun d l0 l1 l2 l3 l4 x1 x0 h Q => zr_sta (as := [.int x1]) (rest := [.int x0]) rfl lm_10_245 (by decide) m_123 kd_123 rfl (Nat.le_of_ble_eq_true rfl)),
   (fun d l0 l1 l2 l3 l4 x1 x0 h Q => zr_iadd rfl),
   (fun d l0 l1 l2 l3 l4 x0 h Q => zr_istore_n (n := 3) rfl (Nat.le_of_ble_eq_true rfl) rfl),
   (fun d l0 l1 l2 l3 l4  h Q => zr_aload_n rfl rfl),
   (fun d l0 l1 l2 l3 l4 x0 I L P Q p0 => zr_getQ rfl lf_10_22 (fun _ _ _ => rfl) p0),
   (fun d l0 l1 l2 l3 l4 x0 h Q => zr_iload_n rfl rfl),
   (fun d l0 l1 l2 l3 l4 x1 x0 I L P Q p0 => zr_ald rfl p0),
   (fun d l0 l1 l2 l3 l4 x0 h Q => zr_iload_n rfl rfl),
   (fun d l0 l1 l2 l3 l4 x1 x0 h Q => zr_iadd rfl),
   (fun d l0 l1 l2 l3 l4 x0 h Q => zr_iconst rfl (by decide)),
   (fun d l0 l1 l2 l3 l4 x1 x0 h Q => zr_idiv rfl),
   (fun d l0 l1 l2 l3 l4 x0 h Q => zr_iconst rfl (by decide)),
   (fun d l0 l1 l2 l3 l4 x1 x0 h Q => zr_iadd rfl),
   (fun d l0 l1 l2 l3 l4 x0 h Q => zr_istore (n := 4) rfl (Nat.le_of_ble_eq_true rfl) rfl),
   (fun d l0 l1 l2 l3 l4  h Q => zr_aload_n rfl rfl),
   (fun d l0 l1 l2 l3 l4 x0 I L P Q p0 => zr_getI rfl lf_10_80 (fun _ _ _ => rfl) p0),
   (fun d l0 l1 l2 l3 l4 x0 h Q => zr_if_lt rfl (by decide)),
   (fun d l0 l1 l2 l3 l4  h Q => zr_aload_n rfl rfl),
   (fun d l0 l1 l2 l3 l4 x0 I L P Q p0 => zr_getQ rfl lf_10_37 (fun _ _ _ => rfl) p0),
   (fun d l0 l1 l2 l3 l4 x0 h Q => zr_iconst rfl (by decide)),
   (fun d l0 l1 l2 l3 l4 x1 x0 h Q => zr_aload_n rfl rfl),
   (fun d l0 l1 l2 l3 l4 x2 x1 x0 I L P Q p0 => zr_getQ rfl lf_10_49 (fun _ _ _ => rfl) p0),
   (fun d l0 l1 l2 l3 l4 x2 x1 x0 h Q => zr_iload_n rfl rfl),
   (fun d l0 l1 l2 l3 l4 x3 x2 x1 x0 I L P Q p0 => zr_ald rfl p0),
   (fun d l0 l1 l2 l3 l4 x2 x1 x0 I L P Q p0 => zr_ast rfl p0),
   (fun d l0 l1 l2 l3 l4  h Q => zr_aload_n rfl rfl),
   (fun d l0 l1 l2 l3 l4 x0 I L P Q p0 => zr_getQ rfl lf_10_37 (fun _ _ _ => rfl) p0),
   (fun d l0 l1 l2 l3 l4 x0 h Q => zr_iconst rfl (by decide)),
   (fun d l0 l1 l2 l3 l4 x1 x0 h Q => zr_aload_n rfl rfl),
   (fun d l0 l1 l2 l3 l4 x2 x1 x0 I L P Q p0 => zr_getQ rfl lf_10_22 (fun _ _ _ => rfl) p0),
   (fun d l0 l1 l2 l3 l4 x2 x1 x0 h Q => zr_iload_n rfl rfl),
   (fun d l0 l1 l2 l3 l4 x3 x2 x1 x0 I L P Q p0 => zr_ald rfl p0),
   (fun d l0 l1 l2 l3 l4 x2 x1 x0 I L P Q p0 => zr_ast rfl p0),
   (fun d l0 l1 l2 l3 l4  h Q => zr_aload_n rfl rfl),
   (fun d l0 l1 l2 l3 l4 x0 I L P Q p0 => zr_getQ rfl lf_10_37 (fun _ _ _ => rfl) p0),
   (fun d l0 l1 l2 l3 l4 x0 h Q => zr_iconst rfl (by decide)),
   (fun d l0 l1 l2 l3 l4 x1 x0 h Q => zr_aload_n rfl rfl),
   (fun d l0 l1 l2 l3 l4 x2 x1 x0 I L P Q p0 => zr_getQ rfl lf_10_9 (fun _ _ _ => rfl) p0),
   (fun d l0 l1 l2 l3 l4 x2 x1 x0 h Q => zr_bipush rfl (by decide)),
   (fun d l0 l1 l2 l3 l4 x3 x2 x1 x0 h Q => zr_iload_n rfl rfl),
   (fun d l0 l1 l2 l3 l4 x4 x3 x2 x1 x0 h Q => zr_iadd rfl),
   (fun d l0 l1 l2 l3 l4 x3 x2 x1 x0 I L P Q p0 => zr_ald rfl p0),
   (fun d l0 l1 l2 l3 l4 x2 x1 x0 I L P Q p0 => zr_ast rfl p0),
   (fun d l0 l1 l2 l3 l4  h Q => zr_aload_n rfl rfl),
   (fun d l0 l1 l2 l3 l4 x0 I L P Q p0 => zr_getQ rfl lf_10_37 (fun _ _ _ => rfl) p0),
   (fun d l0 l1 l2 l3 l4 x0 h Q => zr_iconst rfl (by decide)),
   (fun d l0 l1 l2 l3 l4 x1 x0 h Q => zr_iload_n rfl rfl),
   (fun d l0 l1 l2 l3 l4 x2 x1 x0 I L P Q p0 => zr_ast rfl p0),
   (fun d l0 l1 l2 l3 l4  h Q => zr_aload_n rfl rfl),
   (fun d l0 l1 l2 l3 l4 x0 I L P Q p0 => zr_getQ rfl lf_10_37 (fun _ _ _ => rfl) p0),
   (fun d l0 l1 l2 l3 l4 x0 h Q => zr_iconst rfl (by decide)),
   (fun d l0 l1 l2 l3 l4 x1 x0 h Q => zr_iload_n rfl rfl),
   (fun d l0 l1 l2 l3 l4 x2 x1 x0 I L P Q p0 => zr_ast rfl p0),
   (fun d l0 l1 l2 l3 l4  h Q => zr_aload_n rfl rfl),
   (fun d l0 l1 l2 l3 l4 x0 I L P Q p0 => zr_getQ rfl lf_10_37 (fun _ _ _ => rfl) p0),
   (fun d l0 l1 l2 l3 l4 x0 h Q => zr_iconst rfl (by decide)),
   (fun d l0 l1 l2 l3 l4 x1 x0 h Q => zr_iload_n rfl rfl),
   (fun d l0 l1 l2 l3 l4 x2 x1 x0 I L P Q p0 => zr_ast rfl p0),
   (fun d l0 l1 l2 l3 l4  h Q => zr_aload_n rfl rfl),
   (fun d l0 l1 l2 l3 l4 x0 h Q => zr_iconst rfl (by decide)),
   (fun d l0 l1 l2 l3 l4 x1 x0 h Q => zr_aload_n rfl rfl),
   (fun d l0 l1 l2 l3 l4 x2 x1 x0 I L P Q p0 => zr_getI rfl lf_10_80 (fun _ _ _ => rfl) p0),
   (fun d l0 l1 l2 l3 l4 x2 x1 x0 I L P Q p0 => zr_vir (as := [.int x2, .int x1]) (rest := []) rfl lm_10_239 m_156 kd_156 rfl (Nat.le_of_ble_eq_true rfl) p0),
   (fun d l0 l1 l2 l3 l4 x0 h Q => zr_istore (n := 4) rfl (Nat.le_of_ble_eq_true rfl) rfl),
   (fun d l0 l1 l2 l3 l4  h Q => zr_iload rfl rfl),
   (fun d l0 l1 l2 l3 l4 x0 h Q => zr_if_ge rfl (by decide)),
   (fun d l0 l1 l2 l3 l4  h Q => zr_iconst rfl (by decide)),
   (fun d l0 l1 l2 l3 l4 x0 h Q => zr_goto rfl (by decide)),
   (fun d l0 l1 l2 l3 l4  h Q => zr_iload rfl rfl),
   (fun d l0 l1 l2 l3 l4 x0 h Q => zr_aload_n rfl rfl),
   (fun d l0 l1 l2 l3 l4 x1 x0 I L P Q p0 => zr_getQ rfl lf_10_49 (fun _ _ _ => rfl) p0),
   (fun d l0 l1 l2 l3 l4 x1 x0 h Q => zr_iload_n rfl rfl),
   (fun d l0 l1 l2 l3 l4 x2 x1 x0 I L P Q p0 => zr_ald rfl p0),
   (fun d l0 l1 l2 l3 l4 x1 x0 h Q => zr_ic_le rfl (by decide)),
   (fun d l0 l1 l2 l3 l4  h Q => zr_aload_n rfl rfl),
   (fun d l0 l1 l2 l3 l4 x0 I L P Q p0 => zr_getQ rfl lf_10_49 (fun _ _ _ => rfl) p0),
   (fun d l0 l1 l2 l3 l4 x0 h Q => zr_iload_n rfl rfl),
   (fun d l0 l1 l2 l3 l4 x1 x0 I L P Q p0 => zr_ald rfl p0),
   (fun d l0 l1 l2 l3 l4 x0 h Q => zr_goto rfl (by decide)),
   (fun d l0 l1 l2 l3 l4  h Q => zr_iload rfl rfl),
   (fun d l0 l1 l2 l3 l4 x0 h Q => zr_iret rfl rfl)⟩
theorem E_X10_countsAs : ∀ (d : Nat) (a0 : Nat) (a1 : Int32) (h : zMm) (Q : Option Value → zMm → Prop), zWM (d + 1) 171 [.ref a0, .int a1] h Q = zWp d zi_171 none 0 [.ref a0, .int a1] [] h Q := fun d a0 a1 h Q => zW_M m_171 (Nat.le_of_ble_eq_true rfl) rfl
set_option maxRecDepth 100000 in
theorem R_X10_countsAs :
    (∀ (d : Nat) (l0 : Nat) (l1 : Value)  (h : zMm) (Q : Option Value → zMm → Prop), zWp d zi_171 none 0 [.ref l0, l1] [] h Q = zWp d zi_171 none 1 [.ref l0, l1] [.ref l0] h Q) ∧
    (∀ (d : Nat) (l0 : Value) (l1 : Value) (x0 : Nat) (I : Nat → Nat → Int32) (L : Nat → Nat → Int64) (P : Nat → Nat → Option Nat) (Q : Option Value → zMm → Prop), zSH[x0]? = some (.inl 10) → zWp d zi_171 none 1 [l0, l1] [.ref x0] (zSH, I, L, P) Q = zWp d zi_171 none 4 [l0, l1] [va_rf (P x0 26)] (zSH, I, L, P) Q) ∧
    (∀ (d : Nat) (l0 : Value) (l1 : Int32) (x0 : Nat) (h : zMm) (Q : Option Value → zMm → Prop), zWp d zi_171 none 4 [l0, .int l1] [.ref x0] h Q = zWp d zi_171 none 5 [l0, .int l1] [.int l1, .ref x0] h Q) ∧
    (∀ (d : Nat) (l0 : Value) (l1 : Value) (x1 : Int32) (x0 : Nat) (I : Nat → Nat → Int32) (L : Nat → Nat → Int64) (P : Nat → Nat → Option Nat) (Q : Option Value → zMm → Prop), zAk zSH x0 = some .int → zWp d zi_171 none 5 [l0, l1] [.int x1, .ref x0] (zSH, I, L, P) Q = (vp_in x1 (zAn zSH x0) ∧ zWp d zi_171 none 6 [l0, l1] [.int (I x0 x1.toNatClampNeg)] (zSH, I, L, P) Q)) ∧
    (∀ (d : Nat) (l0 : Value) (l1 : Value) (x0 : Int32) (h : zMm) (Q : Option Value → zMm → Prop), zWp d zi_171 none 6 [l0, l1] [.int x0] h Q = if x0 = 0 then zWp d zi_171 none 9 [l0, l1] [] h Q else zWp d zi_171 none 11 [l0, l1] [] h Q) ∧
    (∀ (d : Nat) (l0 : Value) (l1 : Value)  (h : zMm) (Q : Option Value → zMm → Prop), zWp d zi_171 none 9 [l0, l1] [] h Q = zWp d zi_171 none 10 [l0, l1] [.int 0] h Q) ∧
    (∀ (d : Nat) (l0 : Value) (l1 : Value) (x0 : Int32) (h : zMm) (Q : Option Value → zMm → Prop), zWp d zi_171 none 10 [l0, l1] [.int x0] h Q = Q (some (.int x0)) h) ∧
    (∀ (d : Nat) (l0 : Value) (l1 : Value)  (h : zMm) (Q : Option Value → zMm → Prop), zWp d zi_171 none 11 [l0, l1] [] h Q = zWp d zi_171 none 12 [l0, l1] [.int 2] h Q) ∧
    (∀ (d : Nat) (l0 : Nat) (l1 : Value) (x0 : Int32) (h : zMm) (Q : Option Value → zMm → Prop), zWp d zi_171 none 12 [.ref l0, l1] [.int x0] h Q = zWp d zi_171 none 13 [.ref l0, l1] [.ref l0, .int x0] h Q) ∧
    (∀ (d : Nat) (l0 : Value) (l1 : Value) (x1 : Nat) (x0 : Int32) (I : Nat → Nat → Int32) (L : Nat → Nat → Int64) (P : Nat → Nat → Option Nat) (Q : Option Value → zMm → Prop), zSH[x1]? = some (.inl 10) → zWp d zi_171 none 13 [l0, l1] [.ref x1, .int x0] (zSH, I, L, P) Q = zWp d zi_171 none 16 [l0, l1] [va_rf (P x1 26), .int x0] (zSH, I, L, P) Q) ∧
    (∀ (d : Nat) (l0 : Value) (l1 : Int32) (x1 : Nat) (x0 : Int32) (h : zMm) (Q : Option Value → zMm → Prop), zWp d zi_171 none 16 [l0, .int l1] [.ref x1, .int x0] h Q = zWp d zi_171 none 17 [l0, .int l1] [.int l1, .ref x1, .int x0] h Q) ∧
    (∀ (d : Nat) (l0 : Value) (l1 : Value) (x2 : Int32) (x1 : Nat) (x0 : Int32) (I : Nat → Nat → Int32) (L : Nat → Nat → Int64) (P : Nat → Nat → Option Nat) (Q : Option Value → zMm → Prop), zAk zSH x1 = some .int → zWp d zi_171 none 17 [l0, l1] [.int x2, .ref x1, .int x0] (zSH, I, L, P) Q = (vp_in x2 (zAn zSH x1) ∧ zWp d zi_171 none 18 [l0, l1] [.int (I x1 x2.toNatClampNeg), .int x0] (zSH, I, L, P) Q)) ∧
    (∀ (d : Nat) (l0 : Value) (l1 : Value) (x1 : Int32) (x0 : Int32) (h : zMm) (Q : Option Value → zMm → Prop), zWp d zi_171 none 18 [l0, l1] [.int x1, .int x0] h Q = zWp d zi_171 none 19 [l0, l1] [.int (x0 * x1)] h Q) ∧
    (∀ (d : Nat) (l0 : Nat) (l1 : Value) (x0 : Int32) (h : zMm) (Q : Option Value → zMm → Prop), zWp d zi_171 none 19 [.ref l0, l1] [.int x0] h Q = zWp d zi_171 none 20 [.ref l0, l1] [.ref l0, .int x0] h Q) ∧
    (∀ (d : Nat) (l0 : Value) (l1 : Int32) (x1 : Nat) (x0 : Int32) (h : zMm) (Q : Option Value → zMm → Prop), zWp d zi_171 none 20 [l0, .int l1] [.ref x1, .int x0] h Q = zWp d zi_171 none 21 [l0, .int l1] [.int l1, .ref x1, .int x0] h Q) ∧
    (∀ (d : Nat) (l0 : Value) (l1 : Value) (x2 : Int32) (x1 : Nat) (x0 : Int32) (I : Nat → Nat → Int32) (L : Nat → Nat → Int64) (P : Nat → Nat → Option Nat) (Q : Option Value → zMm → Prop), zSH[x1]? = some (.inl 10) → zWp d zi_171 none 21 [l0, l1] [.int x2, .ref x1, .int x0] (zSH, I, L, P) Q = zWM d 169 [.ref x1, .int x2] (zSH, I, L, P) (fun r h1 => zWp d zi_171 none 24 [l0, l1] (r.toList ++ [.int x0]) h1 Q)) ∧
    (∀ (d : Nat) (l0 : Value) (l1 : Value) (x1 : Int32) (x0 : Int32) (h : zMm) (Q : Option Value → zMm → Prop), zWp d zi_171 none 24 [l0, l1] [.int x1, .int x0] h Q = if x0 ≤ x1 then zWp d zi_171 none 34 [l0, l1] [] h Q else zWp d zi_171 none 27 [l0, l1] [] h Q) ∧
    (∀ (d : Nat) (l0 : Nat) (l1 : Value)  (h : zMm) (Q : Option Value → zMm → Prop), zWp d zi_171 none 27 [.ref l0, l1] [] h Q = zWp d zi_171 none 28 [.ref l0, l1] [.ref l0] h Q) ∧
    (∀ (d : Nat) (l0 : Value) (l1 : Value) (x0 : Nat) (I : Nat → Nat → Int32) (L : Nat → Nat → Int64) (P : Nat → Nat → Option Nat) (Q : Option Value → zMm → Prop), zSH[x0]? = some (.inl 10) → zWp d zi_171 none 28 [l0, l1] [.ref x0] (zSH, I, L, P) Q = zWp d zi_171 none 31 [l0, l1] [va_rf (P x0 7)] (zSH, I, L, P) Q) ∧
    (∀ (d : Nat) (l0 : Value) (l1 : Int32) (x0 : Nat) (h : zMm) (Q : Option Value → zMm → Prop), zWp d zi_171 none 31 [l0, .int l1] [.ref x0] h Q = zWp d zi_171 none 32 [l0, .int l1] [.int l1, .ref x0] h Q) ∧
    (∀ (d : Nat) (l0 : Value) (l1 : Value) (x1 : Int32) (x0 : Nat) (I : Nat → Nat → Int32) (L : Nat → Nat → Int64) (P : Nat → Nat → Option Nat) (Q : Option Value → zMm → Prop), zAk zSH x0 = some .int → zWp d zi_171 none 32 [l0, l1] [.int x1, .ref x0] (zSH, I, L, P) Q = (vp_in x1 (zAn zSH x0) ∧ zWp d zi_171 none 33 [l0, l1] [.int (I x0 x1.toNatClampNeg)] (zSH, I, L, P) Q)) ∧
    (∀ (d : Nat) (l0 : Value) (l1 : Value) (x0 : Int32) (h : zMm) (Q : Option Value → zMm → Prop), zWp d zi_171 none 33 [l0, l1] [.int x0] h Q = Q (some (.int x0)) h) ∧
    (∀ (d : Nat) (l0 : Nat) (l1 : Value)  (h : zMm) (Q : Option Value → zMm → Prop), zWp d zi_171 none 34 [.ref l0, l1] [] h Q = zWp d zi_171 none 35 [.ref l0, l1] [.ref l0] h Q) ∧
    (∀ (d : Nat) (l0 : Value) (l1 : Value) (x0 : Nat) (I : Nat → Nat → Int32) (L : Nat → Nat → Int64) (P : Nat → Nat → Option Nat) (Q : Option Value → zMm → Prop), zSH[x0]? = some (.inl 10) → zWp d zi_171 none 35 [l0, l1] [.ref x0] (zSH, I, L, P) Q = zWp d zi_171 none 38 [l0, l1] [va_rf (P x0 7)] (zSH, I, L, P) Q) ∧
    (∀ (d : Nat) (l0 : Value) (l1 : Int32) (x0 : Nat) (h : zMm) (Q : Option Value → zMm → Prop), zWp d zi_171 none 38 [l0, .int l1] [.ref x0] h Q = zWp d zi_171 none 39 [l0, .int l1] [.int l1, .ref x0] h Q) ∧
    (∀ (d : Nat) (l0 : Value) (l1 : Value) (x1 : Int32) (x0 : Nat) (I : Nat → Nat → Int32) (L : Nat → Nat → Int64) (P : Nat → Nat → Option Nat) (Q : Option Value → zMm → Prop), zAk zSH x0 = some .int → zWp d zi_171 none 39 [l0, l1] [.int x1, .ref x0] (zSH, I, L, P) Q = (vp_in x1 (zAn zSH x0) ∧ zWp d zi_171 none 40 [l0, l1] [.int (I x0 x1.toNatClampNeg)] (zSH, I, L, P) Q)) ∧
    (∀ (d : Nat) (l0 : Value) (l1 : Value) (x0 : Int32) (h : zMm) (Q : Option Value → zMm → Prop), zWp d zi_171 none 40 [l0, l1] [.int x0] h Q = zWp d zi_171 none 41 [l0, l1] [.int 2, .int x0] h Q) ∧
    (∀ (d : Nat) (l0 : Value) (l1 : Value) (x1 : Int32) (x0 : Int32) (h : zMm) (Q : Option Value → zMm → Prop), zWp d zi_171 none 41 [l0, l1] [.int x1, .int x0] h Q = (¬ x1 = 0 ∧ zWp d zi_171 none 42 [l0, l1] [.int (x0 / x1)] h Q)) ∧
    (∀ (d : Nat) (l0 : Value) (l1 : Value) (x0 : Int32) (h : zMm) (Q : Option Value → zMm → Prop), zWp d zi_171 none 42 [l0, l1] [.int x0] h Q = zWp d zi_171 none 43 [l0, l1] [.int 1, .int x0] h Q) ∧
    (∀ (d : Nat) (l0 : Value) (l1 : Value) (x1 : Int32) (x0 : Int32) (h : zMm) (Q : Option Value → zMm → Prop), zWp d zi_171 none 43 [l0, l1] [.int x1, .int x0] h Q = if x0 ≤ x1 then zWp d zi_171 none 57 [l0, l1] [] h Q else zWp d zi_171 none 46 [l0, l1] [] h Q) ∧
    (∀ (d : Nat) (l0 : Nat) (l1 : Value)  (h : zMm) (Q : Option Value → zMm → Prop), zWp d zi_171 none 46 [.ref l0, l1] [] h Q = zWp d zi_171 none 47 [.ref l0, l1] [.ref l0] h Q) ∧
    (∀ (d : Nat) (l0 : Value) (l1 : Value) (x0 : Nat) (I : Nat → Nat → Int32) (L : Nat → Nat → Int64) (P : Nat → Nat → Option Nat) (Q : Option Value → zMm → Prop), zSH[x0]? = some (.inl 10) → zWp d zi_171 none 47 [l0, l1] [.ref x0] (zSH, I, L, P) Q = zWp d zi_171 none 50 [l0, l1] [va_rf (P x0 7)] (zSH, I, L, P) Q) ∧
    (∀ (d : Nat) (l0 : Value) (l1 : Int32) (x0 : Nat) (h : zMm) (Q : Option Value → zMm → Prop), zWp d zi_171 none 50 [l0, .int l1] [.ref x0] h Q = zWp d zi_171 none 51 [l0, .int l1] [.int l1, .ref x0] h Q) ∧
    (∀ (d : Nat) (l0 : Value) (l1 : Value) (x1 : Int32) (x0 : Nat) (I : Nat → Nat → Int32) (L : Nat → Nat → Int64) (P : Nat → Nat → Option Nat) (Q : Option Value → zMm → Prop), zAk zSH x0 = some .int → zWp d zi_171 none 51 [l0, l1] [.int x1, .ref x0] (zSH, I, L, P) Q = (vp_in x1 (zAn zSH x0) ∧ zWp d zi_171 none 52 [l0, l1] [.int (I x0 x1.toNatClampNeg)] (zSH, I, L, P) Q)) ∧
    (∀ (d : Nat) (l0 : Value) (l1 : Value) (x0 : Int32) (h : zMm) (Q : Option Value → zMm → Prop), zWp d zi_171 none 52 [l0, l1] [.int x0] h Q = zWp d zi_171 none 53 [l0, l1] [.int 2, .int x0] h Q) ∧
    (∀ (d : Nat) (l0 : Value) (l1 : Value) (x1 : Int32) (x0 : Int32) (h : zMm) (Q : Option Value → zMm → Prop), zWp d zi_171 none 53 [l0, l1] [.int x1, .int x0] h Q = (¬ x1 = 0 ∧ zWp d zi_171 none 54 [l0, l1] [.int (x0 / x1)] h Q)) ∧
    (∀ (d : Nat) (l0 : Value) (l1 : Value) (x0 : Int32) (h : zMm) (Q : Option Value → zMm → Prop), zWp d zi_171 none 54 [l0, l1] [.int x0] h Q = zWp d zi_171 none 58 [l0, l1] [.int x0] h Q) ∧
    (∀ (d : Nat) (l0 : Value) (l1 : Value)  (h : zMm) (Q : Option Value → zMm → Prop), zWp d zi_171 none 57 [l0, l1] [] h Q = zWp d zi_171 none 58 [l0, l1] [.int 1] h Q) ∧
    (∀ (d : Nat) (l0 : Value) (l1 : Value) (x0 : Int32) (h : zMm) (Q : Option Value → zMm → Prop), zWp d zi_171 none 58 [l0, l1] [.int x0] h Q = Q (some (.int x0)) h) :=
  ⟨(fun d l0 l1  h Q => zr_aload_n rfl rfl),
   (fun d l0 l1 x0 I L P Q p0 => zr_getQ rfl lf_10_49 (fun _ _ _ => rfl) p0),
   (fun d l0 l1 x0 h Q => zr_iload_n rfl rfl),
   (fun d l0 l1 x1 x0 I L P Q p0 => zr_ald rfl p0),
   (fun d l0 l1 x0 h Q => zr_if_ne rfl (by decide)),
   (fun d l0 l1  h Q => zr_iconst rfl (by decide)),
   (fun d l0 l1 x0 h Q => zr_iret rfl rfl),
   (fun d l0 l1  h Q => zr_iconst rfl (by decide)),
   (fun d l0 l1 x0 h Q => zr_aload_n rfl rfl),
   (fun d l0 l1 x1 x0 I L P Q p0 => zr_getQ rfl lf_10_49 (fun _ _ _ => rfl) p0),
   (fun d l0 l1 x1 x0 h Q => zr_iload_n rfl rfl),
   (fun d l0 l1 x2 x1 x0 I L P Q p0 => zr_ald rfl p0),
   (fun d l0 l1 x1 x0 h Q => zr_imul rfl),
   (fun d l0 l1 x0 h Q => zr_aload_n rfl rfl),
   (fun d l0 l1 x1 x0 h Q => zr_iload_n rfl rfl),
   (fun d l0 l1 x2 x1 x0 I L P Q p0 => zr_vir (as := [.int x2]) (rest := [.int x0]) rfl lm_10_256 m_169 kd_169 rfl (Nat.le_of_ble_eq_true rfl) p0),
   (fun d l0 l1 x1 x0 h Q => zr_ic_le rfl (by decide)),
   (fun d l0 l1  h Q => zr_aload_n rfl rfl),
   (fun d l0 l1 x0 I L P Q p0 => zr_getQ rfl lf_10_22 (fun _ _ _ => rfl) p0),
   (fun d l0 l1 x0 h Q => zr_iload_n rfl rfl),
   (fun d l0 l1 x1 x0 I L P Q p0 => zr_ald rfl p0),
   (fun d l0 l1 x0 h Q => zr_iret rfl rfl),
   (fun d l0 l1  h Q => zr_aload_n rfl rfl),
   (fun d l0 l1 x0 I L P Q p0 => zr_getQ rfl lf_10_22 (fun _ _ _ => rfl) p0),
   (fun d l0 l1 x0 h Q => zr_iload_n rfl rfl),
   (fun d l0 l1 x1 x0 I L P Q p0 => zr_ald rfl p0),
   (fun d l0 l1 x0 h Q => zr_iconst rfl (by decide)),
   (fun d l0 l1 x1 x0 h Q => zr_idiv rfl),
   (fun d l0 l1 x0 h Q => zr_iconst rfl (by decide)),
   (fun d l0 l1 x1 x0 h Q => zr_ic_le rfl (by decide)),
   (fun d l0 l1  h Q => zr_aload_n rfl rfl),
   (fun d l0 l1 x0 I L P Q p0 => zr_getQ rfl lf_10_22 (fun _ _ _ => rfl) p0),
   (fun d l0 l1 x0 h Q => zr_iload_n rfl rfl),
   (fun d l0 l1 x1 x0 I L P Q p0 => zr_ald rfl p0),
   (fun d l0 l1 x0 h Q => zr_iconst rfl (by decide)),
   (fun d l0 l1 x1 x0 h Q => zr_idiv rfl),
   (fun d l0 l1 x0 h Q => zr_goto rfl (by decide)),
   (fun d l0 l1  h Q => zr_iconst rfl (by decide)),
   (fun d l0 l1 x0 h Q => zr_iret rfl rfl)⟩
theorem E_X10_fire : ∀ (d : Nat) (a0 : Nat) (h : zMm) (Q : Option Value → zMm → Prop), zWM (d + 1) 172 [.ref a0] h Q = zWp d zi_172 none 0 [.ref a0, .retAddr 0, .retAddr 0, .retAddr 0, .retAddr 0] [] h Q := fun d a0 h Q => zW_M m_172 (Nat.le_of_ble_eq_true rfl) rfl
set_option maxRecDepth 100000 in
theorem R_X10_fire :
    (∀ (d : Nat) (l0 : Nat) (l1 : Value) (l2 : Value) (l3 : Value) (l4 : Value)  (h : zMm) (Q : Option Value → zMm → Prop), zWp d zi_172 none 0 [.ref l0, l1, l2, l3, l4] [] h Q = zWp d zi_172 none 1 [.ref l0, l1, l2, l3, l4] [.ref l0] h Q) ∧
    (∀ (d : Nat) (l0 : Value) (l1 : Value) (l2 : Value) (l3 : Value) (l4 : Value) (x0 : Nat) (h : zMm) (Q : Option Value → zMm → Prop), zWp d zi_172 none 1 [l0, l1, l2, l3, l4] [.ref x0] h Q = zWp d zi_172 none 3 [l0, l1, l2, l3, l4] [.int (-2), .ref x0] h Q) ∧
    (∀ (d : Nat) (l0 : Value) (l1 : Value) (l2 : Value) (l3 : Value) (l4 : Value) (x1 : Int32) (x0 : Nat) (I : Nat → Nat → Int32) (L : Nat → Nat → Int64) (P : Nat → Nat → Option Nat) (Q : Option Value → zMm → Prop), zSH[x0]? = some (.inl 10) → zWp d zi_172 none 3 [l0, l1, l2, l3, l4] [.int x1, .ref x0] (zSH, I, L, P) Q = zWp d zi_172 none 6 [l0, l1, l2, l3, l4] [] (zSH, zw I x0 (upd (I x0) 29 x1), L, P) Q) ∧
    (∀ (d : Nat) (l0 : Nat) (l1 : Value) (l2 : Value) (l3 : Value) (l4 : Value)  (h : zMm) (Q : Option Value → zMm → Prop), zWp d zi_172 none 6 [.ref l0, l1, l2, l3, l4] [] h Q = zWp d zi_172 none 7 [.ref l0, l1, l2, l3, l4] [.ref l0] h Q) ∧
    (∀ (d : Nat) (l0 : Value) (l1 : Value) (l2 : Value) (l3 : Value) (l4 : Value) (x0 : Nat) (h : zMm) (Q : Option Value → zMm → Prop), zWp d zi_172 none 7 [l0, l1, l2, l3, l4] [.ref x0] h Q = zWp d zi_172 none 9 [l0, l1, l2, l3, l4] [.int (-2), .ref x0] h Q) ∧
    (∀ (d : Nat) (l0 : Value) (l1 : Value) (l2 : Value) (l3 : Value) (l4 : Value) (x1 : Int32) (x0 : Nat) (I : Nat → Nat → Int32) (L : Nat → Nat → Int64) (P : Nat → Nat → Option Nat) (Q : Option Value → zMm → Prop), zSH[x0]? = some (.inl 10) → zWp d zi_172 none 9 [l0, l1, l2, l3, l4] [.int x1, .ref x0] (zSH, I, L, P) Q = zWp d zi_172 none 12 [l0, l1, l2, l3, l4] [] (zSH, zw I x0 (upd (I x0) 30 x1), L, P) Q) ∧
    (∀ (d : Nat) (l0 : Nat) (l1 : Value) (l2 : Value) (l3 : Value) (l4 : Value)  (h : zMm) (Q : Option Value → zMm → Prop), zWp d zi_172 none 12 [.ref l0, l1, l2, l3, l4] [] h Q = zWp d zi_172 none 13 [.ref l0, l1, l2, l3, l4] [.ref l0] h Q) ∧
    (∀ (d : Nat) (l0 : Value) (l1 : Value) (l2 : Value) (l3 : Value) (l4 : Value) (x0 : Nat) (h : zMm) (Q : Option Value → zMm → Prop), zWp d zi_172 none 13 [l0, l1, l2, l3, l4] [.ref x0] h Q = zWp d zi_172 none 15 [l0, l1, l2, l3, l4] [.int (-2), .ref x0] h Q) ∧
    (∀ (d : Nat) (l0 : Value) (l1 : Value) (l2 : Value) (l3 : Value) (l4 : Value) (x1 : Int32) (x0 : Nat) (I : Nat → Nat → Int32) (L : Nat → Nat → Int64) (P : Nat → Nat → Option Nat) (Q : Option Value → zMm → Prop), zSH[x0]? = some (.inl 10) → zWp d zi_172 none 15 [l0, l1, l2, l3, l4] [.int x1, .ref x0] (zSH, I, L, P) Q = zWp d zi_172 none 18 [l0, l1, l2, l3, l4] [] (zSH, zw I x0 (upd (I x0) 31 x1), L, P) Q) ∧
    (∀ (d : Nat) (l0 : Nat) (l1 : Value) (l2 : Value) (l3 : Value) (l4 : Value)  (h : zMm) (Q : Option Value → zMm → Prop), zWp d zi_172 none 18 [.ref l0, l1, l2, l3, l4] [] h Q = zWp d zi_172 none 19 [.ref l0, l1, l2, l3, l4] [.ref l0] h Q) ∧
    (∀ (d : Nat) (l0 : Value) (l1 : Value) (l2 : Value) (l3 : Value) (l4 : Value) (x0 : Nat) (h : zMm) (Q : Option Value → zMm → Prop), zWp d zi_172 none 19 [l0, l1, l2, l3, l4] [.ref x0] h Q = zWp d zi_172 none 21 [l0, l1, l2, l3, l4] [.int (-2), .ref x0] h Q) ∧
    (∀ (d : Nat) (l0 : Value) (l1 : Value) (l2 : Value) (l3 : Value) (l4 : Value) (x1 : Int32) (x0 : Nat) (I : Nat → Nat → Int32) (L : Nat → Nat → Int64) (P : Nat → Nat → Option Nat) (Q : Option Value → zMm → Prop), zSH[x0]? = some (.inl 10) → zWp d zi_172 none 21 [l0, l1, l2, l3, l4] [.int x1, .ref x0] (zSH, I, L, P) Q = zWp d zi_172 none 24 [l0, l1, l2, l3, l4] [] (zSH, zw I x0 (upd (I x0) 32 x1), L, P) Q) ∧
    (∀ (d : Nat) (l0 : Value) (l1 : Value) (l2 : Value) (l3 : Value) (l4 : Value)  (h : zMm) (Q : Option Value → zMm → Prop), zWp d zi_172 none 24 [l0, l1, l2, l3, l4] [] h Q = zWp d zi_172 none 25 [l0, l1, l2, l3, l4] [.int 0] h Q) ∧
    (∀ (d : Nat) (l0 : Nat) (l1 : Value) (l2 : Value) (l3 : Value) (l4 : Value) (x0 : Int32) (h : zMm) (Q : Option Value → zMm → Prop), zWp d zi_172 none 25 [.ref l0, l1, l2, l3, l4] [.int x0] h Q = zWp d zi_172 none 26 [.ref l0, .int x0, l2, l3, l4] [] h Q) ∧
    (∀ (d : Nat) (l0 : Nat) (l1 : Value) (l2 : Value) (l3 : Value) (l4 : Value) (x0 : Int32) (h : zMm) (Q : Option Value → zMm → Prop), zWp d zi_172 none 27 [.ref l0, l1, l2, l3, l4] [.int x0] h Q = zWp d zi_172 none 28 [.ref l0, l1, l2, l3, l4] [.ref l0, .int x0] h Q) ∧
    (∀ (d : Nat) (l0 : Value) (l1 : Value) (l2 : Value) (l3 : Value) (l4 : Value) (x1 : Nat) (x0 : Int32) (I : Nat → Nat → Int32) (L : Nat → Nat → Int64) (P : Nat → Nat → Option Nat) (Q : Option Value → zMm → Prop), zSH[x1]? = some (.inl 10) → zWp d zi_172 none 28 [l0, l1, l2, l3, l4] [.ref x1, .int x0] (zSH, I, L, P) Q = zWp d zi_172 none 31 [l0, l1, l2, l3, l4] [.int (I x1 6), .int x0] (zSH, I, L, P) Q) ∧
    (∀ (d : Nat) (l0 : Value) (l1 : Value) (l2 : Value) (l3 : Value) (l4 : Value) (x1 : Int32) (x0 : Int32) (h : zMm) (Q : Option Value → zMm → Prop), zWp d zi_172 none 31 [l0, l1, l2, l3, l4] [.int x1, .int x0] h Q = if x1 ≤ x0 then zWp d zi_172 none 99 [l0, l1, l2, l3, l4] [] h Q else zWp d zi_172 none 34 [l0, l1, l2, l3, l4] [] h Q) ∧
    (∀ (d : Nat) (l0 : Nat) (l1 : Value) (l2 : Value) (l3 : Value) (l4 : Value)  (h : zMm) (Q : Option Value → zMm → Prop), zWp d zi_172 none 34 [.ref l0, l1, l2, l3, l4] [] h Q = zWp d zi_172 none 35 [.ref l0, l1, l2, l3, l4] [.ref l0] h Q) ∧
    (∀ (d : Nat) (l0 : Value) (l1 : Value) (l2 : Value) (l3 : Value) (l4 : Value) (x0 : Nat) (I : Nat → Nat → Int32) (L : Nat → Nat → Int64) (P : Nat → Nat → Option Nat) (Q : Option Value → zMm → Prop), zSH[x0]? = some (.inl 10) → zWp d zi_172 none 35 [l0, l1, l2, l3, l4] [.ref x0] (zSH, I, L, P) Q = zWp d zi_172 none 38 [l0, l1, l2, l3, l4] [va_rf (P x0 26)] (zSH, I, L, P) Q) ∧
    (∀ (d : Nat) (l0 : Value) (l1 : Int32) (l2 : Value) (l3 : Value) (l4 : Value) (x0 : Nat) (h : zMm) (Q : Option Value → zMm → Prop), zWp d zi_172 none 38 [l0, .int l1, l2, l3, l4] [.ref x0] h Q = zWp d zi_172 none 39 [l0, .int l1, l2, l3, l4] [.int l1, .ref x0] h Q) ∧
    (∀ (d : Nat) (l0 : Nat) (l1 : Value) (l2 : Value) (l3 : Value) (l4 : Value) (x1 : Int32) (x0 : Nat) (h : zMm) (Q : Option Value → zMm → Prop), zWp d zi_172 none 39 [.ref l0, l1, l2, l3, l4] [.int x1, .ref x0] h Q = zWp d zi_172 none 40 [.ref l0, l1, l2, l3, l4] [.ref l0, .int x1, .ref x0] h Q) ∧
    (∀ (d : Nat) (l0 : Value) (l1 : Int32) (l2 : Value) (l3 : Value) (l4 : Value) (x2 : Nat) (x1 : Int32) (x0 : Nat) (h : zMm) (Q : Option Value → zMm → Prop), zWp d zi_172 none 40 [l0, .int l1, l2, l3, l4] [.ref x2, .int x1, .ref x0] h Q = zWp d zi_172 none 41 [l0, .int l1, l2, l3, l4] [.int l1, .ref x2, .int x1, .ref x0] h Q) ∧
    (∀ (d : Nat) (l0 : Value) (l1 : Value) (l2 : Value) (l3 : Value) (l4 : Value) (x3 : Int32) (x2 : Nat) (x1 : Int32) (x0 : Nat) (I : Nat → Nat → Int32) (L : Nat → Nat → Int64) (P : Nat → Nat → Option Nat) (Q : Option Value → zMm → Prop), zSH[x2]? = some (.inl 10) → zWp d zi_172 none 41 [l0, l1, l2, l3, l4] [.int x3, .ref x2, .int x1, .ref x0] (zSH, I, L, P) Q = zWM d 169 [.ref x2, .int x3] (zSH, I, L, P) (fun r h1 => zWp d zi_172 none 44 [l0, l1, l2, l3, l4] (r.toList ++ [.int x1, .ref x0]) h1 Q)) ∧
    (∀ (d : Nat) (l0 : Value) (l1 : Value) (l2 : Value) (l3 : Value) (l4 : Value) (x2 : Int32) (x1 : Int32) (x0 : Nat) (I : Nat → Nat → Int32) (L : Nat → Nat → Int64) (P : Nat → Nat → Option Nat) (Q : Option Value → zMm → Prop), zAk zSH x0 = some .int → zWp d zi_172 none 44 [l0, l1, l2, l3, l4] [.int x2, .int x1, .ref x0] (zSH, I, L, P) Q = (vp_in x1 (zAn zSH x0) ∧ zWp d zi_172 none 45 [l0, l1, l2, l3, l4] [] (zSH, zw I x0 (upd (I x0) x1.toNatClampNeg x2), L, P) Q)) ∧
    (∀ (d : Nat) (l0 : Nat) (l1 : Value) (l2 : Value) (l3 : Value) (l4 : Value)  (h : zMm) (Q : Option Value → zMm → Prop), zWp d zi_172 none 45 [.ref l0, l1, l2, l3, l4] [] h Q = zWp d zi_172 none 46 [.ref l0, l1, l2, l3, l4] [.ref l0] h Q) ∧
    (∀ (d : Nat) (l0 : Value) (l1 : Value) (l2 : Value) (l3 : Value) (l4 : Value) (x0 : Nat) (I : Nat → Nat → Int32) (L : Nat → Nat → Int64) (P : Nat → Nat → Option Nat) (Q : Option Value → zMm → Prop), zSH[x0]? = some (.inl 10) → zWp d zi_172 none 46 [l0, l1, l2, l3, l4] [.ref x0] (zSH, I, L, P) Q = zWp d zi_172 none 49 [l0, l1, l2, l3, l4] [va_rf (P x0 25)] (zSH, I, L, P) Q) ∧
    (∀ (d : Nat) (l0 : Value) (l1 : Int32) (l2 : Value) (l3 : Value) (l4 : Value) (x0 : Nat) (h : zMm) (Q : Option Value → zMm → Prop), zWp d zi_172 none 49 [l0, .int l1, l2, l3, l4] [.ref x0] h Q = zWp d zi_172 none 50 [l0, .int l1, l2, l3, l4] [.int l1, .ref x0] h Q) ∧
    (∀ (d : Nat) (l0 : Value) (l1 : Int32) (l2 : Value) (l3 : Value) (l4 : Value) (x1 : Int32) (x0 : Nat) (h : zMm) (Q : Option Value → zMm → Prop), zWp d zi_172 none 50 [l0, .int l1, l2, l3, l4] [.int x1, .ref x0] h Q = zWp d zi_172 none 51 [l0, .int l1, l2, l3, l4] [.int l1, .int x1, .ref x0] h Q) ∧
    (∀ (d : Nat) (l0 : Value) (l1 : Value) (l2 : Value) (l3 : Value) (l4 : Value) (x2 : Int32) (x1 : Int32) (x0 : Nat) (h : zMm) (Q : Option Value → zMm → Prop), zWp d zi_172 none 51 [l0, l1, l2, l3, l4] [.int x2, .int x1, .ref x0] h Q = if x2 = 0 then zWp d zi_172 none 54 [l0, l1, l2, l3, l4] [.int x1, .ref x0] h Q else zWp d zi_172 none 58 [l0, l1, l2, l3, l4] [.int x1, .ref x0] h Q) ∧
    (∀ (d : Nat) (l0 : Value) (l1 : Value) (l2 : Value) (l3 : Value) (l4 : Value) (x1 : Int32) (x0 : Nat) (h : zMm) (Q : Option Value → zMm → Prop), zWp d zi_172 none 54 [l0, l1, l2, l3, l4] [.int x1, .ref x0] h Q = zWp d zi_172 none 55 [l0, l1, l2, l3, l4] [.int 0, .int x1, .ref x0] h Q) ∧
    (∀ (d : Nat) (l0 : Value) (l1 : Value) (l2 : Value) (l3 : Value) (l4 : Value) (x2 : Int32) (x1 : Int32) (x0 : Nat) (h : zMm) (Q : Option Value → zMm → Prop), zWp d zi_172 none 55 [l0, l1, l2, l3, l4] [.int x2, .int x1, .ref x0] h Q = zWp d zi_172 none 92 [l0, l1, l2, l3, l4] [.int x2, .int x1, .ref x0] h Q) ∧
    (∀ (d : Nat) (l0 : Nat) (l1 : Value) (l2 : Value) (l3 : Value) (l4 : Value) (x1 : Int32) (x0 : Nat) (h : zMm) (Q : Option Value → zMm → Prop), zWp d zi_172 none 58 [.ref l0, l1, l2, l3, l4] [.int x1, .ref x0] h Q = zWp d zi_172 none 59 [.ref l0, l1, l2, l3, l4] [.ref l0, .int x1, .ref x0] h Q) ∧
    (∀ (d : Nat) (l0 : Value) (l1 : Value) (l2 : Value) (l3 : Value) (l4 : Value) (x2 : Nat) (x1 : Int32) (x0 : Nat) (I : Nat → Nat → Int32) (L : Nat → Nat → Int64) (P : Nat → Nat → Option Nat) (Q : Option Value → zMm → Prop), zSH[x2]? = some (.inl 10) → zWp d zi_172 none 59 [l0, l1, l2, l3, l4] [.ref x2, .int x1, .ref x0] (zSH, I, L, P) Q = zWp d zi_172 none 62 [l0, l1, l2, l3, l4] [va_rf (P x2 25), .int x1, .ref x0] (zSH, I, L, P) Q) ∧
    (∀ (d : Nat) (l0 : Value) (l1 : Int32) (l2 : Value) (l3 : Value) (l4 : Value) (x2 : Nat) (x1 : Int32) (x0 : Nat) (h : zMm) (Q : Option Value → zMm → Prop), zWp d zi_172 none 62 [l0, .int l1, l2, l3, l4] [.ref x2, .int x1, .ref x0] h Q = zWp d zi_172 none 63 [l0, .int l1, l2, l3, l4] [.int l1, .ref x2, .int x1, .ref x0] h Q) ∧
    (∀ (d : Nat) (l0 : Value) (l1 : Value) (l2 : Value) (l3 : Value) (l4 : Value) (x3 : Int32) (x2 : Nat) (x1 : Int32) (x0 : Nat) (h : zMm) (Q : Option Value → zMm → Prop), zWp d zi_172 none 63 [l0, l1, l2, l3, l4] [.int x3, .ref x2, .int x1, .ref x0] h Q = zWp d zi_172 none 64 [l0, l1, l2, l3, l4] [.int 1, .int x3, .ref x2, .int x1, .ref x0] h Q) ∧
    (∀ (d : Nat) (l0 : Value) (l1 : Value) (l2 : Value) (l3 : Value) (l4 : Value) (x4 : Int32) (x3 : Int32) (x2 : Nat) (x1 : Int32) (x0 : Nat) (h : zMm) (Q : Option Value → zMm → Prop), zWp d zi_172 none 64 [l0, l1, l2, l3, l4] [.int x4, .int x3, .ref x2, .int x1, .ref x0] h Q = zWp d zi_172 none 65 [l0, l1, l2, l3, l4] [.int (x3 - x4), .ref x2, .int x1, .ref x0] h Q) ∧
    (∀ (d : Nat) (l0 : Value) (l1 : Value) (l2 : Value) (l3 : Value) (l4 : Value) (x3 : Int32) (x2 : Nat) (x1 : Int32) (x0 : Nat) (I : Nat → Nat → Int32) (L : Nat → Nat → Int64) (P : Nat → Nat → Option Nat) (Q : Option Value → zMm → Prop), zAk zSH x2 = some .int → zWp d zi_172 none 65 [l0, l1, l2, l3, l4] [.int x3, .ref x2, .int x1, .ref x0] (zSH, I, L, P) Q = (vp_in x3 (zAn zSH x2) ∧ zWp d zi_172 none 66 [l0, l1, l2, l3, l4] [.int (I x2 x3.toNatClampNeg), .int x1, .ref x0] (zSH, I, L, P) Q)) ∧
    (∀ (d : Nat) (l0 : Value) (l1 : Value) (l2 : Value) (l3 : Value) (l4 : Value) (x2 : Int32) (x1 : Int32) (x0 : Nat) (h : zMm) (Q : Option Value → zMm → Prop), zWp d zi_172 none 66 [l0, l1, l2, l3, l4] [.int x2, .int x1, .ref x0] h Q = zWp d zi_172 none 67 [l0, l1, l2, l3, l4] [.int 2, .int x2, .int x1, .ref x0] h Q) ∧
    (∀ (d : Nat) (l0 : Nat) (l1 : Value) (l2 : Value) (l3 : Value) (l4 : Value) (x3 : Int32) (x2 : Int32) (x1 : Int32) (x0 : Nat) (h : zMm) (Q : Option Value → zMm → Prop), zWp d zi_172 none 67 [.ref l0, l1, l2, l3, l4] [.int x3, .int x2, .int x1, .ref x0] h Q = zWp d zi_172 none 68 [.ref l0, l1, l2, l3, l4] [.ref l0, .int x3, .int x2, .int x1, .ref x0] h Q) ∧
    (∀ (d : Nat) (l0 : Value) (l1 : Value) (l2 : Value) (l3 : Value) (l4 : Value) (x4 : Nat) (x3 : Int32) (x2 : Int32) (x1 : Int32) (x0 : Nat) (I : Nat → Nat → Int32) (L : Nat → Nat → Int64) (P : Nat → Nat → Option Nat) (Q : Option Value → zMm → Prop), zSH[x4]? = some (.inl 10) → zWp d zi_172 none 68 [l0, l1, l2, l3, l4] [.ref x4, .int x3, .int x2, .int x1, .ref x0] (zSH, I, L, P) Q = zWp d zi_172 none 71 [l0, l1, l2, l3, l4] [va_rf (P x4 0), .int x3, .int x2, .int x1, .ref x0] (zSH, I, L, P) Q) ∧
    (∀ (d : Nat) (l0 : Value) (l1 : Value) (l2 : Value) (l3 : Value) (l4 : Value) (x4 : Nat) (x3 : Int32) (x2 : Int32) (x1 : Int32) (x0 : Nat) (h : zMm) (Q : Option Value → zMm → Prop), zWp d zi_172 none 71 [l0, l1, l2, l3, l4] [.ref x4, .int x3, .int x2, .int x1, .ref x0] h Q = zWp d zi_172 none 73 [l0, l1, l2, l3, l4] [.int 48, .ref x4, .int x3, .int x2, .int x1, .ref x0] h Q) ∧
    (∀ (d : Nat) (l0 : Value) (l1 : Int32) (l2 : Value) (l3 : Value) (l4 : Value) (x5 : Int32) (x4 : Nat) (x3 : Int32) (x2 : Int32) (x1 : Int32) (x0 : Nat) (h : zMm) (Q : Option Value → zMm → Prop), zWp d zi_172 none 73 [l0, .int l1, l2, l3, l4] [.int x5, .ref x4, .int x3, .int x2, .int x1, .ref x0] h Q = zWp d zi_172 none 74 [l0, .int l1, l2, l3, l4] [.int l1, .int x5, .ref x4, .int x3, .int x2, .int x1, .ref x0] h Q) ∧
    (∀ (d : Nat) (l0 : Value) (l1 : Value) (l2 : Value) (l3 : Value) (l4 : Value) (x6 : Int32) (x5 : Int32) (x4 : Nat) (x3 : Int32) (x2 : Int32) (x1 : Int32) (x0 : Nat) (h : zMm) (Q : Option Value → zMm → Prop), zWp d zi_172 none 74 [l0, l1, l2, l3, l4] [.int x6, .int x5, .ref x4, .int x3, .int x2, .int x1, .ref x0] h Q = zWp d zi_172 none 75 [l0, l1, l2, l3, l4] [.int (x5 + x6), .ref x4, .int x3, .int x2, .int x1, .ref x0] h Q) ∧
    (∀ (d : Nat) (l0 : Value) (l1 : Value) (l2 : Value) (l3 : Value) (l4 : Value) (x5 : Int32) (x4 : Nat) (x3 : Int32) (x2 : Int32) (x1 : Int32) (x0 : Nat) (I : Nat → Nat → Int32) (L : Nat → Nat → Int64) (P : Nat → Nat → Option Nat) (Q : Option Value → zMm → Prop), zAk zSH x4 = some .int → zWp d zi_172 none 75 [l0, l1, l2, l3, l4] [.int x5, .ref x4, .int x3, .int x2, .int x1, .ref x0] (zSH, I, L, P) Q = (vp_in x5 (zAn zSH x4) ∧ zWp d zi_172 none 76 [l0, l1, l2, l3, l4] [.int (I x4 x5.toNatClampNeg), .int x3, .int x2, .int x1, .ref x0] (zSH, I, L, P) Q)) ∧
    (∀ (d : Nat) (l0 : Value) (l1 : Value) (l2 : Value) (l3 : Value) (l4 : Value) (x4 : Int32) (x3 : Int32) (x2 : Int32) (x1 : Int32) (x0 : Nat) (h : zMm) (Q : Option Value → zMm → Prop), zWp d zi_172 none 76 [l0, l1, l2, l3, l4] [.int x4, .int x3, .int x2, .int x1, .ref x0] h Q = zWp d zi_172 none 77 [l0, l1, l2, l3, l4] [.int (x3 * x4), .int x2, .int x1, .ref x0] h Q) ∧
    (∀ (d : Nat) (l0 : Nat) (l1 : Value) (l2 : Value) (l3 : Value) (l4 : Value) (x3 : Int32) (x2 : Int32) (x1 : Int32) (x0 : Nat) (h : zMm) (Q : Option Value → zMm → Prop), zWp d zi_172 none 77 [.ref l0, l1, l2, l3, l4] [.int x3, .int x2, .int x1, .ref x0] h Q = zWp d zi_172 none 78 [.ref l0, l1, l2, l3, l4] [.ref l0, .int x3, .int x2, .int x1, .ref x0] h Q) ∧
    (∀ (d : Nat) (l0 : Value) (l1 : Value) (l2 : Value) (l3 : Value) (l4 : Value) (x4 : Nat) (x3 : Int32) (x2 : Int32) (x1 : Int32) (x0 : Nat) (I : Nat → Nat → Int32) (L : Nat → Nat → Int64) (P : Nat → Nat → Option Nat) (Q : Option Value → zMm → Prop), zSH[x4]? = some (.inl 10) → zWp d zi_172 none 78 [l0, l1, l2, l3, l4] [.ref x4, .int x3, .int x2, .int x1, .ref x0] (zSH, I, L, P) Q = zWp d zi_172 none 81 [l0, l1, l2, l3, l4] [va_rf (P x4 7), .int x3, .int x2, .int x1, .ref x0] (zSH, I, L, P) Q) ∧
    (∀ (d : Nat) (l0 : Value) (l1 : Int32) (l2 : Value) (l3 : Value) (l4 : Value) (x4 : Nat) (x3 : Int32) (x2 : Int32) (x1 : Int32) (x0 : Nat) (h : zMm) (Q : Option Value → zMm → Prop), zWp d zi_172 none 81 [l0, .int l1, l2, l3, l4] [.ref x4, .int x3, .int x2, .int x1, .ref x0] h Q = zWp d zi_172 none 82 [l0, .int l1, l2, l3, l4] [.int l1, .ref x4, .int x3, .int x2, .int x1, .ref x0] h Q) ∧
    (∀ (d : Nat) (l0 : Value) (l1 : Value) (l2 : Value) (l3 : Value) (l4 : Value) (x5 : Int32) (x4 : Nat) (x3 : Int32) (x2 : Int32) (x1 : Int32) (x0 : Nat) (I : Nat → Nat → Int32) (L : Nat → Nat → Int64) (P : Nat → Nat → Option Nat) (Q : Option Value → zMm → Prop), zAk zSH x4 = some .int → zWp d zi_172 none 82 [l0, l1, l2, l3, l4] [.int x5, .ref x4, .int x3, .int x2, .int x1, .ref x0] (zSH, I, L, P) Q = (vp_in x5 (zAn zSH x4) ∧ zWp d zi_172 none 83 [l0, l1, l2, l3, l4] [.int (I x4 x5.toNatClampNeg), .int x3, .int x2, .int x1, .ref x0] (zSH, I, L, P) Q)) ∧
    (∀ (d : Nat) (l0 : Value) (l1 : Value) (l2 : Value) (l3 : Value) (l4 : Value) (x4 : Int32) (x3 : Int32) (x2 : Int32) (x1 : Int32) (x0 : Nat) (h : zMm) (Q : Option Value → zMm → Prop), zWp d zi_172 none 83 [l0, l1, l2, l3, l4] [.int x4, .int x3, .int x2, .int x1, .ref x0] h Q = if x3 ≤ x4 then zWp d zi_172 none 90 [l0, l1, l2, l3, l4] [.int x2, .int x1, .ref x0] h Q else zWp d zi_172 none 86 [l0, l1, l2, l3, l4] [.int x2, .int x1, .ref x0] h Q) ∧
    (∀ (d : Nat) (l0 : Value) (l1 : Value) (l2 : Value) (l3 : Value) (l4 : Value) (x2 : Int32) (x1 : Int32) (x0 : Nat) (h : zMm) (Q : Option Value → zMm → Prop), zWp d zi_172 none 86 [l0, l1, l2, l3, l4] [.int x2, .int x1, .ref x0] h Q = zWp d zi_172 none 87 [l0, l1, l2, l3, l4] [.int 4, .int x2, .int x1, .ref x0] h Q) ∧
    (∀ (d : Nat) (l0 : Value) (l1 : Value) (l2 : Value) (l3 : Value) (l4 : Value) (x3 : Int32) (x2 : Int32) (x1 : Int32) (x0 : Nat) (h : zMm) (Q : Option Value → zMm → Prop), zWp d zi_172 none 87 [l0, l1, l2, l3, l4] [.int x3, .int x2, .int x1, .ref x0] h Q = zWp d zi_172 none 91 [l0, l1, l2, l3, l4] [.int x3, .int x2, .int x1, .ref x0] h Q) ∧
    (∀ (d : Nat) (l0 : Value) (l1 : Value) (l2 : Value) (l3 : Value) (l4 : Value) (x2 : Int32) (x1 : Int32) (x0 : Nat) (h : zMm) (Q : Option Value → zMm → Prop), zWp d zi_172 none 90 [l0, l1, l2, l3, l4] [.int x2, .int x1, .ref x0] h Q = zWp d zi_172 none 91 [l0, l1, l2, l3, l4] [.int 2, .int x2, .int x1, .ref x0] h Q) ∧
    (∀ (d : Nat) (l0 : Value) (l1 : Value) (l2 : Value) (l3 : Value) (l4 : Value) (x3 : Int32) (x2 : Int32) (x1 : Int32) (x0 : Nat) (h : zMm) (Q : Option Value → zMm → Prop), zWp d zi_172 none 91 [l0, l1, l2, l3, l4] [.int x3, .int x2, .int x1, .ref x0] h Q = zWp d zi_172 none 92 [l0, l1, l2, l3, l4] [.int (x2 + x3), .int x1, .ref x0] h Q) ∧
    (∀ (d : Nat) (l0 : Value) (l1 : Value) (l2 : Value) (l3 : Value) (l4 : Value) (x2 : Int32) (x1 : Int32) (x0 : Nat) (I : Nat → Nat → Int32) (L : Nat → Nat → Int64) (P : Nat → Nat → Option Nat) (Q : Option Value → zMm → Prop), zAk zSH x0 = some .int → zWp d zi_172 none 92 [l0, l1, l2, l3, l4] [.int x2, .int x1, .ref x0] (zSH, I, L, P) Q = (vp_in x1 (zAn zSH x0) ∧ zWp d zi_172 none 93 [l0, l1, l2, l3, l4] [] (zSH, zw I x0 (upd (I x0) x1.toNatClampNeg x2), L, P) Q)) ∧
    (∀ (d : Nat) (l0 : Nat) (l1 : Int32) (l2 : Value) (l3 : Value) (l4 : Value)  (h : zMm) (Q : Option Value → zMm → Prop), zWp d zi_172 none 93 [.ref l0, .int l1, l2, l3, l4] [] h Q = zWp d zi_172 none 96 [.ref l0, .int (l1 + 1), l2, l3, l4] [] h Q) ∧
    (∀ (d : Nat) (l0 : Value) (l1 : Value) (l2 : Value) (l3 : Value) (l4 : Value)  (h : zMm) (Q : Option Value → zMm → Prop), zWp d zi_172 none 96 [l0, l1, l2, l3, l4] [] h Q = zWp d zi_172 none 26 [l0, l1, l2, l3, l4] [] h Q) ∧
    (∀ (d : Nat) (l0 : Value) (l1 : Value) (l2 : Value) (l3 : Value) (l4 : Value)  (h : zMm) (Q : Option Value → zMm → Prop), zWp d zi_172 none 99 [l0, l1, l2, l3, l4] [] h Q = zWp d zi_172 none 100 [l0, l1, l2, l3, l4] [.int 0] h Q) ∧
    (∀ (d : Nat) (l0 : Nat) (l1 : Value) (l2 : Value) (l3 : Value) (l4 : Value) (x0 : Int32) (h : zMm) (Q : Option Value → zMm → Prop), zWp d zi_172 none 100 [.ref l0, l1, l2, l3, l4] [.int x0] h Q = zWp d zi_172 none 101 [.ref l0, .int x0, l2, l3, l4] [] h Q) ∧
    (∀ (d : Nat) (l0 : Value) (l1 : Value) (l2 : Value) (l3 : Value) (l4 : Value) (x0 : Int32) (h : zMm) (Q : Option Value → zMm → Prop), zWp d zi_172 none 102 [l0, l1, l2, l3, l4] [.int x0] h Q = zWp d zi_172 none 104 [l0, l1, l2, l3, l4] [.int 61, .int x0] h Q) ∧
    (∀ (d : Nat) (l0 : Value) (l1 : Value) (l2 : Value) (l3 : Value) (l4 : Value) (x1 : Int32) (x0 : Int32) (h : zMm) (Q : Option Value → zMm → Prop), zWp d zi_172 none 104 [l0, l1, l2, l3, l4] [.int x1, .int x0] h Q = if x1 ≤ x0 then zWp d zi_172 none 262 [l0, l1, l2, l3, l4] [] h Q else zWp d zi_172 none 107 [l0, l1, l2, l3, l4] [] h Q) ∧
    (∀ (d : Nat) (l0 : Value) (l1 : Value) (l2 : Value) (l3 : Value) (l4 : Value)  (h : zMm) (Q : Option Value → zMm → Prop), zWp d zi_172 none 107 [l0, l1, l2, l3, l4] [] h Q = zWp d zi_172 none 108 [l0, l1, l2, l3, l4] [.int 0] h Q) ∧
    (∀ (d : Nat) (l0 : Value) (l1 : Int32) (l2 : Value) (l3 : Value) (l4 : Value) (x0 : Int32) (h : zMm) (Q : Option Value → zMm → Prop), zWp d zi_172 none 108 [l0, .int l1, l2, l3, l4] [.int x0] h Q = zWp d zi_172 none 109 [l0, .int l1, .int x0, l3, l4] [] h Q) ∧
    (∀ (d : Nat) (l0 : Value) (l1 : Value) (l2 : Value) (l3 : Value) (l4 : Value)  (h : zMm) (Q : Option Value → zMm → Prop), zWp d zi_172 none 109 [l0, l1, l2, l3, l4] [] h Q = zWp d zi_172 none 110 [l0, l1, l2, l3, l4] [.int 0] h Q) ∧
    (∀ (d : Nat) (l0 : Value) (l1 : Value) (l2 : Int32) (l3 : Value) (l4 : Value) (x0 : Int32) (h : zMm) (Q : Option Value → zMm → Prop), zWp d zi_172 none 110 [l0, l1, .int l2, l3, l4] [.int x0] h Q = zWp d zi_172 none 111 [l0, l1, .int l2, .int x0, l4] [] h Q) ∧
    (∀ (d : Nat) (l0 : Nat) (l1 : Value) (l2 : Value) (l3 : Value) (l4 : Value) (x0 : Int32) (h : zMm) (Q : Option Value → zMm → Prop), zWp d zi_172 none 112 [.ref l0, l1, l2, l3, l4] [.int x0] h Q = zWp d zi_172 none 113 [.ref l0, l1, l2, l3, l4] [.ref l0, .int x0] h Q) ∧
    (∀ (d : Nat) (l0 : Value) (l1 : Value) (l2 : Value) (l3 : Value) (l4 : Value) (x1 : Nat) (x0 : Int32) (I : Nat → Nat → Int32) (L : Nat → Nat → Int64) (P : Nat → Nat → Option Nat) (Q : Option Value → zMm → Prop), zSH[x1]? = some (.inl 10) → zWp d zi_172 none 113 [l0, l1, l2, l3, l4] [.ref x1, .int x0] (zSH, I, L, P) Q = zWp d zi_172 none 116 [l0, l1, l2, l3, l4] [.int (I x1 6), .int x0] (zSH, I, L, P) Q) ∧
    (∀ (d : Nat) (l0 : Value) (l1 : Value) (l2 : Value) (l3 : Value) (l4 : Value) (x1 : Int32) (x0 : Int32) (h : zMm) (Q : Option Value → zMm → Prop), zWp d zi_172 none 116 [l0, l1, l2, l3, l4] [.int x1, .int x0] h Q = if x1 ≤ x0 then zWp d zi_172 none 194 [l0, l1, l2, l3, l4] [] h Q else zWp d zi_172 none 119 [l0, l1, l2, l3, l4] [] h Q) ∧
    (∀ (d : Nat) (l0 : Nat) (l1 : Value) (l2 : Value) (l3 : Value) (l4 : Value)  (h : zMm) (Q : Option Value → zMm → Prop), zWp d zi_172 none 119 [.ref l0, l1, l2, l3, l4] [] h Q = zWp d zi_172 none 120 [.ref l0, l1, l2, l3, l4] [.ref l0] h Q) ∧
    (∀ (d : Nat) (l0 : Value) (l1 : Value) (l2 : Value) (l3 : Int32) (l4 : Value) (x0 : Nat) (h : zMm) (Q : Option Value → zMm → Prop), zWp d zi_172 none 120 [l0, l1, l2, .int l3, l4] [.ref x0] h Q = zWp d zi_172 none 121 [l0, l1, l2, .int l3, l4] [.int l3, .ref x0] h Q) ∧
    (∀ (d : Nat) (l0 : Value) (l1 : Int32) (l2 : Value) (l3 : Value) (l4 : Value) (x1 : Int32) (x0 : Nat) (h : zMm) (Q : Option Value → zMm → Prop), zWp d zi_172 none 121 [l0, .int l1, l2, l3, l4] [.int x1, .ref x0] h Q = zWp d zi_172 none 122 [l0, .int l1, l2, l3, l4] [.int l1, .int x1, .ref x0] h Q) ∧
    (∀ (d : Nat) (l0 : Value) (l1 : Value) (l2 : Value) (l3 : Value) (l4 : Value) (x2 : Int32) (x1 : Int32) (x0 : Nat) (I : Nat → Nat → Int32) (L : Nat → Nat → Int64) (P : Nat → Nat → Option Nat) (Q : Option Value → zMm → Prop), zSH[x0]? = some (.inl 10) → zWp d zi_172 none 122 [l0, l1, l2, l3, l4] [.int x2, .int x1, .ref x0] (zSH, I, L, P) Q = zWM d 170 [.ref x0, .int x1, .int x2] (zSH, I, L, P) (fun r h1 => zWp d zi_172 none 125 [l0, l1, l2, l3, l4] (r.toList ++ []) h1 Q)) ∧
    (∀ (d : Nat) (l0 : Value) (l1 : Value) (l2 : Value) (l3 : Int32) (l4 : Value) (x0 : Int32) (h : zMm) (Q : Option Value → zMm → Prop), zWp d zi_172 none 125 [l0, l1, l2, .int l3, l4] [.int x0] h Q = zWp d zi_172 none 127 [l0, l1, l2, .int l3, .int x0] [] h Q) ∧
    (∀ (d : Nat) (l0 : Nat) (l1 : Value) (l2 : Value) (l3 : Value) (l4 : Value)  (h : zMm) (Q : Option Value → zMm → Prop), zWp d zi_172 none 127 [.ref l0, l1, l2, l3, l4] [] h Q = zWp d zi_172 none 128 [.ref l0, l1, l2, l3, l4] [.ref l0] h Q) ∧
    (∀ (d : Nat) (l0 : Value) (l1 : Value) (l2 : Value) (l3 : Value) (l4 : Value) (x0 : Nat) (I : Nat → Nat → Int32) (L : Nat → Nat → Int64) (P : Nat → Nat → Option Nat) (Q : Option Value → zMm → Prop), zSH[x0]? = some (.inl 10) → zWp d zi_172 none 128 [l0, l1, l2, l3, l4] [.ref x0] (zSH, I, L, P) Q = zWp d zi_172 none 131 [l0, l1, l2, l3, l4] [va_rf (P x0 26)] (zSH, I, L, P) Q) ∧
    (∀ (d : Nat) (l0 : Value) (l1 : Value) (l2 : Value) (l3 : Int32) (l4 : Value) (x0 : Nat) (h : zMm) (Q : Option Value → zMm → Prop), zWp d zi_172 none 131 [l0, l1, l2, .int l3, l4] [.ref x0] h Q = zWp d zi_172 none 132 [l0, l1, l2, .int l3, l4] [.int l3, .ref x0] h Q) ∧
    (∀ (d : Nat) (l0 : Value) (l1 : Value) (l2 : Value) (l3 : Value) (l4 : Value) (x1 : Int32) (x0 : Nat) (h : zMm) (Q : Option Value → zMm → Prop), zWp d zi_172 none 132 [l0, l1, l2, l3, l4] [.int x1, .ref x0] h Q = zWp d zi_172 none 133 [l0, l1, l2, l3, l4] [.int x1, .ref x0, .int x1, .ref x0] h Q) ∧
    (∀ (d : Nat) (l0 : Value) (l1 : Value) (l2 : Value) (l3 : Value) (l4 : Value) (x3 : Int32) (x2 : Nat) (x1 : Int32) (x0 : Nat) (I : Nat → Nat → Int32) (L : Nat → Nat → Int64) (P : Nat → Nat → Option Nat) (Q : Option Value → zMm → Prop), zAk zSH x2 = some .int → zWp d zi_172 none 133 [l0, l1, l2, l3, l4] [.int x3, .ref x2, .int x1, .ref x0] (zSH, I, L, P) Q = (vp_in x3 (zAn zSH x2) ∧ zWp d zi_172 none 134 [l0, l1, l2, l3, l4] [.int (I x2 x3.toNatClampNeg), .int x1, .ref x0] (zSH, I, L, P) Q)) ∧
    (∀ (d : Nat) (l0 : Value) (l1 : Value) (l2 : Value) (l3 : Value) (l4 : Int32) (x2 : Int32) (x1 : Int32) (x0 : Nat) (h : zMm) (Q : Option Value → zMm → Prop), zWp d zi_172 none 134 [l0, l1, l2, l3, .int l4] [.int x2, .int x1, .ref x0] h Q = zWp d zi_172 none 136 [l0, l1, l2, l3, .int l4] [.int l4, .int x2, .int x1, .ref x0] h Q) ∧
    (∀ (d : Nat) (l0 : Value) (l1 : Value) (l2 : Value) (l3 : Value) (l4 : Value) (x3 : Int32) (x2 : Int32) (x1 : Int32) (x0 : Nat) (h : zMm) (Q : Option Value → zMm → Prop), zWp d zi_172 none 136 [l0, l1, l2, l3, l4] [.int x3, .int x2, .int x1, .ref x0] h Q = zWp d zi_172 none 137 [l0, l1, l2, l3, l4] [.int (x2 - x3), .int x1, .ref x0] h Q) ∧
    (∀ (d : Nat) (l0 : Value) (l1 : Value) (l2 : Value) (l3 : Value) (l4 : Value) (x2 : Int32) (x1 : Int32) (x0 : Nat) (I : Nat → Nat → Int32) (L : Nat → Nat → Int64) (P : Nat → Nat → Option Nat) (Q : Option Value → zMm → Prop), zAk zSH x0 = some .int → zWp d zi_172 none 137 [l0, l1, l2, l3, l4] [.int x2, .int x1, .ref x0] (zSH, I, L, P) Q = (vp_in x1 (zAn zSH x0) ∧ zWp d zi_172 none 138 [l0, l1, l2, l3, l4] [] (zSH, zw I x0 (upd (I x0) x1.toNatClampNeg x2), L, P) Q)) ∧
    (∀ (d : Nat) (l0 : Value) (l1 : Value) (l2 : Int32) (l3 : Value) (l4 : Value)  (h : zMm) (Q : Option Value → zMm → Prop), zWp d zi_172 none 138 [l0, l1, .int l2, l3, l4] [] h Q = zWp d zi_172 none 139 [l0, l1, .int l2, l3, l4] [.int l2] h Q) ∧
    (∀ (d : Nat) (l0 : Nat) (l1 : Value) (l2 : Value) (l3 : Value) (l4 : Value) (x0 : Int32) (h : zMm) (Q : Option Value → zMm → Prop), zWp d zi_172 none 139 [.ref l0, l1, l2, l3, l4] [.int x0] h Q = zWp d zi_172 none 140 [.ref l0, l1, l2, l3, l4] [.ref l0, .int x0] h Q) ∧
    (∀ (d : Nat) (l0 : Value) (l1 : Value) (l2 : Value) (l3 : Value) (l4 : Value) (x1 : Nat) (x0 : Int32) (I : Nat → Nat → Int32) (L : Nat → Nat → Int64) (P : Nat → Nat → Option Nat) (Q : Option Value → zMm → Prop), zSH[x1]? = some (.inl 10) → zWp d zi_172 none 140 [l0, l1, l2, l3, l4] [.ref x1, .int x0] (zSH, I, L, P) Q = zWp d zi_172 none 143 [l0, l1, l2, l3, l4] [va_rf (P x1 26), .int x0] (zSH, I, L, P) Q) ∧
    (∀ (d : Nat) (l0 : Value) (l1 : Value) (l2 : Value) (l3 : Int32) (l4 : Value) (x1 : Nat) (x0 : Int32) (h : zMm) (Q : Option Value → zMm → Prop), zWp d zi_172 none 143 [l0, l1, l2, .int l3, l4] [.ref x1, .int x0] h Q = zWp d zi_172 none 144 [l0, l1, l2, .int l3, l4] [.int l3, .ref x1, .int x0] h Q) ∧
    (∀ (d : Nat) (l0 : Value) (l1 : Value) (l2 : Value) (l3 : Value) (l4 : Value) (x2 : Int32) (x1 : Nat) (x0 : Int32) (I : Nat → Nat → Int32) (L : Nat → Nat → Int64) (P : Nat → Nat → Option Nat) (Q : Option Value → zMm → Prop), zAk zSH x1 = some .int → zWp d zi_172 none 144 [l0, l1, l2, l3, l4] [.int x2, .ref x1, .int x0] (zSH, I, L, P) Q = (vp_in x2 (zAn zSH x1) ∧ zWp d zi_172 none 145 [l0, l1, l2, l3, l4] [.int (I x1 x2.toNatClampNeg), .int x0] (zSH, I, L, P) Q)) ∧
    (∀ (d : Nat) (l0 : Value) (l1 : Value) (l2 : Value) (l3 : Value) (l4 : Value) (x1 : Int32) (x0 : Int32) (h : zMm) (Q : Option Value → zMm → Prop), zWp d zi_172 none 145 [l0, l1, l2, l3, l4] [.int x1, .int x0] h Q = zWp d zi_172 none 146 [l0, l1, l2, l3, l4] [.int (x0 + x1)] h Q) ∧
    (∀ (d : Nat) (l0 : Value) (l1 : Int32) (l2 : Value) (l3 : Value) (l4 : Value) (x0 : Int32) (h : zMm) (Q : Option Value → zMm → Prop), zWp d zi_172 none 146 [l0, .int l1, l2, l3, l4] [.int x0] h Q = zWp d zi_172 none 147 [l0, .int l1, .int x0, l3, l4] [] h Q) ∧
    (∀ (d : Nat) (l0 : Nat) (l1 : Value) (l2 : Value) (l3 : Value) (l4 : Value)  (h : zMm) (Q : Option Value → zMm → Prop), zWp d zi_172 none 147 [.ref l0, l1, l2, l3, l4] [] h Q = zWp d zi_172 none 148 [.ref l0, l1, l2, l3, l4] [.ref l0] h Q) ∧
    (∀ (d : Nat) (l0 : Value) (l1 : Value) (l2 : Value) (l3 : Value) (l4 : Value) (x0 : Nat) (I : Nat → Nat → Int32) (L : Nat → Nat → Int64) (P : Nat → Nat → Option Nat) (Q : Option Value → zMm → Prop), zSH[x0]? = some (.inl 10) → zWp d zi_172 none 148 [l0, l1, l2, l3, l4] [.ref x0] (zSH, I, L, P) Q = zWp d zi_172 none 151 [l0, l1, l2, l3, l4] [va_rf (P x0 28)] (zSH, I, L, P) Q) ∧
    (∀ (d : Nat) (l0 : Value) (l1 : Value) (l2 : Value) (l3 : Value) (l4 : Value) (x0 : Nat) (h : zMm) (Q : Option Value → zMm → Prop), zWp d zi_172 none 151 [l0, l1, l2, l3, l4] [.ref x0] h Q = zWp d zi_172 none 153 [l0, l1, l2, l3, l4] [.int 24, .ref x0] h Q) ∧
    (∀ (d : Nat) (l0 : Value) (l1 : Int32) (l2 : Value) (l3 : Value) (l4 : Value) (x1 : Int32) (x0 : Nat) (h : zMm) (Q : Option Value → zMm → Prop), zWp d zi_172 none 153 [l0, .int l1, l2, l3, l4] [.int x1, .ref x0] h Q = zWp d zi_172 none 154 [l0, .int l1, l2, l3, l4] [.int l1, .int x1, .ref x0] h Q) ∧
    (∀ (d : Nat) (l0 : Value) (l1 : Value) (l2 : Value) (l3 : Value) (l4 : Value) (x2 : Int32) (x1 : Int32) (x0 : Nat) (h : zMm) (Q : Option Value → zMm → Prop), zWp d zi_172 none 154 [l0, l1, l2, l3, l4] [.int x2, .int x1, .ref x0] h Q = zWp d zi_172 none 155 [l0, l1, l2, l3, l4] [.int (x1 * x2), .ref x0] h Q) ∧
    (∀ (d : Nat) (l0 : Value) (l1 : Value) (l2 : Value) (l3 : Int32) (l4 : Value) (x1 : Int32) (x0 : Nat) (h : zMm) (Q : Option Value → zMm → Prop), zWp d zi_172 none 155 [l0, l1, l2, .int l3, l4] [.int x1, .ref x0] h Q = zWp d zi_172 none 156 [l0, l1, l2, .int l3, l4] [.int l3, .int x1, .ref x0] h Q) ∧
    (∀ (d : Nat) (l0 : Value) (l1 : Value) (l2 : Value) (l3 : Value) (l4 : Value) (x2 : Int32) (x1 : Int32) (x0 : Nat) (h : zMm) (Q : Option Value → zMm → Prop), zWp d zi_172 none 156 [l0, l1, l2, l3, l4] [.int x2, .int x1, .ref x0] h Q = zWp d zi_172 none 157 [l0, l1, l2, l3, l4] [.int (x1 + x2), .ref x0] h Q) ∧
    (∀ (d : Nat) (l0 : Value) (l1 : Value) (l2 : Value) (l3 : Value) (l4 : Int32) (x1 : Int32) (x0 : Nat) (h : zMm) (Q : Option Value → zMm → Prop), zWp d zi_172 none 157 [l0, l1, l2, l3, .int l4] [.int x1, .ref x0] h Q = zWp d zi_172 none 159 [l0, l1, l2, l3, .int l4] [.int l4, .int x1, .ref x0] h Q) ∧
    (∀ (d : Nat) (l0 : Value) (l1 : Value) (l2 : Value) (l3 : Value) (l4 : Value) (x2 : Int32) (x1 : Int32) (x0 : Nat) (I : Nat → Nat → Int32) (L : Nat → Nat → Int64) (P : Nat → Nat → Option Nat) (Q : Option Value → zMm → Prop), zAk zSH x0 = some .int → zWp d zi_172 none 159 [l0, l1, l2, l3, l4] [.int x2, .int x1, .ref x0] (zSH, I, L, P) Q = (vp_in x1 (zAn zSH x0) ∧ zWp d zi_172 none 160 [l0, l1, l2, l3, l4] [] (zSH, zw I x0 (upd (I x0) x1.toNatClampNeg x2), L, P) Q)) ∧
    (∀ (d : Nat) (l0 : Nat) (l1 : Value) (l2 : Value) (l3 : Value) (l4 : Value)  (h : zMm) (Q : Option Value → zMm → Prop), zWp d zi_172 none 160 [.ref l0, l1, l2, l3, l4] [] h Q = zWp d zi_172 none 161 [.ref l0, l1, l2, l3, l4] [.ref l0] h Q) ∧
    (∀ (d : Nat) (l0 : Value) (l1 : Value) (l2 : Value) (l3 : Value) (l4 : Value) (x0 : Nat) (I : Nat → Nat → Int32) (L : Nat → Nat → Int64) (P : Nat → Nat → Option Nat) (Q : Option Value → zMm → Prop), zSH[x0]? = some (.inl 10) → zWp d zi_172 none 161 [l0, l1, l2, l3, l4] [.ref x0] (zSH, I, L, P) Q = zWp d zi_172 none 164 [l0, l1, l2, l3, l4] [va_rf (P x0 27)] (zSH, I, L, P) Q) ∧
    (∀ (d : Nat) (l0 : Value) (l1 : Value) (l2 : Value) (l3 : Value) (l4 : Value) (x0 : Nat) (h : zMm) (Q : Option Value → zMm → Prop), zWp d zi_172 none 164 [l0, l1, l2, l3, l4] [.ref x0] h Q = zWp d zi_172 none 166 [l0, l1, l2, l3, l4] [.int 24, .ref x0] h Q) ∧
    (∀ (d : Nat) (l0 : Value) (l1 : Int32) (l2 : Value) (l3 : Value) (l4 : Value) (x1 : Int32) (x0 : Nat) (h : zMm) (Q : Option Value → zMm → Prop), zWp d zi_172 none 166 [l0, .int l1, l2, l3, l4] [.int x1, .ref x0] h Q = zWp d zi_172 none 167 [l0, .int l1, l2, l3, l4] [.int l1, .int x1, .ref x0] h Q) ∧
    (∀ (d : Nat) (l0 : Value) (l1 : Value) (l2 : Value) (l3 : Value) (l4 : Value) (x2 : Int32) (x1 : Int32) (x0 : Nat) (h : zMm) (Q : Option Value → zMm → Prop), zWp d zi_172 none 167 [l0, l1, l2, l3, l4] [.int x2, .int x1, .ref x0] h Q = zWp d zi_172 none 168 [l0, l1, l2, l3, l4] [.int (x1 * x2), .ref x0] h Q) ∧
    (∀ (d : Nat) (l0 : Value) (l1 : Value) (l2 : Value) (l3 : Int32) (l4 : Value) (x1 : Int32) (x0 : Nat) (h : zMm) (Q : Option Value → zMm → Prop), zWp d zi_172 none 168 [l0, l1, l2, .int l3, l4] [.int x1, .ref x0] h Q = zWp d zi_172 none 169 [l0, l1, l2, .int l3, l4] [.int l3, .int x1, .ref x0] h Q) ∧
    (∀ (d : Nat) (l0 : Value) (l1 : Value) (l2 : Value) (l3 : Value) (l4 : Value) (x2 : Int32) (x1 : Int32) (x0 : Nat) (h : zMm) (Q : Option Value → zMm → Prop), zWp d zi_172 none 169 [l0, l1, l2, l3, l4] [.int x2, .int x1, .ref x0] h Q = zWp d zi_172 none 170 [l0, l1, l2, l3, l4] [.int (x1 + x2), .ref x0] h Q) ∧
    (∀ (d : Nat) (l0 : Nat) (l1 : Value) (l2 : Value) (l3 : Value) (l4 : Value) (x1 : Int32) (x0 : Nat) (h : zMm) (Q : Option Value → zMm → Prop), zWp d zi_172 none 170 [.ref l0, l1, l2, l3, l4] [.int x1, .ref x0] h Q = zWp d zi_172 none 171 [.ref l0, l1, l2, l3, l4] [.ref l0, .int x1, .ref x0] h Q) ∧
    (∀ (d : Nat) (l0 : Value) (l1 : Value) (l2 : Value) (l3 : Value) (l4 : Value) (x2 : Nat) (x1 : Int32) (x0 : Nat) (I : Nat → Nat → Int32) (L : Nat → Nat → Int64) (P : Nat → Nat → Option Nat) (Q : Option Value → zMm → Prop), zSH[x2]? = some (.inl 10) → zWp d zi_172 none 171 [l0, l1, l2, l3, l4] [.ref x2, .int x1, .ref x0] (zSH, I, L, P) Q = zWp d zi_172 none 174 [l0, l1, l2, l3, l4] [va_rf (P x2 26), .int x1, .ref x0] (zSH, I, L, P) Q) ∧
    (∀ (d : Nat) (l0 : Value) (l1 : Value) (l2 : Value) (l3 : Int32) (l4 : Value) (x2 : Nat) (x1 : Int32) (x0 : Nat) (h : zMm) (Q : Option Value → zMm → Prop), zWp d zi_172 none 174 [l0, l1, l2, .int l3, l4] [.ref x2, .int x1, .ref x0] h Q = zWp d zi_172 none 175 [l0, l1, l2, .int l3, l4] [.int l3, .ref x2, .int x1, .ref x0] h Q) ∧
    (∀ (d : Nat) (l0 : Value) (l1 : Value) (l2 : Value) (l3 : Value) (l4 : Value) (x3 : Int32) (x2 : Nat) (x1 : Int32) (x0 : Nat) (I : Nat → Nat → Int32) (L : Nat → Nat → Int64) (P : Nat → Nat → Option Nat) (Q : Option Value → zMm → Prop), zAk zSH x2 = some .int → zWp d zi_172 none 175 [l0, l1, l2, l3, l4] [.int x3, .ref x2, .int x1, .ref x0] (zSH, I, L, P) Q = (vp_in x3 (zAn zSH x2) ∧ zWp d zi_172 none 176 [l0, l1, l2, l3, l4] [.int (I x2 x3.toNatClampNeg), .int x1, .ref x0] (zSH, I, L, P) Q)) ∧
    (∀ (d : Nat) (l0 : Value) (l1 : Value) (l2 : Value) (l3 : Value) (l4 : Value) (x2 : Int32) (x1 : Int32) (x0 : Nat) (I : Nat → Nat → Int32) (L : Nat → Nat → Int64) (P : Nat → Nat → Option Nat) (Q : Option Value → zMm → Prop), zAk zSH x0 = some .int → zWp d zi_172 none 176 [l0, l1, l2, l3, l4] [.int x2, .int x1, .ref x0] (zSH, I, L, P) Q = (vp_in x1 (zAn zSH x0) ∧ zWp d zi_172 none 177 [l0, l1, l2, l3, l4] [] (zSH, zw I x0 (upd (I x0) x1.toNatClampNeg x2), L, P) Q)) ∧
    (∀ (d : Nat) (l0 : Nat) (l1 : Value) (l2 : Value) (l3 : Value) (l4 : Value)  (h : zMm) (Q : Option Value → zMm → Prop), zWp d zi_172 none 177 [.ref l0, l1, l2, l3, l4] [] h Q = zWp d zi_172 none 178 [.ref l0, l1, l2, l3, l4] [.ref l0] h Q) ∧
    (∀ (d : Nat) (l0 : Value) (l1 : Value) (l2 : Value) (l3 : Value) (l4 : Value) (x0 : Nat) (I : Nat → Nat → Int32) (L : Nat → Nat → Int64) (P : Nat → Nat → Option Nat) (Q : Option Value → zMm → Prop), zSH[x0]? = some (.inl 10) → zWp d zi_172 none 178 [l0, l1, l2, l3, l4] [.ref x0] (zSH, I, L, P) Q = zWp d zi_172 none 181 [l0, l1, l2, l3, l4] [va_rf (P x0 23)] (zSH, I, L, P) Q) ∧
    (∀ (d : Nat) (l0 : Value) (l1 : Value) (l2 : Value) (l3 : Int32) (l4 : Value) (x0 : Nat) (h : zMm) (Q : Option Value → zMm → Prop), zWp d zi_172 none 181 [l0, l1, l2, .int l3, l4] [.ref x0] h Q = zWp d zi_172 none 182 [l0, l1, l2, .int l3, l4] [.int l3, .ref x0] h Q) ∧
    (∀ (d : Nat) (l0 : Nat) (l1 : Value) (l2 : Value) (l3 : Value) (l4 : Value) (x1 : Int32) (x0 : Nat) (h : zMm) (Q : Option Value → zMm → Prop), zWp d zi_172 none 182 [.ref l0, l1, l2, l3, l4] [.int x1, .ref x0] h Q = zWp d zi_172 none 183 [.ref l0, l1, l2, l3, l4] [.ref l0, .int x1, .ref x0] h Q) ∧
    (∀ (d : Nat) (l0 : Value) (l1 : Value) (l2 : Value) (l3 : Int32) (l4 : Value) (x2 : Nat) (x1 : Int32) (x0 : Nat) (h : zMm) (Q : Option Value → zMm → Prop), zWp d zi_172 none 183 [l0, l1, l2, .int l3, l4] [.ref x2, .int x1, .ref x0] h Q = zWp d zi_172 none 184 [l0, l1, l2, .int l3, l4] [.int l3, .ref x2, .int x1, .ref x0] h Q) ∧
    (∀ (d : Nat) (l0 : Value) (l1 : Value) (l2 : Value) (l3 : Value) (l4 : Value) (x3 : Int32) (x2 : Nat) (x1 : Int32) (x0 : Nat) (I : Nat → Nat → Int32) (L : Nat → Nat → Int64) (P : Nat → Nat → Option Nat) (Q : Option Value → zMm → Prop), zSH[x2]? = some (.inl 10) → zWp d zi_172 none 184 [l0, l1, l2, l3, l4] [.int x3, .ref x2, .int x1, .ref x0] (zSH, I, L, P) Q = zWM d 171 [.ref x2, .int x3] (zSH, I, L, P) (fun r h1 => zWp d zi_172 none 187 [l0, l1, l2, l3, l4] (r.toList ++ [.int x1, .ref x0]) h1 Q)) ∧
    (∀ (d : Nat) (l0 : Value) (l1 : Value) (l2 : Value) (l3 : Value) (l4 : Value) (x2 : Int32) (x1 : Int32) (x0 : Nat) (I : Nat → Nat → Int32) (L : Nat → Nat → Int64) (P : Nat → Nat → Option Nat) (Q : Option Value → zMm → Prop), zAk zSH x0 = some .int → zWp d zi_172 none 187 [l0, l1, l2, l3, l4] [.int x2, .int x1, .ref x0] (zSH, I, L, P) Q = (vp_in x1 (zAn zSH x0) ∧ zWp d zi_172 none 188 [l0, l1, l2, l3, l4] [] (zSH, zw I x0 (upd (I x0) x1.toNatClampNeg x2), L, P) Q)) ∧
    (∀ (d : Nat) (l0 : Value) (l1 : Value) (l2 : Int32) (l3 : Int32) (l4 : Value)  (h : zMm) (Q : Option Value → zMm → Prop), zWp d zi_172 none 188 [l0, l1, .int l2, .int l3, l4] [] h Q = zWp d zi_172 none 191 [l0, l1, .int l2, .int (l3 + 1), l4] [] h Q) ∧
    (∀ (d : Nat) (l0 : Value) (l1 : Value) (l2 : Value) (l3 : Value) (l4 : Value)  (h : zMm) (Q : Option Value → zMm → Prop), zWp d zi_172 none 191 [l0, l1, l2, l3, l4] [] h Q = zWp d zi_172 none 111 [l0, l1, l2, l3, l4] [] h Q) ∧
    (∀ (d : Nat) (l0 : Nat) (l1 : Value) (l2 : Value) (l3 : Value) (l4 : Value)  (h : zMm) (Q : Option Value → zMm → Prop), zWp d zi_172 none 194 [.ref l0, l1, l2, l3, l4] [] h Q = zWp d zi_172 none 195 [.ref l0, l1, l2, l3, l4] [.ref l0] h Q) ∧
    (∀ (d : Nat) (l0 : Nat) (l1 : Value) (l2 : Value) (l3 : Value) (l4 : Value) (x0 : Nat) (h : zMm) (Q : Option Value → zMm → Prop), zWp d zi_172 none 195 [.ref l0, l1, l2, l3, l4] [.ref x0] h Q = zWp d zi_172 none 196 [.ref l0, l1, l2, l3, l4] [.ref l0, .ref x0] h Q) ∧
    (∀ (d : Nat) (l0 : Value) (l1 : Value) (l2 : Value) (l3 : Value) (l4 : Value) (x1 : Nat) (x0 : Nat) (I : Nat → Nat → Int32) (L : Nat → Nat → Int64) (P : Nat → Nat → Option Nat) (Q : Option Value → zMm → Prop), zSH[x1]? = some (.inl 10) → zWp d zi_172 none 196 [l0, l1, l2, l3, l4] [.ref x1, .ref x0] (zSH, I, L, P) Q = zWp d zi_172 none 199 [l0, l1, l2, l3, l4] [.int (I x1 32), .ref x0] (zSH, I, L, P) Q) ∧
    (∀ (d : Nat) (l0 : Value) (l1 : Value) (l2 : Value) (l3 : Value) (l4 : Value) (x1 : Int32) (x0 : Nat) (h : zMm) (Q : Option Value → zMm → Prop), zWp d zi_172 none 199 [l0, l1, l2, l3, l4] [.int x1, .ref x0] h Q = if 0 ≤ x1 then zWp d zi_172 none 210 [l0, l1, l2, l3, l4] [.ref x0] h Q else zWp d zi_172 none 202 [l0, l1, l2, l3, l4] [.ref x0] h Q) ∧
    (∀ (d : Nat) (l0 : Value) (l1 : Value) (l2 : Int32) (l3 : Value) (l4 : Value) (x0 : Nat) (h : zMm) (Q : Option Value → zMm → Prop), zWp d zi_172 none 202 [l0, l1, .int l2, l3, l4] [.ref x0] h Q = zWp d zi_172 none 203 [l0, l1, .int l2, l3, l4] [.int l2, .ref x0] h Q) ∧
    (∀ (d : Nat) (l0 : Value) (l1 : Value) (l2 : Value) (l3 : Value) (l4 : Value) (x1 : Int32) (x0 : Nat) (h : zMm) (Q : Option Value → zMm → Prop), zWp d zi_172 none 203 [l0, l1, l2, l3, l4] [.int x1, .ref x0] h Q = if x1 = 0 then zWp d zi_172 none 206 [l0, l1, l2, l3, l4] [.ref x0] h Q else zWp d zi_172 none 210 [l0, l1, l2, l3, l4] [.ref x0] h Q) ∧
    (∀ (d : Nat) (l0 : Value) (l1 : Int32) (l2 : Value) (l3 : Value) (l4 : Value) (x0 : Nat) (h : zMm) (Q : Option Value → zMm → Prop), zWp d zi_172 none 206 [l0, .int l1, l2, l3, l4] [.ref x0] h Q = zWp d zi_172 none 207 [l0, .int l1, l2, l3, l4] [.int l1, .ref x0] h Q) ∧
    (∀ (d : Nat) (l0 : Value) (l1 : Value) (l2 : Value) (l3 : Value) (l4 : Value) (x1 : Int32) (x0 : Nat) (h : zMm) (Q : Option Value → zMm → Prop), zWp d zi_172 none 207 [l0, l1, l2, l3, l4] [.int x1, .ref x0] h Q = zWp d zi_172 none 214 [l0, l1, l2, l3, l4] [.int x1, .ref x0] h Q) ∧
    (∀ (d : Nat) (l0 : Nat) (l1 : Value) (l2 : Value) (l3 : Value) (l4 : Value) (x0 : Nat) (h : zMm) (Q : Option Value → zMm → Prop), zWp d zi_172 none 210 [.ref l0, l1, l2, l3, l4] [.ref x0] h Q = zWp d zi_172 none 211 [.ref l0, l1, l2, l3, l4] [.ref l0, .ref x0] h Q) ∧
    (∀ (d : Nat) (l0 : Value) (l1 : Value) (l2 : Value) (l3 : Value) (l4 : Value) (x1 : Nat) (x0 : Nat) (I : Nat → Nat → Int32) (L : Nat → Nat → Int64) (P : Nat → Nat → Option Nat) (Q : Option Value → zMm → Prop), zSH[x1]? = some (.inl 10) → zWp d zi_172 none 211 [l0, l1, l2, l3, l4] [.ref x1, .ref x0] (zSH, I, L, P) Q = zWp d zi_172 none 214 [l0, l1, l2, l3, l4] [.int (I x1 32), .ref x0] (zSH, I, L, P) Q) ∧
    (∀ (d : Nat) (l0 : Value) (l1 : Value) (l2 : Value) (l3 : Value) (l4 : Value) (x1 : Int32) (x0 : Nat) (I : Nat → Nat → Int32) (L : Nat → Nat → Int64) (P : Nat → Nat → Option Nat) (Q : Option Value → zMm → Prop), zSH[x0]? = some (.inl 10) → zWp d zi_172 none 214 [l0, l1, l2, l3, l4] [.int x1, .ref x0] (zSH, I, L, P) Q = zWp d zi_172 none 217 [l0, l1, l2, l3, l4] [] (zSH, zw I x0 (upd (I x0) 32 x1), L, P) Q) ∧
    (∀ (d : Nat) (l0 : Nat) (l1 : Value) (l2 : Value) (l3 : Value) (l4 : Value)  (h : zMm) (Q : Option Value → zMm → Prop), zWp d zi_172 none 217 [.ref l0, l1, l2, l3, l4] [] h Q = zWp d zi_172 none 218 [.ref l0, l1, l2, l3, l4] [.ref l0] h Q) ∧
    (∀ (d : Nat) (l0 : Value) (l1 : Value) (l2 : Value) (l3 : Value) (l4 : Value) (x0 : Nat) (I : Nat → Nat → Int32) (L : Nat → Nat → Int64) (P : Nat → Nat → Option Nat) (Q : Option Value → zMm → Prop), zSH[x0]? = some (.inl 10) → zWp d zi_172 none 218 [l0, l1, l2, l3, l4] [.ref x0] (zSH, I, L, P) Q = zWp d zi_172 none 221 [l0, l1, l2, l3, l4] [.int (I x0 29)] (zSH, I, L, P) Q) ∧
    (∀ (d : Nat) (l0 : Value) (l1 : Value) (l2 : Value) (l3 : Value) (l4 : Value) (x0 : Int32) (h : zMm) (Q : Option Value → zMm → Prop), zWp d zi_172 none 221 [l0, l1, l2, l3, l4] [.int x0] h Q = if 0 ≤ x0 then zWp d zi_172 none 231 [l0, l1, l2, l3, l4] [] h Q else zWp d zi_172 none 224 [l0, l1, l2, l3, l4] [] h Q) ∧
    (∀ (d : Nat) (l0 : Nat) (l1 : Value) (l2 : Value) (l3 : Value) (l4 : Value)  (h : zMm) (Q : Option Value → zMm → Prop), zWp d zi_172 none 224 [.ref l0, l1, l2, l3, l4] [] h Q = zWp d zi_172 none 225 [.ref l0, l1, l2, l3, l4] [.ref l0] h Q) ∧
    (∀ (d : Nat) (l0 : Value) (l1 : Value) (l2 : Value) (l3 : Value) (l4 : Value) (x0 : Nat) (I : Nat → Nat → Int32) (L : Nat → Nat → Int64) (P : Nat → Nat → Option Nat) (Q : Option Value → zMm → Prop), zSH[x0]? = some (.inl 10) → zWp d zi_172 none 225 [l0, l1, l2, l3, l4] [.ref x0] (zSH, I, L, P) Q = zWM d 161 [.ref x0] (zSH, I, L, P) (fun r h1 => zWp d zi_172 none 228 [l0, l1, l2, l3, l4] (r.toList ++ []) h1 Q)) ∧
    (∀ (d : Nat) (l0 : Value) (l1 : Value) (l2 : Value) (l3 : Value) (l4 : Value) (x0 : Int32) (h : zMm) (Q : Option Value → zMm → Prop), zWp d zi_172 none 228 [l0, l1, l2, l3, l4] [.int x0] h Q = zWp d zi_172 none 232 [l0, l1, l2, l3, l4] [.int x0] h Q) ∧
    (∀ (d : Nat) (l0 : Value) (l1 : Value) (l2 : Value) (l3 : Value) (l4 : Value)  (h : zMm) (Q : Option Value → zMm → Prop), zWp d zi_172 none 231 [l0, l1, l2, l3, l4] [] h Q = zWp d zi_172 none 232 [l0, l1, l2, l3, l4] [.int (-1)] h Q) ∧
    (∀ (d : Nat) (l0 : Value) (l1 : Value) (l2 : Int32) (l3 : Value) (l4 : Value) (x0 : Int32) (h : zMm) (Q : Option Value → zMm → Prop), zWp d zi_172 none 232 [l0, l1, .int l2, l3, l4] [.int x0] h Q = zWp d zi_172 none 233 [l0, l1, .int l2, .int x0, l4] [] h Q) ∧
    (∀ (d : Nat) (l0 : Value) (l1 : Value) (l2 : Value) (l3 : Int32) (l4 : Value)  (h : zMm) (Q : Option Value → zMm → Prop), zWp d zi_172 none 233 [l0, l1, l2, .int l3, l4] [] h Q = zWp d zi_172 none 234 [l0, l1, l2, .int l3, l4] [.int l3] h Q) ∧
    (∀ (d : Nat) (l0 : Value) (l1 : Value) (l2 : Value) (l3 : Value) (l4 : Value) (x0 : Int32) (h : zMm) (Q : Option Value → zMm → Prop), zWp d zi_172 none 234 [l0, l1, l2, l3, l4] [.int x0] h Q = if x0 < 0 then zWp d zi_172 none 256 [l0, l1, l2, l3, l4] [] h Q else zWp d zi_172 none 237 [l0, l1, l2, l3, l4] [] h Q) ∧
    (∀ (d : Nat) (l0 : Nat) (l1 : Value) (l2 : Value) (l3 : Value) (l4 : Value)  (h : zMm) (Q : Option Value → zMm → Prop), zWp d zi_172 none 237 [.ref l0, l1, l2, l3, l4] [] h Q = zWp d zi_172 none 238 [.ref l0, l1, l2, l3, l4] [.ref l0] h Q) ∧
    (∀ (d : Nat) (l0 : Value) (l1 : Int32) (l2 : Value) (l3 : Value) (l4 : Value) (x0 : Nat) (h : zMm) (Q : Option Value → zMm → Prop), zWp d zi_172 none 238 [l0, .int l1, l2, l3, l4] [.ref x0] h Q = zWp d zi_172 none 239 [l0, .int l1, l2, l3, l4] [.int l1, .ref x0] h Q) ∧
    (∀ (d : Nat) (l0 : Value) (l1 : Value) (l2 : Value) (l3 : Value) (l4 : Value) (x1 : Int32) (x0 : Nat) (I : Nat → Nat → Int32) (L : Nat → Nat → Int64) (P : Nat → Nat → Option Nat) (Q : Option Value → zMm → Prop), zSH[x0]? = some (.inl 10) → zWp d zi_172 none 239 [l0, l1, l2, l3, l4] [.int x1, .ref x0] (zSH, I, L, P) Q = zWp d zi_172 none 242 [l0, l1, l2, l3, l4] [] (zSH, zw I x0 (upd (I x0) 29 x1), L, P) Q) ∧
    (∀ (d : Nat) (l0 : Nat) (l1 : Value) (l2 : Value) (l3 : Value) (l4 : Value)  (h : zMm) (Q : Option Value → zMm → Prop), zWp d zi_172 none 242 [.ref l0, l1, l2, l3, l4] [] h Q = zWp d zi_172 none 243 [.ref l0, l1, l2, l3, l4] [.ref l0] h Q) ∧
    (∀ (d : Nat) (l0 : Value) (l1 : Value) (l2 : Value) (l3 : Int32) (l4 : Value) (x0 : Nat) (h : zMm) (Q : Option Value → zMm → Prop), zWp d zi_172 none 243 [l0, l1, l2, .int l3, l4] [.ref x0] h Q = zWp d zi_172 none 244 [l0, l1, l2, .int l3, l4] [.int l3, .ref x0] h Q) ∧
    (∀ (d : Nat) (l0 : Value) (l1 : Value) (l2 : Value) (l3 : Value) (l4 : Value) (x1 : Int32) (x0 : Nat) (I : Nat → Nat → Int32) (L : Nat → Nat → Int64) (P : Nat → Nat → Option Nat) (Q : Option Value → zMm → Prop), zSH[x0]? = some (.inl 10) → zWp d zi_172 none 244 [l0, l1, l2, l3, l4] [.int x1, .ref x0] (zSH, I, L, P) Q = zWp d zi_172 none 247 [l0, l1, l2, l3, l4] [] (zSH, zw I x0 (upd (I x0) 30 x1), L, P) Q) ∧
    (∀ (d : Nat) (l0 : Nat) (l1 : Value) (l2 : Value) (l3 : Value) (l4 : Value)  (h : zMm) (Q : Option Value → zMm → Prop), zWp d zi_172 none 247 [.ref l0, l1, l2, l3, l4] [] h Q = zWp d zi_172 none 248 [.ref l0, l1, l2, l3, l4] [.ref l0] h Q) ∧
    (∀ (d : Nat) (l0 : Nat) (l1 : Value) (l2 : Value) (l3 : Value) (l4 : Value) (x0 : Nat) (h : zMm) (Q : Option Value → zMm → Prop), zWp d zi_172 none 248 [.ref l0, l1, l2, l3, l4] [.ref x0] h Q = zWp d zi_172 none 249 [.ref l0, l1, l2, l3, l4] [.ref l0, .ref x0] h Q) ∧
    (∀ (d : Nat) (l0 : Value) (l1 : Value) (l2 : Value) (l3 : Int32) (l4 : Value) (x1 : Nat) (x0 : Nat) (h : zMm) (Q : Option Value → zMm → Prop), zWp d zi_172 none 249 [l0, l1, l2, .int l3, l4] [.ref x1, .ref x0] h Q = zWp d zi_172 none 250 [l0, l1, l2, .int l3, l4] [.int l3, .ref x1, .ref x0] h Q) ∧
    (∀ (d : Nat) (l0 : Value) (l1 : Value) (l2 : Value) (l3 : Value) (l4 : Value) (x2 : Int32) (x1 : Nat) (x0 : Nat) (I : Nat → Nat → Int32) (L : Nat → Nat → Int64) (P : Nat → Nat → Option Nat) (Q : Option Value → zMm → Prop), zSH[x1]? = some (.inl 10) → zWp d zi_172 none 250 [l0, l1, l2, l3, l4] [.int x2, .ref x1, .ref x0] (zSH, I, L, P) Q = zWM d 162 [.ref x1, .int x2] (zSH, I, L, P) (fun r h1 => zWp d zi_172 none 253 [l0, l1, l2, l3, l4] (r.toList ++ [.ref x0]) h1 Q)) ∧
    (∀ (d : Nat) (l0 : Value) (l1 : Value) (l2 : Value) (l3 : Value) (l4 : Value) (x1 : Int32) (x0 : Nat) (I : Nat → Nat → Int32) (L : Nat → Nat → Int64) (P : Nat → Nat → Option Nat) (Q : Option Value → zMm → Prop), zSH[x0]? = some (.inl 10) → zWp d zi_172 none 253 [l0, l1, l2, l3, l4] [.int x1, .ref x0] (zSH, I, L, P) Q = zWp d zi_172 none 256 [l0, l1, l2, l3, l4] [] (zSH, zw I x0 (upd (I x0) 31 x1), L, P) Q) ∧
    (∀ (d : Nat) (l0 : Nat) (l1 : Int32) (l2 : Value) (l3 : Value) (l4 : Value)  (h : zMm) (Q : Option Value → zMm → Prop), zWp d zi_172 none 256 [.ref l0, .int l1, l2, l3, l4] [] h Q = zWp d zi_172 none 259 [.ref l0, .int (l1 + 1), l2, l3, l4] [] h Q) ∧
    (∀ (d : Nat) (l0 : Value) (l1 : Value) (l2 : Value) (l3 : Value) (l4 : Value)  (h : zMm) (Q : Option Value → zMm → Prop), zWp d zi_172 none 259 [l0, l1, l2, l3, l4] [] h Q = zWp d zi_172 none 101 [l0, l1, l2, l3, l4] [] h Q) ∧
    (∀ (d : Nat) (l0 : Value) (l1 : Value) (l2 : Value) (l3 : Value) (l4 : Value)  (h : zMm) (Q : Option Value → zMm → Prop), zWp d zi_172 none 262 [l0, l1, l2, l3, l4] [] h Q = Q none h) :=
  ⟨(fun d l0 l1 l2 l3 l4  h Q => zr_aload_n rfl rfl),
   (fun d l0 l1 l2 l3 l4 x0 h Q => zr_bipush rfl (by decide)),
   (fun d l0 l1 l2 l3 l4 x1 x0 I L P Q p0 => zr_putI rfl lf_10_259 (by decide) rfl p0),
   (fun d l0 l1 l2 l3 l4  h Q => zr_aload_n rfl rfl),
   (fun d l0 l1 l2 l3 l4 x0 h Q => zr_bipush rfl (by decide)),
   (fun d l0 l1 l2 l3 l4 x1 x0 I L P Q p0 => zr_putI rfl lf_10_262 (by decide) rfl p0),
   (fun d l0 l1 l2 l3 l4  h Q => zr_aload_n rfl rfl),
   (fun d l0 l1 l2 l3 l4 x0 h Q => zr_bipush rfl (by decide)),
   (fun d l0 l1 l2 l3 l4 x1 x0 I L P Q p0 => zr_putI rfl lf_10_265 (by decide) rfl p0),
   (fun d l0 l1 l2 l3 l4  h Q => zr_aload_n rfl rfl),
   (fun d l0 l1 l2 l3 l4 x0 h Q => zr_bipush rfl (by decide)),
   (fun d l0 l1 l2 l3 l4 x1 x0 I L P Q p0 => zr_putI rfl lf_10_268 (by decide) rfl p0),
   (fun d l0 l1 l2 l3 l4  h Q => zr_iconst rfl (by decide)),
   (fun d l0 l1 l2 l3 l4 x0 h Q => zr_istore_n (n := 1) rfl (Nat.le_of_ble_eq_true rfl) rfl),
   (fun d l0 l1 l2 l3 l4 x0 h Q => zr_aload_n rfl rfl),
   (fun d l0 l1 l2 l3 l4 x1 x0 I L P Q p0 => zr_getI rfl lf_10_99 (fun _ _ _ => rfl) p0),
   (fun d l0 l1 l2 l3 l4 x1 x0 h Q => zr_ic_ge rfl (by decide)),
   (fun d l0 l1 l2 l3 l4  h Q => zr_aload_n rfl rfl),
   (fun d l0 l1 l2 l3 l4 x0 I L P Q p0 => zr_getQ rfl lf_10_49 (fun _ _ _ => rfl) p0),
   (fun d l0 l1 l2 l3 l4 x0 h Q => zr_iload_n rfl rfl),
   (fun d l0 l1 l2 l3 l4 x1 x0 h Q => zr_aload_n rfl rfl),
   (fun d l0 l1 l2 l3 l4 x2 x1 x0 h Q => zr_iload_n rfl rfl),
   (fun d l0 l1 l2 l3 l4 x3 x2 x1 x0 I L P Q p0 => zr_vir (as := [.int x3]) (rest := [.int x1, .ref x0]) rfl lm_10_256 m_169 kd_169 rfl (Nat.le_of_ble_eq_true rfl) p0),
   (fun d l0 l1 l2 l3 l4 x2 x1 x0 I L P Q p0 => zr_ast rfl p0),
   (fun d l0 l1 l2 l3 l4  h Q => zr_aload_n rfl rfl),
   (fun d l0 l1 l2 l3 l4 x0 I L P Q p0 => zr_getQ rfl lf_10_46 (fun _ _ _ => rfl) p0),
   (fun d l0 l1 l2 l3 l4 x0 h Q => zr_iload_n rfl rfl),
   (fun d l0 l1 l2 l3 l4 x1 x0 h Q => zr_iload_n rfl rfl),
   (fun d l0 l1 l2 l3 l4 x2 x1 x0 h Q => zr_if_ne rfl (by decide)),
   (fun d l0 l1 l2 l3 l4 x1 x0 h Q => zr_iconst rfl (by decide)),
   (fun d l0 l1 l2 l3 l4 x2 x1 x0 h Q => zr_goto rfl (by decide)),
   (fun d l0 l1 l2 l3 l4 x1 x0 h Q => zr_aload_n rfl rfl),
   (fun d l0 l1 l2 l3 l4 x2 x1 x0 I L P Q p0 => zr_getQ rfl lf_10_46 (fun _ _ _ => rfl) p0),
   (fun d l0 l1 l2 l3 l4 x2 x1 x0 h Q => zr_iload_n rfl rfl),
   (fun d l0 l1 l2 l3 l4 x3 x2 x1 x0 h Q => zr_iconst rfl (by decide)),
   (fun d l0 l1 l2 l3 l4 x4 x3 x2 x1 x0 h Q => zr_isub rfl),
   (fun d l0 l1 l2 l3 l4 x3 x2 x1 x0 I L P Q p0 => zr_ald rfl p0),
   (fun d l0 l1 l2 l3 l4 x2 x1 x0 h Q => zr_iconst rfl (by decide)),
   (fun d l0 l1 l2 l3 l4 x3 x2 x1 x0 h Q => zr_aload_n rfl rfl),
   (fun d l0 l1 l2 l3 l4 x4 x3 x2 x1 x0 I L P Q p0 => zr_getQ rfl lf_10_9 (fun _ _ _ => rfl) p0),
   (fun d l0 l1 l2 l3 l4 x4 x3 x2 x1 x0 h Q => zr_bipush rfl (by decide)),
   (fun d l0 l1 l2 l3 l4 x5 x4 x3 x2 x1 x0 h Q => zr_iload_n rfl rfl),
   (fun d l0 l1 l2 l3 l4 x6 x5 x4 x3 x2 x1 x0 h Q => zr_iadd rfl),
   (fun d l0 l1 l2 l3 l4 x5 x4 x3 x2 x1 x0 I L P Q p0 => zr_ald rfl p0),
   (fun d l0 l1 l2 l3 l4 x4 x3 x2 x1 x0 h Q => zr_imul rfl),
   (fun d l0 l1 l2 l3 l4 x3 x2 x1 x0 h Q => zr_aload_n rfl rfl),
   (fun d l0 l1 l2 l3 l4 x4 x3 x2 x1 x0 I L P Q p0 => zr_getQ rfl lf_10_22 (fun _ _ _ => rfl) p0),
   (fun d l0 l1 l2 l3 l4 x4 x3 x2 x1 x0 h Q => zr_iload_n rfl rfl),
   (fun d l0 l1 l2 l3 l4 x5 x4 x3 x2 x1 x0 I L P Q p0 => zr_ald rfl p0),
   (fun d l0 l1 l2 l3 l4 x4 x3 x2 x1 x0 h Q => zr_ic_le rfl (by decide)),
   (fun d l0 l1 l2 l3 l4 x2 x1 x0 h Q => zr_iconst rfl (by decide)),
   (fun d l0 l1 l2 l3 l4 x3 x2 x1 x0 h Q => zr_goto rfl (by decide)),
   (fun d l0 l1 l2 l3 l4 x2 x1 x0 h Q => zr_iconst rfl (by decide)),
   (fun d l0 l1 l2 l3 l4 x3 x2 x1 x0 h Q => zr_iadd rfl),
   (fun d l0 l1 l2 l3 l4 x2 x1 x0 I L P Q p0 => zr_ast rfl p0),
   (fun d l0 l1 l2 l3 l4  h Q => zr_iinc (n := 1) (kc := 1) rfl rfl (Nat.le_of_ble_eq_true rfl) rfl (by decide)),
   (fun d l0 l1 l2 l3 l4  h Q => zr_goto rfl (by decide)),
   (fun d l0 l1 l2 l3 l4  h Q => zr_iconst rfl (by decide)),
   (fun d l0 l1 l2 l3 l4 x0 h Q => zr_istore_n (n := 1) rfl (Nat.le_of_ble_eq_true rfl) rfl),
   (fun d l0 l1 l2 l3 l4 x0 h Q => zr_bipush rfl (by decide)),
   (fun d l0 l1 l2 l3 l4 x1 x0 h Q => zr_ic_ge rfl (by decide)),
   (fun d l0 l1 l2 l3 l4  h Q => zr_iconst rfl (by decide)),
   (fun d l0 l1 l2 l3 l4 x0 h Q => zr_istore_n (n := 2) rfl (Nat.le_of_ble_eq_true rfl) rfl),
   (fun d l0 l1 l2 l3 l4  h Q => zr_iconst rfl (by decide)),
   (fun d l0 l1 l2 l3 l4 x0 h Q => zr_istore_n (n := 3) rfl (Nat.le_of_ble_eq_true rfl) rfl),
   (fun d l0 l1 l2 l3 l4 x0 h Q => zr_aload_n rfl rfl),
   (fun d l0 l1 l2 l3 l4 x1 x0 I L P Q p0 => zr_getI rfl lf_10_99 (fun _ _ _ => rfl) p0),
   (fun d l0 l1 l2 l3 l4 x1 x0 h Q => zr_ic_ge rfl (by decide)),
   (fun d l0 l1 l2 l3 l4  h Q => zr_aload_n rfl rfl),
   (fun d l0 l1 l2 l3 l4 x0 h Q => zr_iload_n rfl rfl),
   (fun d l0 l1 l2 l3 l4 x1 x0 h Q => zr_iload_n rfl rfl),
   (fun d l0 l1 l2 l3 l4 x2 x1 x0 I L P Q p0 => zr_vir (as := [.int x2, .int x1]) (rest := []) rfl lm_10_271 m_170 kd_170 rfl (Nat.le_of_ble_eq_true rfl) p0),
   (fun d l0 l1 l2 l3 l4 x0 h Q => zr_istore (n := 4) rfl (Nat.le_of_ble_eq_true rfl) rfl),
   (fun d l0 l1 l2 l3 l4  h Q => zr_aload_n rfl rfl),
   (fun d l0 l1 l2 l3 l4 x0 I L P Q p0 => zr_getQ rfl lf_10_49 (fun _ _ _ => rfl) p0),
   (fun d l0 l1 l2 l3 l4 x0 h Q => zr_iload_n rfl rfl),
   (fun d l0 l1 l2 l3 l4 x1 x0 h Q => zr_dup2 rfl rfl rfl),
   (fun d l0 l1 l2 l3 l4 x3 x2 x1 x0 I L P Q p0 => zr_ald rfl p0),
   (fun d l0 l1 l2 l3 l4 x2 x1 x0 h Q => zr_iload rfl rfl),
   (fun d l0 l1 l2 l3 l4 x3 x2 x1 x0 h Q => zr_isub rfl),
   (fun d l0 l1 l2 l3 l4 x2 x1 x0 I L P Q p0 => zr_ast rfl p0),
   (fun d l0 l1 l2 l3 l4  h Q => zr_iload_n rfl rfl),
   (fun d l0 l1 l2 l3 l4 x0 h Q => zr_aload_n rfl rfl),
   (fun d l0 l1 l2 l3 l4 x1 x0 I L P Q p0 => zr_getQ rfl lf_10_49 (fun _ _ _ => rfl) p0),
   (fun d l0 l1 l2 l3 l4 x1 x0 h Q => zr_iload_n rfl rfl),
   (fun d l0 l1 l2 l3 l4 x2 x1 x0 I L P Q p0 => zr_ald rfl p0),
   (fun d l0 l1 l2 l3 l4 x1 x0 h Q => zr_iadd rfl),
   (fun d l0 l1 l2 l3 l4 x0 h Q => zr_istore_n (n := 2) rfl (Nat.le_of_ble_eq_true rfl) rfl),
   (fun d l0 l1 l2 l3 l4  h Q => zr_aload_n rfl rfl),
   (fun d l0 l1 l2 l3 l4 x0 I L P Q p0 => zr_getQ rfl lf_10_55 (fun _ _ _ => rfl) p0),
   (fun d l0 l1 l2 l3 l4 x0 h Q => zr_bipush rfl (by decide)),
   (fun d l0 l1 l2 l3 l4 x1 x0 h Q => zr_iload_n rfl rfl),
   (fun d l0 l1 l2 l3 l4 x2 x1 x0 h Q => zr_imul rfl),
   (fun d l0 l1 l2 l3 l4 x1 x0 h Q => zr_iload_n rfl rfl),
   (fun d l0 l1 l2 l3 l4 x2 x1 x0 h Q => zr_iadd rfl),
   (fun d l0 l1 l2 l3 l4 x1 x0 h Q => zr_iload rfl rfl),
   (fun d l0 l1 l2 l3 l4 x2 x1 x0 I L P Q p0 => zr_ast rfl p0),
   (fun d l0 l1 l2 l3 l4  h Q => zr_aload_n rfl rfl),
   (fun d l0 l1 l2 l3 l4 x0 I L P Q p0 => zr_getQ rfl lf_10_52 (fun _ _ _ => rfl) p0),
   (fun d l0 l1 l2 l3 l4 x0 h Q => zr_bipush rfl (by decide)),
   (fun d l0 l1 l2 l3 l4 x1 x0 h Q => zr_iload_n rfl rfl),
   (fun d l0 l1 l2 l3 l4 x2 x1 x0 h Q => zr_imul rfl),
   (fun d l0 l1 l2 l3 l4 x1 x0 h Q => zr_iload_n rfl rfl),
   (fun d l0 l1 l2 l3 l4 x2 x1 x0 h Q => zr_iadd rfl),
   (fun d l0 l1 l2 l3 l4 x1 x0 h Q => zr_aload_n rfl rfl),
   (fun d l0 l1 l2 l3 l4 x2 x1 x0 I L P Q p0 => zr_getQ rfl lf_10_49 (fun _ _ _ => rfl) p0),
   (fun d l0 l1 l2 l3 l4 x2 x1 x0 h Q => zr_iload_n rfl rfl),
   (fun d l0 l1 l2 l3 l4 x3 x2 x1 x0 I L P Q p0 => zr_ald rfl p0),
   (fun d l0 l1 l2 l3 l4 x2 x1 x0 I L P Q p0 => zr_ast rfl p0),
   (fun d l0 l1 l2 l3 l4  h Q => zr_aload_n rfl rfl),
   (fun d l0 l1 l2 l3 l4 x0 I L P Q p0 => zr_getQ rfl lf_10_40 (fun _ _ _ => rfl) p0),
   (fun d l0 l1 l2 l3 l4 x0 h Q => zr_iload_n rfl rfl),
   (fun d l0 l1 l2 l3 l4 x1 x0 h Q => zr_aload_n rfl rfl),
   (fun d l0 l1 l2 l3 l4 x2 x1 x0 h Q => zr_iload_n rfl rfl),
   (fun d l0 l1 l2 l3 l4 x3 x2 x1 x0 I L P Q p0 => zr_vir (as := [.int x3]) (rest := [.int x1, .ref x0]) rfl lm_10_274 m_171 kd_171 rfl (Nat.le_of_ble_eq_true rfl) p0),
   (fun d l0 l1 l2 l3 l4 x2 x1 x0 I L P Q p0 => zr_ast rfl p0),
   (fun d l0 l1 l2 l3 l4  h Q => zr_iinc (n := 3) (kc := 1) rfl rfl (Nat.le_of_ble_eq_true rfl) rfl (by decide)),
   (fun d l0 l1 l2 l3 l4  h Q => zr_goto rfl (by decide)),
   (fun d l0 l1 l2 l3 l4  h Q => zr_aload_n rfl rfl),
   (fun d l0 l1 l2 l3 l4 x0 h Q => zr_aload_n rfl rfl),
   (fun d l0 l1 l2 l3 l4 x1 x0 I L P Q p0 => zr_getI rfl lf_10_268 (fun _ _ _ => rfl) p0),
   (fun d l0 l1 l2 l3 l4 x1 x0 h Q => zr_if_ge rfl (by decide)),
   (fun d l0 l1 l2 l3 l4 x0 h Q => zr_iload_n rfl rfl),
   (fun d l0 l1 l2 l3 l4 x1 x0 h Q => zr_if_ne rfl (by decide)),
   (fun d l0 l1 l2 l3 l4 x0 h Q => zr_iload_n rfl rfl),
   (fun d l0 l1 l2 l3 l4 x1 x0 h Q => zr_goto rfl (by decide)),
   (fun d l0 l1 l2 l3 l4 x0 h Q => zr_aload_n rfl rfl),
   (fun d l0 l1 l2 l3 l4 x1 x0 I L P Q p0 => zr_getI rfl lf_10_268 (fun _ _ _ => rfl) p0),
   (fun d l0 l1 l2 l3 l4 x1 x0 I L P Q p0 => zr_putI rfl lf_10_268 (by decide) rfl p0),
   (fun d l0 l1 l2 l3 l4  h Q => zr_aload_n rfl rfl),
   (fun d l0 l1 l2 l3 l4 x0 I L P Q p0 => zr_getI rfl lf_10_259 (fun _ _ _ => rfl) p0),
   (fun d l0 l1 l2 l3 l4 x0 h Q => zr_if_ge rfl (by decide)),
   (fun d l0 l1 l2 l3 l4  h Q => zr_aload_n rfl rfl),
   (fun d l0 l1 l2 l3 l4 x0 I L P Q p0 => zr_vir (as := []) (rest := []) rfl lm_10_248 m_161 kd_161 rfl (Nat.le_of_ble_eq_true rfl) p0),
   (fun d l0 l1 l2 l3 l4 x0 h Q => zr_goto rfl (by decide)),
   (fun d l0 l1 l2 l3 l4  h Q => zr_iconst rfl (by decide)),
   (fun d l0 l1 l2 l3 l4 x0 h Q => zr_istore_n (n := 3) rfl (Nat.le_of_ble_eq_true rfl) rfl),
   (fun d l0 l1 l2 l3 l4  h Q => zr_iload_n rfl rfl),
   (fun d l0 l1 l2 l3 l4 x0 h Q => zr_if_lt rfl (by decide)),
   (fun d l0 l1 l2 l3 l4  h Q => zr_aload_n rfl rfl),
   (fun d l0 l1 l2 l3 l4 x0 h Q => zr_iload_n rfl rfl),
   (fun d l0 l1 l2 l3 l4 x1 x0 I L P Q p0 => zr_putI rfl lf_10_259 (by decide) rfl p0),
   (fun d l0 l1 l2 l3 l4  h Q => zr_aload_n rfl rfl),
   (fun d l0 l1 l2 l3 l4 x0 h Q => zr_iload_n rfl rfl),
   (fun d l0 l1 l2 l3 l4 x1 x0 I L P Q p0 => zr_putI rfl lf_10_262 (by decide) rfl p0),
   (fun d l0 l1 l2 l3 l4  h Q => zr_aload_n rfl rfl),
   (fun d l0 l1 l2 l3 l4 x0 h Q => zr_aload_n rfl rfl),
   (fun d l0 l1 l2 l3 l4 x1 x0 h Q => zr_iload_n rfl rfl),
   (fun d l0 l1 l2 l3 l4 x2 x1 x0 I L P Q p0 => zr_vir (as := [.int x2]) (rest := [.ref x0]) rfl lm_10_251 m_162 kd_162 rfl (Nat.le_of_ble_eq_true rfl) p0),
   (fun d l0 l1 l2 l3 l4 x1 x0 I L P Q p0 => zr_putI rfl lf_10_265 (by decide) rfl p0),
   (fun d l0 l1 l2 l3 l4  h Q => zr_iinc (n := 1) (kc := 1) rfl rfl (Nat.le_of_ble_eq_true rfl) rfl (by decide)),
   (fun d l0 l1 l2 l3 l4  h Q => zr_goto rfl (by decide)),
   (fun d l0 l1 l2 l3 l4  h Q => zr_vret rfl rfl)⟩
theorem H_X10_fire_26 : ∀ (d : Nat) (l0 : Value) (l1 : Int32) (l2 : Value) (l3 : Value) (l4 : Value)  (h : zMm) (Q : Option Value → zMm → Prop), zWp d zi_172 none 26 [l0, .int l1, l2, l3, l4] [] h Q = zWp d zi_172 none 27 [l0, .int l1, l2, l3, l4] [.int l1] h Q := fun d l0 l1 l2 l3 l4  h Q => zr_iload_n rfl rfl
theorem H_X10_fire_101 : ∀ (d : Nat) (l0 : Value) (l1 : Int32) (l2 : Value) (l3 : Value) (l4 : Value)  (h : zMm) (Q : Option Value → zMm → Prop), zWp d zi_172 none 101 [l0, .int l1, l2, l3, l4] [] h Q = zWp d zi_172 none 102 [l0, .int l1, l2, l3, l4] [.int l1] h Q := fun d l0 l1 l2 l3 l4  h Q => zr_iload_n rfl rfl
theorem H_X10_fire_111 : ∀ (d : Nat) (l0 : Value) (l1 : Value) (l2 : Value) (l3 : Int32) (l4 : Value)  (h : zMm) (Q : Option Value → zMm → Prop), zWp d zi_172 none 111 [l0, l1, l2, .int l3, l4] [] h Q = zWp d zi_172 none 112 [l0, l1, l2, .int l3, l4] [.int l3] h Q := fun d l0 l1 l2 l3 l4  h Q => zr_iload_n rfl rfl
theorem E_X10_fuel : ∀ (d : Nat) (a0 : Nat) (a1 : Int32) (a2 : Int32) (h : zMm) (Q : Option Value → zMm → Prop), zWM (d + 1) 173 [.ref a0, .int a1, .int a2] h Q = zWp d zi_173 none 0 [.ref a0, .int a1, .int a2] [] h Q := fun d a0 a1 a2 h Q => zW_M m_173 (Nat.le_of_ble_eq_true rfl) rfl
set_option maxRecDepth 100000 in
theorem R_X10_fuel :
    (∀ (d : Nat) (l0 : Nat) (l1 : Value) (l2 : Value)  (h : zMm) (Q : Option Value → zMm → Prop), zWp d zi_173 none 0 [.ref l0, l1, l2] [] h Q = zWp d zi_173 none 1 [.ref l0, l1, l2] [.ref l0] h Q) ∧
    (∀ (d : Nat) (l0 : Value) (l1 : Int32) (l2 : Value) (x0 : Nat) (h : zMm) (Q : Option Value → zMm → Prop), zWp d zi_173 none 1 [l0, .int l1, l2] [.ref x0] h Q = zWp d zi_173 none 2 [l0, .int l1, l2] [.int l1, .ref x0] h Q) ∧
    (∀ (d : Nat) (l0 : Value) (l1 : Value) (l2 : Value) (x1 : Int32) (x0 : Nat) (I : Nat → Nat → Int32) (L : Nat → Nat → Int64) (P : Nat → Nat → Option Nat) (Q : Option Value → zMm → Prop), zSH[x0]? = some (.inl 10) → zWp d zi_173 none 2 [l0, l1, l2] [.int x1, .ref x0] (zSH, I, L, P) Q = zWM d 130 [.ref x0, .int x1] (zSH, I, L, P) (fun r h1 => zWp d zi_173 none 5 [l0, l1, l2] (r.toList ++ []) h1 Q)) ∧
    (∀ (d : Nat) (l0 : Value) (l1 : Value) (l2 : Value) (x0 : Int32) (h : zMm) (Q : Option Value → zMm → Prop), zWp d zi_173 none 5 [l0, l1, l2] [.int x0] h Q = if x0 = 0 then zWp d zi_173 none 20 [l0, l1, l2] [] h Q else zWp d zi_173 none 8 [l0, l1, l2] [] h Q) ∧
    (∀ (d : Nat) (l0 : Value) (l1 : Value) (l2 : Int32)  (h : zMm) (Q : Option Value → zMm → Prop), zWp d zi_173 none 8 [l0, l1, .int l2] [] h Q = zWp d zi_173 none 9 [l0, l1, .int l2] [.int l2] h Q) ∧
    (∀ (d : Nat) (l0 : Value) (l1 : Value) (l2 : Value) (x0 : Int32) (h : zMm) (Q : Option Value → zMm → Prop), zWp d zi_173 none 9 [l0, l1, l2] [.int x0] h Q = zWp d zi_173 none 10 [l0, l1, l2] [.long x0.toInt64] h Q) ∧
    (∀ (d : Nat) (l0 : Value) (l1 : Value) (l2 : Value) (x0 : Int64) (h : zMm) (Q : Option Value → zMm → Prop), zWp d zi_173 none 10 [l0, l1, l2] [.long x0] h Q = zWp d zi_173 none 11 [l0, l1, l2] [.long 0, .long x0] h Q) ∧
    (∀ (d : Nat) (l0 : Value) (l1 : Value) (l2 : Value) (x1 : Int64) (x0 : Int64) (h : zMm) (Q : Option Value → zMm → Prop), zWp d zi_173 none 11 [l0, l1, l2] [.long x1, .long x0] h Q = zWp d zi_173 none 14 [l0, l1, l2] [.long 60, .long x1, .long x0] h Q) ∧
    (∀ (d : Nat) (l0 : Value) (l1 : Value) (l2 : Value) (x2 : Int64) (x1 : Int64) (x0 : Int64) (h : zMm) (Q : Option Value → zMm → Prop), zWp d zi_173 none 14 [l0, l1, l2] [.long x2, .long x1, .long x0] h Q = zWM d 122 [.long x0, .long x1, .long x2] h (fun r h1 => zWp d zi_173 none 17 [l0, l1, l2] (r.toList ++ []) h1 Q)) ∧
    (∀ (d : Nat) (l0 : Value) (l1 : Value) (l2 : Value) (x0 : Int32) (h : zMm) (Q : Option Value → zMm → Prop), zWp d zi_173 none 17 [l0, l1, l2] [.int x0] h Q = if x0 = 0 then zWp d zi_173 none 20 [l0, l1, l2] [] h Q else zWp d zi_173 none 22 [l0, l1, l2] [] h Q) ∧
    (∀ (d : Nat) (l0 : Value) (l1 : Value) (l2 : Value)  (h : zMm) (Q : Option Value → zMm → Prop), zWp d zi_173 none 20 [l0, l1, l2] [] h Q = zWp d zi_173 none 21 [l0, l1, l2] [.int (-1)] h Q) ∧
    (∀ (d : Nat) (l0 : Value) (l1 : Value) (l2 : Value) (x0 : Int32) (h : zMm) (Q : Option Value → zMm → Prop), zWp d zi_173 none 21 [l0, l1, l2] [.int x0] h Q = Q (some (.int x0)) h) ∧
    (∀ (d : Nat) (l0 : Nat) (l1 : Value) (l2 : Value)  (h : zMm) (Q : Option Value → zMm → Prop), zWp d zi_173 none 22 [.ref l0, l1, l2] [] h Q = zWp d zi_173 none 23 [.ref l0, l1, l2] [.ref l0] h Q) ∧
    (∀ (d : Nat) (l0 : Value) (l1 : Value) (l2 : Value) (x0 : Nat) (I : Nat → Nat → Int32) (L : Nat → Nat → Int64) (P : Nat → Nat → Option Nat) (Q : Option Value → zMm → Prop), zSH[x0]? = some (.inl 10) → zWp d zi_173 none 23 [l0, l1, l2] [.ref x0] (zSH, I, L, P) Q = zWM d 172 [.ref x0] (zSH, I, L, P) (fun r h1 => zWp d zi_173 none 26 [l0, l1, l2] (r.toList ++ []) h1 Q)) ∧
    (∀ (d : Nat) (l0 : Nat) (l1 : Value) (l2 : Value)  (h : zMm) (Q : Option Value → zMm → Prop), zWp d zi_173 none 26 [.ref l0, l1, l2] [] h Q = zWp d zi_173 none 27 [.ref l0, l1, l2] [.ref l0] h Q) ∧
    (∀ (d : Nat) (l0 : Value) (l1 : Value) (l2 : Value) (x0 : Nat) (I : Nat → Nat → Int32) (L : Nat → Nat → Int64) (P : Nat → Nat → Option Nat) (Q : Option Value → zMm → Prop), zSH[x0]? = some (.inl 10) → zWp d zi_173 none 27 [l0, l1, l2] [.ref x0] (zSH, I, L, P) Q = zWp d zi_173 none 30 [l0, l1, l2] [va_rf (P x0 27)] (zSH, I, L, P) Q) ∧
    (∀ (d : Nat) (l0 : Value) (l1 : Value) (l2 : Value) (x0 : Nat) (h : zMm) (Q : Option Value → zMm → Prop), zWp d zi_173 none 30 [l0, l1, l2] [.ref x0] h Q = zWp d zi_173 none 32 [l0, l1, l2] [.int 24, .ref x0] h Q) ∧
    (∀ (d : Nat) (l0 : Value) (l1 : Value) (l2 : Int32) (x1 : Int32) (x0 : Nat) (h : zMm) (Q : Option Value → zMm → Prop), zWp d zi_173 none 32 [l0, l1, .int l2] [.int x1, .ref x0] h Q = zWp d zi_173 none 33 [l0, l1, .int l2] [.int l2, .int x1, .ref x0] h Q) ∧
    (∀ (d : Nat) (l0 : Value) (l1 : Value) (l2 : Value) (x2 : Int32) (x1 : Int32) (x0 : Nat) (h : zMm) (Q : Option Value → zMm → Prop), zWp d zi_173 none 33 [l0, l1, l2] [.int x2, .int x1, .ref x0] h Q = zWp d zi_173 none 34 [l0, l1, l2] [.int (x1 * x2), .ref x0] h Q) ∧
    (∀ (d : Nat) (l0 : Value) (l1 : Int32) (l2 : Value) (x1 : Int32) (x0 : Nat) (h : zMm) (Q : Option Value → zMm → Prop), zWp d zi_173 none 34 [l0, .int l1, l2] [.int x1, .ref x0] h Q = zWp d zi_173 none 35 [l0, .int l1, l2] [.int l1, .int x1, .ref x0] h Q) ∧
    (∀ (d : Nat) (l0 : Value) (l1 : Value) (l2 : Value) (x2 : Int32) (x1 : Int32) (x0 : Nat) (h : zMm) (Q : Option Value → zMm → Prop), zWp d zi_173 none 35 [l0, l1, l2] [.int x2, .int x1, .ref x0] h Q = zWp d zi_173 none 36 [l0, l1, l2] [.int (x1 + x2), .ref x0] h Q) ∧
    (∀ (d : Nat) (l0 : Value) (l1 : Value) (l2 : Value) (x1 : Int32) (x0 : Nat) (I : Nat → Nat → Int32) (L : Nat → Nat → Int64) (P : Nat → Nat → Option Nat) (Q : Option Value → zMm → Prop), zAk zSH x0 = some .int → zWp d zi_173 none 36 [l0, l1, l2] [.int x1, .ref x0] (zSH, I, L, P) Q = (vp_in x1 (zAn zSH x0) ∧ zWp d zi_173 none 37 [l0, l1, l2] [.int (I x0 x1.toNatClampNeg)] (zSH, I, L, P) Q)) ∧
    (∀ (d : Nat) (l0 : Value) (l1 : Value) (l2 : Value) (x0 : Int32) (h : zMm) (Q : Option Value → zMm → Prop), zWp d zi_173 none 37 [l0, l1, l2] [.int x0] h Q = Q (some (.int x0)) h) :=
  ⟨(fun d l0 l1 l2  h Q => zr_aload_n rfl rfl),
   (fun d l0 l1 l2 x0 h Q => zr_iload_n rfl rfl),
   (fun d l0 l1 l2 x1 x0 I L P Q p0 => zr_vir (as := [.int x1]) (rest := []) rfl lm_10_142 m_130 kd_130 rfl (Nat.le_of_ble_eq_true rfl) p0),
   (fun d l0 l1 l2 x0 h Q => zr_if_eq rfl (by decide)),
   (fun d l0 l1 l2  h Q => zr_iload_n rfl rfl),
   (fun d l0 l1 l2 x0 h Q => zr_i2l rfl),
   (fun d l0 l1 l2 x0 h Q => zr_lconst rfl (by decide)),
   (fun d l0 l1 l2 x1 x0 h Q => zr_ldc2_w rfl lj_10_277),
   (fun d l0 l1 l2 x2 x1 x0 h Q => zr_sta (as := [.long x2, .long x1, .long x0]) (rest := []) rfl lm_10_110 (by decide) m_122 kd_122 rfl (Nat.le_of_ble_eq_true rfl)),
   (fun d l0 l1 l2 x0 h Q => zr_if_ne rfl (by decide)),
   (fun d l0 l1 l2  h Q => zr_iconst rfl (by decide)),
   (fun d l0 l1 l2 x0 h Q => zr_iret rfl rfl),
   (fun d l0 l1 l2  h Q => zr_aload_n rfl rfl),
   (fun d l0 l1 l2 x0 I L P Q p0 => zr_vir (as := []) (rest := []) rfl lm_10_279 m_172 kd_172 rfl (Nat.le_of_ble_eq_true rfl) p0),
   (fun d l0 l1 l2  h Q => zr_aload_n rfl rfl),
   (fun d l0 l1 l2 x0 I L P Q p0 => zr_getQ rfl lf_10_52 (fun _ _ _ => rfl) p0),
   (fun d l0 l1 l2 x0 h Q => zr_bipush rfl (by decide)),
   (fun d l0 l1 l2 x1 x0 h Q => zr_iload_n rfl rfl),
   (fun d l0 l1 l2 x2 x1 x0 h Q => zr_imul rfl),
   (fun d l0 l1 l2 x1 x0 h Q => zr_iload_n rfl rfl),
   (fun d l0 l1 l2 x2 x1 x0 h Q => zr_iadd rfl),
   (fun d l0 l1 l2 x1 x0 I L P Q p0 => zr_ald rfl p0),
   (fun d l0 l1 l2 x0 h Q => zr_iret rfl rfl)⟩
theorem E_X10_burns : ∀ (d : Nat) (a0 : Nat) (a1 : Int32) (h : zMm) (Q : Option Value → zMm → Prop), zWM (d + 1) 174 [.ref a0, .int a1] h Q = zWp d zi_174 none 0 [.ref a0, .int a1] [] h Q := fun d a0 a1 h Q => zW_M m_174 (Nat.le_of_ble_eq_true rfl) rfl
set_option maxRecDepth 100000 in
theorem R_X10_burns :
    (∀ (d : Nat) (l0 : Value) (l1 : Int32)  (h : zMm) (Q : Option Value → zMm → Prop), zWp d zi_174 none 0 [l0, .int l1] [] h Q = zWp d zi_174 none 1 [l0, .int l1] [.int l1] h Q) ∧
    (∀ (d : Nat) (l0 : Value) (l1 : Value) (x0 : Int32) (h : zMm) (Q : Option Value → zMm → Prop), zWp d zi_174 none 1 [l0, l1] [.int x0] h Q = zWp d zi_174 none 2 [l0, l1] [.long x0.toInt64] h Q) ∧
    (∀ (d : Nat) (l0 : Value) (l1 : Value) (x0 : Int64) (h : zMm) (Q : Option Value → zMm → Prop), zWp d zi_174 none 2 [l0, l1] [.long x0] h Q = zWp d zi_174 none 3 [l0, l1] [.long 0, .long x0] h Q) ∧
    (∀ (d : Nat) (l0 : Value) (l1 : Value) (x1 : Int64) (x0 : Int64) (h : zMm) (Q : Option Value → zMm → Prop), zWp d zi_174 none 3 [l0, l1] [.long x1, .long x0] h Q = zWp d zi_174 none 6 [l0, l1] [.long 3, .long x1, .long x0] h Q) ∧
    (∀ (d : Nat) (l0 : Value) (l1 : Value) (x2 : Int64) (x1 : Int64) (x0 : Int64) (h : zMm) (Q : Option Value → zMm → Prop), zWp d zi_174 none 6 [l0, l1] [.long x2, .long x1, .long x0] h Q = zWM d 122 [.long x0, .long x1, .long x2] h (fun r h1 => zWp d zi_174 none 9 [l0, l1] (r.toList ++ []) h1 Q)) ∧
    (∀ (d : Nat) (l0 : Value) (l1 : Value) (x0 : Int32) (h : zMm) (Q : Option Value → zMm → Prop), zWp d zi_174 none 9 [l0, l1] [.int x0] h Q = if x0 = 0 then zWp d zi_174 none 12 [l0, l1] [] h Q else zWp d zi_174 none 14 [l0, l1] [] h Q) ∧
    (∀ (d : Nat) (l0 : Value) (l1 : Value)  (h : zMm) (Q : Option Value → zMm → Prop), zWp d zi_174 none 12 [l0, l1] [] h Q = zWp d zi_174 none 13 [l0, l1] [.int (-1)] h Q) ∧
    (∀ (d : Nat) (l0 : Value) (l1 : Value) (x0 : Int32) (h : zMm) (Q : Option Value → zMm → Prop), zWp d zi_174 none 13 [l0, l1] [.int x0] h Q = Q (some (.int x0)) h) ∧
    (∀ (d : Nat) (l0 : Nat) (l1 : Value)  (h : zMm) (Q : Option Value → zMm → Prop), zWp d zi_174 none 14 [.ref l0, l1] [] h Q = zWp d zi_174 none 15 [.ref l0, l1] [.ref l0] h Q) ∧
    (∀ (d : Nat) (l0 : Value) (l1 : Value) (x0 : Nat) (I : Nat → Nat → Int32) (L : Nat → Nat → Int64) (P : Nat → Nat → Option Nat) (Q : Option Value → zMm → Prop), zSH[x0]? = some (.inl 10) → zWp d zi_174 none 15 [l0, l1] [.ref x0] (zSH, I, L, P) Q = zWM d 172 [.ref x0] (zSH, I, L, P) (fun r h1 => zWp d zi_174 none 18 [l0, l1] (r.toList ++ []) h1 Q)) ∧
    (∀ (d : Nat) (l0 : Value) (l1 : Int32)  (h : zMm) (Q : Option Value → zMm → Prop), zWp d zi_174 none 18 [l0, .int l1] [] h Q = zWp d zi_174 none 19 [l0, .int l1] [.int l1] h Q) ∧
    (∀ (d : Nat) (l0 : Value) (l1 : Value) (x0 : Int32) (h : zMm) (Q : Option Value → zMm → Prop), zWp d zi_174 none 19 [l0, l1] [.int x0] h Q = if x0 = 0 then zWp d zi_174 none 22 [l0, l1] [] h Q else zWp d zi_174 none 29 [l0, l1] [] h Q) ∧
    (∀ (d : Nat) (l0 : Nat) (l1 : Value)  (h : zMm) (Q : Option Value → zMm → Prop), zWp d zi_174 none 22 [.ref l0, l1] [] h Q = zWp d zi_174 none 23 [.ref l0, l1] [.ref l0] h Q) ∧
    (∀ (d : Nat) (l0 : Value) (l1 : Value) (x0 : Nat) (I : Nat → Nat → Int32) (L : Nat → Nat → Int64) (P : Nat → Nat → Option Nat) (Q : Option Value → zMm → Prop), zSH[x0]? = some (.inl 10) → zWp d zi_174 none 23 [l0, l1] [.ref x0] (zSH, I, L, P) Q = zWp d zi_174 none 26 [l0, l1] [.int (I x0 29)] (zSH, I, L, P) Q) ∧
    (∀ (d : Nat) (l0 : Value) (l1 : Value) (x0 : Int32) (h : zMm) (Q : Option Value → zMm → Prop), zWp d zi_174 none 26 [l0, l1] [.int x0] h Q = zWp d zi_174 none 57 [l0, l1] [.int x0] h Q) ∧
    (∀ (d : Nat) (l0 : Value) (l1 : Int32)  (h : zMm) (Q : Option Value → zMm → Prop), zWp d zi_174 none 29 [l0, .int l1] [] h Q = zWp d zi_174 none 30 [l0, .int l1] [.int l1] h Q) ∧
    (∀ (d : Nat) (l0 : Value) (l1 : Value) (x0 : Int32) (h : zMm) (Q : Option Value → zMm → Prop), zWp d zi_174 none 30 [l0, l1] [.int x0] h Q = zWp d zi_174 none 31 [l0, l1] [.int 1, .int x0] h Q) ∧
    (∀ (d : Nat) (l0 : Value) (l1 : Value) (x1 : Int32) (x0 : Int32) (h : zMm) (Q : Option Value → zMm → Prop), zWp d zi_174 none 31 [l0, l1] [.int x1, .int x0] h Q = if x0 = x1 then zWp d zi_174 none 34 [l0, l1] [] h Q else zWp d zi_174 none 41 [l0, l1] [] h Q) ∧
    (∀ (d : Nat) (l0 : Nat) (l1 : Value)  (h : zMm) (Q : Option Value → zMm → Prop), zWp d zi_174 none 34 [.ref l0, l1] [] h Q = zWp d zi_174 none 35 [.ref l0, l1] [.ref l0] h Q) ∧
    (∀ (d : Nat) (l0 : Value) (l1 : Value) (x0 : Nat) (I : Nat → Nat → Int32) (L : Nat → Nat → Int64) (P : Nat → Nat → Option Nat) (Q : Option Value → zMm → Prop), zSH[x0]? = some (.inl 10) → zWp d zi_174 none 35 [l0, l1] [.ref x0] (zSH, I, L, P) Q = zWp d zi_174 none 38 [l0, l1] [.int (I x0 30)] (zSH, I, L, P) Q) ∧
    (∀ (d : Nat) (l0 : Value) (l1 : Value) (x0 : Int32) (h : zMm) (Q : Option Value → zMm → Prop), zWp d zi_174 none 38 [l0, l1] [.int x0] h Q = zWp d zi_174 none 57 [l0, l1] [.int x0] h Q) ∧
    (∀ (d : Nat) (l0 : Value) (l1 : Int32)  (h : zMm) (Q : Option Value → zMm → Prop), zWp d zi_174 none 41 [l0, .int l1] [] h Q = zWp d zi_174 none 42 [l0, .int l1] [.int l1] h Q) ∧
    (∀ (d : Nat) (l0 : Value) (l1 : Value) (x0 : Int32) (h : zMm) (Q : Option Value → zMm → Prop), zWp d zi_174 none 42 [l0, l1] [.int x0] h Q = zWp d zi_174 none 43 [l0, l1] [.int 2, .int x0] h Q) ∧
    (∀ (d : Nat) (l0 : Value) (l1 : Value) (x1 : Int32) (x0 : Int32) (h : zMm) (Q : Option Value → zMm → Prop), zWp d zi_174 none 43 [l0, l1] [.int x1, .int x0] h Q = if x0 = x1 then zWp d zi_174 none 46 [l0, l1] [] h Q else zWp d zi_174 none 53 [l0, l1] [] h Q) ∧
    (∀ (d : Nat) (l0 : Nat) (l1 : Value)  (h : zMm) (Q : Option Value → zMm → Prop), zWp d zi_174 none 46 [.ref l0, l1] [] h Q = zWp d zi_174 none 47 [.ref l0, l1] [.ref l0] h Q) ∧
    (∀ (d : Nat) (l0 : Value) (l1 : Value) (x0 : Nat) (I : Nat → Nat → Int32) (L : Nat → Nat → Int64) (P : Nat → Nat → Option Nat) (Q : Option Value → zMm → Prop), zSH[x0]? = some (.inl 10) → zWp d zi_174 none 47 [l0, l1] [.ref x0] (zSH, I, L, P) Q = zWp d zi_174 none 50 [l0, l1] [.int (I x0 31)] (zSH, I, L, P) Q) ∧
    (∀ (d : Nat) (l0 : Value) (l1 : Value) (x0 : Int32) (h : zMm) (Q : Option Value → zMm → Prop), zWp d zi_174 none 50 [l0, l1] [.int x0] h Q = zWp d zi_174 none 57 [l0, l1] [.int x0] h Q) ∧
    (∀ (d : Nat) (l0 : Nat) (l1 : Value)  (h : zMm) (Q : Option Value → zMm → Prop), zWp d zi_174 none 53 [.ref l0, l1] [] h Q = zWp d zi_174 none 54 [.ref l0, l1] [.ref l0] h Q) ∧
    (∀ (d : Nat) (l0 : Value) (l1 : Value) (x0 : Nat) (I : Nat → Nat → Int32) (L : Nat → Nat → Int64) (P : Nat → Nat → Option Nat) (Q : Option Value → zMm → Prop), zSH[x0]? = some (.inl 10) → zWp d zi_174 none 54 [l0, l1] [.ref x0] (zSH, I, L, P) Q = zWp d zi_174 none 57 [l0, l1] [.int (I x0 32)] (zSH, I, L, P) Q) ∧
    (∀ (d : Nat) (l0 : Value) (l1 : Value) (x0 : Int32) (h : zMm) (Q : Option Value → zMm → Prop), zWp d zi_174 none 57 [l0, l1] [.int x0] h Q = Q (some (.int x0)) h) :=
  ⟨(fun d l0 l1  h Q => zr_iload_n rfl rfl),
   (fun d l0 l1 x0 h Q => zr_i2l rfl),
   (fun d l0 l1 x0 h Q => zr_lconst rfl (by decide)),
   (fun d l0 l1 x1 x0 h Q => zr_ldc2_w rfl lj_10_254),
   (fun d l0 l1 x2 x1 x0 h Q => zr_sta (as := [.long x2, .long x1, .long x0]) (rest := []) rfl lm_10_110 (by decide) m_122 kd_122 rfl (Nat.le_of_ble_eq_true rfl)),
   (fun d l0 l1 x0 h Q => zr_if_ne rfl (by decide)),
   (fun d l0 l1  h Q => zr_iconst rfl (by decide)),
   (fun d l0 l1 x0 h Q => zr_iret rfl rfl),
   (fun d l0 l1  h Q => zr_aload_n rfl rfl),
   (fun d l0 l1 x0 I L P Q p0 => zr_vir (as := []) (rest := []) rfl lm_10_279 m_172 kd_172 rfl (Nat.le_of_ble_eq_true rfl) p0),
   (fun d l0 l1  h Q => zr_iload_n rfl rfl),
   (fun d l0 l1 x0 h Q => zr_if_ne rfl (by decide)),
   (fun d l0 l1  h Q => zr_aload_n rfl rfl),
   (fun d l0 l1 x0 I L P Q p0 => zr_getI rfl lf_10_259 (fun _ _ _ => rfl) p0),
   (fun d l0 l1 x0 h Q => zr_goto rfl (by decide)),
   (fun d l0 l1  h Q => zr_iload_n rfl rfl),
   (fun d l0 l1 x0 h Q => zr_iconst rfl (by decide)),
   (fun d l0 l1 x1 x0 h Q => zr_ic_ne rfl (by decide)),
   (fun d l0 l1  h Q => zr_aload_n rfl rfl),
   (fun d l0 l1 x0 I L P Q p0 => zr_getI rfl lf_10_262 (fun _ _ _ => rfl) p0),
   (fun d l0 l1 x0 h Q => zr_goto rfl (by decide)),
   (fun d l0 l1  h Q => zr_iload_n rfl rfl),
   (fun d l0 l1 x0 h Q => zr_iconst rfl (by decide)),
   (fun d l0 l1 x1 x0 h Q => zr_ic_ne rfl (by decide)),
   (fun d l0 l1  h Q => zr_aload_n rfl rfl),
   (fun d l0 l1 x0 I L P Q p0 => zr_getI rfl lf_10_265 (fun _ _ _ => rfl) p0),
   (fun d l0 l1 x0 h Q => zr_goto rfl (by decide)),
   (fun d l0 l1  h Q => zr_aload_n rfl rfl),
   (fun d l0 l1 x0 I L P Q p0 => zr_getI rfl lf_10_268 (fun _ _ _ => rfl) p0),
   (fun d l0 l1 x0 h Q => zr_iret rfl rfl)⟩
theorem E_X10_heatBy : ∀ (d : Nat) (a0 : Nat) (a1 : Int32) (a2 : Int32) (a3 : Int32) (h : zMm) (Q : Option Value → zMm → Prop), zWM (d + 1) 175 [.ref a0, .int a1, .int a2, .int a3] h Q = zWp d zi_175 none 0 [.ref a0, .int a1, .int a2, .int a3, .retAddr 0, .retAddr 0] [] h Q := fun d a0 a1 a2 a3 h Q => zW_M m_175 (Nat.le_of_ble_eq_true rfl) rfl
set_option maxRecDepth 100000 in
theorem R_X10_heatBy :
    (∀ (d : Nat) (l0 : Value) (l1 : Value) (l2 : Value) (l3 : Value) (l4 : Value) (l5 : Value)  (h : zMm) (Q : Option Value → zMm → Prop), zWp d zi_175 none 0 [l0, l1, l2, l3, l4, l5] [] h Q = zWp d zi_175 none 1 [l0, l1, l2, l3, l4, l5] [.int 0] h Q) ∧
    (∀ (d : Nat) (l0 : Value) (l1 : Value) (l2 : Value) (l3 : Int32) (l4 : Value) (l5 : Value) (x0 : Int32) (h : zMm) (Q : Option Value → zMm → Prop), zWp d zi_175 none 1 [l0, l1, l2, .int l3, l4, l5] [.int x0] h Q = zWp d zi_175 none 3 [l0, l1, l2, .int l3, .int x0, l5] [] h Q) ∧
    (∀ (d : Nat) (l0 : Value) (l1 : Value) (l2 : Value) (l3 : Value) (l4 : Value) (l5 : Value)  (h : zMm) (Q : Option Value → zMm → Prop), zWp d zi_175 none 3 [l0, l1, l2, l3, l4, l5] [] h Q = zWp d zi_175 none 4 [l0, l1, l2, l3, l4, l5] [.int 0] h Q) ∧
    (∀ (d : Nat) (l0 : Value) (l1 : Value) (l2 : Value) (l3 : Value) (l4 : Int32) (l5 : Value) (x0 : Int32) (h : zMm) (Q : Option Value → zMm → Prop), zWp d zi_175 none 4 [l0, l1, l2, l3, .int l4, l5] [.int x0] h Q = zWp d zi_175 none 6 [l0, l1, l2, l3, .int l4, .int x0] [] h Q) ∧
    (∀ (d : Nat) (l0 : Nat) (l1 : Value) (l2 : Value) (l3 : Value) (l4 : Value) (l5 : Value) (x0 : Int32) (h : zMm) (Q : Option Value → zMm → Prop), zWp d zi_175 none 8 [.ref l0, l1, l2, l3, l4, l5] [.int x0] h Q = zWp d zi_175 none 9 [.ref l0, l1, l2, l3, l4, l5] [.ref l0, .int x0] h Q) ∧
    (∀ (d : Nat) (l0 : Value) (l1 : Value) (l2 : Value) (l3 : Value) (l4 : Value) (l5 : Value) (x1 : Nat) (x0 : Int32) (I : Nat → Nat → Int32) (L : Nat → Nat → Int64) (P : Nat → Nat → Option Nat) (Q : Option Value → zMm → Prop), zSH[x1]? = some (.inl 10) → zWp d zi_175 none 9 [l0, l1, l2, l3, l4, l5] [.ref x1, .int x0] (zSH, I, L, P) Q = zWp d zi_175 none 12 [l0, l1, l2, l3, l4, l5] [.int (I x1 6), .int x0] (zSH, I, L, P) Q) ∧
    (∀ (d : Nat) (l0 : Value) (l1 : Value) (l2 : Value) (l3 : Value) (l4 : Value) (l5 : Value) (x1 : Int32) (x0 : Int32) (h : zMm) (Q : Option Value → zMm → Prop), zWp d zi_175 none 12 [l0, l1, l2, l3, l4, l5] [.int x1, .int x0] h Q = if x1 ≤ x0 then zWp d zi_175 none 61 [l0, l1, l2, l3, l4, l5] [] h Q else zWp d zi_175 none 15 [l0, l1, l2, l3, l4, l5] [] h Q) ∧
    (∀ (d : Nat) (l0 : Value) (l1 : Value) (l2 : Value) (l3 : Value) (l4 : Int32) (l5 : Value)  (h : zMm) (Q : Option Value → zMm → Prop), zWp d zi_175 none 15 [l0, l1, l2, l3, .int l4, l5] [] h Q = zWp d zi_175 none 17 [l0, l1, l2, l3, .int l4, l5] [.int l4] h Q) ∧
    (∀ (d : Nat) (l0 : Nat) (l1 : Value) (l2 : Value) (l3 : Value) (l4 : Value) (l5 : Value) (x0 : Int32) (h : zMm) (Q : Option Value → zMm → Prop), zWp d zi_175 none 17 [.ref l0, l1, l2, l3, l4, l5] [.int x0] h Q = zWp d zi_175 none 18 [.ref l0, l1, l2, l3, l4, l5] [.ref l0, .int x0] h Q) ∧
    (∀ (d : Nat) (l0 : Value) (l1 : Value) (l2 : Value) (l3 : Value) (l4 : Value) (l5 : Value) (x1 : Nat) (x0 : Int32) (I : Nat → Nat → Int32) (L : Nat → Nat → Int64) (P : Nat → Nat → Option Nat) (Q : Option Value → zMm → Prop), zSH[x1]? = some (.inl 10) → zWp d zi_175 none 18 [l0, l1, l2, l3, l4, l5] [.ref x1, .int x0] (zSH, I, L, P) Q = zWp d zi_175 none 21 [l0, l1, l2, l3, l4, l5] [va_rf (P x1 28), .int x0] (zSH, I, L, P) Q) ∧
    (∀ (d : Nat) (l0 : Value) (l1 : Value) (l2 : Value) (l3 : Value) (l4 : Value) (l5 : Value) (x1 : Nat) (x0 : Int32) (h : zMm) (Q : Option Value → zMm → Prop), zWp d zi_175 none 21 [l0, l1, l2, l3, l4, l5] [.ref x1, .int x0] h Q = zWp d zi_175 none 23 [l0, l1, l2, l3, l4, l5] [.int 24, .ref x1, .int x0] h Q) ∧
    (∀ (d : Nat) (l0 : Value) (l1 : Value) (l2 : Int32) (l3 : Value) (l4 : Value) (l5 : Value) (x2 : Int32) (x1 : Nat) (x0 : Int32) (h : zMm) (Q : Option Value → zMm → Prop), zWp d zi_175 none 23 [l0, l1, .int l2, l3, l4, l5] [.int x2, .ref x1, .int x0] h Q = zWp d zi_175 none 24 [l0, l1, .int l2, l3, l4, l5] [.int l2, .int x2, .ref x1, .int x0] h Q) ∧
    (∀ (d : Nat) (l0 : Value) (l1 : Value) (l2 : Value) (l3 : Value) (l4 : Value) (l5 : Value) (x3 : Int32) (x2 : Int32) (x1 : Nat) (x0 : Int32) (h : zMm) (Q : Option Value → zMm → Prop), zWp d zi_175 none 24 [l0, l1, l2, l3, l4, l5] [.int x3, .int x2, .ref x1, .int x0] h Q = zWp d zi_175 none 25 [l0, l1, l2, l3, l4, l5] [.int (x2 * x3), .ref x1, .int x0] h Q) ∧
    (∀ (d : Nat) (l0 : Value) (l1 : Value) (l2 : Value) (l3 : Value) (l4 : Value) (l5 : Int32) (x2 : Int32) (x1 : Nat) (x0 : Int32) (h : zMm) (Q : Option Value → zMm → Prop), zWp d zi_175 none 25 [l0, l1, l2, l3, l4, .int l5] [.int x2, .ref x1, .int x0] h Q = zWp d zi_175 none 27 [l0, l1, l2, l3, l4, .int l5] [.int l5, .int x2, .ref x1, .int x0] h Q) ∧
    (∀ (d : Nat) (l0 : Value) (l1 : Value) (l2 : Value) (l3 : Value) (l4 : Value) (l5 : Value) (x3 : Int32) (x2 : Int32) (x1 : Nat) (x0 : Int32) (h : zMm) (Q : Option Value → zMm → Prop), zWp d zi_175 none 27 [l0, l1, l2, l3, l4, l5] [.int x3, .int x2, .ref x1, .int x0] h Q = zWp d zi_175 none 28 [l0, l1, l2, l3, l4, l5] [.int (x2 + x3), .ref x1, .int x0] h Q) ∧
    (∀ (d : Nat) (l0 : Value) (l1 : Value) (l2 : Value) (l3 : Value) (l4 : Value) (l5 : Value) (x2 : Int32) (x1 : Nat) (x0 : Int32) (I : Nat → Nat → Int32) (L : Nat → Nat → Int64) (P : Nat → Nat → Option Nat) (Q : Option Value → zMm → Prop), zAk zSH x1 = some .int → zWp d zi_175 none 28 [l0, l1, l2, l3, l4, l5] [.int x2, .ref x1, .int x0] (zSH, I, L, P) Q = (vp_in x2 (zAn zSH x1) ∧ zWp d zi_175 none 29 [l0, l1, l2, l3, l4, l5] [.int (I x1 x2.toNatClampNeg), .int x0] (zSH, I, L, P) Q)) ∧
    (∀ (d : Nat) (l0 : Value) (l1 : Value) (l2 : Value) (l3 : Value) (l4 : Value) (l5 : Value) (x1 : Int32) (x0 : Int32) (h : zMm) (Q : Option Value → zMm → Prop), zWp d zi_175 none 29 [l0, l1, l2, l3, l4, l5] [.int x1, .int x0] h Q = zWp d zi_175 none 31 [l0, l1, l2, l3, l4, l5] [.int 100, .int x1, .int x0] h Q) ∧
    (∀ (d : Nat) (l0 : Value) (l1 : Value) (l2 : Value) (l3 : Value) (l4 : Value) (l5 : Value) (x2 : Int32) (x1 : Int32) (x0 : Int32) (h : zMm) (Q : Option Value → zMm → Prop), zWp d zi_175 none 31 [l0, l1, l2, l3, l4, l5] [.int x2, .int x1, .int x0] h Q = zWp d zi_175 none 32 [l0, l1, l2, l3, l4, l5] [.int (x1 * x2), .int x0] h Q) ∧
    (∀ (d : Nat) (l0 : Nat) (l1 : Value) (l2 : Value) (l3 : Value) (l4 : Value) (l5 : Value) (x1 : Int32) (x0 : Int32) (h : zMm) (Q : Option Value → zMm → Prop), zWp d zi_175 none 32 [.ref l0, l1, l2, l3, l4, l5] [.int x1, .int x0] h Q = zWp d zi_175 none 33 [.ref l0, l1, l2, l3, l4, l5] [.ref l0, .int x1, .int x0] h Q) ∧
    (∀ (d : Nat) (l0 : Value) (l1 : Value) (l2 : Value) (l3 : Value) (l4 : Value) (l5 : Value) (x2 : Nat) (x1 : Int32) (x0 : Int32) (I : Nat → Nat → Int32) (L : Nat → Nat → Int64) (P : Nat → Nat → Option Nat) (Q : Option Value → zMm → Prop), zSH[x2]? = some (.inl 10) → zWp d zi_175 none 33 [l0, l1, l2, l3, l4, l5] [.ref x2, .int x1, .int x0] (zSH, I, L, P) Q = zWp d zi_175 none 36 [l0, l1, l2, l3, l4, l5] [va_rf (P x2 11), .int x1, .int x0] (zSH, I, L, P) Q) ∧
    (∀ (d : Nat) (l0 : Value) (l1 : Int32) (l2 : Value) (l3 : Value) (l4 : Value) (l5 : Value) (x2 : Nat) (x1 : Int32) (x0 : Int32) (h : zMm) (Q : Option Value → zMm → Prop), zWp d zi_175 none 36 [l0, .int l1, l2, l3, l4, l5] [.ref x2, .int x1, .int x0] h Q = zWp d zi_175 none 37 [l0, .int l1, l2, l3, l4, l5] [.int l1, .ref x2, .int x1, .int x0] h Q) ∧
    (∀ (d : Nat) (l0 : Value) (l1 : Value) (l2 : Value) (l3 : Value) (l4 : Value) (l5 : Value) (x3 : Int32) (x2 : Nat) (x1 : Int32) (x0 : Int32) (I : Nat → Nat → Int32) (L : Nat → Nat → Int64) (P : Nat → Nat → Option Nat) (Q : Option Value → zMm → Prop), zAk zSH x2 = some .int → zWp d zi_175 none 37 [l0, l1, l2, l3, l4, l5] [.int x3, .ref x2, .int x1, .int x0] (zSH, I, L, P) Q = (vp_in x3 (zAn zSH x2) ∧ zWp d zi_175 none 38 [l0, l1, l2, l3, l4, l5] [.int (I x2 x3.toNatClampNeg), .int x1, .int x0] (zSH, I, L, P) Q)) ∧
    (∀ (d : Nat) (l0 : Value) (l1 : Value) (l2 : Value) (l3 : Value) (l4 : Value) (l5 : Int32) (x2 : Int32) (x1 : Int32) (x0 : Int32) (h : zMm) (Q : Option Value → zMm → Prop), zWp d zi_175 none 38 [l0, l1, l2, l3, l4, .int l5] [.int x2, .int x1, .int x0] h Q = zWp d zi_175 none 40 [l0, l1, l2, l3, l4, .int l5] [.int l5, .int x2, .int x1, .int x0] h Q) ∧
    (∀ (d : Nat) (l0 : Nat) (l1 : Value) (l2 : Value) (l3 : Value) (l4 : Value) (l5 : Value) (x3 : Int32) (x2 : Int32) (x1 : Int32) (x0 : Int32) (h : zMm) (Q : Option Value → zMm → Prop), zWp d zi_175 none 40 [.ref l0, l1, l2, l3, l4, l5] [.int x3, .int x2, .int x1, .int x0] h Q = zWp d zi_175 none 41 [.ref l0, l1, l2, l3, l4, l5] [.ref l0, .int x3, .int x2, .int x1, .int x0] h Q) ∧
    (∀ (d : Nat) (l0 : Value) (l1 : Value) (l2 : Value) (l3 : Value) (l4 : Value) (l5 : Value) (x4 : Nat) (x3 : Int32) (x2 : Int32) (x1 : Int32) (x0 : Int32) (I : Nat → Nat → Int32) (L : Nat → Nat → Int64) (P : Nat → Nat → Option Nat) (Q : Option Value → zMm → Prop), zSH[x4]? = some (.inl 10) → zWp d zi_175 none 41 [l0, l1, l2, l3, l4, l5] [.ref x4, .int x3, .int x2, .int x1, .int x0] (zSH, I, L, P) Q = zWp d zi_175 none 44 [l0, l1, l2, l3, l4, l5] [va_rf (P x4 12), .int x3, .int x2, .int x1, .int x0] (zSH, I, L, P) Q) ∧
    (∀ (d : Nat) (l0 : Value) (l1 : Int32) (l2 : Value) (l3 : Value) (l4 : Value) (l5 : Value) (x4 : Nat) (x3 : Int32) (x2 : Int32) (x1 : Int32) (x0 : Int32) (h : zMm) (Q : Option Value → zMm → Prop), zWp d zi_175 none 44 [l0, .int l1, l2, l3, l4, l5] [.ref x4, .int x3, .int x2, .int x1, .int x0] h Q = zWp d zi_175 none 45 [l0, .int l1, l2, l3, l4, l5] [.int l1, .ref x4, .int x3, .int x2, .int x1, .int x0] h Q) ∧
    (∀ (d : Nat) (l0 : Value) (l1 : Value) (l2 : Value) (l3 : Value) (l4 : Value) (l5 : Value) (x5 : Int32) (x4 : Nat) (x3 : Int32) (x2 : Int32) (x1 : Int32) (x0 : Int32) (I : Nat → Nat → Int32) (L : Nat → Nat → Int64) (P : Nat → Nat → Option Nat) (Q : Option Value → zMm → Prop), zAk zSH x4 = some .int → zWp d zi_175 none 45 [l0, l1, l2, l3, l4, l5] [.int x5, .ref x4, .int x3, .int x2, .int x1, .int x0] (zSH, I, L, P) Q = (vp_in x5 (zAn zSH x4) ∧ zWp d zi_175 none 46 [l0, l1, l2, l3, l4, l5] [.int (I x4 x5.toNatClampNeg), .int x3, .int x2, .int x1, .int x0] (zSH, I, L, P) Q)) ∧
    (∀ (d : Nat) (l0 : Value) (l1 : Value) (l2 : Value) (l3 : Value) (l4 : Value) (l5 : Value) (x4 : Int32) (x3 : Int32) (x2 : Int32) (x1 : Int32) (x0 : Int32) (h : zMm) (Q : Option Value → zMm → Prop), zWp d zi_175 none 46 [l0, l1, l2, l3, l4, l5] [.int x4, .int x3, .int x2, .int x1, .int x0] h Q = zWp d zi_175 none 47 [l0, l1, l2, l3, l4, l5] [.int (x3 - x4), .int x2, .int x1, .int x0] h Q) ∧
    (∀ (d : Nat) (l0 : Value) (l1 : Value) (l2 : Value) (l3 : Value) (l4 : Value) (l5 : Value) (x3 : Int32) (x2 : Int32) (x1 : Int32) (x0 : Int32) (h : zMm) (Q : Option Value → zMm → Prop), zWp d zi_175 none 47 [l0, l1, l2, l3, l4, l5] [.int x3, .int x2, .int x1, .int x0] h Q = zWM d 123 [.int x3] h (fun r h1 => zWp d zi_175 none 50 [l0, l1, l2, l3, l4, l5] (r.toList ++ [.int x2, .int x1, .int x0]) h1 Q)) ∧
    (∀ (d : Nat) (l0 : Value) (l1 : Value) (l2 : Value) (l3 : Value) (l4 : Value) (l5 : Value) (x3 : Int32) (x2 : Int32) (x1 : Int32) (x0 : Int32) (h : zMm) (Q : Option Value → zMm → Prop), zWp d zi_175 none 50 [l0, l1, l2, l3, l4, l5] [.int x3, .int x2, .int x1, .int x0] h Q = zWp d zi_175 none 51 [l0, l1, l2, l3, l4, l5] [.int (x2 + x3), .int x1, .int x0] h Q) ∧
    (∀ (d : Nat) (l0 : Value) (l1 : Value) (l2 : Value) (l3 : Value) (l4 : Value) (l5 : Value) (x2 : Int32) (x1 : Int32) (x0 : Int32) (h : zMm) (Q : Option Value → zMm → Prop), zWp d zi_175 none 51 [l0, l1, l2, l3, l4, l5] [.int x2, .int x1, .int x0] h Q = (¬ x2 = 0 ∧ zWp d zi_175 none 52 [l0, l1, l2, l3, l4, l5] [.int (x1 / x2), .int x0] h Q)) ∧
    (∀ (d : Nat) (l0 : Value) (l1 : Value) (l2 : Value) (l3 : Value) (l4 : Value) (l5 : Value) (x1 : Int32) (x0 : Int32) (h : zMm) (Q : Option Value → zMm → Prop), zWp d zi_175 none 52 [l0, l1, l2, l3, l4, l5] [.int x1, .int x0] h Q = zWp d zi_175 none 53 [l0, l1, l2, l3, l4, l5] [.int (x0 + x1)] h Q) ∧
    (∀ (d : Nat) (l0 : Value) (l1 : Value) (l2 : Value) (l3 : Int32) (l4 : Value) (l5 : Value) (x0 : Int32) (h : zMm) (Q : Option Value → zMm → Prop), zWp d zi_175 none 53 [l0, l1, l2, .int l3, l4, l5] [.int x0] h Q = zWp d zi_175 none 55 [l0, l1, l2, .int l3, .int x0, l5] [] h Q) ∧
    (∀ (d : Nat) (l0 : Value) (l1 : Value) (l2 : Value) (l3 : Value) (l4 : Int32) (l5 : Int32)  (h : zMm) (Q : Option Value → zMm → Prop), zWp d zi_175 none 55 [l0, l1, l2, l3, .int l4, .int l5] [] h Q = zWp d zi_175 none 58 [l0, l1, l2, l3, .int l4, .int (l5 + 1)] [] h Q) ∧
    (∀ (d : Nat) (l0 : Value) (l1 : Value) (l2 : Value) (l3 : Value) (l4 : Value) (l5 : Value)  (h : zMm) (Q : Option Value → zMm → Prop), zWp d zi_175 none 58 [l0, l1, l2, l3, l4, l5] [] h Q = zWp d zi_175 none 6 [l0, l1, l2, l3, l4, l5] [] h Q) ∧
    (∀ (d : Nat) (l0 : Value) (l1 : Value) (l2 : Value) (l3 : Value) (l4 : Int32) (l5 : Value)  (h : zMm) (Q : Option Value → zMm → Prop), zWp d zi_175 none 61 [l0, l1, l2, l3, .int l4, l5] [] h Q = zWp d zi_175 none 63 [l0, l1, l2, l3, .int l4, l5] [.int l4] h Q) ∧
    (∀ (d : Nat) (l0 : Value) (l1 : Value) (l2 : Value) (l3 : Value) (l4 : Value) (l5 : Value) (x0 : Int32) (h : zMm) (Q : Option Value → zMm → Prop), zWp d zi_175 none 63 [l0, l1, l2, l3, l4, l5] [.int x0] h Q = zWp d zi_175 none 65 [l0, l1, l2, l3, l4, l5] [.int 20, .int x0] h Q) ∧
    (∀ (d : Nat) (l0 : Value) (l1 : Value) (l2 : Value) (l3 : Int32) (l4 : Value) (l5 : Value) (x1 : Int32) (x0 : Int32) (h : zMm) (Q : Option Value → zMm → Prop), zWp d zi_175 none 65 [l0, l1, l2, .int l3, l4, l5] [.int x1, .int x0] h Q = zWp d zi_175 none 66 [l0, l1, l2, .int l3, l4, l5] [.int l3, .int x1, .int x0] h Q) ∧
    (∀ (d : Nat) (l0 : Value) (l1 : Value) (l2 : Value) (l3 : Value) (l4 : Value) (l5 : Value) (x2 : Int32) (x1 : Int32) (x0 : Int32) (h : zMm) (Q : Option Value → zMm → Prop), zWp d zi_175 none 66 [l0, l1, l2, l3, l4, l5] [.int x2, .int x1, .int x0] h Q = zWp d zi_175 none 67 [l0, l1, l2, l3, l4, l5] [.int (x1 * x2), .int x0] h Q) ∧
    (∀ (d : Nat) (l0 : Value) (l1 : Value) (l2 : Value) (l3 : Value) (l4 : Value) (l5 : Value) (x1 : Int32) (x0 : Int32) (h : zMm) (Q : Option Value → zMm → Prop), zWp d zi_175 none 67 [l0, l1, l2, l3, l4, l5] [.int x1, .int x0] h Q = zWp d zi_175 none 68 [l0, l1, l2, l3, l4, l5] [.int (x0 - x1)] h Q) ∧
    (∀ (d : Nat) (l0 : Value) (l1 : Value) (l2 : Value) (l3 : Int32) (l4 : Value) (l5 : Value) (x0 : Int32) (h : zMm) (Q : Option Value → zMm → Prop), zWp d zi_175 none 68 [l0, l1, l2, .int l3, l4, l5] [.int x0] h Q = zWp d zi_175 none 70 [l0, l1, l2, .int l3, .int x0, l5] [] h Q) ∧
    (∀ (d : Nat) (l0 : Value) (l1 : Value) (l2 : Value) (l3 : Value) (l4 : Int32) (l5 : Value)  (h : zMm) (Q : Option Value → zMm → Prop), zWp d zi_175 none 70 [l0, l1, l2, l3, .int l4, l5] [] h Q = zWp d zi_175 none 72 [l0, l1, l2, l3, .int l4, l5] [.int l4] h Q) ∧
    (∀ (d : Nat) (l0 : Value) (l1 : Value) (l2 : Value) (l3 : Value) (l4 : Value) (l5 : Value) (x0 : Int32) (h : zMm) (Q : Option Value → zMm → Prop), zWp d zi_175 none 72 [l0, l1, l2, l3, l4, l5] [.int x0] h Q = if 0 ≤ x0 then zWp d zi_175 none 79 [l0, l1, l2, l3, l4, l5] [] h Q else zWp d zi_175 none 75 [l0, l1, l2, l3, l4, l5] [] h Q) ∧
    (∀ (d : Nat) (l0 : Value) (l1 : Value) (l2 : Value) (l3 : Value) (l4 : Value) (l5 : Value)  (h : zMm) (Q : Option Value → zMm → Prop), zWp d zi_175 none 75 [l0, l1, l2, l3, l4, l5] [] h Q = zWp d zi_175 none 76 [l0, l1, l2, l3, l4, l5] [.int 0] h Q) ∧
    (∀ (d : Nat) (l0 : Value) (l1 : Value) (l2 : Value) (l3 : Value) (l4 : Value) (l5 : Value) (x0 : Int32) (h : zMm) (Q : Option Value → zMm → Prop), zWp d zi_175 none 76 [l0, l1, l2, l3, l4, l5] [.int x0] h Q = zWp d zi_175 none 81 [l0, l1, l2, l3, l4, l5] [.int x0] h Q) ∧
    (∀ (d : Nat) (l0 : Value) (l1 : Value) (l2 : Value) (l3 : Value) (l4 : Int32) (l5 : Value)  (h : zMm) (Q : Option Value → zMm → Prop), zWp d zi_175 none 79 [l0, l1, l2, l3, .int l4, l5] [] h Q = zWp d zi_175 none 81 [l0, l1, l2, l3, .int l4, l5] [.int l4] h Q) ∧
    (∀ (d : Nat) (l0 : Value) (l1 : Value) (l2 : Value) (l3 : Value) (l4 : Value) (l5 : Value) (x0 : Int32) (h : zMm) (Q : Option Value → zMm → Prop), zWp d zi_175 none 81 [l0, l1, l2, l3, l4, l5] [.int x0] h Q = Q (some (.int x0)) h) :=
  ⟨(fun d l0 l1 l2 l3 l4 l5  h Q => zr_iconst rfl (by decide)),
   (fun d l0 l1 l2 l3 l4 l5 x0 h Q => zr_istore (n := 4) rfl (Nat.le_of_ble_eq_true rfl) rfl),
   (fun d l0 l1 l2 l3 l4 l5  h Q => zr_iconst rfl (by decide)),
   (fun d l0 l1 l2 l3 l4 l5 x0 h Q => zr_istore (n := 5) rfl (Nat.le_of_ble_eq_true rfl) rfl),
   (fun d l0 l1 l2 l3 l4 l5 x0 h Q => zr_aload_n rfl rfl),
   (fun d l0 l1 l2 l3 l4 l5 x1 x0 I L P Q p0 => zr_getI rfl lf_10_99 (fun _ _ _ => rfl) p0),
   (fun d l0 l1 l2 l3 l4 l5 x1 x0 h Q => zr_ic_ge rfl (by decide)),
   (fun d l0 l1 l2 l3 l4 l5  h Q => zr_iload rfl rfl),
   (fun d l0 l1 l2 l3 l4 l5 x0 h Q => zr_aload_n rfl rfl),
   (fun d l0 l1 l2 l3 l4 l5 x1 x0 I L P Q p0 => zr_getQ rfl lf_10_55 (fun _ _ _ => rfl) p0),
   (fun d l0 l1 l2 l3 l4 l5 x1 x0 h Q => zr_bipush rfl (by decide)),
   (fun d l0 l1 l2 l3 l4 l5 x2 x1 x0 h Q => zr_iload_n rfl rfl),
   (fun d l0 l1 l2 l3 l4 l5 x3 x2 x1 x0 h Q => zr_imul rfl),
   (fun d l0 l1 l2 l3 l4 l5 x2 x1 x0 h Q => zr_iload rfl rfl),
   (fun d l0 l1 l2 l3 l4 l5 x3 x2 x1 x0 h Q => zr_iadd rfl),
   (fun d l0 l1 l2 l3 l4 l5 x2 x1 x0 I L P Q p0 => zr_ald rfl p0),
   (fun d l0 l1 l2 l3 l4 l5 x1 x0 h Q => zr_bipush rfl (by decide)),
   (fun d l0 l1 l2 l3 l4 l5 x2 x1 x0 h Q => zr_imul rfl),
   (fun d l0 l1 l2 l3 l4 l5 x1 x0 h Q => zr_aload_n rfl rfl),
   (fun d l0 l1 l2 l3 l4 l5 x2 x1 x0 I L P Q p0 => zr_getQ rfl lf_10_25 (fun _ _ _ => rfl) p0),
   (fun d l0 l1 l2 l3 l4 l5 x2 x1 x0 h Q => zr_iload_n rfl rfl),
   (fun d l0 l1 l2 l3 l4 l5 x3 x2 x1 x0 I L P Q p0 => zr_ald rfl p0),
   (fun d l0 l1 l2 l3 l4 l5 x2 x1 x0 h Q => zr_iload rfl rfl),
   (fun d l0 l1 l2 l3 l4 l5 x3 x2 x1 x0 h Q => zr_aload_n rfl rfl),
   (fun d l0 l1 l2 l3 l4 l5 x4 x3 x2 x1 x0 I L P Q p0 => zr_getQ rfl lf_10_28 (fun _ _ _ => rfl) p0),
   (fun d l0 l1 l2 l3 l4 l5 x4 x3 x2 x1 x0 h Q => zr_iload_n rfl rfl),
   (fun d l0 l1 l2 l3 l4 l5 x5 x4 x3 x2 x1 x0 I L P Q p0 => zr_ald rfl p0),
   (fun d l0 l1 l2 l3 l4 l5 x4 x3 x2 x1 x0 h Q => zr_isub rfl),
   (fun d l0 l1 l2 l3 l4 l5 x3 x2 x1 x0 h Q => zr_sta (as := [.int x3]) (rest := [.int x2, .int x1, .int x0]) rfl lm_10_245 (by decide) m_123 kd_123 rfl (Nat.le_of_ble_eq_true rfl)),
   (fun d l0 l1 l2 l3 l4 l5 x3 x2 x1 x0 h Q => zr_iadd rfl),
   (fun d l0 l1 l2 l3 l4 l5 x2 x1 x0 h Q => zr_idiv rfl),
   (fun d l0 l1 l2 l3 l4 l5 x1 x0 h Q => zr_iadd rfl),
   (fun d l0 l1 l2 l3 l4 l5 x0 h Q => zr_istore (n := 4) rfl (Nat.le_of_ble_eq_true rfl) rfl),
   (fun d l0 l1 l2 l3 l4 l5  h Q => zr_iinc (n := 5) (kc := 1) rfl rfl (Nat.le_of_ble_eq_true rfl) rfl (by decide)),
   (fun d l0 l1 l2 l3 l4 l5  h Q => zr_goto rfl (by decide)),
   (fun d l0 l1 l2 l3 l4 l5  h Q => zr_iload rfl rfl),
   (fun d l0 l1 l2 l3 l4 l5 x0 h Q => zr_bipush rfl (by decide)),
   (fun d l0 l1 l2 l3 l4 l5 x1 x0 h Q => zr_iload_n rfl rfl),
   (fun d l0 l1 l2 l3 l4 l5 x2 x1 x0 h Q => zr_imul rfl),
   (fun d l0 l1 l2 l3 l4 l5 x1 x0 h Q => zr_isub rfl),
   (fun d l0 l1 l2 l3 l4 l5 x0 h Q => zr_istore (n := 4) rfl (Nat.le_of_ble_eq_true rfl) rfl),
   (fun d l0 l1 l2 l3 l4 l5  h Q => zr_iload rfl rfl),
   (fun d l0 l1 l2 l3 l4 l5 x0 h Q => zr_if_ge rfl (by decide)),
   (fun d l0 l1 l2 l3 l4 l5  h Q => zr_iconst rfl (by decide)),
   (fun d l0 l1 l2 l3 l4 l5 x0 h Q => zr_goto rfl (by decide)),
   (fun d l0 l1 l2 l3 l4 l5  h Q => zr_iload rfl rfl),
   (fun d l0 l1 l2 l3 l4 l5 x0 h Q => zr_iret rfl rfl)⟩
theorem H_X10_heatBy_6 : ∀ (d : Nat) (l0 : Value) (l1 : Value) (l2 : Value) (l3 : Value) (l4 : Value) (l5 : Int32)  (h : zMm) (Q : Option Value → zMm → Prop), zWp d zi_175 none 6 [l0, l1, l2, l3, l4, .int l5] [] h Q = zWp d zi_175 none 8 [l0, l1, l2, l3, l4, .int l5] [.int l5] h Q := fun d l0 l1 l2 l3 l4 l5  h Q => zr_iload rfl rfl
theorem E_X10_heatAt : ∀ (d : Nat) (a0 : Nat) (a1 : Int32) (a2 : Int32) (h : zMm) (Q : Option Value → zMm → Prop), zWM (d + 1) 176 [.ref a0, .int a1, .int a2] h Q = zWp d zi_176 none 0 [.ref a0, .int a1, .int a2] [] h Q := fun d a0 a1 a2 h Q => zW_M m_176 (Nat.le_of_ble_eq_true rfl) rfl
set_option maxRecDepth 100000 in
theorem R_X10_heatAt :
    (∀ (d : Nat) (l0 : Nat) (l1 : Value) (l2 : Value)  (h : zMm) (Q : Option Value → zMm → Prop), zWp d zi_176 none 0 [.ref l0, l1, l2] [] h Q = zWp d zi_176 none 1 [.ref l0, l1, l2] [.ref l0] h Q) ∧
    (∀ (d : Nat) (l0 : Value) (l1 : Int32) (l2 : Value) (x0 : Nat) (h : zMm) (Q : Option Value → zMm → Prop), zWp d zi_176 none 1 [l0, .int l1, l2] [.ref x0] h Q = zWp d zi_176 none 2 [l0, .int l1, l2] [.int l1, .ref x0] h Q) ∧
    (∀ (d : Nat) (l0 : Value) (l1 : Value) (l2 : Int32) (x1 : Int32) (x0 : Nat) (h : zMm) (Q : Option Value → zMm → Prop), zWp d zi_176 none 2 [l0, l1, .int l2] [.int x1, .ref x0] h Q = zWp d zi_176 none 3 [l0, l1, .int l2] [.int l2, .int x1, .ref x0] h Q) ∧
    (∀ (d : Nat) (l0 : Nat) (l1 : Value) (l2 : Value) (x2 : Int32) (x1 : Int32) (x0 : Nat) (h : zMm) (Q : Option Value → zMm → Prop), zWp d zi_176 none 3 [.ref l0, l1, l2] [.int x2, .int x1, .ref x0] h Q = zWp d zi_176 none 4 [.ref l0, l1, l2] [.ref l0, .int x2, .int x1, .ref x0] h Q) ∧
    (∀ (d : Nat) (l0 : Value) (l1 : Value) (l2 : Value) (x3 : Nat) (x2 : Int32) (x1 : Int32) (x0 : Nat) (I : Nat → Nat → Int32) (L : Nat → Nat → Int64) (P : Nat → Nat → Option Nat) (Q : Option Value → zMm → Prop), zSH[x3]? = some (.inl 10) → zWp d zi_176 none 4 [l0, l1, l2] [.ref x3, .int x2, .int x1, .ref x0] (zSH, I, L, P) Q = zWp d zi_176 none 7 [l0, l1, l2] [va_rf (P x3 0), .int x2, .int x1, .ref x0] (zSH, I, L, P) Q) ∧
    (∀ (d : Nat) (l0 : Value) (l1 : Value) (l2 : Value) (x3 : Nat) (x2 : Int32) (x1 : Int32) (x0 : Nat) (h : zMm) (Q : Option Value → zMm → Prop), zWp d zi_176 none 7 [l0, l1, l2] [.ref x3, .int x2, .int x1, .ref x0] h Q = zWp d zi_176 none 9 [l0, l1, l2] [.int 74, .ref x3, .int x2, .int x1, .ref x0] h Q) ∧
    (∀ (d : Nat) (l0 : Value) (l1 : Int32) (l2 : Value) (x4 : Int32) (x3 : Nat) (x2 : Int32) (x1 : Int32) (x0 : Nat) (h : zMm) (Q : Option Value → zMm → Prop), zWp d zi_176 none 9 [l0, .int l1, l2] [.int x4, .ref x3, .int x2, .int x1, .ref x0] h Q = zWp d zi_176 none 10 [l0, .int l1, l2] [.int l1, .int x4, .ref x3, .int x2, .int x1, .ref x0] h Q) ∧
    (∀ (d : Nat) (l0 : Value) (l1 : Value) (l2 : Value) (x5 : Int32) (x4 : Int32) (x3 : Nat) (x2 : Int32) (x1 : Int32) (x0 : Nat) (h : zMm) (Q : Option Value → zMm → Prop), zWp d zi_176 none 10 [l0, l1, l2] [.int x5, .int x4, .ref x3, .int x2, .int x1, .ref x0] h Q = zWp d zi_176 none 11 [l0, l1, l2] [.int (x4 + x5), .ref x3, .int x2, .int x1, .ref x0] h Q) ∧
    (∀ (d : Nat) (l0 : Value) (l1 : Value) (l2 : Value) (x4 : Int32) (x3 : Nat) (x2 : Int32) (x1 : Int32) (x0 : Nat) (I : Nat → Nat → Int32) (L : Nat → Nat → Int64) (P : Nat → Nat → Option Nat) (Q : Option Value → zMm → Prop), zAk zSH x3 = some .int → zWp d zi_176 none 11 [l0, l1, l2] [.int x4, .ref x3, .int x2, .int x1, .ref x0] (zSH, I, L, P) Q = (vp_in x4 (zAn zSH x3) ∧ zWp d zi_176 none 12 [l0, l1, l2] [.int (I x3 x4.toNatClampNeg), .int x2, .int x1, .ref x0] (zSH, I, L, P) Q)) ∧
    (∀ (d : Nat) (l0 : Value) (l1 : Value) (l2 : Value) (x3 : Int32) (x2 : Int32) (x1 : Int32) (x0 : Nat) (I : Nat → Nat → Int32) (L : Nat → Nat → Int64) (P : Nat → Nat → Option Nat) (Q : Option Value → zMm → Prop), zSH[x0]? = some (.inl 10) → zWp d zi_176 none 12 [l0, l1, l2] [.int x3, .int x2, .int x1, .ref x0] (zSH, I, L, P) Q = zWM d 175 [.ref x0, .int x1, .int x2, .int x3] (zSH, I, L, P) (fun r h1 => zWp d zi_176 none 15 [l0, l1, l2] (r.toList ++ []) h1 Q)) ∧
    (∀ (d : Nat) (l0 : Value) (l1 : Value) (l2 : Value) (x0 : Int32) (h : zMm) (Q : Option Value → zMm → Prop), zWp d zi_176 none 15 [l0, l1, l2] [.int x0] h Q = Q (some (.int x0)) h) :=
  ⟨(fun d l0 l1 l2  h Q => zr_aload_n rfl rfl),
   (fun d l0 l1 l2 x0 h Q => zr_iload_n rfl rfl),
   (fun d l0 l1 l2 x1 x0 h Q => zr_iload_n rfl rfl),
   (fun d l0 l1 l2 x2 x1 x0 h Q => zr_aload_n rfl rfl),
   (fun d l0 l1 l2 x3 x2 x1 x0 I L P Q p0 => zr_getQ rfl lf_10_9 (fun _ _ _ => rfl) p0),
   (fun d l0 l1 l2 x3 x2 x1 x0 h Q => zr_bipush rfl (by decide)),
   (fun d l0 l1 l2 x4 x3 x2 x1 x0 h Q => zr_iload_n rfl rfl),
   (fun d l0 l1 l2 x5 x4 x3 x2 x1 x0 h Q => zr_iadd rfl),
   (fun d l0 l1 l2 x4 x3 x2 x1 x0 I L P Q p0 => zr_ald rfl p0),
   (fun d l0 l1 l2 x3 x2 x1 x0 I L P Q p0 => zr_vir (as := [.int x3, .int x2, .int x1]) (rest := []) rfl lm_10_282 m_175 kd_175 rfl (Nat.le_of_ble_eq_true rfl) p0),
   (fun d l0 l1 l2 x0 h Q => zr_iret rfl rfl)⟩
theorem E_X10_heat : ∀ (d : Nat) (a0 : Nat) (a1 : Int32) (a2 : Int32) (h : zMm) (Q : Option Value → zMm → Prop), zWM (d + 1) 177 [.ref a0, .int a1, .int a2] h Q = zWp d zi_177 none 0 [.ref a0, .int a1, .int a2] [] h Q := fun d a0 a1 a2 h Q => zW_M m_177 (Nat.le_of_ble_eq_true rfl) rfl
set_option maxRecDepth 100000 in
theorem R_X10_heat :
    (∀ (d : Nat) (l0 : Nat) (l1 : Value) (l2 : Value)  (h : zMm) (Q : Option Value → zMm → Prop), zWp d zi_177 none 0 [.ref l0, l1, l2] [] h Q = zWp d zi_177 none 1 [.ref l0, l1, l2] [.ref l0] h Q) ∧
    (∀ (d : Nat) (l0 : Value) (l1 : Int32) (l2 : Value) (x0 : Nat) (h : zMm) (Q : Option Value → zMm → Prop), zWp d zi_177 none 1 [l0, .int l1, l2] [.ref x0] h Q = zWp d zi_177 none 2 [l0, .int l1, l2] [.int l1, .ref x0] h Q) ∧
    (∀ (d : Nat) (l0 : Value) (l1 : Value) (l2 : Value) (x1 : Int32) (x0 : Nat) (I : Nat → Nat → Int32) (L : Nat → Nat → Int64) (P : Nat → Nat → Option Nat) (Q : Option Value → zMm → Prop), zSH[x0]? = some (.inl 10) → zWp d zi_177 none 2 [l0, l1, l2] [.int x1, .ref x0] (zSH, I, L, P) Q = zWM d 131 [.ref x0, .int x1] (zSH, I, L, P) (fun r h1 => zWp d zi_177 none 5 [l0, l1, l2] (r.toList ++ []) h1 Q)) ∧
    (∀ (d : Nat) (l0 : Value) (l1 : Value) (l2 : Value) (x0 : Int32) (h : zMm) (Q : Option Value → zMm → Prop), zWp d zi_177 none 5 [l0, l1, l2] [.int x0] h Q = if x0 = 0 then zWp d zi_177 none 20 [l0, l1, l2] [] h Q else zWp d zi_177 none 8 [l0, l1, l2] [] h Q) ∧
    (∀ (d : Nat) (l0 : Value) (l1 : Value) (l2 : Int32)  (h : zMm) (Q : Option Value → zMm → Prop), zWp d zi_177 none 8 [l0, l1, .int l2] [] h Q = zWp d zi_177 none 9 [l0, l1, .int l2] [.int l2] h Q) ∧
    (∀ (d : Nat) (l0 : Value) (l1 : Value) (l2 : Value) (x0 : Int32) (h : zMm) (Q : Option Value → zMm → Prop), zWp d zi_177 none 9 [l0, l1, l2] [.int x0] h Q = zWp d zi_177 none 10 [l0, l1, l2] [.long x0.toInt64] h Q) ∧
    (∀ (d : Nat) (l0 : Value) (l1 : Value) (l2 : Value) (x0 : Int64) (h : zMm) (Q : Option Value → zMm → Prop), zWp d zi_177 none 10 [l0, l1, l2] [.long x0] h Q = zWp d zi_177 none 11 [l0, l1, l2] [.long 0, .long x0] h Q) ∧
    (∀ (d : Nat) (l0 : Value) (l1 : Value) (l2 : Value) (x1 : Int64) (x0 : Int64) (h : zMm) (Q : Option Value → zMm → Prop), zWp d zi_177 none 11 [l0, l1, l2] [.long x1, .long x0] h Q = zWp d zi_177 none 14 [l0, l1, l2] [.long 60, .long x1, .long x0] h Q) ∧
    (∀ (d : Nat) (l0 : Value) (l1 : Value) (l2 : Value) (x2 : Int64) (x1 : Int64) (x0 : Int64) (h : zMm) (Q : Option Value → zMm → Prop), zWp d zi_177 none 14 [l0, l1, l2] [.long x2, .long x1, .long x0] h Q = zWM d 122 [.long x0, .long x1, .long x2] h (fun r h1 => zWp d zi_177 none 17 [l0, l1, l2] (r.toList ++ []) h1 Q)) ∧
    (∀ (d : Nat) (l0 : Value) (l1 : Value) (l2 : Value) (x0 : Int32) (h : zMm) (Q : Option Value → zMm → Prop), zWp d zi_177 none 17 [l0, l1, l2] [.int x0] h Q = if x0 = 0 then zWp d zi_177 none 20 [l0, l1, l2] [] h Q else zWp d zi_177 none 22 [l0, l1, l2] [] h Q) ∧
    (∀ (d : Nat) (l0 : Value) (l1 : Value) (l2 : Value)  (h : zMm) (Q : Option Value → zMm → Prop), zWp d zi_177 none 20 [l0, l1, l2] [] h Q = zWp d zi_177 none 21 [l0, l1, l2] [.int (-1)] h Q) ∧
    (∀ (d : Nat) (l0 : Value) (l1 : Value) (l2 : Value) (x0 : Int32) (h : zMm) (Q : Option Value → zMm → Prop), zWp d zi_177 none 21 [l0, l1, l2] [.int x0] h Q = Q (some (.int x0)) h) ∧
    (∀ (d : Nat) (l0 : Nat) (l1 : Value) (l2 : Value)  (h : zMm) (Q : Option Value → zMm → Prop), zWp d zi_177 none 22 [.ref l0, l1, l2] [] h Q = zWp d zi_177 none 23 [.ref l0, l1, l2] [.ref l0] h Q) ∧
    (∀ (d : Nat) (l0 : Value) (l1 : Value) (l2 : Value) (x0 : Nat) (I : Nat → Nat → Int32) (L : Nat → Nat → Int64) (P : Nat → Nat → Option Nat) (Q : Option Value → zMm → Prop), zSH[x0]? = some (.inl 10) → zWp d zi_177 none 23 [l0, l1, l2] [.ref x0] (zSH, I, L, P) Q = zWM d 172 [.ref x0] (zSH, I, L, P) (fun r h1 => zWp d zi_177 none 26 [l0, l1, l2] (r.toList ++ []) h1 Q)) ∧
    (∀ (d : Nat) (l0 : Nat) (l1 : Value) (l2 : Value)  (h : zMm) (Q : Option Value → zMm → Prop), zWp d zi_177 none 26 [.ref l0, l1, l2] [] h Q = zWp d zi_177 none 27 [.ref l0, l1, l2] [.ref l0] h Q) ∧
    (∀ (d : Nat) (l0 : Value) (l1 : Int32) (l2 : Value) (x0 : Nat) (h : zMm) (Q : Option Value → zMm → Prop), zWp d zi_177 none 27 [l0, .int l1, l2] [.ref x0] h Q = zWp d zi_177 none 28 [l0, .int l1, l2] [.int l1, .ref x0] h Q) ∧
    (∀ (d : Nat) (l0 : Value) (l1 : Value) (l2 : Int32) (x1 : Int32) (x0 : Nat) (h : zMm) (Q : Option Value → zMm → Prop), zWp d zi_177 none 28 [l0, l1, .int l2] [.int x1, .ref x0] h Q = zWp d zi_177 none 29 [l0, l1, .int l2] [.int l2, .int x1, .ref x0] h Q) ∧
    (∀ (d : Nat) (l0 : Value) (l1 : Value) (l2 : Value) (x2 : Int32) (x1 : Int32) (x0 : Nat) (I : Nat → Nat → Int32) (L : Nat → Nat → Int64) (P : Nat → Nat → Option Nat) (Q : Option Value → zMm → Prop), zSH[x0]? = some (.inl 10) → zWp d zi_177 none 29 [l0, l1, l2] [.int x2, .int x1, .ref x0] (zSH, I, L, P) Q = zWM d 176 [.ref x0, .int x1, .int x2] (zSH, I, L, P) (fun r h1 => zWp d zi_177 none 32 [l0, l1, l2] (r.toList ++ []) h1 Q)) ∧
    (∀ (d : Nat) (l0 : Value) (l1 : Value) (l2 : Value) (x0 : Int32) (h : zMm) (Q : Option Value → zMm → Prop), zWp d zi_177 none 32 [l0, l1, l2] [.int x0] h Q = Q (some (.int x0)) h) :=
  ⟨(fun d l0 l1 l2  h Q => zr_aload_n rfl rfl),
   (fun d l0 l1 l2 x0 h Q => zr_iload_n rfl rfl),
   (fun d l0 l1 l2 x1 x0 I L P Q p0 => zr_vir (as := [.int x1]) (rest := []) rfl lm_10_152 m_131 kd_131 rfl (Nat.le_of_ble_eq_true rfl) p0),
   (fun d l0 l1 l2 x0 h Q => zr_if_eq rfl (by decide)),
   (fun d l0 l1 l2  h Q => zr_iload_n rfl rfl),
   (fun d l0 l1 l2 x0 h Q => zr_i2l rfl),
   (fun d l0 l1 l2 x0 h Q => zr_lconst rfl (by decide)),
   (fun d l0 l1 l2 x1 x0 h Q => zr_ldc2_w rfl lj_10_277),
   (fun d l0 l1 l2 x2 x1 x0 h Q => zr_sta (as := [.long x2, .long x1, .long x0]) (rest := []) rfl lm_10_110 (by decide) m_122 kd_122 rfl (Nat.le_of_ble_eq_true rfl)),
   (fun d l0 l1 l2 x0 h Q => zr_if_ne rfl (by decide)),
   (fun d l0 l1 l2  h Q => zr_iconst rfl (by decide)),
   (fun d l0 l1 l2 x0 h Q => zr_iret rfl rfl),
   (fun d l0 l1 l2  h Q => zr_aload_n rfl rfl),
   (fun d l0 l1 l2 x0 I L P Q p0 => zr_vir (as := []) (rest := []) rfl lm_10_279 m_172 kd_172 rfl (Nat.le_of_ble_eq_true rfl) p0),
   (fun d l0 l1 l2  h Q => zr_aload_n rfl rfl),
   (fun d l0 l1 l2 x0 h Q => zr_iload_n rfl rfl),
   (fun d l0 l1 l2 x1 x0 h Q => zr_iload_n rfl rfl),
   (fun d l0 l1 l2 x2 x1 x0 I L P Q p0 => zr_vir (as := [.int x2, .int x1]) (rest := []) rfl lm_10_286 m_176 kd_176 rfl (Nat.le_of_ble_eq_true rfl) p0),
   (fun d l0 l1 l2 x0 h Q => zr_iret rfl rfl)⟩
theorem E_X10_crackOf : ∀ (d : Nat) (a0 : Nat) (a1 : Int32) (a2 : Int32) (h : zMm) (Q : Option Value → zMm → Prop), zWM (d + 1) 178 [.ref a0, .int a1, .int a2] h Q = zWp d zi_178 none 0 [.ref a0, .int a1, .int a2, .retAddr 0, .retAddr 0] [] h Q := fun d a0 a1 a2 h Q => zW_M m_178 (Nat.le_of_ble_eq_true rfl) rfl
set_option maxRecDepth 100000 in
theorem R_X10_crackOf :
    (∀ (d : Nat) (l0 : Nat) (l1 : Value) (l2 : Value) (l3 : Value) (l4 : Value)  (h : zMm) (Q : Option Value → zMm → Prop), zWp d zi_178 none 0 [.ref l0, l1, l2, l3, l4] [] h Q = zWp d zi_178 none 1 [.ref l0, l1, l2, l3, l4] [.ref l0] h Q) ∧
    (∀ (d : Nat) (l0 : Value) (l1 : Value) (l2 : Value) (l3 : Value) (l4 : Value) (x0 : Nat) (I : Nat → Nat → Int32) (L : Nat → Nat → Int64) (P : Nat → Nat → Option Nat) (Q : Option Value → zMm → Prop), zSH[x0]? = some (.inl 10) → zWp d zi_178 none 1 [l0, l1, l2, l3, l4] [.ref x0] (zSH, I, L, P) Q = zWp d zi_178 none 4 [l0, l1, l2, l3, l4] [.int (I x0 29)] (zSH, I, L, P) Q) ∧
    (∀ (d : Nat) (l0 : Value) (l1 : Value) (l2 : Value) (l3 : Value) (l4 : Value) (x0 : Int32) (h : zMm) (Q : Option Value → zMm → Prop), zWp d zi_178 none 4 [l0, l1, l2, l3, l4] [.int x0] h Q = if 0 ≤ x0 then zWp d zi_178 none 12 [l0, l1, l2, l3, l4] [] h Q else zWp d zi_178 none 7 [l0, l1, l2, l3, l4] [] h Q) ∧
    (∀ (d : Nat) (l0 : Value) (l1 : Value) (l2 : Value) (l3 : Value) (l4 : Value)  (h : zMm) (Q : Option Value → zMm → Prop), zWp d zi_178 none 7 [l0, l1, l2, l3, l4] [] h Q = zWp d zi_178 none 9 [l0, l1, l2, l3, l4] [.int 60] h Q) ∧
    (∀ (d : Nat) (l0 : Value) (l1 : Value) (l2 : Value) (l3 : Value) (l4 : Value) (x0 : Int32) (h : zMm) (Q : Option Value → zMm → Prop), zWp d zi_178 none 9 [l0, l1, l2, l3, l4] [.int x0] h Q = zWp d zi_178 none 16 [l0, l1, l2, l3, l4] [.int x0] h Q) ∧
    (∀ (d : Nat) (l0 : Nat) (l1 : Value) (l2 : Value) (l3 : Value) (l4 : Value)  (h : zMm) (Q : Option Value → zMm → Prop), zWp d zi_178 none 12 [.ref l0, l1, l2, l3, l4] [] h Q = zWp d zi_178 none 13 [.ref l0, l1, l2, l3, l4] [.ref l0] h Q) ∧
    (∀ (d : Nat) (l0 : Value) (l1 : Value) (l2 : Value) (l3 : Value) (l4 : Value) (x0 : Nat) (I : Nat → Nat → Int32) (L : Nat → Nat → Int64) (P : Nat → Nat → Option Nat) (Q : Option Value → zMm → Prop), zSH[x0]? = some (.inl 10) → zWp d zi_178 none 13 [l0, l1, l2, l3, l4] [.ref x0] (zSH, I, L, P) Q = zWp d zi_178 none 16 [l0, l1, l2, l3, l4] [.int (I x0 29)] (zSH, I, L, P) Q) ∧
    (∀ (d : Nat) (l0 : Value) (l1 : Value) (l2 : Int32) (l3 : Value) (l4 : Value) (x0 : Int32) (h : zMm) (Q : Option Value → zMm → Prop), zWp d zi_178 none 16 [l0, l1, .int l2, l3, l4] [.int x0] h Q = zWp d zi_178 none 17 [l0, l1, .int l2, .int x0, l4] [] h Q) ∧
    (∀ (d : Nat) (l0 : Value) (l1 : Value) (l2 : Value) (l3 : Value) (l4 : Value)  (h : zMm) (Q : Option Value → zMm → Prop), zWp d zi_178 none 17 [l0, l1, l2, l3, l4] [] h Q = zWp d zi_178 none 18 [l0, l1, l2, l3, l4] [.int 0] h Q) ∧
    (∀ (d : Nat) (l0 : Value) (l1 : Value) (l2 : Value) (l3 : Int32) (l4 : Value) (x0 : Int32) (h : zMm) (Q : Option Value → zMm → Prop), zWp d zi_178 none 18 [l0, l1, l2, .int l3, l4] [.int x0] h Q = zWp d zi_178 none 20 [l0, l1, l2, .int l3, .int x0] [] h Q) ∧
    (∀ (d : Nat) (l0 : Value) (l1 : Value) (l2 : Value) (l3 : Int32) (l4 : Value) (x0 : Int32) (h : zMm) (Q : Option Value → zMm → Prop), zWp d zi_178 none 22 [l0, l1, l2, .int l3, l4] [.int x0] h Q = zWp d zi_178 none 23 [l0, l1, l2, .int l3, l4] [.int l3, .int x0] h Q) ∧
    (∀ (d : Nat) (l0 : Value) (l1 : Value) (l2 : Value) (l3 : Value) (l4 : Value) (x1 : Int32) (x0 : Int32) (h : zMm) (Q : Option Value → zMm → Prop), zWp d zi_178 none 23 [l0, l1, l2, l3, l4] [.int x1, .int x0] h Q = if x1 < x0 then zWp d zi_178 none 53 [l0, l1, l2, l3, l4] [] h Q else zWp d zi_178 none 26 [l0, l1, l2, l3, l4] [] h Q) ∧
    (∀ (d : Nat) (l0 : Nat) (l1 : Value) (l2 : Value) (l3 : Value) (l4 : Value)  (h : zMm) (Q : Option Value → zMm → Prop), zWp d zi_178 none 26 [.ref l0, l1, l2, l3, l4] [] h Q = zWp d zi_178 none 27 [.ref l0, l1, l2, l3, l4] [.ref l0] h Q) ∧
    (∀ (d : Nat) (l0 : Value) (l1 : Int32) (l2 : Value) (l3 : Value) (l4 : Value) (x0 : Nat) (h : zMm) (Q : Option Value → zMm → Prop), zWp d zi_178 none 27 [l0, .int l1, l2, l3, l4] [.ref x0] h Q = zWp d zi_178 none 28 [l0, .int l1, l2, l3, l4] [.int l1, .ref x0] h Q) ∧
    (∀ (d : Nat) (l0 : Value) (l1 : Value) (l2 : Value) (l3 : Value) (l4 : Int32) (x1 : Int32) (x0 : Nat) (h : zMm) (Q : Option Value → zMm → Prop), zWp d zi_178 none 28 [l0, l1, l2, l3, .int l4] [.int x1, .ref x0] h Q = zWp d zi_178 none 30 [l0, l1, l2, l3, .int l4] [.int l4, .int x1, .ref x0] h Q) ∧
    (∀ (d : Nat) (l0 : Value) (l1 : Value) (l2 : Int32) (l3 : Value) (l4 : Value) (x2 : Int32) (x1 : Int32) (x0 : Nat) (h : zMm) (Q : Option Value → zMm → Prop), zWp d zi_178 none 30 [l0, l1, .int l2, l3, l4] [.int x2, .int x1, .ref x0] h Q = zWp d zi_178 none 31 [l0, l1, .int l2, l3, l4] [.int l2, .int x2, .int x1, .ref x0] h Q) ∧
    (∀ (d : Nat) (l0 : Value) (l1 : Value) (l2 : Value) (l3 : Value) (l4 : Value) (x3 : Int32) (x2 : Int32) (x1 : Int32) (x0 : Nat) (I : Nat → Nat → Int32) (L : Nat → Nat → Int64) (P : Nat → Nat → Option Nat) (Q : Option Value → zMm → Prop), zSH[x0]? = some (.inl 10) → zWp d zi_178 none 31 [l0, l1, l2, l3, l4] [.int x3, .int x2, .int x1, .ref x0] (zSH, I, L, P) Q = zWM d 175 [.ref x0, .int x1, .int x2, .int x3] (zSH, I, L, P) (fun r h1 => zWp d zi_178 none 34 [l0, l1, l2, l3, l4] (r.toList ++ []) h1 Q)) ∧
    (∀ (d : Nat) (l0 : Nat) (l1 : Value) (l2 : Value) (l3 : Value) (l4 : Value) (x0 : Int32) (h : zMm) (Q : Option Value → zMm → Prop), zWp d zi_178 none 34 [.ref l0, l1, l2, l3, l4] [.int x0] h Q = zWp d zi_178 none 35 [.ref l0, l1, l2, l3, l4] [.ref l0, .int x0] h Q) ∧
    (∀ (d : Nat) (l0 : Value) (l1 : Value) (l2 : Value) (l3 : Value) (l4 : Value) (x1 : Nat) (x0 : Int32) (I : Nat → Nat → Int32) (L : Nat → Nat → Int64) (P : Nat → Nat → Option Nat) (Q : Option Value → zMm → Prop), zSH[x1]? = some (.inl 10) → zWp d zi_178 none 35 [l0, l1, l2, l3, l4] [.ref x1, .int x0] (zSH, I, L, P) Q = zWp d zi_178 none 38 [l0, l1, l2, l3, l4] [va_rf (P x1 0), .int x0] (zSH, I, L, P) Q) ∧
    (∀ (d : Nat) (l0 : Value) (l1 : Value) (l2 : Value) (l3 : Value) (l4 : Value) (x1 : Nat) (x0 : Int32) (h : zMm) (Q : Option Value → zMm → Prop), zWp d zi_178 none 38 [l0, l1, l2, l3, l4] [.ref x1, .int x0] h Q = zWp d zi_178 none 40 [l0, l1, l2, l3, l4] [.int 82, .ref x1, .int x0] h Q) ∧
    (∀ (d : Nat) (l0 : Value) (l1 : Value) (l2 : Value) (l3 : Value) (l4 : Value) (x2 : Int32) (x1 : Nat) (x0 : Int32) (I : Nat → Nat → Int32) (L : Nat → Nat → Int64) (P : Nat → Nat → Option Nat) (Q : Option Value → zMm → Prop), zAk zSH x1 = some .int → zWp d zi_178 none 40 [l0, l1, l2, l3, l4] [.int x2, .ref x1, .int x0] (zSH, I, L, P) Q = (vp_in x2 (zAn zSH x1) ∧ zWp d zi_178 none 41 [l0, l1, l2, l3, l4] [.int (I x1 x2.toNatClampNeg), .int x0] (zSH, I, L, P) Q)) ∧
    (∀ (d : Nat) (l0 : Value) (l1 : Value) (l2 : Value) (l3 : Value) (l4 : Value) (x1 : Int32) (x0 : Int32) (h : zMm) (Q : Option Value → zMm → Prop), zWp d zi_178 none 41 [l0, l1, l2, l3, l4] [.int x1, .int x0] h Q = if x0 < x1 then zWp d zi_178 none 47 [l0, l1, l2, l3, l4] [] h Q else zWp d zi_178 none 44 [l0, l1, l2, l3, l4] [] h Q) ∧
    (∀ (d : Nat) (l0 : Value) (l1 : Value) (l2 : Value) (l3 : Value) (l4 : Int32)  (h : zMm) (Q : Option Value → zMm → Prop), zWp d zi_178 none 44 [l0, l1, l2, l3, .int l4] [] h Q = zWp d zi_178 none 46 [l0, l1, l2, l3, .int l4] [.int l4] h Q) ∧
    (∀ (d : Nat) (l0 : Value) (l1 : Value) (l2 : Value) (l3 : Value) (l4 : Value) (x0 : Int32) (h : zMm) (Q : Option Value → zMm → Prop), zWp d zi_178 none 46 [l0, l1, l2, l3, l4] [.int x0] h Q = Q (some (.int x0)) h) ∧
    (∀ (d : Nat) (l0 : Value) (l1 : Value) (l2 : Value) (l3 : Int32) (l4 : Int32)  (h : zMm) (Q : Option Value → zMm → Prop), zWp d zi_178 none 47 [l0, l1, l2, .int l3, .int l4] [] h Q = zWp d zi_178 none 50 [l0, l1, l2, .int l3, .int (l4 + 1)] [] h Q) ∧
    (∀ (d : Nat) (l0 : Value) (l1 : Value) (l2 : Value) (l3 : Value) (l4 : Value)  (h : zMm) (Q : Option Value → zMm → Prop), zWp d zi_178 none 50 [l0, l1, l2, l3, l4] [] h Q = zWp d zi_178 none 20 [l0, l1, l2, l3, l4] [] h Q) ∧
    (∀ (d : Nat) (l0 : Value) (l1 : Value) (l2 : Value) (l3 : Value) (l4 : Value)  (h : zMm) (Q : Option Value → zMm → Prop), zWp d zi_178 none 53 [l0, l1, l2, l3, l4] [] h Q = zWp d zi_178 none 55 [l0, l1, l2, l3, l4] [.int (-2)] h Q) ∧
    (∀ (d : Nat) (l0 : Value) (l1 : Value) (l2 : Value) (l3 : Value) (l4 : Value) (x0 : Int32) (h : zMm) (Q : Option Value → zMm → Prop), zWp d zi_178 none 55 [l0, l1, l2, l3, l4] [.int x0] h Q = Q (some (.int x0)) h) :=
  ⟨(fun d l0 l1 l2 l3 l4  h Q => zr_aload_n rfl rfl),
   (fun d l0 l1 l2 l3 l4 x0 I L P Q p0 => zr_getI rfl lf_10_259 (fun _ _ _ => rfl) p0),
   (fun d l0 l1 l2 l3 l4 x0 h Q => zr_if_ge rfl (by decide)),
   (fun d l0 l1 l2 l3 l4  h Q => zr_bipush rfl (by decide)),
   (fun d l0 l1 l2 l3 l4 x0 h Q => zr_goto rfl (by decide)),
   (fun d l0 l1 l2 l3 l4  h Q => zr_aload_n rfl rfl),
   (fun d l0 l1 l2 l3 l4 x0 I L P Q p0 => zr_getI rfl lf_10_259 (fun _ _ _ => rfl) p0),
   (fun d l0 l1 l2 l3 l4 x0 h Q => zr_istore_n (n := 3) rfl (Nat.le_of_ble_eq_true rfl) rfl),
   (fun d l0 l1 l2 l3 l4  h Q => zr_iconst rfl (by decide)),
   (fun d l0 l1 l2 l3 l4 x0 h Q => zr_istore (n := 4) rfl (Nat.le_of_ble_eq_true rfl) rfl),
   (fun d l0 l1 l2 l3 l4 x0 h Q => zr_iload_n rfl rfl),
   (fun d l0 l1 l2 l3 l4 x1 x0 h Q => zr_ic_gt rfl (by decide)),
   (fun d l0 l1 l2 l3 l4  h Q => zr_aload_n rfl rfl),
   (fun d l0 l1 l2 l3 l4 x0 h Q => zr_iload_n rfl rfl),
   (fun d l0 l1 l2 l3 l4 x1 x0 h Q => zr_iload rfl rfl),
   (fun d l0 l1 l2 l3 l4 x2 x1 x0 h Q => zr_iload_n rfl rfl),
   (fun d l0 l1 l2 l3 l4 x3 x2 x1 x0 I L P Q p0 => zr_vir (as := [.int x3, .int x2, .int x1]) (rest := []) rfl lm_10_282 m_175 kd_175 rfl (Nat.le_of_ble_eq_true rfl) p0),
   (fun d l0 l1 l2 l3 l4 x0 h Q => zr_aload_n rfl rfl),
   (fun d l0 l1 l2 l3 l4 x1 x0 I L P Q p0 => zr_getQ rfl lf_10_9 (fun _ _ _ => rfl) p0),
   (fun d l0 l1 l2 l3 l4 x1 x0 h Q => zr_bipush rfl (by decide)),
   (fun d l0 l1 l2 l3 l4 x2 x1 x0 I L P Q p0 => zr_ald rfl p0),
   (fun d l0 l1 l2 l3 l4 x1 x0 h Q => zr_ic_lt rfl (by decide)),
   (fun d l0 l1 l2 l3 l4  h Q => zr_iload rfl rfl),
   (fun d l0 l1 l2 l3 l4 x0 h Q => zr_iret rfl rfl),
   (fun d l0 l1 l2 l3 l4  h Q => zr_iinc (n := 4) (kc := 1) rfl rfl (Nat.le_of_ble_eq_true rfl) rfl (by decide)),
   (fun d l0 l1 l2 l3 l4  h Q => zr_goto rfl (by decide)),
   (fun d l0 l1 l2 l3 l4  h Q => zr_bipush rfl (by decide)),
   (fun d l0 l1 l2 l3 l4 x0 h Q => zr_iret rfl rfl)⟩
theorem H_X10_crackOf_20 : ∀ (d : Nat) (l0 : Value) (l1 : Value) (l2 : Value) (l3 : Value) (l4 : Int32)  (h : zMm) (Q : Option Value → zMm → Prop), zWp d zi_178 none 20 [l0, l1, l2, l3, .int l4] [] h Q = zWp d zi_178 none 22 [l0, l1, l2, l3, .int l4] [.int l4] h Q := fun d l0 l1 l2 l3 l4  h Q => zr_iload rfl rfl
theorem E_X10_cracks : ∀ (d : Nat) (a0 : Nat) (a1 : Int32) (a2 : Int32) (h : zMm) (Q : Option Value → zMm → Prop), zWM (d + 1) 179 [.ref a0, .int a1, .int a2] h Q = zWp d zi_179 none 0 [.ref a0, .int a1, .int a2, .retAddr 0, .retAddr 0] [] h Q := fun d a0 a1 a2 h Q => zW_M m_179 (Nat.le_of_ble_eq_true rfl) rfl
set_option maxRecDepth 100000 in
theorem R_X10_cracks :
    (∀ (d : Nat) (l0 : Nat) (l1 : Value) (l2 : Value) (l3 : Value) (l4 : Value)  (h : zMm) (Q : Option Value → zMm → Prop), zWp d zi_179 none 0 [.ref l0, l1, l2, l3, l4] [] h Q = zWp d zi_179 none 1 [.ref l0, l1, l2, l3, l4] [.ref l0] h Q) ∧
    (∀ (d : Nat) (l0 : Value) (l1 : Int32) (l2 : Value) (l3 : Value) (l4 : Value) (x0 : Nat) (h : zMm) (Q : Option Value → zMm → Prop), zWp d zi_179 none 1 [l0, .int l1, l2, l3, l4] [.ref x0] h Q = zWp d zi_179 none 2 [l0, .int l1, l2, l3, l4] [.int l1, .ref x0] h Q) ∧
    (∀ (d : Nat) (l0 : Value) (l1 : Value) (l2 : Value) (l3 : Value) (l4 : Value) (x1 : Int32) (x0 : Nat) (I : Nat → Nat → Int32) (L : Nat → Nat → Int64) (P : Nat → Nat → Option Nat) (Q : Option Value → zMm → Prop), zSH[x0]? = some (.inl 10) → zWp d zi_179 none 2 [l0, l1, l2, l3, l4] [.int x1, .ref x0] (zSH, I, L, P) Q = zWM d 131 [.ref x0, .int x1] (zSH, I, L, P) (fun r h1 => zWp d zi_179 none 5 [l0, l1, l2, l3, l4] (r.toList ++ []) h1 Q)) ∧
    (∀ (d : Nat) (l0 : Value) (l1 : Value) (l2 : Value) (l3 : Value) (l4 : Value) (x0 : Int32) (h : zMm) (Q : Option Value → zMm → Prop), zWp d zi_179 none 5 [l0, l1, l2, l3, l4] [.int x0] h Q = if x0 = 0 then zWp d zi_179 none 18 [l0, l1, l2, l3, l4] [] h Q else zWp d zi_179 none 8 [l0, l1, l2, l3, l4] [] h Q) ∧
    (∀ (d : Nat) (l0 : Value) (l1 : Value) (l2 : Int32) (l3 : Value) (l4 : Value)  (h : zMm) (Q : Option Value → zMm → Prop), zWp d zi_179 none 8 [l0, l1, .int l2, l3, l4] [] h Q = zWp d zi_179 none 9 [l0, l1, .int l2, l3, l4] [.int l2] h Q) ∧
    (∀ (d : Nat) (l0 : Value) (l1 : Value) (l2 : Value) (l3 : Value) (l4 : Value) (x0 : Int32) (h : zMm) (Q : Option Value → zMm → Prop), zWp d zi_179 none 9 [l0, l1, l2, l3, l4] [.int x0] h Q = zWp d zi_179 none 10 [l0, l1, l2, l3, l4] [.long x0.toInt64] h Q) ∧
    (∀ (d : Nat) (l0 : Value) (l1 : Value) (l2 : Value) (l3 : Value) (l4 : Value) (x0 : Int64) (h : zMm) (Q : Option Value → zMm → Prop), zWp d zi_179 none 10 [l0, l1, l2, l3, l4] [.long x0] h Q = zWp d zi_179 none 11 [l0, l1, l2, l3, l4] [.long 0, .long x0] h Q) ∧
    (∀ (d : Nat) (l0 : Value) (l1 : Value) (l2 : Value) (l3 : Value) (l4 : Value) (x1 : Int64) (x0 : Int64) (h : zMm) (Q : Option Value → zMm → Prop), zWp d zi_179 none 11 [l0, l1, l2, l3, l4] [.long x1, .long x0] h Q = zWp d zi_179 none 12 [l0, l1, l2, l3, l4] [.long 1, .long x1, .long x0] h Q) ∧
    (∀ (d : Nat) (l0 : Value) (l1 : Value) (l2 : Value) (l3 : Value) (l4 : Value) (x2 : Int64) (x1 : Int64) (x0 : Int64) (h : zMm) (Q : Option Value → zMm → Prop), zWp d zi_179 none 12 [l0, l1, l2, l3, l4] [.long x2, .long x1, .long x0] h Q = zWM d 122 [.long x0, .long x1, .long x2] h (fun r h1 => zWp d zi_179 none 15 [l0, l1, l2, l3, l4] (r.toList ++ []) h1 Q)) ∧
    (∀ (d : Nat) (l0 : Value) (l1 : Value) (l2 : Value) (l3 : Value) (l4 : Value) (x0 : Int32) (h : zMm) (Q : Option Value → zMm → Prop), zWp d zi_179 none 15 [l0, l1, l2, l3, l4] [.int x0] h Q = if x0 = 0 then zWp d zi_179 none 18 [l0, l1, l2, l3, l4] [] h Q else zWp d zi_179 none 20 [l0, l1, l2, l3, l4] [] h Q) ∧
    (∀ (d : Nat) (l0 : Value) (l1 : Value) (l2 : Value) (l3 : Value) (l4 : Value)  (h : zMm) (Q : Option Value → zMm → Prop), zWp d zi_179 none 18 [l0, l1, l2, l3, l4] [] h Q = zWp d zi_179 none 19 [l0, l1, l2, l3, l4] [.int (-1)] h Q) ∧
    (∀ (d : Nat) (l0 : Value) (l1 : Value) (l2 : Value) (l3 : Value) (l4 : Value) (x0 : Int32) (h : zMm) (Q : Option Value → zMm → Prop), zWp d zi_179 none 19 [l0, l1, l2, l3, l4] [.int x0] h Q = Q (some (.int x0)) h) ∧
    (∀ (d : Nat) (l0 : Nat) (l1 : Value) (l2 : Value) (l3 : Value) (l4 : Value)  (h : zMm) (Q : Option Value → zMm → Prop), zWp d zi_179 none 20 [.ref l0, l1, l2, l3, l4] [] h Q = zWp d zi_179 none 21 [.ref l0, l1, l2, l3, l4] [.ref l0] h Q) ∧
    (∀ (d : Nat) (l0 : Value) (l1 : Value) (l2 : Value) (l3 : Value) (l4 : Value) (x0 : Nat) (I : Nat → Nat → Int32) (L : Nat → Nat → Int64) (P : Nat → Nat → Option Nat) (Q : Option Value → zMm → Prop), zSH[x0]? = some (.inl 10) → zWp d zi_179 none 21 [l0, l1, l2, l3, l4] [.ref x0] (zSH, I, L, P) Q = zWM d 172 [.ref x0] (zSH, I, L, P) (fun r h1 => zWp d zi_179 none 24 [l0, l1, l2, l3, l4] (r.toList ++ []) h1 Q)) ∧
    (∀ (d : Nat) (l0 : Value) (l1 : Value) (l2 : Int32) (l3 : Value) (l4 : Value)  (h : zMm) (Q : Option Value → zMm → Prop), zWp d zi_179 none 24 [l0, l1, .int l2, l3, l4] [] h Q = zWp d zi_179 none 25 [l0, l1, .int l2, l3, l4] [.int l2] h Q) ∧
    (∀ (d : Nat) (l0 : Value) (l1 : Value) (l2 : Value) (l3 : Value) (l4 : Value) (x0 : Int32) (h : zMm) (Q : Option Value → zMm → Prop), zWp d zi_179 none 25 [l0, l1, l2, l3, l4] [.int x0] h Q = if x0 = 0 then zWp d zi_179 none 28 [l0, l1, l2, l3, l4] [] h Q else zWp d zi_179 none 43 [l0, l1, l2, l3, l4] [] h Q) ∧
    (∀ (d : Nat) (l0 : Nat) (l1 : Value) (l2 : Value) (l3 : Value) (l4 : Value)  (h : zMm) (Q : Option Value → zMm → Prop), zWp d zi_179 none 28 [.ref l0, l1, l2, l3, l4] [] h Q = zWp d zi_179 none 29 [.ref l0, l1, l2, l3, l4] [.ref l0] h Q) ∧
    (∀ (d : Nat) (l0 : Value) (l1 : Int32) (l2 : Value) (l3 : Value) (l4 : Value) (x0 : Nat) (h : zMm) (Q : Option Value → zMm → Prop), zWp d zi_179 none 29 [l0, .int l1, l2, l3, l4] [.ref x0] h Q = zWp d zi_179 none 30 [l0, .int l1, l2, l3, l4] [.int l1, .ref x0] h Q) ∧
    (∀ (d : Nat) (l0 : Nat) (l1 : Value) (l2 : Value) (l3 : Value) (l4 : Value) (x1 : Int32) (x0 : Nat) (h : zMm) (Q : Option Value → zMm → Prop), zWp d zi_179 none 30 [.ref l0, l1, l2, l3, l4] [.int x1, .ref x0] h Q = zWp d zi_179 none 31 [.ref l0, l1, l2, l3, l4] [.ref l0, .int x1, .ref x0] h Q) ∧
    (∀ (d : Nat) (l0 : Value) (l1 : Value) (l2 : Value) (l3 : Value) (l4 : Value) (x2 : Nat) (x1 : Int32) (x0 : Nat) (I : Nat → Nat → Int32) (L : Nat → Nat → Int64) (P : Nat → Nat → Option Nat) (Q : Option Value → zMm → Prop), zSH[x2]? = some (.inl 10) → zWp d zi_179 none 31 [l0, l1, l2, l3, l4] [.ref x2, .int x1, .ref x0] (zSH, I, L, P) Q = zWp d zi_179 none 34 [l0, l1, l2, l3, l4] [va_rf (P x2 0), .int x1, .ref x0] (zSH, I, L, P) Q) ∧
    (∀ (d : Nat) (l0 : Value) (l1 : Value) (l2 : Value) (l3 : Value) (l4 : Value) (x2 : Nat) (x1 : Int32) (x0 : Nat) (h : zMm) (Q : Option Value → zMm → Prop), zWp d zi_179 none 34 [l0, l1, l2, l3, l4] [.ref x2, .int x1, .ref x0] h Q = zWp d zi_179 none 36 [l0, l1, l2, l3, l4] [.int 74, .ref x2, .int x1, .ref x0] h Q) ∧
    (∀ (d : Nat) (l0 : Value) (l1 : Int32) (l2 : Value) (l3 : Value) (l4 : Value) (x3 : Int32) (x2 : Nat) (x1 : Int32) (x0 : Nat) (h : zMm) (Q : Option Value → zMm → Prop), zWp d zi_179 none 36 [l0, .int l1, l2, l3, l4] [.int x3, .ref x2, .int x1, .ref x0] h Q = zWp d zi_179 none 37 [l0, .int l1, l2, l3, l4] [.int l1, .int x3, .ref x2, .int x1, .ref x0] h Q) ∧
    (∀ (d : Nat) (l0 : Value) (l1 : Value) (l2 : Value) (l3 : Value) (l4 : Value) (x4 : Int32) (x3 : Int32) (x2 : Nat) (x1 : Int32) (x0 : Nat) (h : zMm) (Q : Option Value → zMm → Prop), zWp d zi_179 none 37 [l0, l1, l2, l3, l4] [.int x4, .int x3, .ref x2, .int x1, .ref x0] h Q = zWp d zi_179 none 38 [l0, l1, l2, l3, l4] [.int (x3 + x4), .ref x2, .int x1, .ref x0] h Q) ∧
    (∀ (d : Nat) (l0 : Value) (l1 : Value) (l2 : Value) (l3 : Value) (l4 : Value) (x3 : Int32) (x2 : Nat) (x1 : Int32) (x0 : Nat) (I : Nat → Nat → Int32) (L : Nat → Nat → Int64) (P : Nat → Nat → Option Nat) (Q : Option Value → zMm → Prop), zAk zSH x2 = some .int → zWp d zi_179 none 38 [l0, l1, l2, l3, l4] [.int x3, .ref x2, .int x1, .ref x0] (zSH, I, L, P) Q = (vp_in x3 (zAn zSH x2) ∧ zWp d zi_179 none 39 [l0, l1, l2, l3, l4] [.int (I x2 x3.toNatClampNeg), .int x1, .ref x0] (zSH, I, L, P) Q)) ∧
    (∀ (d : Nat) (l0 : Value) (l1 : Value) (l2 : Value) (l3 : Value) (l4 : Value) (x2 : Int32) (x1 : Int32) (x0 : Nat) (I : Nat → Nat → Int32) (L : Nat → Nat → Int64) (P : Nat → Nat → Option Nat) (Q : Option Value → zMm → Prop), zSH[x0]? = some (.inl 10) → zWp d zi_179 none 39 [l0, l1, l2, l3, l4] [.int x2, .int x1, .ref x0] (zSH, I, L, P) Q = zWM d 178 [.ref x0, .int x1, .int x2] (zSH, I, L, P) (fun r h1 => zWp d zi_179 none 42 [l0, l1, l2, l3, l4] (r.toList ++ []) h1 Q)) ∧
    (∀ (d : Nat) (l0 : Value) (l1 : Value) (l2 : Value) (l3 : Value) (l4 : Value) (x0 : Int32) (h : zMm) (Q : Option Value → zMm → Prop), zWp d zi_179 none 42 [l0, l1, l2, l3, l4] [.int x0] h Q = Q (some (.int x0)) h) ∧
    (∀ (d : Nat) (l0 : Value) (l1 : Value) (l2 : Value) (l3 : Value) (l4 : Value)  (h : zMm) (Q : Option Value → zMm → Prop), zWp d zi_179 none 43 [l0, l1, l2, l3, l4] [] h Q = zWp d zi_179 none 44 [l0, l1, l2, l3, l4] [.int 0] h Q) ∧
    (∀ (d : Nat) (l0 : Value) (l1 : Value) (l2 : Int32) (l3 : Value) (l4 : Value) (x0 : Int32) (h : zMm) (Q : Option Value → zMm → Prop), zWp d zi_179 none 44 [l0, l1, .int l2, l3, l4] [.int x0] h Q = zWp d zi_179 none 45 [l0, l1, .int l2, .int x0, l4] [] h Q) ∧
    (∀ (d : Nat) (l0 : Value) (l1 : Value) (l2 : Value) (l3 : Value) (l4 : Value)  (h : zMm) (Q : Option Value → zMm → Prop), zWp d zi_179 none 45 [l0, l1, l2, l3, l4] [] h Q = zWp d zi_179 none 46 [l0, l1, l2, l3, l4] [.int 0] h Q) ∧
    (∀ (d : Nat) (l0 : Value) (l1 : Value) (l2 : Value) (l3 : Int32) (l4 : Value) (x0 : Int32) (h : zMm) (Q : Option Value → zMm → Prop), zWp d zi_179 none 46 [l0, l1, l2, .int l3, l4] [.int x0] h Q = zWp d zi_179 none 48 [l0, l1, l2, .int l3, .int x0] [] h Q) ∧
    (∀ (d : Nat) (l0 : Value) (l1 : Value) (l2 : Value) (l3 : Value) (l4 : Value) (x0 : Int32) (h : zMm) (Q : Option Value → zMm → Prop), zWp d zi_179 none 50 [l0, l1, l2, l3, l4] [.int x0] h Q = zWp d zi_179 none 52 [l0, l1, l2, l3, l4] [.int 61, .int x0] h Q) ∧
    (∀ (d : Nat) (l0 : Value) (l1 : Value) (l2 : Value) (l3 : Value) (l4 : Value) (x1 : Int32) (x0 : Int32) (h : zMm) (Q : Option Value → zMm → Prop), zWp d zi_179 none 52 [l0, l1, l2, l3, l4] [.int x1, .int x0] h Q = if x1 ≤ x0 then zWp d zi_179 none 84 [l0, l1, l2, l3, l4] [] h Q else zWp d zi_179 none 55 [l0, l1, l2, l3, l4] [] h Q) ∧
    (∀ (d : Nat) (l0 : Nat) (l1 : Value) (l2 : Value) (l3 : Value) (l4 : Value)  (h : zMm) (Q : Option Value → zMm → Prop), zWp d zi_179 none 55 [.ref l0, l1, l2, l3, l4] [] h Q = zWp d zi_179 none 56 [.ref l0, l1, l2, l3, l4] [.ref l0] h Q) ∧
    (∀ (d : Nat) (l0 : Value) (l1 : Int32) (l2 : Value) (l3 : Value) (l4 : Value) (x0 : Nat) (h : zMm) (Q : Option Value → zMm → Prop), zWp d zi_179 none 56 [l0, .int l1, l2, l3, l4] [.ref x0] h Q = zWp d zi_179 none 57 [l0, .int l1, l2, l3, l4] [.int l1, .ref x0] h Q) ∧
    (∀ (d : Nat) (l0 : Value) (l1 : Value) (l2 : Value) (l3 : Value) (l4 : Int32) (x1 : Int32) (x0 : Nat) (h : zMm) (Q : Option Value → zMm → Prop), zWp d zi_179 none 57 [l0, l1, l2, l3, .int l4] [.int x1, .ref x0] h Q = zWp d zi_179 none 59 [l0, l1, l2, l3, .int l4] [.int l4, .int x1, .ref x0] h Q) ∧
    (∀ (d : Nat) (l0 : Value) (l1 : Value) (l2 : Value) (l3 : Value) (l4 : Value) (x2 : Int32) (x1 : Int32) (x0 : Nat) (I : Nat → Nat → Int32) (L : Nat → Nat → Int64) (P : Nat → Nat → Option Nat) (Q : Option Value → zMm → Prop), zSH[x0]? = some (.inl 10) → zWp d zi_179 none 59 [l0, l1, l2, l3, l4] [.int x2, .int x1, .ref x0] (zSH, I, L, P) Q = zWM d 176 [.ref x0, .int x1, .int x2] (zSH, I, L, P) (fun r h1 => zWp d zi_179 none 62 [l0, l1, l2, l3, l4] (r.toList ++ []) h1 Q)) ∧
    (∀ (d : Nat) (l0 : Value) (l1 : Value) (l2 : Value) (l3 : Int32) (l4 : Value) (x0 : Int32) (h : zMm) (Q : Option Value → zMm → Prop), zWp d zi_179 none 62 [l0, l1, l2, .int l3, l4] [.int x0] h Q = zWp d zi_179 none 63 [l0, l1, l2, .int l3, l4] [.int l3, .int x0] h Q) ∧
    (∀ (d : Nat) (l0 : Value) (l1 : Value) (l2 : Value) (l3 : Value) (l4 : Value) (x1 : Int32) (x0 : Int32) (h : zMm) (Q : Option Value → zMm → Prop), zWp d zi_179 none 63 [l0, l1, l2, l3, l4] [.int x1, .int x0] h Q = if x0 ≤ x1 then zWp d zi_179 none 76 [l0, l1, l2, l3, l4] [] h Q else zWp d zi_179 none 66 [l0, l1, l2, l3, l4] [] h Q) ∧
    (∀ (d : Nat) (l0 : Nat) (l1 : Value) (l2 : Value) (l3 : Value) (l4 : Value)  (h : zMm) (Q : Option Value → zMm → Prop), zWp d zi_179 none 66 [.ref l0, l1, l2, l3, l4] [] h Q = zWp d zi_179 none 67 [.ref l0, l1, l2, l3, l4] [.ref l0] h Q) ∧
    (∀ (d : Nat) (l0 : Value) (l1 : Int32) (l2 : Value) (l3 : Value) (l4 : Value) (x0 : Nat) (h : zMm) (Q : Option Value → zMm → Prop), zWp d zi_179 none 67 [l0, .int l1, l2, l3, l4] [.ref x0] h Q = zWp d zi_179 none 68 [l0, .int l1, l2, l3, l4] [.int l1, .ref x0] h Q) ∧
    (∀ (d : Nat) (l0 : Value) (l1 : Value) (l2 : Value) (l3 : Value) (l4 : Int32) (x1 : Int32) (x0 : Nat) (h : zMm) (Q : Option Value → zMm → Prop), zWp d zi_179 none 68 [l0, l1, l2, l3, .int l4] [.int x1, .ref x0] h Q = zWp d zi_179 none 70 [l0, l1, l2, l3, .int l4] [.int l4, .int x1, .ref x0] h Q) ∧
    (∀ (d : Nat) (l0 : Value) (l1 : Value) (l2 : Value) (l3 : Value) (l4 : Value) (x2 : Int32) (x1 : Int32) (x0 : Nat) (I : Nat → Nat → Int32) (L : Nat → Nat → Int64) (P : Nat → Nat → Option Nat) (Q : Option Value → zMm → Prop), zSH[x0]? = some (.inl 10) → zWp d zi_179 none 70 [l0, l1, l2, l3, l4] [.int x2, .int x1, .ref x0] (zSH, I, L, P) Q = zWM d 176 [.ref x0, .int x1, .int x2] (zSH, I, L, P) (fun r h1 => zWp d zi_179 none 73 [l0, l1, l2, l3, l4] (r.toList ++ []) h1 Q)) ∧
    (∀ (d : Nat) (l0 : Value) (l1 : Value) (l2 : Value) (l3 : Value) (l4 : Value) (x0 : Int32) (h : zMm) (Q : Option Value → zMm → Prop), zWp d zi_179 none 73 [l0, l1, l2, l3, l4] [.int x0] h Q = zWp d zi_179 none 77 [l0, l1, l2, l3, l4] [.int x0] h Q) ∧
    (∀ (d : Nat) (l0 : Value) (l1 : Value) (l2 : Value) (l3 : Int32) (l4 : Value)  (h : zMm) (Q : Option Value → zMm → Prop), zWp d zi_179 none 76 [l0, l1, l2, .int l3, l4] [] h Q = zWp d zi_179 none 77 [l0, l1, l2, .int l3, l4] [.int l3] h Q) ∧
    (∀ (d : Nat) (l0 : Value) (l1 : Value) (l2 : Int32) (l3 : Value) (l4 : Value) (x0 : Int32) (h : zMm) (Q : Option Value → zMm → Prop), zWp d zi_179 none 77 [l0, l1, .int l2, l3, l4] [.int x0] h Q = zWp d zi_179 none 78 [l0, l1, .int l2, .int x0, l4] [] h Q) ∧
    (∀ (d : Nat) (l0 : Value) (l1 : Value) (l2 : Value) (l3 : Int32) (l4 : Int32)  (h : zMm) (Q : Option Value → zMm → Prop), zWp d zi_179 none 78 [l0, l1, l2, .int l3, .int l4] [] h Q = zWp d zi_179 none 81 [l0, l1, l2, .int l3, .int (l4 + 1)] [] h Q) ∧
    (∀ (d : Nat) (l0 : Value) (l1 : Value) (l2 : Value) (l3 : Value) (l4 : Value)  (h : zMm) (Q : Option Value → zMm → Prop), zWp d zi_179 none 81 [l0, l1, l2, l3, l4] [] h Q = zWp d zi_179 none 48 [l0, l1, l2, l3, l4] [] h Q) ∧
    (∀ (d : Nat) (l0 : Value) (l1 : Value) (l2 : Value) (l3 : Int32) (l4 : Value)  (h : zMm) (Q : Option Value → zMm → Prop), zWp d zi_179 none 84 [l0, l1, l2, .int l3, l4] [] h Q = zWp d zi_179 none 85 [l0, l1, l2, .int l3, l4] [.int l3] h Q) ∧
    (∀ (d : Nat) (l0 : Value) (l1 : Value) (l2 : Value) (l3 : Value) (l4 : Value) (x0 : Int32) (h : zMm) (Q : Option Value → zMm → Prop), zWp d zi_179 none 85 [l0, l1, l2, l3, l4] [.int x0] h Q = Q (some (.int x0)) h) :=
  ⟨(fun d l0 l1 l2 l3 l4  h Q => zr_aload_n rfl rfl),
   (fun d l0 l1 l2 l3 l4 x0 h Q => zr_iload_n rfl rfl),
   (fun d l0 l1 l2 l3 l4 x1 x0 I L P Q p0 => zr_vir (as := [.int x1]) (rest := []) rfl lm_10_152 m_131 kd_131 rfl (Nat.le_of_ble_eq_true rfl) p0),
   (fun d l0 l1 l2 l3 l4 x0 h Q => zr_if_eq rfl (by decide)),
   (fun d l0 l1 l2 l3 l4  h Q => zr_iload_n rfl rfl),
   (fun d l0 l1 l2 l3 l4 x0 h Q => zr_i2l rfl),
   (fun d l0 l1 l2 l3 l4 x0 h Q => zr_lconst rfl (by decide)),
   (fun d l0 l1 l2 l3 l4 x1 x0 h Q => zr_lconst rfl (by decide)),
   (fun d l0 l1 l2 l3 l4 x2 x1 x0 h Q => zr_sta (as := [.long x2, .long x1, .long x0]) (rest := []) rfl lm_10_110 (by decide) m_122 kd_122 rfl (Nat.le_of_ble_eq_true rfl)),
   (fun d l0 l1 l2 l3 l4 x0 h Q => zr_if_ne rfl (by decide)),
   (fun d l0 l1 l2 l3 l4  h Q => zr_iconst rfl (by decide)),
   (fun d l0 l1 l2 l3 l4 x0 h Q => zr_iret rfl rfl),
   (fun d l0 l1 l2 l3 l4  h Q => zr_aload_n rfl rfl),
   (fun d l0 l1 l2 l3 l4 x0 I L P Q p0 => zr_vir (as := []) (rest := []) rfl lm_10_279 m_172 kd_172 rfl (Nat.le_of_ble_eq_true rfl) p0),
   (fun d l0 l1 l2 l3 l4  h Q => zr_iload_n rfl rfl),
   (fun d l0 l1 l2 l3 l4 x0 h Q => zr_if_ne rfl (by decide)),
   (fun d l0 l1 l2 l3 l4  h Q => zr_aload_n rfl rfl),
   (fun d l0 l1 l2 l3 l4 x0 h Q => zr_iload_n rfl rfl),
   (fun d l0 l1 l2 l3 l4 x1 x0 h Q => zr_aload_n rfl rfl),
   (fun d l0 l1 l2 l3 l4 x2 x1 x0 I L P Q p0 => zr_getQ rfl lf_10_9 (fun _ _ _ => rfl) p0),
   (fun d l0 l1 l2 l3 l4 x2 x1 x0 h Q => zr_bipush rfl (by decide)),
   (fun d l0 l1 l2 l3 l4 x3 x2 x1 x0 h Q => zr_iload_n rfl rfl),
   (fun d l0 l1 l2 l3 l4 x4 x3 x2 x1 x0 h Q => zr_iadd rfl),
   (fun d l0 l1 l2 l3 l4 x3 x2 x1 x0 I L P Q p0 => zr_ald rfl p0),
   (fun d l0 l1 l2 l3 l4 x2 x1 x0 I L P Q p0 => zr_vir (as := [.int x2, .int x1]) (rest := []) rfl lm_10_289 m_178 kd_178 rfl (Nat.le_of_ble_eq_true rfl) p0),
   (fun d l0 l1 l2 l3 l4 x0 h Q => zr_iret rfl rfl),
   (fun d l0 l1 l2 l3 l4  h Q => zr_iconst rfl (by decide)),
   (fun d l0 l1 l2 l3 l4 x0 h Q => zr_istore_n (n := 3) rfl (Nat.le_of_ble_eq_true rfl) rfl),
   (fun d l0 l1 l2 l3 l4  h Q => zr_iconst rfl (by decide)),
   (fun d l0 l1 l2 l3 l4 x0 h Q => zr_istore (n := 4) rfl (Nat.le_of_ble_eq_true rfl) rfl),
   (fun d l0 l1 l2 l3 l4 x0 h Q => zr_bipush rfl (by decide)),
   (fun d l0 l1 l2 l3 l4 x1 x0 h Q => zr_ic_ge rfl (by decide)),
   (fun d l0 l1 l2 l3 l4  h Q => zr_aload_n rfl rfl),
   (fun d l0 l1 l2 l3 l4 x0 h Q => zr_iload_n rfl rfl),
   (fun d l0 l1 l2 l3 l4 x1 x0 h Q => zr_iload rfl rfl),
   (fun d l0 l1 l2 l3 l4 x2 x1 x0 I L P Q p0 => zr_vir (as := [.int x2, .int x1]) (rest := []) rfl lm_10_286 m_176 kd_176 rfl (Nat.le_of_ble_eq_true rfl) p0),
   (fun d l0 l1 l2 l3 l4 x0 h Q => zr_iload_n rfl rfl),
   (fun d l0 l1 l2 l3 l4 x1 x0 h Q => zr_ic_le rfl (by decide)),
   (fun d l0 l1 l2 l3 l4  h Q => zr_aload_n rfl rfl),
   (fun d l0 l1 l2 l3 l4 x0 h Q => zr_iload_n rfl rfl),
   (fun d l0 l1 l2 l3 l4 x1 x0 h Q => zr_iload rfl rfl),
   (fun d l0 l1 l2 l3 l4 x2 x1 x0 I L P Q p0 => zr_vir (as := [.int x2, .int x1]) (rest := []) rfl lm_10_286 m_176 kd_176 rfl (Nat.le_of_ble_eq_true rfl) p0),
   (fun d l0 l1 l2 l3 l4 x0 h Q => zr_goto rfl (by decide)),
   (fun d l0 l1 l2 l3 l4  h Q => zr_iload_n rfl rfl),
   (fun d l0 l1 l2 l3 l4 x0 h Q => zr_istore_n (n := 3) rfl (Nat.le_of_ble_eq_true rfl) rfl),
   (fun d l0 l1 l2 l3 l4  h Q => zr_iinc (n := 4) (kc := 1) rfl rfl (Nat.le_of_ble_eq_true rfl) rfl (by decide)),
   (fun d l0 l1 l2 l3 l4  h Q => zr_goto rfl (by decide)),
   (fun d l0 l1 l2 l3 l4  h Q => zr_iload_n rfl rfl),
   (fun d l0 l1 l2 l3 l4 x0 h Q => zr_iret rfl rfl)⟩
theorem H_X10_cracks_48 : ∀ (d : Nat) (l0 : Value) (l1 : Value) (l2 : Value) (l3 : Value) (l4 : Int32)  (h : zMm) (Q : Option Value → zMm → Prop), zWp d zi_179 none 48 [l0, l1, l2, l3, .int l4] [] h Q = zWp d zi_179 none 50 [l0, l1, l2, l3, .int l4] [.int l4] h Q := fun d l0 l1 l2 l3 l4  h Q => zr_iload rfl rfl
theorem E_X10_boardsFor : ∀ (d : Nat) (a0 : Nat) (a1 : Int32) (h : zMm) (Q : Option Value → zMm → Prop), zWM (d + 1) 180 [.ref a0, .int a1] h Q = zWp d zi_180 none 0 [.ref a0, .int a1, .retAddr 0] [] h Q := fun d a0 a1 h Q => zW_M m_180 (Nat.le_of_ble_eq_true rfl) rfl
set_option maxRecDepth 100000 in
theorem R_X10_boardsFor :
    (∀ (d : Nat) (l0 : Value) (l1 : Value) (l2 : Value)  (h : zMm) (Q : Option Value → zMm → Prop), zWp d zi_180 none 0 [l0, l1, l2] [] h Q = zWp d zi_180 none 1 [l0, l1, l2] [.int 0] h Q) ∧
    (∀ (d : Nat) (l0 : Value) (l1 : Int32) (l2 : Value) (x0 : Int32) (h : zMm) (Q : Option Value → zMm → Prop), zWp d zi_180 none 1 [l0, .int l1, l2] [.int x0] h Q = zWp d zi_180 none 2 [l0, .int l1, .int x0] [] h Q) ∧
    (∀ (d : Nat) (l0 : Value) (l1 : Value) (l2 : Value) (x0 : Int32) (h : zMm) (Q : Option Value → zMm → Prop), zWp d zi_180 none 3 [l0, l1, l2] [.int x0] h Q = zWp d zi_180 none 5 [l0, l1, l2] [.int 9, .int x0] h Q) ∧
    (∀ (d : Nat) (l0 : Value) (l1 : Value) (l2 : Value) (x1 : Int32) (x0 : Int32) (h : zMm) (Q : Option Value → zMm → Prop), zWp d zi_180 none 5 [l0, l1, l2] [.int x1, .int x0] h Q = if x1 < x0 then zWp d zi_180 none 25 [l0, l1, l2] [] h Q else zWp d zi_180 none 8 [l0, l1, l2] [] h Q) ∧
    (∀ (d : Nat) (l0 : Nat) (l1 : Value) (l2 : Value)  (h : zMm) (Q : Option Value → zMm → Prop), zWp d zi_180 none 8 [.ref l0, l1, l2] [] h Q = zWp d zi_180 none 9 [.ref l0, l1, l2] [.ref l0] h Q) ∧
    (∀ (d : Nat) (l0 : Value) (l1 : Int32) (l2 : Value) (x0 : Nat) (h : zMm) (Q : Option Value → zMm → Prop), zWp d zi_180 none 9 [l0, .int l1, l2] [.ref x0] h Q = zWp d zi_180 none 10 [l0, .int l1, l2] [.int l1, .ref x0] h Q) ∧
    (∀ (d : Nat) (l0 : Value) (l1 : Value) (l2 : Int32) (x1 : Int32) (x0 : Nat) (h : zMm) (Q : Option Value → zMm → Prop), zWp d zi_180 none 10 [l0, l1, .int l2] [.int x1, .ref x0] h Q = zWp d zi_180 none 11 [l0, l1, .int l2] [.int l2, .int x1, .ref x0] h Q) ∧
    (∀ (d : Nat) (l0 : Value) (l1 : Value) (l2 : Value) (x2 : Int32) (x1 : Int32) (x0 : Nat) (I : Nat → Nat → Int32) (L : Nat → Nat → Int64) (P : Nat → Nat → Option Nat) (Q : Option Value → zMm → Prop), zSH[x0]? = some (.inl 10) → zWp d zi_180 none 11 [l0, l1, l2] [.int x2, .int x1, .ref x0] (zSH, I, L, P) Q = zWM d 178 [.ref x0, .int x1, .int x2] (zSH, I, L, P) (fun r h1 => zWp d zi_180 none 14 [l0, l1, l2] (r.toList ++ []) h1 Q)) ∧
    (∀ (d : Nat) (l0 : Value) (l1 : Value) (l2 : Value) (x0 : Int32) (h : zMm) (Q : Option Value → zMm → Prop), zWp d zi_180 none 14 [l0, l1, l2] [.int x0] h Q = if 0 ≤ x0 then zWp d zi_180 none 19 [l0, l1, l2] [] h Q else zWp d zi_180 none 17 [l0, l1, l2] [] h Q) ∧
    (∀ (d : Nat) (l0 : Value) (l1 : Value) (l2 : Int32)  (h : zMm) (Q : Option Value → zMm → Prop), zWp d zi_180 none 17 [l0, l1, .int l2] [] h Q = zWp d zi_180 none 18 [l0, l1, .int l2] [.int l2] h Q) ∧
    (∀ (d : Nat) (l0 : Value) (l1 : Value) (l2 : Value) (x0 : Int32) (h : zMm) (Q : Option Value → zMm → Prop), zWp d zi_180 none 18 [l0, l1, l2] [.int x0] h Q = Q (some (.int x0)) h) ∧
    (∀ (d : Nat) (l0 : Value) (l1 : Int32) (l2 : Int32)  (h : zMm) (Q : Option Value → zMm → Prop), zWp d zi_180 none 19 [l0, .int l1, .int l2] [] h Q = zWp d zi_180 none 22 [l0, .int l1, .int (l2 + 1)] [] h Q) ∧
    (∀ (d : Nat) (l0 : Value) (l1 : Value) (l2 : Value)  (h : zMm) (Q : Option Value → zMm → Prop), zWp d zi_180 none 22 [l0, l1, l2] [] h Q = zWp d zi_180 none 2 [l0, l1, l2] [] h Q) ∧
    (∀ (d : Nat) (l0 : Value) (l1 : Value) (l2 : Value)  (h : zMm) (Q : Option Value → zMm → Prop), zWp d zi_180 none 25 [l0, l1, l2] [] h Q = zWp d zi_180 none 27 [l0, l1, l2] [.int (-2)] h Q) ∧
    (∀ (d : Nat) (l0 : Value) (l1 : Value) (l2 : Value) (x0 : Int32) (h : zMm) (Q : Option Value → zMm → Prop), zWp d zi_180 none 27 [l0, l1, l2] [.int x0] h Q = Q (some (.int x0)) h) :=
  ⟨(fun d l0 l1 l2  h Q => zr_iconst rfl (by decide)),
   (fun d l0 l1 l2 x0 h Q => zr_istore_n (n := 2) rfl (Nat.le_of_ble_eq_true rfl) rfl),
   (fun d l0 l1 l2 x0 h Q => zr_bipush rfl (by decide)),
   (fun d l0 l1 l2 x1 x0 h Q => zr_ic_gt rfl (by decide)),
   (fun d l0 l1 l2  h Q => zr_aload_n rfl rfl),
   (fun d l0 l1 l2 x0 h Q => zr_iload_n rfl rfl),
   (fun d l0 l1 l2 x1 x0 h Q => zr_iload_n rfl rfl),
   (fun d l0 l1 l2 x2 x1 x0 I L P Q p0 => zr_vir (as := [.int x2, .int x1]) (rest := []) rfl lm_10_289 m_178 kd_178 rfl (Nat.le_of_ble_eq_true rfl) p0),
   (fun d l0 l1 l2 x0 h Q => zr_if_ge rfl (by decide)),
   (fun d l0 l1 l2  h Q => zr_iload_n rfl rfl),
   (fun d l0 l1 l2 x0 h Q => zr_iret rfl rfl),
   (fun d l0 l1 l2  h Q => zr_iinc (n := 2) (kc := 1) rfl rfl (Nat.le_of_ble_eq_true rfl) rfl (by decide)),
   (fun d l0 l1 l2  h Q => zr_goto rfl (by decide)),
   (fun d l0 l1 l2  h Q => zr_bipush rfl (by decide)),
   (fun d l0 l1 l2 x0 h Q => zr_iret rfl rfl)⟩
theorem H_X10_boardsFor_2 : ∀ (d : Nat) (l0 : Value) (l1 : Value) (l2 : Int32)  (h : zMm) (Q : Option Value → zMm → Prop), zWp d zi_180 none 2 [l0, l1, .int l2] [] h Q = zWp d zi_180 none 3 [l0, l1, .int l2] [.int l2] h Q := fun d l0 l1 l2  h Q => zr_iload_n rfl rfl
theorem E_X10_boarded : ∀ (d : Nat) (a0 : Nat) (a1 : Int32) (h : zMm) (Q : Option Value → zMm → Prop), zWM (d + 1) 181 [.ref a0, .int a1] h Q = zWp d zi_181 none 0 [.ref a0, .int a1, .retAddr 0, .retAddr 0, .retAddr 0] [] h Q := fun d a0 a1 h Q => zW_M m_181 (Nat.le_of_ble_eq_true rfl) rfl
set_option maxRecDepth 100000 in
theorem R_X10_boarded :
    (∀ (d : Nat) (l0 : Value) (l1 : Int32) (l2 : Value) (l3 : Value) (l4 : Value)  (h : zMm) (Q : Option Value → zMm → Prop), zWp d zi_181 none 0 [l0, .int l1, l2, l3, l4] [] h Q = zWp d zi_181 none 1 [l0, .int l1, l2, l3, l4] [.int l1] h Q) ∧
    (∀ (d : Nat) (l0 : Value) (l1 : Value) (l2 : Value) (l3 : Value) (l4 : Value) (x0 : Int32) (h : zMm) (Q : Option Value → zMm → Prop), zWp d zi_181 none 1 [l0, l1, l2, l3, l4] [.int x0] h Q = zWp d zi_181 none 2 [l0, l1, l2, l3, l4] [.int (-1), .int x0] h Q) ∧
    (∀ (d : Nat) (l0 : Value) (l1 : Value) (l2 : Value) (l3 : Value) (l4 : Value) (x1 : Int32) (x0 : Int32) (h : zMm) (Q : Option Value → zMm → Prop), zWp d zi_181 none 2 [l0, l1, l2, l3, l4] [.int x1, .int x0] h Q = if x0 = x1 then zWp d zi_181 none 15 [l0, l1, l2, l3, l4] [] h Q else zWp d zi_181 none 5 [l0, l1, l2, l3, l4] [] h Q) ∧
    (∀ (d : Nat) (l0 : Nat) (l1 : Value) (l2 : Value) (l3 : Value) (l4 : Value)  (h : zMm) (Q : Option Value → zMm → Prop), zWp d zi_181 none 5 [.ref l0, l1, l2, l3, l4] [] h Q = zWp d zi_181 none 6 [.ref l0, l1, l2, l3, l4] [.ref l0] h Q) ∧
    (∀ (d : Nat) (l0 : Value) (l1 : Int32) (l2 : Value) (l3 : Value) (l4 : Value) (x0 : Nat) (h : zMm) (Q : Option Value → zMm → Prop), zWp d zi_181 none 6 [l0, .int l1, l2, l3, l4] [.ref x0] h Q = zWp d zi_181 none 7 [l0, .int l1, l2, l3, l4] [.int l1, .ref x0] h Q) ∧
    (∀ (d : Nat) (l0 : Value) (l1 : Value) (l2 : Value) (l3 : Value) (l4 : Value) (x1 : Int32) (x0 : Nat) (I : Nat → Nat → Int32) (L : Nat → Nat → Int64) (P : Nat → Nat → Option Nat) (Q : Option Value → zMm → Prop), zSH[x0]? = some (.inl 10) → zWp d zi_181 none 7 [l0, l1, l2, l3, l4] [.int x1, .ref x0] (zSH, I, L, P) Q = zWM d 131 [.ref x0, .int x1] (zSH, I, L, P) (fun r h1 => zWp d zi_181 none 10 [l0, l1, l2, l3, l4] (r.toList ++ []) h1 Q)) ∧
    (∀ (d : Nat) (l0 : Value) (l1 : Value) (l2 : Value) (l3 : Value) (l4 : Value) (x0 : Int32) (h : zMm) (Q : Option Value → zMm → Prop), zWp d zi_181 none 10 [l0, l1, l2, l3, l4] [.int x0] h Q = if x0 = 0 then zWp d zi_181 none 13 [l0, l1, l2, l3, l4] [] h Q else zWp d zi_181 none 15 [l0, l1, l2, l3, l4] [] h Q) ∧
    (∀ (d : Nat) (l0 : Value) (l1 : Value) (l2 : Value) (l3 : Value) (l4 : Value)  (h : zMm) (Q : Option Value → zMm → Prop), zWp d zi_181 none 13 [l0, l1, l2, l3, l4] [] h Q = zWp d zi_181 none 14 [l0, l1, l2, l3, l4] [.int (-1)] h Q) ∧
    (∀ (d : Nat) (l0 : Value) (l1 : Value) (l2 : Value) (l3 : Value) (l4 : Value) (x0 : Int32) (h : zMm) (Q : Option Value → zMm → Prop), zWp d zi_181 none 14 [l0, l1, l2, l3, l4] [.int x0] h Q = Q (some (.int x0)) h) ∧
    (∀ (d : Nat) (l0 : Nat) (l1 : Value) (l2 : Value) (l3 : Value) (l4 : Value)  (h : zMm) (Q : Option Value → zMm → Prop), zWp d zi_181 none 15 [.ref l0, l1, l2, l3, l4] [] h Q = zWp d zi_181 none 16 [.ref l0, l1, l2, l3, l4] [.ref l0] h Q) ∧
    (∀ (d : Nat) (l0 : Value) (l1 : Value) (l2 : Value) (l3 : Value) (l4 : Value) (x0 : Nat) (I : Nat → Nat → Int32) (L : Nat → Nat → Int64) (P : Nat → Nat → Option Nat) (Q : Option Value → zMm → Prop), zSH[x0]? = some (.inl 10) → zWp d zi_181 none 16 [l0, l1, l2, l3, l4] [.ref x0] (zSH, I, L, P) Q = zWM d 172 [.ref x0] (zSH, I, L, P) (fun r h1 => zWp d zi_181 none 19 [l0, l1, l2, l3, l4] (r.toList ++ []) h1 Q)) ∧
    (∀ (d : Nat) (l0 : Value) (l1 : Int32) (l2 : Value) (l3 : Value) (l4 : Value)  (h : zMm) (Q : Option Value → zMm → Prop), zWp d zi_181 none 19 [l0, .int l1, l2, l3, l4] [] h Q = zWp d zi_181 none 20 [l0, .int l1, l2, l3, l4] [.int l1] h Q) ∧
    (∀ (d : Nat) (l0 : Value) (l1 : Value) (l2 : Value) (l3 : Value) (l4 : Value) (x0 : Int32) (h : zMm) (Q : Option Value → zMm → Prop), zWp d zi_181 none 20 [l0, l1, l2, l3, l4] [.int x0] h Q = if x0 < 0 then zWp d zi_181 none 29 [l0, l1, l2, l3, l4] [] h Q else zWp d zi_181 none 23 [l0, l1, l2, l3, l4] [] h Q) ∧
    (∀ (d : Nat) (l0 : Nat) (l1 : Value) (l2 : Value) (l3 : Value) (l4 : Value)  (h : zMm) (Q : Option Value → zMm → Prop), zWp d zi_181 none 23 [.ref l0, l1, l2, l3, l4] [] h Q = zWp d zi_181 none 24 [.ref l0, l1, l2, l3, l4] [.ref l0] h Q) ∧
    (∀ (d : Nat) (l0 : Value) (l1 : Int32) (l2 : Value) (l3 : Value) (l4 : Value) (x0 : Nat) (h : zMm) (Q : Option Value → zMm → Prop), zWp d zi_181 none 24 [l0, .int l1, l2, l3, l4] [.ref x0] h Q = zWp d zi_181 none 25 [l0, .int l1, l2, l3, l4] [.int l1, .ref x0] h Q) ∧
    (∀ (d : Nat) (l0 : Value) (l1 : Value) (l2 : Value) (l3 : Value) (l4 : Value) (x1 : Int32) (x0 : Nat) (I : Nat → Nat → Int32) (L : Nat → Nat → Int64) (P : Nat → Nat → Option Nat) (Q : Option Value → zMm → Prop), zSH[x0]? = some (.inl 10) → zWp d zi_181 none 25 [l0, l1, l2, l3, l4] [.int x1, .ref x0] (zSH, I, L, P) Q = zWM d 180 [.ref x0, .int x1] (zSH, I, L, P) (fun r h1 => zWp d zi_181 none 28 [l0, l1, l2, l3, l4] (r.toList ++ []) h1 Q)) ∧
    (∀ (d : Nat) (l0 : Value) (l1 : Value) (l2 : Value) (l3 : Value) (l4 : Value) (x0 : Int32) (h : zMm) (Q : Option Value → zMm → Prop), zWp d zi_181 none 28 [l0, l1, l2, l3, l4] [.int x0] h Q = Q (some (.int x0)) h) ∧
    (∀ (d : Nat) (l0 : Value) (l1 : Value) (l2 : Value) (l3 : Value) (l4 : Value)  (h : zMm) (Q : Option Value → zMm → Prop), zWp d zi_181 none 29 [l0, l1, l2, l3, l4] [] h Q = zWp d zi_181 none 30 [l0, l1, l2, l3, l4] [.int 0] h Q) ∧
    (∀ (d : Nat) (l0 : Value) (l1 : Int32) (l2 : Value) (l3 : Value) (l4 : Value) (x0 : Int32) (h : zMm) (Q : Option Value → zMm → Prop), zWp d zi_181 none 30 [l0, .int l1, l2, l3, l4] [.int x0] h Q = zWp d zi_181 none 31 [l0, .int l1, .int x0, l3, l4] [] h Q) ∧
    (∀ (d : Nat) (l0 : Value) (l1 : Value) (l2 : Value) (l3 : Value) (l4 : Value)  (h : zMm) (Q : Option Value → zMm → Prop), zWp d zi_181 none 31 [l0, l1, l2, l3, l4] [] h Q = zWp d zi_181 none 32 [l0, l1, l2, l3, l4] [.int 0] h Q) ∧
    (∀ (d : Nat) (l0 : Value) (l1 : Value) (l2 : Int32) (l3 : Value) (l4 : Value) (x0 : Int32) (h : zMm) (Q : Option Value → zMm → Prop), zWp d zi_181 none 32 [l0, l1, .int l2, l3, l4] [.int x0] h Q = zWp d zi_181 none 33 [l0, l1, .int l2, .int x0, l4] [] h Q) ∧
    (∀ (d : Nat) (l0 : Nat) (l1 : Value) (l2 : Value) (l3 : Value) (l4 : Value) (x0 : Int32) (h : zMm) (Q : Option Value → zMm → Prop), zWp d zi_181 none 34 [.ref l0, l1, l2, l3, l4] [.int x0] h Q = zWp d zi_181 none 35 [.ref l0, l1, l2, l3, l4] [.ref l0, .int x0] h Q) ∧
    (∀ (d : Nat) (l0 : Value) (l1 : Value) (l2 : Value) (l3 : Value) (l4 : Value) (x1 : Nat) (x0 : Int32) (I : Nat → Nat → Int32) (L : Nat → Nat → Int64) (P : Nat → Nat → Option Nat) (Q : Option Value → zMm → Prop), zSH[x1]? = some (.inl 10) → zWp d zi_181 none 35 [l0, l1, l2, l3, l4] [.ref x1, .int x0] (zSH, I, L, P) Q = zWp d zi_181 none 38 [l0, l1, l2, l3, l4] [.int (I x1 10), .int x0] (zSH, I, L, P) Q) ∧
    (∀ (d : Nat) (l0 : Value) (l1 : Value) (l2 : Value) (l3 : Value) (l4 : Value) (x1 : Int32) (x0 : Int32) (h : zMm) (Q : Option Value → zMm → Prop), zWp d zi_181 none 38 [l0, l1, l2, l3, l4] [.int x1, .int x0] h Q = if x1 ≤ x0 then zWp d zi_181 none 73 [l0, l1, l2, l3, l4] [] h Q else zWp d zi_181 none 41 [l0, l1, l2, l3, l4] [] h Q) ∧
    (∀ (d : Nat) (l0 : Nat) (l1 : Value) (l2 : Value) (l3 : Value) (l4 : Value)  (h : zMm) (Q : Option Value → zMm → Prop), zWp d zi_181 none 41 [.ref l0, l1, l2, l3, l4] [] h Q = zWp d zi_181 none 42 [.ref l0, l1, l2, l3, l4] [.ref l0] h Q) ∧
    (∀ (d : Nat) (l0 : Value) (l1 : Value) (l2 : Value) (l3 : Int32) (l4 : Value) (x0 : Nat) (h : zMm) (Q : Option Value → zMm → Prop), zWp d zi_181 none 42 [l0, l1, l2, .int l3, l4] [.ref x0] h Q = zWp d zi_181 none 43 [l0, l1, l2, .int l3, l4] [.int l3, .ref x0] h Q) ∧
    (∀ (d : Nat) (l0 : Value) (l1 : Value) (l2 : Value) (l3 : Value) (l4 : Value) (x1 : Int32) (x0 : Nat) (I : Nat → Nat → Int32) (L : Nat → Nat → Int64) (P : Nat → Nat → Option Nat) (Q : Option Value → zMm → Prop), zSH[x0]? = some (.inl 10) → zWp d zi_181 none 43 [l0, l1, l2, l3, l4] [.int x1, .ref x0] (zSH, I, L, P) Q = zWM d 180 [.ref x0, .int x1] (zSH, I, L, P) (fun r h1 => zWp d zi_181 none 46 [l0, l1, l2, l3, l4] (r.toList ++ []) h1 Q)) ∧
    (∀ (d : Nat) (l0 : Value) (l1 : Value) (l2 : Value) (l3 : Int32) (l4 : Value) (x0 : Int32) (h : zMm) (Q : Option Value → zMm → Prop), zWp d zi_181 none 46 [l0, l1, l2, .int l3, l4] [.int x0] h Q = zWp d zi_181 none 48 [l0, l1, l2, .int l3, .int x0] [] h Q) ∧
    (∀ (d : Nat) (l0 : Value) (l1 : Value) (l2 : Int32) (l3 : Value) (l4 : Value)  (h : zMm) (Q : Option Value → zMm → Prop), zWp d zi_181 none 48 [l0, l1, .int l2, l3, l4] [] h Q = zWp d zi_181 none 49 [l0, l1, .int l2, l3, l4] [.int l2] h Q) ∧
    (∀ (d : Nat) (l0 : Value) (l1 : Value) (l2 : Value) (l3 : Value) (l4 : Value) (x0 : Int32) (h : zMm) (Q : Option Value → zMm → Prop), zWp d zi_181 none 49 [l0, l1, l2, l3, l4] [.int x0] h Q = if x0 < 0 then zWp d zi_181 none 57 [l0, l1, l2, l3, l4] [] h Q else zWp d zi_181 none 52 [l0, l1, l2, l3, l4] [] h Q) ∧
    (∀ (d : Nat) (l0 : Value) (l1 : Value) (l2 : Value) (l3 : Value) (l4 : Int32)  (h : zMm) (Q : Option Value → zMm → Prop), zWp d zi_181 none 52 [l0, l1, l2, l3, .int l4] [] h Q = zWp d zi_181 none 54 [l0, l1, l2, l3, .int l4] [.int l4] h Q) ∧
    (∀ (d : Nat) (l0 : Value) (l1 : Value) (l2 : Value) (l3 : Value) (l4 : Value) (x0 : Int32) (h : zMm) (Q : Option Value → zMm → Prop), zWp d zi_181 none 54 [l0, l1, l2, l3, l4] [.int x0] h Q = if 0 ≤ x0 then zWp d zi_181 none 62 [l0, l1, l2, l3, l4] [] h Q else zWp d zi_181 none 57 [l0, l1, l2, l3, l4] [] h Q) ∧
    (∀ (d : Nat) (l0 : Value) (l1 : Value) (l2 : Value) (l3 : Value) (l4 : Value)  (h : zMm) (Q : Option Value → zMm → Prop), zWp d zi_181 none 57 [l0, l1, l2, l3, l4] [] h Q = zWp d zi_181 none 59 [l0, l1, l2, l3, l4] [.int (-2)] h Q) ∧
    (∀ (d : Nat) (l0 : Value) (l1 : Value) (l2 : Value) (l3 : Value) (l4 : Value) (x0 : Int32) (h : zMm) (Q : Option Value → zMm → Prop), zWp d zi_181 none 59 [l0, l1, l2, l3, l4] [.int x0] h Q = zWp d zi_181 none 66 [l0, l1, l2, l3, l4] [.int x0] h Q) ∧
    (∀ (d : Nat) (l0 : Value) (l1 : Value) (l2 : Int32) (l3 : Value) (l4 : Value)  (h : zMm) (Q : Option Value → zMm → Prop), zWp d zi_181 none 62 [l0, l1, .int l2, l3, l4] [] h Q = zWp d zi_181 none 63 [l0, l1, .int l2, l3, l4] [.int l2] h Q) ∧
    (∀ (d : Nat) (l0 : Value) (l1 : Value) (l2 : Value) (l3 : Value) (l4 : Int32) (x0 : Int32) (h : zMm) (Q : Option Value → zMm → Prop), zWp d zi_181 none 63 [l0, l1, l2, l3, .int l4] [.int x0] h Q = zWp d zi_181 none 65 [l0, l1, l2, l3, .int l4] [.int l4, .int x0] h Q) ∧
    (∀ (d : Nat) (l0 : Value) (l1 : Value) (l2 : Value) (l3 : Value) (l4 : Value) (x1 : Int32) (x0 : Int32) (h : zMm) (Q : Option Value → zMm → Prop), zWp d zi_181 none 65 [l0, l1, l2, l3, l4] [.int x1, .int x0] h Q = zWp d zi_181 none 66 [l0, l1, l2, l3, l4] [.int (x0 + x1)] h Q) ∧
    (∀ (d : Nat) (l0 : Value) (l1 : Int32) (l2 : Value) (l3 : Value) (l4 : Value) (x0 : Int32) (h : zMm) (Q : Option Value → zMm → Prop), zWp d zi_181 none 66 [l0, .int l1, l2, l3, l4] [.int x0] h Q = zWp d zi_181 none 67 [l0, .int l1, .int x0, l3, l4] [] h Q) ∧
    (∀ (d : Nat) (l0 : Value) (l1 : Value) (l2 : Int32) (l3 : Int32) (l4 : Value)  (h : zMm) (Q : Option Value → zMm → Prop), zWp d zi_181 none 67 [l0, l1, .int l2, .int l3, l4] [] h Q = zWp d zi_181 none 70 [l0, l1, .int l2, .int (l3 + 1), l4] [] h Q) ∧
    (∀ (d : Nat) (l0 : Value) (l1 : Value) (l2 : Value) (l3 : Value) (l4 : Value)  (h : zMm) (Q : Option Value → zMm → Prop), zWp d zi_181 none 70 [l0, l1, l2, l3, l4] [] h Q = zWp d zi_181 none 33 [l0, l1, l2, l3, l4] [] h Q) ∧
    (∀ (d : Nat) (l0 : Value) (l1 : Value) (l2 : Int32) (l3 : Value) (l4 : Value)  (h : zMm) (Q : Option Value → zMm → Prop), zWp d zi_181 none 73 [l0, l1, .int l2, l3, l4] [] h Q = zWp d zi_181 none 74 [l0, l1, .int l2, l3, l4] [.int l2] h Q) ∧
    (∀ (d : Nat) (l0 : Value) (l1 : Value) (l2 : Value) (l3 : Value) (l4 : Value) (x0 : Int32) (h : zMm) (Q : Option Value → zMm → Prop), zWp d zi_181 none 74 [l0, l1, l2, l3, l4] [.int x0] h Q = Q (some (.int x0)) h) :=
  ⟨(fun d l0 l1 l2 l3 l4  h Q => zr_iload_n rfl rfl),
   (fun d l0 l1 l2 l3 l4 x0 h Q => zr_iconst rfl (by decide)),
   (fun d l0 l1 l2 l3 l4 x1 x0 h Q => zr_ic_eq rfl (by decide)),
   (fun d l0 l1 l2 l3 l4  h Q => zr_aload_n rfl rfl),
   (fun d l0 l1 l2 l3 l4 x0 h Q => zr_iload_n rfl rfl),
   (fun d l0 l1 l2 l3 l4 x1 x0 I L P Q p0 => zr_vir (as := [.int x1]) (rest := []) rfl lm_10_152 m_131 kd_131 rfl (Nat.le_of_ble_eq_true rfl) p0),
   (fun d l0 l1 l2 l3 l4 x0 h Q => zr_if_ne rfl (by decide)),
   (fun d l0 l1 l2 l3 l4  h Q => zr_iconst rfl (by decide)),
   (fun d l0 l1 l2 l3 l4 x0 h Q => zr_iret rfl rfl),
   (fun d l0 l1 l2 l3 l4  h Q => zr_aload_n rfl rfl),
   (fun d l0 l1 l2 l3 l4 x0 I L P Q p0 => zr_vir (as := []) (rest := []) rfl lm_10_279 m_172 kd_172 rfl (Nat.le_of_ble_eq_true rfl) p0),
   (fun d l0 l1 l2 l3 l4  h Q => zr_iload_n rfl rfl),
   (fun d l0 l1 l2 l3 l4 x0 h Q => zr_if_lt rfl (by decide)),
   (fun d l0 l1 l2 l3 l4  h Q => zr_aload_n rfl rfl),
   (fun d l0 l1 l2 l3 l4 x0 h Q => zr_iload_n rfl rfl),
   (fun d l0 l1 l2 l3 l4 x1 x0 I L P Q p0 => zr_vir (as := [.int x1]) (rest := []) rfl lm_10_292 m_180 kd_180 rfl (Nat.le_of_ble_eq_true rfl) p0),
   (fun d l0 l1 l2 l3 l4 x0 h Q => zr_iret rfl rfl),
   (fun d l0 l1 l2 l3 l4  h Q => zr_iconst rfl (by decide)),
   (fun d l0 l1 l2 l3 l4 x0 h Q => zr_istore_n (n := 2) rfl (Nat.le_of_ble_eq_true rfl) rfl),
   (fun d l0 l1 l2 l3 l4  h Q => zr_iconst rfl (by decide)),
   (fun d l0 l1 l2 l3 l4 x0 h Q => zr_istore_n (n := 3) rfl (Nat.le_of_ble_eq_true rfl) rfl),
   (fun d l0 l1 l2 l3 l4 x0 h Q => zr_aload_n rfl rfl),
   (fun d l0 l1 l2 l3 l4 x1 x0 I L P Q p0 => zr_getI rfl lf_10_114 (fun _ _ _ => rfl) p0),
   (fun d l0 l1 l2 l3 l4 x1 x0 h Q => zr_ic_ge rfl (by decide)),
   (fun d l0 l1 l2 l3 l4  h Q => zr_aload_n rfl rfl),
   (fun d l0 l1 l2 l3 l4 x0 h Q => zr_iload_n rfl rfl),
   (fun d l0 l1 l2 l3 l4 x1 x0 I L P Q p0 => zr_vir (as := [.int x1]) (rest := []) rfl lm_10_292 m_180 kd_180 rfl (Nat.le_of_ble_eq_true rfl) p0),
   (fun d l0 l1 l2 l3 l4 x0 h Q => zr_istore (n := 4) rfl (Nat.le_of_ble_eq_true rfl) rfl),
   (fun d l0 l1 l2 l3 l4  h Q => zr_iload_n rfl rfl),
   (fun d l0 l1 l2 l3 l4 x0 h Q => zr_if_lt rfl (by decide)),
   (fun d l0 l1 l2 l3 l4  h Q => zr_iload rfl rfl),
   (fun d l0 l1 l2 l3 l4 x0 h Q => zr_if_ge rfl (by decide)),
   (fun d l0 l1 l2 l3 l4  h Q => zr_bipush rfl (by decide)),
   (fun d l0 l1 l2 l3 l4 x0 h Q => zr_goto rfl (by decide)),
   (fun d l0 l1 l2 l3 l4  h Q => zr_iload_n rfl rfl),
   (fun d l0 l1 l2 l3 l4 x0 h Q => zr_iload rfl rfl),
   (fun d l0 l1 l2 l3 l4 x1 x0 h Q => zr_iadd rfl),
   (fun d l0 l1 l2 l3 l4 x0 h Q => zr_istore_n (n := 2) rfl (Nat.le_of_ble_eq_true rfl) rfl),
   (fun d l0 l1 l2 l3 l4  h Q => zr_iinc (n := 3) (kc := 1) rfl rfl (Nat.le_of_ble_eq_true rfl) rfl (by decide)),
   (fun d l0 l1 l2 l3 l4  h Q => zr_goto rfl (by decide)),
   (fun d l0 l1 l2 l3 l4  h Q => zr_iload_n rfl rfl),
   (fun d l0 l1 l2 l3 l4 x0 h Q => zr_iret rfl rfl)⟩
theorem H_X10_boarded_33 : ∀ (d : Nat) (l0 : Value) (l1 : Value) (l2 : Value) (l3 : Int32) (l4 : Value)  (h : zMm) (Q : Option Value → zMm → Prop), zWp d zi_181 none 33 [l0, l1, l2, .int l3, l4] [] h Q = zWp d zi_181 none 34 [l0, l1, l2, .int l3, l4] [.int l3] h Q := fun d l0 l1 l2 l3 l4  h Q => zr_iload_n rfl rfl
theorem E_X10_bitsOf : ∀ (d : Nat) (a0 : Int32) (h : zMm) (Q : Option Value → zMm → Prop), zWM (d + 1) 182 [.int a0] h Q = zWp d zi_182 none 0 [.int a0, .retAddr 0, .retAddr 0] [] h Q := fun d a0 h Q => zW_M m_182 (Nat.le_of_ble_eq_true rfl) rfl
set_option maxRecDepth 100000 in
theorem R_X10_bitsOf :
    (∀ (d : Nat) (l0 : Value) (l1 : Value) (l2 : Value)  (h : zMm) (Q : Option Value → zMm → Prop), zWp d zi_182 none 0 [l0, l1, l2] [] h Q = zWp d zi_182 none 1 [l0, l1, l2] [.int 0] h Q) ∧
    (∀ (d : Nat) (l0 : Int32) (l1 : Value) (l2 : Value) (x0 : Int32) (h : zMm) (Q : Option Value → zMm → Prop), zWp d zi_182 none 1 [.int l0, l1, l2] [.int x0] h Q = zWp d zi_182 none 2 [.int l0, .int x0, l2] [] h Q) ∧
    (∀ (d : Nat) (l0 : Int32) (l1 : Value) (l2 : Value)  (h : zMm) (Q : Option Value → zMm → Prop), zWp d zi_182 none 2 [.int l0, l1, l2] [] h Q = zWp d zi_182 none 3 [.int l0, l1, l2] [.int l0] h Q) ∧
    (∀ (d : Nat) (l0 : Value) (l1 : Int32) (l2 : Value) (x0 : Int32) (h : zMm) (Q : Option Value → zMm → Prop), zWp d zi_182 none 3 [l0, .int l1, l2] [.int x0] h Q = zWp d zi_182 none 4 [l0, .int l1, .int x0] [] h Q) ∧
    (∀ (d : Nat) (l0 : Value) (l1 : Value) (l2 : Value) (x0 : Int32) (h : zMm) (Q : Option Value → zMm → Prop), zWp d zi_182 none 5 [l0, l1, l2] [.int x0] h Q = if x0 = 0 then zWp d zi_182 none 20 [l0, l1, l2] [] h Q else zWp d zi_182 none 8 [l0, l1, l2] [] h Q) ∧
    (∀ (d : Nat) (l0 : Int32) (l1 : Int32) (l2 : Value)  (h : zMm) (Q : Option Value → zMm → Prop), zWp d zi_182 none 8 [.int l0, .int l1, l2] [] h Q = zWp d zi_182 none 11 [.int l0, .int (l1 + 1), l2] [] h Q) ∧
    (∀ (d : Nat) (l0 : Value) (l1 : Value) (l2 : Int32)  (h : zMm) (Q : Option Value → zMm → Prop), zWp d zi_182 none 11 [l0, l1, .int l2] [] h Q = zWp d zi_182 none 12 [l0, l1, .int l2] [.int l2] h Q) ∧
    (∀ (d : Nat) (l0 : Value) (l1 : Value) (l2 : Int32) (x0 : Int32) (h : zMm) (Q : Option Value → zMm → Prop), zWp d zi_182 none 12 [l0, l1, .int l2] [.int x0] h Q = zWp d zi_182 none 13 [l0, l1, .int l2] [.int l2, .int x0] h Q) ∧
    (∀ (d : Nat) (l0 : Value) (l1 : Value) (l2 : Value) (x1 : Int32) (x0 : Int32) (h : zMm) (Q : Option Value → zMm → Prop), zWp d zi_182 none 13 [l0, l1, l2] [.int x1, .int x0] h Q = zWp d zi_182 none 14 [l0, l1, l2] [.int 1, .int x1, .int x0] h Q) ∧
    (∀ (d : Nat) (l0 : Value) (l1 : Value) (l2 : Value) (x2 : Int32) (x1 : Int32) (x0 : Int32) (h : zMm) (Q : Option Value → zMm → Prop), zWp d zi_182 none 14 [l0, l1, l2] [.int x2, .int x1, .int x0] h Q = zWp d zi_182 none 15 [l0, l1, l2] [.int (x1 - x2), .int x0] h Q) ∧
    (∀ (d : Nat) (l0 : Value) (l1 : Value) (l2 : Value) (x1 : Int32) (x0 : Int32) (h : zMm) (Q : Option Value → zMm → Prop), zWp d zi_182 none 15 [l0, l1, l2] [.int x1, .int x0] h Q = zWp d zi_182 none 16 [l0, l1, l2] [.int (x0 &&& x1)] h Q) ∧
    (∀ (d : Nat) (l0 : Value) (l1 : Int32) (l2 : Value) (x0 : Int32) (h : zMm) (Q : Option Value → zMm → Prop), zWp d zi_182 none 16 [l0, .int l1, l2] [.int x0] h Q = zWp d zi_182 none 17 [l0, .int l1, .int x0] [] h Q) ∧
    (∀ (d : Nat) (l0 : Value) (l1 : Value) (l2 : Value)  (h : zMm) (Q : Option Value → zMm → Prop), zWp d zi_182 none 17 [l0, l1, l2] [] h Q = zWp d zi_182 none 4 [l0, l1, l2] [] h Q) ∧
    (∀ (d : Nat) (l0 : Value) (l1 : Int32) (l2 : Value)  (h : zMm) (Q : Option Value → zMm → Prop), zWp d zi_182 none 20 [l0, .int l1, l2] [] h Q = zWp d zi_182 none 21 [l0, .int l1, l2] [.int l1] h Q) ∧
    (∀ (d : Nat) (l0 : Value) (l1 : Value) (l2 : Value) (x0 : Int32) (h : zMm) (Q : Option Value → zMm → Prop), zWp d zi_182 none 21 [l0, l1, l2] [.int x0] h Q = Q (some (.int x0)) h) :=
  ⟨(fun d l0 l1 l2  h Q => zr_iconst rfl (by decide)),
   (fun d l0 l1 l2 x0 h Q => zr_istore_n (n := 1) rfl (Nat.le_of_ble_eq_true rfl) rfl),
   (fun d l0 l1 l2  h Q => zr_iload_n rfl rfl),
   (fun d l0 l1 l2 x0 h Q => zr_istore_n (n := 2) rfl (Nat.le_of_ble_eq_true rfl) rfl),
   (fun d l0 l1 l2 x0 h Q => zr_if_eq rfl (by decide)),
   (fun d l0 l1 l2  h Q => zr_iinc (n := 1) (kc := 1) rfl rfl (Nat.le_of_ble_eq_true rfl) rfl (by decide)),
   (fun d l0 l1 l2  h Q => zr_iload_n rfl rfl),
   (fun d l0 l1 l2 x0 h Q => zr_iload_n rfl rfl),
   (fun d l0 l1 l2 x1 x0 h Q => zr_iconst rfl (by decide)),
   (fun d l0 l1 l2 x2 x1 x0 h Q => zr_isub rfl),
   (fun d l0 l1 l2 x1 x0 h Q => zr_iand rfl),
   (fun d l0 l1 l2 x0 h Q => zr_istore_n (n := 2) rfl (Nat.le_of_ble_eq_true rfl) rfl),
   (fun d l0 l1 l2  h Q => zr_goto rfl (by decide)),
   (fun d l0 l1 l2  h Q => zr_iload_n rfl rfl),
   (fun d l0 l1 l2 x0 h Q => zr_iret rfl rfl)⟩
theorem H_X10_bitsOf_4 : ∀ (d : Nat) (l0 : Value) (l1 : Value) (l2 : Int32)  (h : zMm) (Q : Option Value → zMm → Prop), zWp d zi_182 none 4 [l0, l1, .int l2] [] h Q = zWp d zi_182 none 5 [l0, l1, .int l2] [.int l2] h Q := fun d l0 l1 l2  h Q => zr_iload_n rfl rfl
theorem E_X10_draws : ∀ (d : Nat) (a0 : Nat) (a1 : Int32) (h : zMm) (Q : Option Value → zMm → Prop), zWM (d + 1) 183 [.ref a0, .int a1] h Q = zWp d zi_183 none 0 [.ref a0, .int a1] [] h Q := fun d a0 a1 h Q => zW_M m_183 (Nat.le_of_ble_eq_true rfl) rfl
set_option maxRecDepth 100000 in
theorem R_X10_draws :
    (∀ (d : Nat) (l0 : Nat) (l1 : Value)  (h : zMm) (Q : Option Value → zMm → Prop), zWp d zi_183 none 0 [.ref l0, l1] [] h Q = zWp d zi_183 none 1 [.ref l0, l1] [.ref l0] h Q) ∧
    (∀ (d : Nat) (l0 : Nat) (l1 : Value) (x0 : Nat) (h : zMm) (Q : Option Value → zMm → Prop), zWp d zi_183 none 1 [.ref l0, l1] [.ref x0] h Q = zWp d zi_183 none 2 [.ref l0, l1] [.ref l0, .ref x0] h Q) ∧
    (∀ (d : Nat) (l0 : Value) (l1 : Value) (x1 : Nat) (x0 : Nat) (I : Nat → Nat → Int32) (L : Nat → Nat → Int64) (P : Nat → Nat → Option Nat) (Q : Option Value → zMm → Prop), zSH[x1]? = some (.inl 10) → zWp d zi_183 none 2 [l0, l1] [.ref x1, .ref x0] (zSH, I, L, P) Q = zWp d zi_183 none 5 [l0, l1] [.int (I x1 37), .ref x0] (zSH, I, L, P) Q) ∧
    (∀ (d : Nat) (l0 : Value) (l1 : Value) (x1 : Int32) (x0 : Nat) (h : zMm) (Q : Option Value → zMm → Prop), zWp d zi_183 none 5 [l0, l1] [.int x1, .ref x0] h Q = zWp d zi_183 none 8 [l0, l1] [.int 1103515245, .int x1, .ref x0] h Q) ∧
    (∀ (d : Nat) (l0 : Value) (l1 : Value) (x2 : Int32) (x1 : Int32) (x0 : Nat) (h : zMm) (Q : Option Value → zMm → Prop), zWp d zi_183 none 8 [l0, l1] [.int x2, .int x1, .ref x0] h Q = zWp d zi_183 none 9 [l0, l1] [.int (x1 * x2), .ref x0] h Q) ∧
    (∀ (d : Nat) (l0 : Value) (l1 : Value) (x1 : Int32) (x0 : Nat) (h : zMm) (Q : Option Value → zMm → Prop), zWp d zi_183 none 9 [l0, l1] [.int x1, .ref x0] h Q = zWp d zi_183 none 12 [l0, l1] [.int 12345, .int x1, .ref x0] h Q) ∧
    (∀ (d : Nat) (l0 : Value) (l1 : Value) (x2 : Int32) (x1 : Int32) (x0 : Nat) (h : zMm) (Q : Option Value → zMm → Prop), zWp d zi_183 none 12 [l0, l1] [.int x2, .int x1, .ref x0] h Q = zWp d zi_183 none 13 [l0, l1] [.int (x1 + x2), .ref x0] h Q) ∧
    (∀ (d : Nat) (l0 : Value) (l1 : Value) (x1 : Int32) (x0 : Nat) (I : Nat → Nat → Int32) (L : Nat → Nat → Int64) (P : Nat → Nat → Option Nat) (Q : Option Value → zMm → Prop), zSH[x0]? = some (.inl 10) → zWp d zi_183 none 13 [l0, l1] [.int x1, .ref x0] (zSH, I, L, P) Q = zWp d zi_183 none 16 [l0, l1] [] (zSH, zw I x0 (upd (I x0) 37 x1), L, P) Q) ∧
    (∀ (d : Nat) (l0 : Nat) (l1 : Value)  (h : zMm) (Q : Option Value → zMm → Prop), zWp d zi_183 none 16 [.ref l0, l1] [] h Q = zWp d zi_183 none 17 [.ref l0, l1] [.ref l0] h Q) ∧
    (∀ (d : Nat) (l0 : Value) (l1 : Value) (x0 : Nat) (I : Nat → Nat → Int32) (L : Nat → Nat → Int64) (P : Nat → Nat → Option Nat) (Q : Option Value → zMm → Prop), zSH[x0]? = some (.inl 10) → zWp d zi_183 none 17 [l0, l1] [.ref x0] (zSH, I, L, P) Q = zWp d zi_183 none 20 [l0, l1] [.int (I x0 37)] (zSH, I, L, P) Q) ∧
    (∀ (d : Nat) (l0 : Value) (l1 : Value) (x0 : Int32) (h : zMm) (Q : Option Value → zMm → Prop), zWp d zi_183 none 20 [l0, l1] [.int x0] h Q = zWp d zi_183 none 22 [l0, l1] [.int 8, .int x0] h Q) ∧
    (∀ (d : Nat) (l0 : Value) (l1 : Value) (x1 : Int32) (x0 : Int32) (h : zMm) (Q : Option Value → zMm → Prop), zWp d zi_183 none 22 [l0, l1] [.int x1, .int x0] h Q = zWp d zi_183 none 23 [l0, l1] [.int ((x0.toUInt32 >>> (x1.toUInt32 &&& Int32.toUInt32 31)).toInt32)] h Q) ∧
    (∀ (d : Nat) (l0 : Value) (l1 : Int32) (x0 : Int32) (h : zMm) (Q : Option Value → zMm → Prop), zWp d zi_183 none 23 [l0, .int l1] [.int x0] h Q = zWp d zi_183 none 24 [l0, .int l1] [.int l1, .int x0] h Q) ∧
    (∀ (d : Nat) (l0 : Value) (l1 : Value) (x1 : Int32) (x0 : Int32) (h : zMm) (Q : Option Value → zMm → Prop), zWp d zi_183 none 24 [l0, l1] [.int x1, .int x0] h Q = (¬ x1 = 0 ∧ zWp d zi_183 none 25 [l0, l1] [.int (x0 - x0 / x1 * x1)] h Q)) ∧
    (∀ (d : Nat) (l0 : Value) (l1 : Value) (x0 : Int32) (h : zMm) (Q : Option Value → zMm → Prop), zWp d zi_183 none 25 [l0, l1] [.int x0] h Q = Q (some (.int x0)) h) :=
  ⟨(fun d l0 l1  h Q => zr_aload_n rfl rfl),
   (fun d l0 l1 x0 h Q => zr_aload_n rfl rfl),
   (fun d l0 l1 x1 x0 I L P Q p0 => zr_getI rfl lf_10_295 (fun _ _ _ => rfl) p0),
   (fun d l0 l1 x1 x0 h Q => zr_ldc_w rfl lk_10_298),
   (fun d l0 l1 x2 x1 x0 h Q => zr_imul rfl),
   (fun d l0 l1 x1 x0 h Q => zr_sipush rfl (by decide)),
   (fun d l0 l1 x2 x1 x0 h Q => zr_iadd rfl),
   (fun d l0 l1 x1 x0 I L P Q p0 => zr_putI rfl lf_10_295 (by decide) rfl p0),
   (fun d l0 l1  h Q => zr_aload_n rfl rfl),
   (fun d l0 l1 x0 I L P Q p0 => zr_getI rfl lf_10_295 (fun _ _ _ => rfl) p0),
   (fun d l0 l1 x0 h Q => zr_bipush rfl (by decide)),
   (fun d l0 l1 x1 x0 h Q => zr_iushr rfl),
   (fun d l0 l1 x0 h Q => zr_iload_n rfl rfl),
   (fun d l0 l1 x1 x0 h Q => zr_irem rfl),
   (fun d l0 l1 x0 h Q => zr_iret rfl rfl)⟩
theorem E_X10_watch : ∀ (d : Nat) (a0 : Nat) (a1 : Int32) (a2 : Int32) (h : zMm) (Q : Option Value → zMm → Prop), zWM (d + 1) 184 [.ref a0, .int a1, .int a2] h Q = zWp d zi_184 none 0 [.ref a0, .int a1, .int a2] [] h Q := fun d a0 a1 a2 h Q => zW_M m_184 (Nat.le_of_ble_eq_true rfl) rfl
set_option maxRecDepth 100000 in
theorem R_X10_watch :
    (∀ (d : Nat) (l0 : Value) (l1 : Int32) (l2 : Value)  (h : zMm) (Q : Option Value → zMm → Prop), zWp d zi_184 none 0 [l0, .int l1, l2] [] h Q = zWp d zi_184 none 1 [l0, .int l1, l2] [.int l1] h Q) ∧
    (∀ (d : Nat) (l0 : Value) (l1 : Value) (l2 : Value) (x0 : Int32) (h : zMm) (Q : Option Value → zMm → Prop), zWp d zi_184 none 1 [l0, l1, l2] [.int x0] h Q = zWp d zi_184 none 2 [l0, l1, l2] [.long x0.toInt64] h Q) ∧
    (∀ (d : Nat) (l0 : Value) (l1 : Value) (l2 : Value) (x0 : Int64) (h : zMm) (Q : Option Value → zMm → Prop), zWp d zi_184 none 2 [l0, l1, l2] [.long x0] h Q = zWp d zi_184 none 3 [l0, l1, l2] [.long 0, .long x0] h Q) ∧
    (∀ (d : Nat) (l0 : Value) (l1 : Value) (l2 : Value) (x1 : Int64) (x0 : Int64) (h : zMm) (Q : Option Value → zMm → Prop), zWp d zi_184 none 3 [l0, l1, l2] [.long x1, .long x0] h Q = zWp d zi_184 none 6 [l0, l1, l2] [.long 29, .long x1, .long x0] h Q) ∧
    (∀ (d : Nat) (l0 : Value) (l1 : Value) (l2 : Value) (x2 : Int64) (x1 : Int64) (x0 : Int64) (h : zMm) (Q : Option Value → zMm → Prop), zWp d zi_184 none 6 [l0, l1, l2] [.long x2, .long x1, .long x0] h Q = zWM d 122 [.long x0, .long x1, .long x2] h (fun r h1 => zWp d zi_184 none 9 [l0, l1, l2] (r.toList ++ []) h1 Q)) ∧
    (∀ (d : Nat) (l0 : Value) (l1 : Value) (l2 : Value) (x0 : Int32) (h : zMm) (Q : Option Value → zMm → Prop), zWp d zi_184 none 9 [l0, l1, l2] [.int x0] h Q = if x0 = 0 then zWp d zi_184 none 22 [l0, l1, l2] [] h Q else zWp d zi_184 none 12 [l0, l1, l2] [] h Q) ∧
    (∀ (d : Nat) (l0 : Value) (l1 : Value) (l2 : Int32)  (h : zMm) (Q : Option Value → zMm → Prop), zWp d zi_184 none 12 [l0, l1, .int l2] [] h Q = zWp d zi_184 none 13 [l0, l1, .int l2] [.int l2] h Q) ∧
    (∀ (d : Nat) (l0 : Value) (l1 : Value) (l2 : Value) (x0 : Int32) (h : zMm) (Q : Option Value → zMm → Prop), zWp d zi_184 none 13 [l0, l1, l2] [.int x0] h Q = zWp d zi_184 none 14 [l0, l1, l2] [.long x0.toInt64] h Q) ∧
    (∀ (d : Nat) (l0 : Value) (l1 : Value) (l2 : Value) (x0 : Int64) (h : zMm) (Q : Option Value → zMm → Prop), zWp d zi_184 none 14 [l0, l1, l2] [.long x0] h Q = zWp d zi_184 none 15 [l0, l1, l2] [.long 0, .long x0] h Q) ∧
    (∀ (d : Nat) (l0 : Value) (l1 : Value) (l2 : Value) (x1 : Int64) (x0 : Int64) (h : zMm) (Q : Option Value → zMm → Prop), zWp d zi_184 none 15 [l0, l1, l2] [.long x1, .long x0] h Q = zWp d zi_184 none 16 [l0, l1, l2] [.long 1, .long x1, .long x0] h Q) ∧
    (∀ (d : Nat) (l0 : Value) (l1 : Value) (l2 : Value) (x2 : Int64) (x1 : Int64) (x0 : Int64) (h : zMm) (Q : Option Value → zMm → Prop), zWp d zi_184 none 16 [l0, l1, l2] [.long x2, .long x1, .long x0] h Q = zWM d 122 [.long x0, .long x1, .long x2] h (fun r h1 => zWp d zi_184 none 19 [l0, l1, l2] (r.toList ++ []) h1 Q)) ∧
    (∀ (d : Nat) (l0 : Value) (l1 : Value) (l2 : Value) (x0 : Int32) (h : zMm) (Q : Option Value → zMm → Prop), zWp d zi_184 none 19 [l0, l1, l2] [.int x0] h Q = if x0 = 0 then zWp d zi_184 none 22 [l0, l1, l2] [] h Q else zWp d zi_184 none 24 [l0, l1, l2] [] h Q) ∧
    (∀ (d : Nat) (l0 : Value) (l1 : Value) (l2 : Value)  (h : zMm) (Q : Option Value → zMm → Prop), zWp d zi_184 none 22 [l0, l1, l2] [] h Q = zWp d zi_184 none 23 [l0, l1, l2] [.int (-1)] h Q) ∧
    (∀ (d : Nat) (l0 : Value) (l1 : Value) (l2 : Value) (x0 : Int32) (h : zMm) (Q : Option Value → zMm → Prop), zWp d zi_184 none 23 [l0, l1, l2] [.int x0] h Q = Q (some (.int x0)) h) ∧
    (∀ (d : Nat) (l0 : Nat) (l1 : Value) (l2 : Value)  (h : zMm) (Q : Option Value → zMm → Prop), zWp d zi_184 none 24 [.ref l0, l1, l2] [] h Q = zWp d zi_184 none 25 [.ref l0, l1, l2] [.ref l0] h Q) ∧
    (∀ (d : Nat) (l0 : Nat) (l1 : Value) (l2 : Value) (x0 : Nat) (h : zMm) (Q : Option Value → zMm → Prop), zWp d zi_184 none 25 [.ref l0, l1, l2] [.ref x0] h Q = zWp d zi_184 none 26 [.ref l0, l1, l2] [.ref l0, .ref x0] h Q) ∧
    (∀ (d : Nat) (l0 : Value) (l1 : Value) (l2 : Value) (x1 : Nat) (x0 : Nat) (I : Nat → Nat → Int32) (L : Nat → Nat → Int64) (P : Nat → Nat → Option Nat) (Q : Option Value → zMm → Prop), zSH[x1]? = some (.inl 10) → zWp d zi_184 none 26 [l0, l1, l2] [.ref x1, .ref x0] (zSH, I, L, P) Q = zWp d zi_184 none 29 [l0, l1, l2] [.int (I x1 34), .ref x0] (zSH, I, L, P) Q) ∧
    (∀ (d : Nat) (l0 : Value) (l1 : Value) (l2 : Value) (x1 : Int32) (x0 : Nat) (h : zMm) (Q : Option Value → zMm → Prop), zWp d zi_184 none 29 [l0, l1, l2] [.int x1, .ref x0] h Q = zWp d zi_184 none 30 [l0, l1, l2] [.int 1, .int x1, .ref x0] h Q) ∧
    (∀ (d : Nat) (l0 : Value) (l1 : Int32) (l2 : Value) (x2 : Int32) (x1 : Int32) (x0 : Nat) (h : zMm) (Q : Option Value → zMm → Prop), zWp d zi_184 none 30 [l0, .int l1, l2] [.int x2, .int x1, .ref x0] h Q = zWp d zi_184 none 31 [l0, .int l1, l2] [.int l1, .int x2, .int x1, .ref x0] h Q) ∧
    (∀ (d : Nat) (l0 : Value) (l1 : Value) (l2 : Value) (x3 : Int32) (x2 : Int32) (x1 : Int32) (x0 : Nat) (h : zMm) (Q : Option Value → zMm → Prop), zWp d zi_184 none 31 [l0, l1, l2] [.int x3, .int x2, .int x1, .ref x0] h Q = zWp d zi_184 none 32 [l0, l1, l2] [.int (x2 <<< (x3 &&& 31)), .int x1, .ref x0] h Q) ∧
    (∀ (d : Nat) (l0 : Value) (l1 : Value) (l2 : Value) (x2 : Int32) (x1 : Int32) (x0 : Nat) (h : zMm) (Q : Option Value → zMm → Prop), zWp d zi_184 none 32 [l0, l1, l2] [.int x2, .int x1, .ref x0] h Q = zWp d zi_184 none 33 [l0, l1, l2] [.int (-1), .int x2, .int x1, .ref x0] h Q) ∧
    (∀ (d : Nat) (l0 : Value) (l1 : Value) (l2 : Value) (x3 : Int32) (x2 : Int32) (x1 : Int32) (x0 : Nat) (h : zMm) (Q : Option Value → zMm → Prop), zWp d zi_184 none 33 [l0, l1, l2] [.int x3, .int x2, .int x1, .ref x0] h Q = zWp d zi_184 none 34 [l0, l1, l2] [.int (x2 ^^^ x3), .int x1, .ref x0] h Q) ∧
    (∀ (d : Nat) (l0 : Value) (l1 : Value) (l2 : Value) (x2 : Int32) (x1 : Int32) (x0 : Nat) (h : zMm) (Q : Option Value → zMm → Prop), zWp d zi_184 none 34 [l0, l1, l2] [.int x2, .int x1, .ref x0] h Q = zWp d zi_184 none 35 [l0, l1, l2] [.int (x1 &&& x2), .ref x0] h Q) ∧
    (∀ (d : Nat) (l0 : Value) (l1 : Value) (l2 : Int32) (x1 : Int32) (x0 : Nat) (h : zMm) (Q : Option Value → zMm → Prop), zWp d zi_184 none 35 [l0, l1, .int l2] [.int x1, .ref x0] h Q = zWp d zi_184 none 36 [l0, l1, .int l2] [.int l2, .int x1, .ref x0] h Q) ∧
    (∀ (d : Nat) (l0 : Value) (l1 : Int32) (l2 : Value) (x2 : Int32) (x1 : Int32) (x0 : Nat) (h : zMm) (Q : Option Value → zMm → Prop), zWp d zi_184 none 36 [l0, .int l1, l2] [.int x2, .int x1, .ref x0] h Q = zWp d zi_184 none 37 [l0, .int l1, l2] [.int l1, .int x2, .int x1, .ref x0] h Q) ∧
    (∀ (d : Nat) (l0 : Value) (l1 : Value) (l2 : Value) (x3 : Int32) (x2 : Int32) (x1 : Int32) (x0 : Nat) (h : zMm) (Q : Option Value → zMm → Prop), zWp d zi_184 none 37 [l0, l1, l2] [.int x3, .int x2, .int x1, .ref x0] h Q = zWp d zi_184 none 38 [l0, l1, l2] [.int (x2 <<< (x3 &&& 31)), .int x1, .ref x0] h Q) ∧
    (∀ (d : Nat) (l0 : Value) (l1 : Value) (l2 : Value) (x2 : Int32) (x1 : Int32) (x0 : Nat) (h : zMm) (Q : Option Value → zMm → Prop), zWp d zi_184 none 38 [l0, l1, l2] [.int x2, .int x1, .ref x0] h Q = zWp d zi_184 none 39 [l0, l1, l2] [.int (x1 ||| x2), .ref x0] h Q) ∧
    (∀ (d : Nat) (l0 : Value) (l1 : Value) (l2 : Value) (x1 : Int32) (x0 : Nat) (I : Nat → Nat → Int32) (L : Nat → Nat → Int64) (P : Nat → Nat → Option Nat) (Q : Option Value → zMm → Prop), zSH[x0]? = some (.inl 10) → zWp d zi_184 none 39 [l0, l1, l2] [.int x1, .ref x0] (zSH, I, L, P) Q = zWp d zi_184 none 42 [l0, l1, l2] [] (zSH, zw I x0 (upd (I x0) 34 x1), L, P) Q) ∧
    (∀ (d : Nat) (l0 : Nat) (l1 : Value) (l2 : Value)  (h : zMm) (Q : Option Value → zMm → Prop), zWp d zi_184 none 42 [.ref l0, l1, l2] [] h Q = zWp d zi_184 none 43 [.ref l0, l1, l2] [.ref l0] h Q) ∧
    (∀ (d : Nat) (l0 : Value) (l1 : Value) (l2 : Value) (x0 : Nat) (I : Nat → Nat → Int32) (L : Nat → Nat → Int64) (P : Nat → Nat → Option Nat) (Q : Option Value → zMm → Prop), zSH[x0]? = some (.inl 10) → zWp d zi_184 none 43 [l0, l1, l2] [.ref x0] (zSH, I, L, P) Q = zWp d zi_184 none 46 [l0, l1, l2] [.int (I x0 34)] (zSH, I, L, P) Q) ∧
    (∀ (d : Nat) (l0 : Value) (l1 : Value) (l2 : Value) (x0 : Int32) (h : zMm) (Q : Option Value → zMm → Prop), zWp d zi_184 none 46 [l0, l1, l2] [.int x0] h Q = zWM d 182 [.int x0] h (fun r h1 => zWp d zi_184 none 49 [l0, l1, l2] (r.toList ++ []) h1 Q)) ∧
    (∀ (d : Nat) (l0 : Value) (l1 : Value) (l2 : Value) (x0 : Int32) (h : zMm) (Q : Option Value → zMm → Prop), zWp d zi_184 none 49 [l0, l1, l2] [.int x0] h Q = Q (some (.int x0)) h) :=
  ⟨(fun d l0 l1 l2  h Q => zr_iload_n rfl rfl),
   (fun d l0 l1 l2 x0 h Q => zr_i2l rfl),
   (fun d l0 l1 l2 x0 h Q => zr_lconst rfl (by decide)),
   (fun d l0 l1 l2 x1 x0 h Q => zr_ldc2_w rfl lj_10_299),
   (fun d l0 l1 l2 x2 x1 x0 h Q => zr_sta (as := [.long x2, .long x1, .long x0]) (rest := []) rfl lm_10_110 (by decide) m_122 kd_122 rfl (Nat.le_of_ble_eq_true rfl)),
   (fun d l0 l1 l2 x0 h Q => zr_if_eq rfl (by decide)),
   (fun d l0 l1 l2  h Q => zr_iload_n rfl rfl),
   (fun d l0 l1 l2 x0 h Q => zr_i2l rfl),
   (fun d l0 l1 l2 x0 h Q => zr_lconst rfl (by decide)),
   (fun d l0 l1 l2 x1 x0 h Q => zr_lconst rfl (by decide)),
   (fun d l0 l1 l2 x2 x1 x0 h Q => zr_sta (as := [.long x2, .long x1, .long x0]) (rest := []) rfl lm_10_110 (by decide) m_122 kd_122 rfl (Nat.le_of_ble_eq_true rfl)),
   (fun d l0 l1 l2 x0 h Q => zr_if_ne rfl (by decide)),
   (fun d l0 l1 l2  h Q => zr_iconst rfl (by decide)),
   (fun d l0 l1 l2 x0 h Q => zr_iret rfl rfl),
   (fun d l0 l1 l2  h Q => zr_aload_n rfl rfl),
   (fun d l0 l1 l2 x0 h Q => zr_aload_n rfl rfl),
   (fun d l0 l1 l2 x1 x0 I L P Q p0 => zr_getI rfl lf_10_301 (fun _ _ _ => rfl) p0),
   (fun d l0 l1 l2 x1 x0 h Q => zr_iconst rfl (by decide)),
   (fun d l0 l1 l2 x2 x1 x0 h Q => zr_iload_n rfl rfl),
   (fun d l0 l1 l2 x3 x2 x1 x0 h Q => zr_ishl rfl),
   (fun d l0 l1 l2 x2 x1 x0 h Q => zr_iconst rfl (by decide)),
   (fun d l0 l1 l2 x3 x2 x1 x0 h Q => zr_ixor rfl),
   (fun d l0 l1 l2 x2 x1 x0 h Q => zr_iand rfl),
   (fun d l0 l1 l2 x1 x0 h Q => zr_iload_n rfl rfl),
   (fun d l0 l1 l2 x2 x1 x0 h Q => zr_iload_n rfl rfl),
   (fun d l0 l1 l2 x3 x2 x1 x0 h Q => zr_ishl rfl),
   (fun d l0 l1 l2 x2 x1 x0 h Q => zr_ior rfl),
   (fun d l0 l1 l2 x1 x0 I L P Q p0 => zr_putI rfl lf_10_301 (by decide) rfl p0),
   (fun d l0 l1 l2  h Q => zr_aload_n rfl rfl),
   (fun d l0 l1 l2 x0 I L P Q p0 => zr_getI rfl lf_10_301 (fun _ _ _ => rfl) p0),
   (fun d l0 l1 l2 x0 h Q => zr_sta (as := [.int x0]) (rest := []) rfl lm_10_304 (by decide) m_182 kd_182 rfl (Nat.le_of_ble_eq_true rfl)),
   (fun d l0 l1 l2 x0 h Q => zr_iret rfl rfl)⟩
theorem E_X10_nightGoes : ∀ (d : Nat) (a0 : Nat) (a1 : Int32) (h : zMm) (Q : Option Value → zMm → Prop), zWM (d + 1) 185 [.ref a0, .int a1] h Q = zWp d zi_185 none 0 [.ref a0, .int a1, .retAddr 0] [] h Q := fun d a0 a1 h Q => zW_M m_185 (Nat.le_of_ble_eq_true rfl) rfl
set_option maxRecDepth 100000 in
theorem R_X10_nightGoes :
    (∀ (d : Nat) (l0 : Nat) (l1 : Value) (l2 : Value)  (h : zMm) (Q : Option Value → zMm → Prop), zWp d zi_185 none 0 [.ref l0, l1, l2] [] h Q = zWp d zi_185 none 1 [.ref l0, l1, l2] [.ref l0] h Q) ∧
    (∀ (d : Nat) (l0 : Nat) (l1 : Value) (l2 : Value) (x0 : Nat) (h : zMm) (Q : Option Value → zMm → Prop), zWp d zi_185 none 1 [.ref l0, l1, l2] [.ref x0] h Q = zWp d zi_185 none 2 [.ref l0, l1, l2] [.ref l0, .ref x0] h Q) ∧
    (∀ (d : Nat) (l0 : Value) (l1 : Value) (l2 : Value) (x1 : Nat) (x0 : Nat) (I : Nat → Nat → Int32) (L : Nat → Nat → Int64) (P : Nat → Nat → Option Nat) (Q : Option Value → zMm → Prop), zSH[x1]? = some (.inl 10) → zWp d zi_185 none 2 [l0, l1, l2] [.ref x1, .ref x0] (zSH, I, L, P) Q = zWp d zi_185 none 5 [l0, l1, l2] [.int (I x1 8), .ref x0] (zSH, I, L, P) Q) ∧
    (∀ (d : Nat) (l0 : Nat) (l1 : Value) (l2 : Value) (x1 : Int32) (x0 : Nat) (h : zMm) (Q : Option Value → zMm → Prop), zWp d zi_185 none 5 [.ref l0, l1, l2] [.int x1, .ref x0] h Q = zWp d zi_185 none 6 [.ref l0, l1, l2] [.ref l0, .int x1, .ref x0] h Q) ∧
    (∀ (d : Nat) (l0 : Value) (l1 : Value) (l2 : Value) (x2 : Nat) (x1 : Int32) (x0 : Nat) (h : zMm) (Q : Option Value → zMm → Prop), zWp d zi_185 none 6 [l0, l1, l2] [.ref x2, .int x1, .ref x0] h Q = zWp d zi_185 none 8 [l0, l1, l2] [.int 12, .ref x2, .int x1, .ref x0] h Q) ∧
    (∀ (d : Nat) (l0 : Value) (l1 : Value) (l2 : Value) (x3 : Int32) (x2 : Nat) (x1 : Int32) (x0 : Nat) (I : Nat → Nat → Int32) (L : Nat → Nat → Int64) (P : Nat → Nat → Option Nat) (Q : Option Value → zMm → Prop), zSH[x2]? = some (.inl 10) → zWp d zi_185 none 8 [l0, l1, l2] [.int x3, .ref x2, .int x1, .ref x0] (zSH, I, L, P) Q = zWM d 183 [.ref x2, .int x3] (zSH, I, L, P) (fun r h1 => zWp d zi_185 none 11 [l0, l1, l2] (r.toList ++ [.int x1, .ref x0]) h1 Q)) ∧
    (∀ (d : Nat) (l0 : Value) (l1 : Value) (l2 : Value) (x2 : Int32) (x1 : Int32) (x0 : Nat) (h : zMm) (Q : Option Value → zMm → Prop), zWp d zi_185 none 11 [l0, l1, l2] [.int x2, .int x1, .ref x0] h Q = zWp d zi_185 none 12 [l0, l1, l2] [.int (x1 + x2), .ref x0] h Q) ∧
    (∀ (d : Nat) (l0 : Value) (l1 : Value) (l2 : Value) (x1 : Int32) (x0 : Nat) (h : zMm) (Q : Option Value → zMm → Prop), zWp d zi_185 none 12 [l0, l1, l2] [.int x1, .ref x0] h Q = zWM d 135 [.int x1] h (fun r h1 => zWp d zi_185 none 15 [l0, l1, l2] (r.toList ++ [.ref x0]) h1 Q)) ∧
    (∀ (d : Nat) (l0 : Value) (l1 : Value) (l2 : Value) (x1 : Int32) (x0 : Nat) (I : Nat → Nat → Int32) (L : Nat → Nat → Int64) (P : Nat → Nat → Option Nat) (Q : Option Value → zMm → Prop), zSH[x0]? = some (.inl 10) → zWp d zi_185 none 15 [l0, l1, l2] [.int x1, .ref x0] (zSH, I, L, P) Q = zWp d zi_185 none 18 [l0, l1, l2] [] (zSH, zw I x0 (upd (I x0) 8 x1), L, P) Q) ∧
    (∀ (d : Nat) (l0 : Nat) (l1 : Value) (l2 : Value)  (h : zMm) (Q : Option Value → zMm → Prop), zWp d zi_185 none 18 [.ref l0, l1, l2] [] h Q = zWp d zi_185 none 19 [.ref l0, l1, l2] [.ref l0] h Q) ∧
    (∀ (d : Nat) (l0 : Nat) (l1 : Value) (l2 : Value) (x0 : Nat) (h : zMm) (Q : Option Value → zMm → Prop), zWp d zi_185 none 19 [.ref l0, l1, l2] [.ref x0] h Q = zWp d zi_185 none 20 [.ref l0, l1, l2] [.ref l0, .ref x0] h Q) ∧
    (∀ (d : Nat) (l0 : Value) (l1 : Value) (l2 : Value) (x1 : Nat) (x0 : Nat) (I : Nat → Nat → Int32) (L : Nat → Nat → Int64) (P : Nat → Nat → Option Nat) (Q : Option Value → zMm → Prop), zSH[x1]? = some (.inl 10) → zWp d zi_185 none 20 [l0, l1, l2] [.ref x1, .ref x0] (zSH, I, L, P) Q = zWp d zi_185 none 23 [l0, l1, l2] [.int (I x1 9), .ref x0] (zSH, I, L, P) Q) ∧
    (∀ (d : Nat) (l0 : Nat) (l1 : Value) (l2 : Value) (x1 : Int32) (x0 : Nat) (h : zMm) (Q : Option Value → zMm → Prop), zWp d zi_185 none 23 [.ref l0, l1, l2] [.int x1, .ref x0] h Q = zWp d zi_185 none 24 [.ref l0, l1, l2] [.ref l0, .int x1, .ref x0] h Q) ∧
    (∀ (d : Nat) (l0 : Value) (l1 : Value) (l2 : Value) (x2 : Nat) (x1 : Int32) (x0 : Nat) (h : zMm) (Q : Option Value → zMm → Prop), zWp d zi_185 none 24 [l0, l1, l2] [.ref x2, .int x1, .ref x0] h Q = zWp d zi_185 none 26 [l0, l1, l2] [.int 6, .ref x2, .int x1, .ref x0] h Q) ∧
    (∀ (d : Nat) (l0 : Value) (l1 : Value) (l2 : Value) (x3 : Int32) (x2 : Nat) (x1 : Int32) (x0 : Nat) (I : Nat → Nat → Int32) (L : Nat → Nat → Int64) (P : Nat → Nat → Option Nat) (Q : Option Value → zMm → Prop), zSH[x2]? = some (.inl 10) → zWp d zi_185 none 26 [l0, l1, l2] [.int x3, .ref x2, .int x1, .ref x0] (zSH, I, L, P) Q = zWM d 183 [.ref x2, .int x3] (zSH, I, L, P) (fun r h1 => zWp d zi_185 none 29 [l0, l1, l2] (r.toList ++ [.int x1, .ref x0]) h1 Q)) ∧
    (∀ (d : Nat) (l0 : Value) (l1 : Value) (l2 : Value) (x2 : Int32) (x1 : Int32) (x0 : Nat) (h : zMm) (Q : Option Value → zMm → Prop), zWp d zi_185 none 29 [l0, l1, l2] [.int x2, .int x1, .ref x0] h Q = zWp d zi_185 none 30 [l0, l1, l2] [.int (x1 + x2), .ref x0] h Q) ∧
    (∀ (d : Nat) (l0 : Value) (l1 : Value) (l2 : Value) (x1 : Int32) (x0 : Nat) (h : zMm) (Q : Option Value → zMm → Prop), zWp d zi_185 none 30 [l0, l1, l2] [.int x1, .ref x0] h Q = zWM d 135 [.int x1] h (fun r h1 => zWp d zi_185 none 33 [l0, l1, l2] (r.toList ++ [.ref x0]) h1 Q)) ∧
    (∀ (d : Nat) (l0 : Value) (l1 : Value) (l2 : Value) (x1 : Int32) (x0 : Nat) (I : Nat → Nat → Int32) (L : Nat → Nat → Int64) (P : Nat → Nat → Option Nat) (Q : Option Value → zMm → Prop), zSH[x0]? = some (.inl 10) → zWp d zi_185 none 33 [l0, l1, l2] [.int x1, .ref x0] (zSH, I, L, P) Q = zWp d zi_185 none 36 [l0, l1, l2] [] (zSH, zw I x0 (upd (I x0) 9 x1), L, P) Q) ∧
    (∀ (d : Nat) (l0 : Nat) (l1 : Value) (l2 : Value)  (h : zMm) (Q : Option Value → zMm → Prop), zWp d zi_185 none 36 [.ref l0, l1, l2] [] h Q = zWp d zi_185 none 37 [.ref l0, l1, l2] [.ref l0] h Q) ∧
    (∀ (d : Nat) (l0 : Value) (l1 : Value) (l2 : Value) (x0 : Nat) (h : zMm) (Q : Option Value → zMm → Prop), zWp d zi_185 none 37 [l0, l1, l2] [.ref x0] h Q = zWp d zi_185 none 39 [l0, l1, l2] [.int 12, .ref x0] h Q) ∧
    (∀ (d : Nat) (l0 : Value) (l1 : Value) (l2 : Value) (x1 : Int32) (x0 : Nat) (I : Nat → Nat → Int32) (L : Nat → Nat → Int64) (P : Nat → Nat → Option Nat) (Q : Option Value → zMm → Prop), zSH[x0]? = some (.inl 10) → zWp d zi_185 none 39 [l0, l1, l2] [.int x1, .ref x0] (zSH, I, L, P) Q = zWM d 183 [.ref x0, .int x1] (zSH, I, L, P) (fun r h1 => zWp d zi_185 none 42 [l0, l1, l2] (r.toList ++ []) h1 Q)) ∧
    (∀ (d : Nat) (l0 : Nat) (l1 : Value) (l2 : Value) (x0 : Int32) (h : zMm) (Q : Option Value → zMm → Prop), zWp d zi_185 none 42 [.ref l0, l1, l2] [.int x0] h Q = zWp d zi_185 none 43 [.ref l0, l1, l2] [.ref l0, .int x0] h Q) ∧
    (∀ (d : Nat) (l0 : Value) (l1 : Value) (l2 : Value) (x1 : Nat) (x0 : Int32) (I : Nat → Nat → Int32) (L : Nat → Nat → Int64) (P : Nat → Nat → Option Nat) (Q : Option Value → zMm → Prop), zSH[x1]? = some (.inl 10) → zWp d zi_185 none 43 [l0, l1, l2] [.ref x1, .int x0] (zSH, I, L, P) Q = zWp d zi_185 none 46 [l0, l1, l2] [va_rf (P x1 0), .int x0] (zSH, I, L, P) Q) ∧
    (∀ (d : Nat) (l0 : Value) (l1 : Value) (l2 : Value) (x1 : Nat) (x0 : Int32) (h : zMm) (Q : Option Value → zMm → Prop), zWp d zi_185 none 46 [l0, l1, l2] [.ref x1, .int x0] h Q = zWp d zi_185 none 48 [l0, l1, l2] [.int 83, .ref x1, .int x0] h Q) ∧
    (∀ (d : Nat) (l0 : Value) (l1 : Value) (l2 : Value) (x2 : Int32) (x1 : Nat) (x0 : Int32) (I : Nat → Nat → Int32) (L : Nat → Nat → Int64) (P : Nat → Nat → Option Nat) (Q : Option Value → zMm → Prop), zAk zSH x1 = some .int → zWp d zi_185 none 48 [l0, l1, l2] [.int x2, .ref x1, .int x0] (zSH, I, L, P) Q = (vp_in x2 (zAn zSH x1) ∧ zWp d zi_185 none 49 [l0, l1, l2] [.int (I x1 x2.toNatClampNeg), .int x0] (zSH, I, L, P) Q)) ∧
    (∀ (d : Nat) (l0 : Value) (l1 : Value) (l2 : Value) (x1 : Int32) (x0 : Int32) (h : zMm) (Q : Option Value → zMm → Prop), zWp d zi_185 none 49 [l0, l1, l2] [.int x1, .int x0] h Q = if x1 ≤ x0 then zWp d zi_185 none 67 [l0, l1, l2] [] h Q else zWp d zi_185 none 52 [l0, l1, l2] [] h Q) ∧
    (∀ (d : Nat) (l0 : Value) (l1 : Int32) (l2 : Value)  (h : zMm) (Q : Option Value → zMm → Prop), zWp d zi_185 none 52 [l0, .int l1, l2] [] h Q = zWp d zi_185 none 53 [l0, .int l1, l2] [.int l1] h Q) ∧
    (∀ (d : Nat) (l0 : Nat) (l1 : Value) (l2 : Value) (x0 : Int32) (h : zMm) (Q : Option Value → zMm → Prop), zWp d zi_185 none 53 [.ref l0, l1, l2] [.int x0] h Q = zWp d zi_185 none 54 [.ref l0, l1, l2] [.ref l0, .int x0] h Q) ∧
    (∀ (d : Nat) (l0 : Value) (l1 : Value) (l2 : Value) (x1 : Nat) (x0 : Int32) (I : Nat → Nat → Int32) (L : Nat → Nat → Int64) (P : Nat → Nat → Option Nat) (Q : Option Value → zMm → Prop), zSH[x1]? = some (.inl 10) → zWp d zi_185 none 54 [l0, l1, l2] [.ref x1, .int x0] (zSH, I, L, P) Q = zWp d zi_185 none 57 [l0, l1, l2] [.int (I x1 33), .int x0] (zSH, I, L, P) Q) ∧
    (∀ (d : Nat) (l0 : Value) (l1 : Value) (l2 : Value) (x1 : Int32) (x0 : Int32) (h : zMm) (Q : Option Value → zMm → Prop), zWp d zi_185 none 57 [l0, l1, l2] [.int x1, .int x0] h Q = zWp d zi_185 none 58 [l0, l1, l2] [.int (x0 >>> (x1 &&& 31))] h Q) ∧
    (∀ (d : Nat) (l0 : Value) (l1 : Value) (l2 : Value) (x0 : Int32) (h : zMm) (Q : Option Value → zMm → Prop), zWp d zi_185 none 58 [l0, l1, l2] [.int x0] h Q = zWp d zi_185 none 59 [l0, l1, l2] [.int 1, .int x0] h Q) ∧
    (∀ (d : Nat) (l0 : Value) (l1 : Value) (l2 : Value) (x1 : Int32) (x0 : Int32) (h : zMm) (Q : Option Value → zMm → Prop), zWp d zi_185 none 59 [l0, l1, l2] [.int x1, .int x0] h Q = zWp d zi_185 none 60 [l0, l1, l2] [.int (x0 &&& x1)] h Q) ∧
    (∀ (d : Nat) (l0 : Value) (l1 : Value) (l2 : Value) (x0 : Int32) (h : zMm) (Q : Option Value → zMm → Prop), zWp d zi_185 none 60 [l0, l1, l2] [.int x0] h Q = if x0 = 0 then zWp d zi_185 none 63 [l0, l1, l2] [] h Q else zWp d zi_185 none 67 [l0, l1, l2] [] h Q) ∧
    (∀ (d : Nat) (l0 : Value) (l1 : Value) (l2 : Value)  (h : zMm) (Q : Option Value → zMm → Prop), zWp d zi_185 none 63 [l0, l1, l2] [] h Q = zWp d zi_185 none 64 [l0, l1, l2] [.int 1] h Q) ∧
    (∀ (d : Nat) (l0 : Value) (l1 : Value) (l2 : Value) (x0 : Int32) (h : zMm) (Q : Option Value → zMm → Prop), zWp d zi_185 none 64 [l0, l1, l2] [.int x0] h Q = zWp d zi_185 none 68 [l0, l1, l2] [.int x0] h Q) ∧
    (∀ (d : Nat) (l0 : Value) (l1 : Value) (l2 : Value)  (h : zMm) (Q : Option Value → zMm → Prop), zWp d zi_185 none 67 [l0, l1, l2] [] h Q = zWp d zi_185 none 68 [l0, l1, l2] [.int 0] h Q) ∧
    (∀ (d : Nat) (l0 : Value) (l1 : Int32) (l2 : Value) (x0 : Int32) (h : zMm) (Q : Option Value → zMm → Prop), zWp d zi_185 none 68 [l0, .int l1, l2] [.int x0] h Q = zWp d zi_185 none 69 [l0, .int l1, .int x0] [] h Q) ∧
    (∀ (d : Nat) (l0 : Value) (l1 : Value) (l2 : Int32)  (h : zMm) (Q : Option Value → zMm → Prop), zWp d zi_185 none 69 [l0, l1, .int l2] [] h Q = zWp d zi_185 none 70 [l0, l1, .int l2] [.int l2] h Q) ∧
    (∀ (d : Nat) (l0 : Value) (l1 : Value) (l2 : Value) (x0 : Int32) (h : zMm) (Q : Option Value → zMm → Prop), zWp d zi_185 none 70 [l0, l1, l2] [.int x0] h Q = if x0 = 0 then zWp d zi_185 none 111 [l0, l1, l2] [] h Q else zWp d zi_185 none 73 [l0, l1, l2] [] h Q) ∧
    (∀ (d : Nat) (l0 : Nat) (l1 : Value) (l2 : Value)  (h : zMm) (Q : Option Value → zMm → Prop), zWp d zi_185 none 73 [.ref l0, l1, l2] [] h Q = zWp d zi_185 none 74 [.ref l0, l1, l2] [.ref l0] h Q) ∧
    (∀ (d : Nat) (l0 : Value) (l1 : Value) (l2 : Value) (x0 : Nat) (h : zMm) (Q : Option Value → zMm → Prop), zWp d zi_185 none 74 [l0, l1, l2] [.ref x0] h Q = zWp d zi_185 none 75 [l0, l1, l2] [.ref x0, .ref x0] h Q) ∧
    (∀ (d : Nat) (l0 : Value) (l1 : Value) (l2 : Value) (x1 : Nat) (x0 : Nat) (I : Nat → Nat → Int32) (L : Nat → Nat → Int64) (P : Nat → Nat → Option Nat) (Q : Option Value → zMm → Prop), zSH[x1]? = some (.inl 10) → zWp d zi_185 none 75 [l0, l1, l2] [.ref x1, .ref x0] (zSH, I, L, P) Q = zWp d zi_185 none 78 [l0, l1, l2] [.int (I x1 35), .ref x0] (zSH, I, L, P) Q) ∧
    (∀ (d : Nat) (l0 : Nat) (l1 : Value) (l2 : Value) (x1 : Int32) (x0 : Nat) (h : zMm) (Q : Option Value → zMm → Prop), zWp d zi_185 none 78 [.ref l0, l1, l2] [.int x1, .ref x0] h Q = zWp d zi_185 none 79 [.ref l0, l1, l2] [.ref l0, .int x1, .ref x0] h Q) ∧
    (∀ (d : Nat) (l0 : Value) (l1 : Value) (l2 : Value) (x2 : Nat) (x1 : Int32) (x0 : Nat) (I : Nat → Nat → Int32) (L : Nat → Nat → Int64) (P : Nat → Nat → Option Nat) (Q : Option Value → zMm → Prop), zSH[x2]? = some (.inl 10) → zWp d zi_185 none 79 [l0, l1, l2] [.ref x2, .int x1, .ref x0] (zSH, I, L, P) Q = zWp d zi_185 none 82 [l0, l1, l2] [.int (I x2 8), .int x1, .ref x0] (zSH, I, L, P) Q) ∧
    (∀ (d : Nat) (l0 : Value) (l1 : Value) (l2 : Value) (x2 : Int32) (x1 : Int32) (x0 : Nat) (h : zMm) (Q : Option Value → zMm → Prop), zWp d zi_185 none 82 [l0, l1, l2] [.int x2, .int x1, .ref x0] h Q = zWp d zi_185 none 83 [l0, l1, l2] [.int 2, .int x2, .int x1, .ref x0] h Q) ∧
    (∀ (d : Nat) (l0 : Value) (l1 : Value) (l2 : Value) (x3 : Int32) (x2 : Int32) (x1 : Int32) (x0 : Nat) (h : zMm) (Q : Option Value → zMm → Prop), zWp d zi_185 none 83 [l0, l1, l2] [.int x3, .int x2, .int x1, .ref x0] h Q = (¬ x3 = 0 ∧ zWp d zi_185 none 84 [l0, l1, l2] [.int (x2 / x3), .int x1, .ref x0] h Q)) ∧
    (∀ (d : Nat) (l0 : Value) (l1 : Value) (l2 : Value) (x2 : Int32) (x1 : Int32) (x0 : Nat) (h : zMm) (Q : Option Value → zMm → Prop), zWp d zi_185 none 84 [l0, l1, l2] [.int x2, .int x1, .ref x0] h Q = zWp d zi_185 none 85 [l0, l1, l2] [.int (x1 + x2), .ref x0] h Q) ∧
    (∀ (d : Nat) (l0 : Value) (l1 : Value) (l2 : Value) (x1 : Int32) (x0 : Nat) (I : Nat → Nat → Int32) (L : Nat → Nat → Int64) (P : Nat → Nat → Option Nat) (Q : Option Value → zMm → Prop), zSH[x0]? = some (.inl 10) → zWp d zi_185 none 85 [l0, l1, l2] [.int x1, .ref x0] (zSH, I, L, P) Q = zWp d zi_185 none 88 [l0, l1, l2] [] (zSH, zw I x0 (upd (I x0) 35 x1), L, P) Q) ∧
    (∀ (d : Nat) (l0 : Nat) (l1 : Value) (l2 : Value)  (h : zMm) (Q : Option Value → zMm → Prop), zWp d zi_185 none 88 [.ref l0, l1, l2] [] h Q = zWp d zi_185 none 89 [.ref l0, l1, l2] [.ref l0] h Q) ∧
    (∀ (d : Nat) (l0 : Value) (l1 : Value) (l2 : Value) (x0 : Nat) (h : zMm) (Q : Option Value → zMm → Prop), zWp d zi_185 none 89 [l0, l1, l2] [.ref x0] h Q = zWp d zi_185 none 90 [l0, l1, l2] [.ref x0, .ref x0] h Q) ∧
    (∀ (d : Nat) (l0 : Value) (l1 : Value) (l2 : Value) (x1 : Nat) (x0 : Nat) (I : Nat → Nat → Int32) (L : Nat → Nat → Int64) (P : Nat → Nat → Option Nat) (Q : Option Value → zMm → Prop), zSH[x1]? = some (.inl 10) → zWp d zi_185 none 90 [l0, l1, l2] [.ref x1, .ref x0] (zSH, I, L, P) Q = zWp d zi_185 none 93 [l0, l1, l2] [.int (I x1 8), .ref x0] (zSH, I, L, P) Q) ∧
    (∀ (d : Nat) (l0 : Nat) (l1 : Value) (l2 : Value) (x1 : Int32) (x0 : Nat) (h : zMm) (Q : Option Value → zMm → Prop), zWp d zi_185 none 93 [.ref l0, l1, l2] [.int x1, .ref x0] h Q = zWp d zi_185 none 94 [.ref l0, l1, l2] [.ref l0, .int x1, .ref x0] h Q) ∧
    (∀ (d : Nat) (l0 : Value) (l1 : Value) (l2 : Value) (x2 : Nat) (x1 : Int32) (x0 : Nat) (I : Nat → Nat → Int32) (L : Nat → Nat → Int64) (P : Nat → Nat → Option Nat) (Q : Option Value → zMm → Prop), zSH[x2]? = some (.inl 10) → zWp d zi_185 none 94 [l0, l1, l2] [.ref x2, .int x1, .ref x0] (zSH, I, L, P) Q = zWp d zi_185 none 97 [l0, l1, l2] [.int (I x2 8), .int x1, .ref x0] (zSH, I, L, P) Q) ∧
    (∀ (d : Nat) (l0 : Value) (l1 : Value) (l2 : Value) (x2 : Int32) (x1 : Int32) (x0 : Nat) (h : zMm) (Q : Option Value → zMm → Prop), zWp d zi_185 none 97 [l0, l1, l2] [.int x2, .int x1, .ref x0] h Q = zWp d zi_185 none 98 [l0, l1, l2] [.int 2, .int x2, .int x1, .ref x0] h Q) ∧
    (∀ (d : Nat) (l0 : Value) (l1 : Value) (l2 : Value) (x3 : Int32) (x2 : Int32) (x1 : Int32) (x0 : Nat) (h : zMm) (Q : Option Value → zMm → Prop), zWp d zi_185 none 98 [l0, l1, l2] [.int x3, .int x2, .int x1, .ref x0] h Q = (¬ x3 = 0 ∧ zWp d zi_185 none 99 [l0, l1, l2] [.int (x2 / x3), .int x1, .ref x0] h Q)) ∧
    (∀ (d : Nat) (l0 : Value) (l1 : Value) (l2 : Value) (x2 : Int32) (x1 : Int32) (x0 : Nat) (h : zMm) (Q : Option Value → zMm → Prop), zWp d zi_185 none 99 [l0, l1, l2] [.int x2, .int x1, .ref x0] h Q = zWp d zi_185 none 100 [l0, l1, l2] [.int (x1 - x2), .ref x0] h Q) ∧
    (∀ (d : Nat) (l0 : Value) (l1 : Value) (l2 : Value) (x1 : Int32) (x0 : Nat) (I : Nat → Nat → Int32) (L : Nat → Nat → Int64) (P : Nat → Nat → Option Nat) (Q : Option Value → zMm → Prop), zSH[x0]? = some (.inl 10) → zWp d zi_185 none 100 [l0, l1, l2] [.int x1, .ref x0] (zSH, I, L, P) Q = zWp d zi_185 none 103 [l0, l1, l2] [] (zSH, zw I x0 (upd (I x0) 8 x1), L, P) Q) ∧
    (∀ (d : Nat) (l0 : Nat) (l1 : Value) (l2 : Value)  (h : zMm) (Q : Option Value → zMm → Prop), zWp d zi_185 none 103 [.ref l0, l1, l2] [] h Q = zWp d zi_185 none 104 [.ref l0, l1, l2] [.ref l0] h Q) ∧
    (∀ (d : Nat) (l0 : Nat) (l1 : Value) (l2 : Value) (x0 : Nat) (h : zMm) (Q : Option Value → zMm → Prop), zWp d zi_185 none 104 [.ref l0, l1, l2] [.ref x0] h Q = zWp d zi_185 none 105 [.ref l0, l1, l2] [.ref l0, .ref x0] h Q) ∧
    (∀ (d : Nat) (l0 : Value) (l1 : Value) (l2 : Value) (x1 : Nat) (x0 : Nat) (I : Nat → Nat → Int32) (L : Nat → Nat → Int64) (P : Nat → Nat → Option Nat) (Q : Option Value → zMm → Prop), zSH[x1]? = some (.inl 10) → zWp d zi_185 none 105 [l0, l1, l2] [.ref x1, .ref x0] (zSH, I, L, P) Q = zWp d zi_185 none 108 [l0, l1, l2] [.int (I x1 33), .ref x0] (zSH, I, L, P) Q) ∧
    (∀ (d : Nat) (l0 : Value) (l1 : Value) (l2 : Value) (x1 : Int32) (x0 : Nat) (I : Nat → Nat → Int32) (L : Nat → Nat → Int64) (P : Nat → Nat → Option Nat) (Q : Option Value → zMm → Prop), zSH[x0]? = some (.inl 10) → zWp d zi_185 none 108 [l0, l1, l2] [.int x1, .ref x0] (zSH, I, L, P) Q = zWp d zi_185 none 111 [l0, l1, l2] [] (zSH, zw I x0 (upd (I x0) 36 x1), L, P) Q) ∧
    (∀ (d : Nat) (l0 : Nat) (l1 : Value) (l2 : Value)  (h : zMm) (Q : Option Value → zMm → Prop), zWp d zi_185 none 111 [.ref l0, l1, l2] [] h Q = zWp d zi_185 none 112 [.ref l0, l1, l2] [.ref l0] h Q) ∧
    (∀ (d : Nat) (l0 : Value) (l1 : Value) (l2 : Value) (x0 : Nat) (h : zMm) (Q : Option Value → zMm → Prop), zWp d zi_185 none 112 [l0, l1, l2] [.ref x0] h Q = zWp d zi_185 none 113 [l0, l1, l2] [.ref x0, .ref x0] h Q) ∧
    (∀ (d : Nat) (l0 : Value) (l1 : Value) (l2 : Value) (x1 : Nat) (x0 : Nat) (I : Nat → Nat → Int32) (L : Nat → Nat → Int64) (P : Nat → Nat → Option Nat) (Q : Option Value → zMm → Prop), zSH[x1]? = some (.inl 10) → zWp d zi_185 none 113 [l0, l1, l2] [.ref x1, .ref x0] (zSH, I, L, P) Q = zWp d zi_185 none 116 [l0, l1, l2] [.int (I x1 33), .ref x0] (zSH, I, L, P) Q) ∧
    (∀ (d : Nat) (l0 : Value) (l1 : Value) (l2 : Value) (x1 : Int32) (x0 : Nat) (h : zMm) (Q : Option Value → zMm → Prop), zWp d zi_185 none 116 [l0, l1, l2] [.int x1, .ref x0] h Q = zWp d zi_185 none 117 [l0, l1, l2] [.int 1, .int x1, .ref x0] h Q) ∧
    (∀ (d : Nat) (l0 : Value) (l1 : Value) (l2 : Value) (x2 : Int32) (x1 : Int32) (x0 : Nat) (h : zMm) (Q : Option Value → zMm → Prop), zWp d zi_185 none 117 [l0, l1, l2] [.int x2, .int x1, .ref x0] h Q = zWp d zi_185 none 118 [l0, l1, l2] [.int (x1 + x2), .ref x0] h Q) ∧
    (∀ (d : Nat) (l0 : Value) (l1 : Value) (l2 : Value) (x1 : Int32) (x0 : Nat) (I : Nat → Nat → Int32) (L : Nat → Nat → Int64) (P : Nat → Nat → Option Nat) (Q : Option Value → zMm → Prop), zSH[x0]? = some (.inl 10) → zWp d zi_185 none 118 [l0, l1, l2] [.int x1, .ref x0] (zSH, I, L, P) Q = zWp d zi_185 none 121 [l0, l1, l2] [] (zSH, zw I x0 (upd (I x0) 33 x1), L, P) Q) ∧
    (∀ (d : Nat) (l0 : Value) (l1 : Value) (l2 : Value)  (h : zMm) (Q : Option Value → zMm → Prop), zWp d zi_185 none 121 [l0, l1, l2] [] h Q = Q none h) :=
  ⟨(fun d l0 l1 l2  h Q => zr_aload_n rfl rfl),
   (fun d l0 l1 l2 x0 h Q => zr_aload_n rfl rfl),
   (fun d l0 l1 l2 x1 x0 I L P Q p0 => zr_getI rfl lf_10_84 (fun _ _ _ => rfl) p0),
   (fun d l0 l1 l2 x1 x0 h Q => zr_aload_n rfl rfl),
   (fun d l0 l1 l2 x2 x1 x0 h Q => zr_bipush rfl (by decide)),
   (fun d l0 l1 l2 x3 x2 x1 x0 I L P Q p0 => zr_vir (as := [.int x3]) (rest := [.int x1, .ref x0]) rfl lm_10_307 m_183 kd_183 rfl (Nat.le_of_ble_eq_true rfl) p0),
   (fun d l0 l1 l2 x2 x1 x0 h Q => zr_iadd rfl),
   (fun d l0 l1 l2 x1 x0 h Q => zr_sta (as := [.int x1]) (rest := [.ref x0]) rfl lm_10_131 (by decide) m_135 kd_135 rfl (Nat.le_of_ble_eq_true rfl)),
   (fun d l0 l1 l2 x1 x0 I L P Q p0 => zr_putI rfl lf_10_84 (by decide) rfl p0),
   (fun d l0 l1 l2  h Q => zr_aload_n rfl rfl),
   (fun d l0 l1 l2 x0 h Q => zr_aload_n rfl rfl),
   (fun d l0 l1 l2 x1 x0 I L P Q p0 => zr_getI rfl lf_10_87 (fun _ _ _ => rfl) p0),
   (fun d l0 l1 l2 x1 x0 h Q => zr_aload_n rfl rfl),
   (fun d l0 l1 l2 x2 x1 x0 h Q => zr_bipush rfl (by decide)),
   (fun d l0 l1 l2 x3 x2 x1 x0 I L P Q p0 => zr_vir (as := [.int x3]) (rest := [.int x1, .ref x0]) rfl lm_10_307 m_183 kd_183 rfl (Nat.le_of_ble_eq_true rfl) p0),
   (fun d l0 l1 l2 x2 x1 x0 h Q => zr_iadd rfl),
   (fun d l0 l1 l2 x1 x0 h Q => zr_sta (as := [.int x1]) (rest := [.ref x0]) rfl lm_10_131 (by decide) m_135 kd_135 rfl (Nat.le_of_ble_eq_true rfl)),
   (fun d l0 l1 l2 x1 x0 I L P Q p0 => zr_putI rfl lf_10_87 (by decide) rfl p0),
   (fun d l0 l1 l2  h Q => zr_aload_n rfl rfl),
   (fun d l0 l1 l2 x0 h Q => zr_bipush rfl (by decide)),
   (fun d l0 l1 l2 x1 x0 I L P Q p0 => zr_vir (as := [.int x1]) (rest := []) rfl lm_10_307 m_183 kd_183 rfl (Nat.le_of_ble_eq_true rfl) p0),
   (fun d l0 l1 l2 x0 h Q => zr_aload_n rfl rfl),
   (fun d l0 l1 l2 x1 x0 I L P Q p0 => zr_getQ rfl lf_10_9 (fun _ _ _ => rfl) p0),
   (fun d l0 l1 l2 x1 x0 h Q => zr_bipush rfl (by decide)),
   (fun d l0 l1 l2 x2 x1 x0 I L P Q p0 => zr_ald rfl p0),
   (fun d l0 l1 l2 x1 x0 h Q => zr_ic_ge rfl (by decide)),
   (fun d l0 l1 l2  h Q => zr_iload_n rfl rfl),
   (fun d l0 l1 l2 x0 h Q => zr_aload_n rfl rfl),
   (fun d l0 l1 l2 x1 x0 I L P Q p0 => zr_getI rfl lf_10_172 (fun _ _ _ => rfl) p0),
   (fun d l0 l1 l2 x1 x0 h Q => zr_ishr rfl),
   (fun d l0 l1 l2 x0 h Q => zr_iconst rfl (by decide)),
   (fun d l0 l1 l2 x1 x0 h Q => zr_iand rfl),
   (fun d l0 l1 l2 x0 h Q => zr_if_ne rfl (by decide)),
   (fun d l0 l1 l2  h Q => zr_iconst rfl (by decide)),
   (fun d l0 l1 l2 x0 h Q => zr_goto rfl (by decide)),
   (fun d l0 l1 l2  h Q => zr_iconst rfl (by decide)),
   (fun d l0 l1 l2 x0 h Q => zr_istore_n (n := 2) rfl (Nat.le_of_ble_eq_true rfl) rfl),
   (fun d l0 l1 l2  h Q => zr_iload_n rfl rfl),
   (fun d l0 l1 l2 x0 h Q => zr_if_eq rfl (by decide)),
   (fun d l0 l1 l2  h Q => zr_aload_n rfl rfl),
   (fun d l0 l1 l2 x0 h Q => zr_dup rfl rfl),
   (fun d l0 l1 l2 x1 x0 I L P Q p0 => zr_getI rfl lf_10_310 (fun _ _ _ => rfl) p0),
   (fun d l0 l1 l2 x1 x0 h Q => zr_aload_n rfl rfl),
   (fun d l0 l1 l2 x2 x1 x0 I L P Q p0 => zr_getI rfl lf_10_84 (fun _ _ _ => rfl) p0),
   (fun d l0 l1 l2 x2 x1 x0 h Q => zr_iconst rfl (by decide)),
   (fun d l0 l1 l2 x3 x2 x1 x0 h Q => zr_idiv rfl),
   (fun d l0 l1 l2 x2 x1 x0 h Q => zr_iadd rfl),
   (fun d l0 l1 l2 x1 x0 I L P Q p0 => zr_putI rfl lf_10_310 (by decide) rfl p0),
   (fun d l0 l1 l2  h Q => zr_aload_n rfl rfl),
   (fun d l0 l1 l2 x0 h Q => zr_dup rfl rfl),
   (fun d l0 l1 l2 x1 x0 I L P Q p0 => zr_getI rfl lf_10_84 (fun _ _ _ => rfl) p0),
   (fun d l0 l1 l2 x1 x0 h Q => zr_aload_n rfl rfl),
   (fun d l0 l1 l2 x2 x1 x0 I L P Q p0 => zr_getI rfl lf_10_84 (fun _ _ _ => rfl) p0),
   (fun d l0 l1 l2 x2 x1 x0 h Q => zr_iconst rfl (by decide)),
   (fun d l0 l1 l2 x3 x2 x1 x0 h Q => zr_idiv rfl),
   (fun d l0 l1 l2 x2 x1 x0 h Q => zr_isub rfl),
   (fun d l0 l1 l2 x1 x0 I L P Q p0 => zr_putI rfl lf_10_84 (by decide) rfl p0),
   (fun d l0 l1 l2  h Q => zr_aload_n rfl rfl),
   (fun d l0 l1 l2 x0 h Q => zr_aload_n rfl rfl),
   (fun d l0 l1 l2 x1 x0 I L P Q p0 => zr_getI rfl lf_10_172 (fun _ _ _ => rfl) p0),
   (fun d l0 l1 l2 x1 x0 I L P Q p0 => zr_putI rfl lf_10_90 (by decide) rfl p0),
   (fun d l0 l1 l2  h Q => zr_aload_n rfl rfl),
   (fun d l0 l1 l2 x0 h Q => zr_dup rfl rfl),
   (fun d l0 l1 l2 x1 x0 I L P Q p0 => zr_getI rfl lf_10_172 (fun _ _ _ => rfl) p0),
   (fun d l0 l1 l2 x1 x0 h Q => zr_iconst rfl (by decide)),
   (fun d l0 l1 l2 x2 x1 x0 h Q => zr_iadd rfl),
   (fun d l0 l1 l2 x1 x0 I L P Q p0 => zr_putI rfl lf_10_172 (by decide) rfl p0),
   (fun d l0 l1 l2  h Q => zr_vret rfl rfl)⟩
theorem E_X10_nights : ∀ (d : Nat) (a0 : Nat) (a1 : Int32) (a2 : Int32) (h : zMm) (Q : Option Value → zMm → Prop), zWM (d + 1) 186 [.ref a0, .int a1, .int a2] h Q = zWp d zi_186 none 0 [.ref a0, .int a1, .int a2, .retAddr 0] [] h Q := fun d a0 a1 a2 h Q => zW_M m_186 (Nat.le_of_ble_eq_true rfl) rfl
set_option maxRecDepth 100000 in
theorem R_X10_nights :
    (∀ (d : Nat) (l0 : Value) (l1 : Value) (l2 : Int32) (l3 : Value)  (h : zMm) (Q : Option Value → zMm → Prop), zWp d zi_186 none 0 [l0, l1, .int l2, l3] [] h Q = zWp d zi_186 none 1 [l0, l1, .int l2, l3] [.int l2] h Q) ∧
    (∀ (d : Nat) (l0 : Value) (l1 : Value) (l2 : Value) (l3 : Value) (x0 : Int32) (h : zMm) (Q : Option Value → zMm → Prop), zWp d zi_186 none 1 [l0, l1, l2, l3] [.int x0] h Q = zWp d zi_186 none 2 [l0, l1, l2, l3] [.long x0.toInt64] h Q) ∧
    (∀ (d : Nat) (l0 : Value) (l1 : Value) (l2 : Value) (l3 : Value) (x0 : Int64) (h : zMm) (Q : Option Value → zMm → Prop), zWp d zi_186 none 2 [l0, l1, l2, l3] [.long x0] h Q = zWp d zi_186 none 3 [l0, l1, l2, l3] [.long 1, .long x0] h Q) ∧
    (∀ (d : Nat) (l0 : Value) (l1 : Value) (l2 : Value) (l3 : Value) (x1 : Int64) (x0 : Int64) (h : zMm) (Q : Option Value → zMm → Prop), zWp d zi_186 none 3 [l0, l1, l2, l3] [.long x1, .long x0] h Q = zWp d zi_186 none 6 [l0, l1, l2, l3] [.long 30, .long x1, .long x0] h Q) ∧
    (∀ (d : Nat) (l0 : Value) (l1 : Value) (l2 : Value) (l3 : Value) (x2 : Int64) (x1 : Int64) (x0 : Int64) (h : zMm) (Q : Option Value → zMm → Prop), zWp d zi_186 none 6 [l0, l1, l2, l3] [.long x2, .long x1, .long x0] h Q = zWM d 122 [.long x0, .long x1, .long x2] h (fun r h1 => zWp d zi_186 none 9 [l0, l1, l2, l3] (r.toList ++ []) h1 Q)) ∧
    (∀ (d : Nat) (l0 : Value) (l1 : Value) (l2 : Value) (l3 : Value) (x0 : Int32) (h : zMm) (Q : Option Value → zMm → Prop), zWp d zi_186 none 9 [l0, l1, l2, l3] [.int x0] h Q = if x0 = 0 then zWp d zi_186 none 12 [l0, l1, l2, l3] [] h Q else zWp d zi_186 none 14 [l0, l1, l2, l3] [] h Q) ∧
    (∀ (d : Nat) (l0 : Value) (l1 : Value) (l2 : Value) (l3 : Value)  (h : zMm) (Q : Option Value → zMm → Prop), zWp d zi_186 none 12 [l0, l1, l2, l3] [] h Q = zWp d zi_186 none 13 [l0, l1, l2, l3] [.int (-1)] h Q) ∧
    (∀ (d : Nat) (l0 : Value) (l1 : Value) (l2 : Value) (l3 : Value) (x0 : Int32) (h : zMm) (Q : Option Value → zMm → Prop), zWp d zi_186 none 13 [l0, l1, l2, l3] [.int x0] h Q = Q (some (.int x0)) h) ∧
    (∀ (d : Nat) (l0 : Nat) (l1 : Value) (l2 : Value) (l3 : Value)  (h : zMm) (Q : Option Value → zMm → Prop), zWp d zi_186 none 14 [.ref l0, l1, l2, l3] [] h Q = zWp d zi_186 none 15 [.ref l0, l1, l2, l3] [.ref l0] h Q) ∧
    (∀ (d : Nat) (l0 : Value) (l1 : Value) (l2 : Value) (l3 : Value) (x0 : Nat) (I : Nat → Nat → Int32) (L : Nat → Nat → Int64) (P : Nat → Nat → Option Nat) (Q : Option Value → zMm → Prop), zSH[x0]? = some (.inl 10) → zWp d zi_186 none 15 [l0, l1, l2, l3] [.ref x0] (zSH, I, L, P) Q = zWp d zi_186 none 18 [l0, l1, l2, l3] [.int (I x0 33)] (zSH, I, L, P) Q) ∧
    (∀ (d : Nat) (l0 : Value) (l1 : Value) (l2 : Int32) (l3 : Value) (x0 : Int32) (h : zMm) (Q : Option Value → zMm → Prop), zWp d zi_186 none 18 [l0, l1, .int l2, l3] [.int x0] h Q = zWp d zi_186 none 19 [l0, l1, .int l2, l3] [.int l2, .int x0] h Q) ∧
    (∀ (d : Nat) (l0 : Value) (l1 : Value) (l2 : Value) (l3 : Value) (x1 : Int32) (x0 : Int32) (h : zMm) (Q : Option Value → zMm → Prop), zWp d zi_186 none 19 [l0, l1, l2, l3] [.int x1, .int x0] h Q = zWp d zi_186 none 20 [l0, l1, l2, l3] [.int (x0 + x1)] h Q) ∧
    (∀ (d : Nat) (l0 : Value) (l1 : Value) (l2 : Value) (l3 : Value) (x0 : Int32) (h : zMm) (Q : Option Value → zMm → Prop), zWp d zi_186 none 20 [l0, l1, l2, l3] [.int x0] h Q = zWp d zi_186 none 22 [l0, l1, l2, l3] [.int 30, .int x0] h Q) ∧
    (∀ (d : Nat) (l0 : Value) (l1 : Value) (l2 : Value) (l3 : Value) (x1 : Int32) (x0 : Int32) (h : zMm) (Q : Option Value → zMm → Prop), zWp d zi_186 none 22 [l0, l1, l2, l3] [.int x1, .int x0] h Q = if x0 ≤ x1 then zWp d zi_186 none 28 [l0, l1, l2, l3] [] h Q else zWp d zi_186 none 25 [l0, l1, l2, l3] [] h Q) ∧
    (∀ (d : Nat) (l0 : Value) (l1 : Value) (l2 : Value) (l3 : Value)  (h : zMm) (Q : Option Value → zMm → Prop), zWp d zi_186 none 25 [l0, l1, l2, l3] [] h Q = zWp d zi_186 none 27 [l0, l1, l2, l3] [.int (-5)] h Q) ∧
    (∀ (d : Nat) (l0 : Value) (l1 : Value) (l2 : Value) (l3 : Value) (x0 : Int32) (h : zMm) (Q : Option Value → zMm → Prop), zWp d zi_186 none 27 [l0, l1, l2, l3] [.int x0] h Q = Q (some (.int x0)) h) ∧
    (∀ (d : Nat) (l0 : Nat) (l1 : Value) (l2 : Value) (l3 : Value)  (h : zMm) (Q : Option Value → zMm → Prop), zWp d zi_186 none 28 [.ref l0, l1, l2, l3] [] h Q = zWp d zi_186 none 29 [.ref l0, l1, l2, l3] [.ref l0] h Q) ∧
    (∀ (d : Nat) (l0 : Value) (l1 : Int32) (l2 : Value) (l3 : Value) (x0 : Nat) (h : zMm) (Q : Option Value → zMm → Prop), zWp d zi_186 none 29 [l0, .int l1, l2, l3] [.ref x0] h Q = zWp d zi_186 none 30 [l0, .int l1, l2, l3] [.int l1, .ref x0] h Q) ∧
    (∀ (d : Nat) (l0 : Value) (l1 : Value) (l2 : Value) (l3 : Value) (x1 : Int32) (x0 : Nat) (I : Nat → Nat → Int32) (L : Nat → Nat → Int64) (P : Nat → Nat → Option Nat) (Q : Option Value → zMm → Prop), zSH[x0]? = some (.inl 10) → zWp d zi_186 none 30 [l0, l1, l2, l3] [.int x1, .ref x0] (zSH, I, L, P) Q = zWp d zi_186 none 33 [l0, l1, l2, l3] [] (zSH, zw I x0 (upd (I x0) 37 x1), L, P) Q) ∧
    (∀ (d : Nat) (l0 : Value) (l1 : Value) (l2 : Value) (l3 : Value)  (h : zMm) (Q : Option Value → zMm → Prop), zWp d zi_186 none 33 [l0, l1, l2, l3] [] h Q = zWp d zi_186 none 34 [l0, l1, l2, l3] [.int 0] h Q) ∧
    (∀ (d : Nat) (l0 : Value) (l1 : Value) (l2 : Int32) (l3 : Value) (x0 : Int32) (h : zMm) (Q : Option Value → zMm → Prop), zWp d zi_186 none 34 [l0, l1, .int l2, l3] [.int x0] h Q = zWp d zi_186 none 35 [l0, l1, .int l2, .int x0] [] h Q) ∧
    (∀ (d : Nat) (l0 : Value) (l1 : Value) (l2 : Int32) (l3 : Value) (x0 : Int32) (h : zMm) (Q : Option Value → zMm → Prop), zWp d zi_186 none 36 [l0, l1, .int l2, l3] [.int x0] h Q = zWp d zi_186 none 37 [l0, l1, .int l2, l3] [.int l2, .int x0] h Q) ∧
    (∀ (d : Nat) (l0 : Value) (l1 : Value) (l2 : Value) (l3 : Value) (x1 : Int32) (x0 : Int32) (h : zMm) (Q : Option Value → zMm → Prop), zWp d zi_186 none 37 [l0, l1, l2, l3] [.int x1, .int x0] h Q = if x1 ≤ x0 then zWp d zi_186 none 54 [l0, l1, l2, l3] [] h Q else zWp d zi_186 none 40 [l0, l1, l2, l3] [] h Q) ∧
    (∀ (d : Nat) (l0 : Nat) (l1 : Value) (l2 : Value) (l3 : Value)  (h : zMm) (Q : Option Value → zMm → Prop), zWp d zi_186 none 40 [.ref l0, l1, l2, l3] [] h Q = zWp d zi_186 none 41 [.ref l0, l1, l2, l3] [.ref l0] h Q) ∧
    (∀ (d : Nat) (l0 : Nat) (l1 : Value) (l2 : Value) (l3 : Value) (x0 : Nat) (h : zMm) (Q : Option Value → zMm → Prop), zWp d zi_186 none 41 [.ref l0, l1, l2, l3] [.ref x0] h Q = zWp d zi_186 none 42 [.ref l0, l1, l2, l3] [.ref l0, .ref x0] h Q) ∧
    (∀ (d : Nat) (l0 : Value) (l1 : Value) (l2 : Value) (l3 : Value) (x1 : Nat) (x0 : Nat) (I : Nat → Nat → Int32) (L : Nat → Nat → Int64) (P : Nat → Nat → Option Nat) (Q : Option Value → zMm → Prop), zSH[x1]? = some (.inl 10) → zWp d zi_186 none 42 [l0, l1, l2, l3] [.ref x1, .ref x0] (zSH, I, L, P) Q = zWp d zi_186 none 45 [l0, l1, l2, l3] [.int (I x1 34), .ref x0] (zSH, I, L, P) Q) ∧
    (∀ (d : Nat) (l0 : Value) (l1 : Value) (l2 : Value) (l3 : Value) (x1 : Int32) (x0 : Nat) (I : Nat → Nat → Int32) (L : Nat → Nat → Int64) (P : Nat → Nat → Option Nat) (Q : Option Value → zMm → Prop), zSH[x0]? = some (.inl 10) → zWp d zi_186 none 45 [l0, l1, l2, l3] [.int x1, .ref x0] (zSH, I, L, P) Q = zWM d 185 [.ref x0, .int x1] (zSH, I, L, P) (fun r h1 => zWp d zi_186 none 48 [l0, l1, l2, l3] (r.toList ++ []) h1 Q)) ∧
    (∀ (d : Nat) (l0 : Value) (l1 : Value) (l2 : Int32) (l3 : Int32)  (h : zMm) (Q : Option Value → zMm → Prop), zWp d zi_186 none 48 [l0, l1, .int l2, .int l3] [] h Q = zWp d zi_186 none 51 [l0, l1, .int l2, .int (l3 + 1)] [] h Q) ∧
    (∀ (d : Nat) (l0 : Value) (l1 : Value) (l2 : Value) (l3 : Value)  (h : zMm) (Q : Option Value → zMm → Prop), zWp d zi_186 none 51 [l0, l1, l2, l3] [] h Q = zWp d zi_186 none 35 [l0, l1, l2, l3] [] h Q) ∧
    (∀ (d : Nat) (l0 : Nat) (l1 : Value) (l2 : Value) (l3 : Value)  (h : zMm) (Q : Option Value → zMm → Prop), zWp d zi_186 none 54 [.ref l0, l1, l2, l3] [] h Q = zWp d zi_186 none 55 [.ref l0, l1, l2, l3] [.ref l0] h Q) ∧
    (∀ (d : Nat) (l0 : Value) (l1 : Value) (l2 : Value) (l3 : Value) (x0 : Nat) (I : Nat → Nat → Int32) (L : Nat → Nat → Int64) (P : Nat → Nat → Option Nat) (Q : Option Value → zMm → Prop), zSH[x0]? = some (.inl 10) → zWp d zi_186 none 55 [l0, l1, l2, l3] [.ref x0] (zSH, I, L, P) Q = zWp d zi_186 none 58 [l0, l1, l2, l3] [.int (I x0 8)] (zSH, I, L, P) Q) ∧
    (∀ (d : Nat) (l0 : Value) (l1 : Value) (l2 : Value) (l3 : Value) (x0 : Int32) (h : zMm) (Q : Option Value → zMm → Prop), zWp d zi_186 none 58 [l0, l1, l2, l3] [.int x0] h Q = Q (some (.int x0)) h) :=
  ⟨(fun d l0 l1 l2 l3  h Q => zr_iload_n rfl rfl),
   (fun d l0 l1 l2 l3 x0 h Q => zr_i2l rfl),
   (fun d l0 l1 l2 l3 x0 h Q => zr_lconst rfl (by decide)),
   (fun d l0 l1 l2 l3 x1 x0 h Q => zr_ldc2_w rfl lj_10_313),
   (fun d l0 l1 l2 l3 x2 x1 x0 h Q => zr_sta (as := [.long x2, .long x1, .long x0]) (rest := []) rfl lm_10_110 (by decide) m_122 kd_122 rfl (Nat.le_of_ble_eq_true rfl)),
   (fun d l0 l1 l2 l3 x0 h Q => zr_if_ne rfl (by decide)),
   (fun d l0 l1 l2 l3  h Q => zr_iconst rfl (by decide)),
   (fun d l0 l1 l2 l3 x0 h Q => zr_iret rfl rfl),
   (fun d l0 l1 l2 l3  h Q => zr_aload_n rfl rfl),
   (fun d l0 l1 l2 l3 x0 I L P Q p0 => zr_getI rfl lf_10_172 (fun _ _ _ => rfl) p0),
   (fun d l0 l1 l2 l3 x0 h Q => zr_iload_n rfl rfl),
   (fun d l0 l1 l2 l3 x1 x0 h Q => zr_iadd rfl),
   (fun d l0 l1 l2 l3 x0 h Q => zr_bipush rfl (by decide)),
   (fun d l0 l1 l2 l3 x1 x0 h Q => zr_ic_le rfl (by decide)),
   (fun d l0 l1 l2 l3  h Q => zr_bipush rfl (by decide)),
   (fun d l0 l1 l2 l3 x0 h Q => zr_iret rfl rfl),
   (fun d l0 l1 l2 l3  h Q => zr_aload_n rfl rfl),
   (fun d l0 l1 l2 l3 x0 h Q => zr_iload_n rfl rfl),
   (fun d l0 l1 l2 l3 x1 x0 I L P Q p0 => zr_putI rfl lf_10_295 (by decide) rfl p0),
   (fun d l0 l1 l2 l3  h Q => zr_iconst rfl (by decide)),
   (fun d l0 l1 l2 l3 x0 h Q => zr_istore_n (n := 3) rfl (Nat.le_of_ble_eq_true rfl) rfl),
   (fun d l0 l1 l2 l3 x0 h Q => zr_iload_n rfl rfl),
   (fun d l0 l1 l2 l3 x1 x0 h Q => zr_ic_ge rfl (by decide)),
   (fun d l0 l1 l2 l3  h Q => zr_aload_n rfl rfl),
   (fun d l0 l1 l2 l3 x0 h Q => zr_aload_n rfl rfl),
   (fun d l0 l1 l2 l3 x1 x0 I L P Q p0 => zr_getI rfl lf_10_301 (fun _ _ _ => rfl) p0),
   (fun d l0 l1 l2 l3 x1 x0 I L P Q p0 => zr_vir (as := [.int x1]) (rest := []) rfl lm_10_315 m_185 kd_185 rfl (Nat.le_of_ble_eq_true rfl) p0),
   (fun d l0 l1 l2 l3  h Q => zr_iinc (n := 3) (kc := 1) rfl rfl (Nat.le_of_ble_eq_true rfl) rfl (by decide)),
   (fun d l0 l1 l2 l3  h Q => zr_goto rfl (by decide)),
   (fun d l0 l1 l2 l3  h Q => zr_aload_n rfl rfl),
   (fun d l0 l1 l2 l3 x0 I L P Q p0 => zr_getI rfl lf_10_84 (fun _ _ _ => rfl) p0),
   (fun d l0 l1 l2 l3 x0 h Q => zr_iret rfl rfl)⟩
theorem H_X10_nights_35 : ∀ (d : Nat) (l0 : Value) (l1 : Value) (l2 : Value) (l3 : Int32)  (h : zMm) (Q : Option Value → zMm → Prop), zWp d zi_186 none 35 [l0, l1, l2, .int l3] [] h Q = zWp d zi_186 none 36 [l0, l1, l2, .int l3] [.int l3] h Q := fun d l0 l1 l2 l3  h Q => zr_iload_n rfl rfl
theorem E_X10_best : ∀ (d : Nat) (a0 : Nat) (a1 : Int32) (a2 : Int32) (a3 : Int32) (h : zMm) (Q : Option Value → zMm → Prop), zWM (d + 1) 187 [.ref a0, .int a1, .int a2, .int a3] h Q = zWp d zi_187 none 0 [.ref a0, .int a1, .int a2, .int a3, .retAddr 0, .retAddr 0, .retAddr 0, .retAddr 0, .retAddr 0, .retAddr 0, .retAddr 0, .retAddr 0, .retAddr 0] [] h Q := fun d a0 a1 a2 a3 h Q => zW_M m_187 (Nat.le_of_ble_eq_true rfl) rfl
set_option maxRecDepth 100000 in
theorem R_X10_best :
    (∀ (d : Nat) (l0 : Value) (l1 : Value) (l2 : Int32) (l3 : Value) (l4 : Value) (l5 : Value) (l6 : Value) (l7 : Value) (l8 : Value) (l9 : Value) (l10 : Value) (l11 : Value) (l12 : Value)  (h : zMm) (Q : Option Value → zMm → Prop), zWp d zi_187 none 0 [l0, l1, .int l2, l3, l4, l5, l6, l7, l8, l9, l10, l11, l12] [] h Q = zWp d zi_187 none 1 [l0, l1, .int l2, l3, l4, l5, l6, l7, l8, l9, l10, l11, l12] [.int l2] h Q) ∧
    (∀ (d : Nat) (l0 : Value) (l1 : Value) (l2 : Value) (l3 : Value) (l4 : Value) (l5 : Value) (l6 : Value) (l7 : Value) (l8 : Value) (l9 : Value) (l10 : Value) (l11 : Value) (l12 : Value) (x0 : Int32) (h : zMm) (Q : Option Value → zMm → Prop), zWp d zi_187 none 1 [l0, l1, l2, l3, l4, l5, l6, l7, l8, l9, l10, l11, l12] [.int x0] h Q = zWp d zi_187 none 2 [l0, l1, l2, l3, l4, l5, l6, l7, l8, l9, l10, l11, l12] [.long x0.toInt64] h Q) ∧
    (∀ (d : Nat) (l0 : Value) (l1 : Value) (l2 : Value) (l3 : Value) (l4 : Value) (l5 : Value) (l6 : Value) (l7 : Value) (l8 : Value) (l9 : Value) (l10 : Value) (l11 : Value) (l12 : Value) (x0 : Int64) (h : zMm) (Q : Option Value → zMm → Prop), zWp d zi_187 none 2 [l0, l1, l2, l3, l4, l5, l6, l7, l8, l9, l10, l11, l12] [.long x0] h Q = zWp d zi_187 none 3 [l0, l1, l2, l3, l4, l5, l6, l7, l8, l9, l10, l11, l12] [.long 1, .long x0] h Q) ∧
    (∀ (d : Nat) (l0 : Value) (l1 : Value) (l2 : Value) (l3 : Value) (l4 : Value) (l5 : Value) (l6 : Value) (l7 : Value) (l8 : Value) (l9 : Value) (l10 : Value) (l11 : Value) (l12 : Value) (x1 : Int64) (x0 : Int64) (h : zMm) (Q : Option Value → zMm → Prop), zWp d zi_187 none 3 [l0, l1, l2, l3, l4, l5, l6, l7, l8, l9, l10, l11, l12] [.long x1, .long x0] h Q = zWp d zi_187 none 5 [l0, l1, l2, l3, l4, l5, l6, l7, l8, l9, l10, l11, l12] [.int 30, .long x1, .long x0] h Q) ∧
    (∀ (d : Nat) (l0 : Nat) (l1 : Value) (l2 : Value) (l3 : Value) (l4 : Value) (l5 : Value) (l6 : Value) (l7 : Value) (l8 : Value) (l9 : Value) (l10 : Value) (l11 : Value) (l12 : Value) (x2 : Int32) (x1 : Int64) (x0 : Int64) (h : zMm) (Q : Option Value → zMm → Prop), zWp d zi_187 none 5 [.ref l0, l1, l2, l3, l4, l5, l6, l7, l8, l9, l10, l11, l12] [.int x2, .long x1, .long x0] h Q = zWp d zi_187 none 6 [.ref l0, l1, l2, l3, l4, l5, l6, l7, l8, l9, l10, l11, l12] [.ref l0, .int x2, .long x1, .long x0] h Q) ∧
    (∀ (d : Nat) (l0 : Value) (l1 : Value) (l2 : Value) (l3 : Value) (l4 : Value) (l5 : Value) (l6 : Value) (l7 : Value) (l8 : Value) (l9 : Value) (l10 : Value) (l11 : Value) (l12 : Value) (x3 : Nat) (x2 : Int32) (x1 : Int64) (x0 : Int64) (I : Nat → Nat → Int32) (L : Nat → Nat → Int64) (P : Nat → Nat → Option Nat) (Q : Option Value → zMm → Prop), zSH[x3]? = some (.inl 10) → zWp d zi_187 none 6 [l0, l1, l2, l3, l4, l5, l6, l7, l8, l9, l10, l11, l12] [.ref x3, .int x2, .long x1, .long x0] (zSH, I, L, P) Q = zWp d zi_187 none 9 [l0, l1, l2, l3, l4, l5, l6, l7, l8, l9, l10, l11, l12] [.int (I x3 33), .int x2, .long x1, .long x0] (zSH, I, L, P) Q) ∧
    (∀ (d : Nat) (l0 : Value) (l1 : Value) (l2 : Value) (l3 : Value) (l4 : Value) (l5 : Value) (l6 : Value) (l7 : Value) (l8 : Value) (l9 : Value) (l10 : Value) (l11 : Value) (l12 : Value) (x3 : Int32) (x2 : Int32) (x1 : Int64) (x0 : Int64) (h : zMm) (Q : Option Value → zMm → Prop), zWp d zi_187 none 9 [l0, l1, l2, l3, l4, l5, l6, l7, l8, l9, l10, l11, l12] [.int x3, .int x2, .long x1, .long x0] h Q = zWp d zi_187 none 10 [l0, l1, l2, l3, l4, l5, l6, l7, l8, l9, l10, l11, l12] [.int (x2 - x3), .long x1, .long x0] h Q) ∧
    (∀ (d : Nat) (l0 : Value) (l1 : Value) (l2 : Value) (l3 : Value) (l4 : Value) (l5 : Value) (l6 : Value) (l7 : Value) (l8 : Value) (l9 : Value) (l10 : Value) (l11 : Value) (l12 : Value) (x2 : Int32) (x1 : Int64) (x0 : Int64) (h : zMm) (Q : Option Value → zMm → Prop), zWp d zi_187 none 10 [l0, l1, l2, l3, l4, l5, l6, l7, l8, l9, l10, l11, l12] [.int x2, .long x1, .long x0] h Q = zWp d zi_187 none 11 [l0, l1, l2, l3, l4, l5, l6, l7, l8, l9, l10, l11, l12] [.long x2.toInt64, .long x1, .long x0] h Q) ∧
    (∀ (d : Nat) (l0 : Value) (l1 : Value) (l2 : Value) (l3 : Value) (l4 : Value) (l5 : Value) (l6 : Value) (l7 : Value) (l8 : Value) (l9 : Value) (l10 : Value) (l11 : Value) (l12 : Value) (x2 : Int64) (x1 : Int64) (x0 : Int64) (h : zMm) (Q : Option Value → zMm → Prop), zWp d zi_187 none 11 [l0, l1, l2, l3, l4, l5, l6, l7, l8, l9, l10, l11, l12] [.long x2, .long x1, .long x0] h Q = zWM d 122 [.long x0, .long x1, .long x2] h (fun r h1 => zWp d zi_187 none 14 [l0, l1, l2, l3, l4, l5, l6, l7, l8, l9, l10, l11, l12] (r.toList ++ []) h1 Q)) ∧
    (∀ (d : Nat) (l0 : Value) (l1 : Value) (l2 : Value) (l3 : Value) (l4 : Value) (l5 : Value) (l6 : Value) (l7 : Value) (l8 : Value) (l9 : Value) (l10 : Value) (l11 : Value) (l12 : Value) (x0 : Int32) (h : zMm) (Q : Option Value → zMm → Prop), zWp d zi_187 none 14 [l0, l1, l2, l3, l4, l5, l6, l7, l8, l9, l10, l11, l12] [.int x0] h Q = if x0 = 0 then zWp d zi_187 none 27 [l0, l1, l2, l3, l4, l5, l6, l7, l8, l9, l10, l11, l12] [] h Q else zWp d zi_187 none 17 [l0, l1, l2, l3, l4, l5, l6, l7, l8, l9, l10, l11, l12] [] h Q) ∧
    (∀ (d : Nat) (l0 : Value) (l1 : Value) (l2 : Value) (l3 : Int32) (l4 : Value) (l5 : Value) (l6 : Value) (l7 : Value) (l8 : Value) (l9 : Value) (l10 : Value) (l11 : Value) (l12 : Value)  (h : zMm) (Q : Option Value → zMm → Prop), zWp d zi_187 none 17 [l0, l1, l2, .int l3, l4, l5, l6, l7, l8, l9, l10, l11, l12] [] h Q = zWp d zi_187 none 18 [l0, l1, l2, .int l3, l4, l5, l6, l7, l8, l9, l10, l11, l12] [.int l3] h Q) ∧
    (∀ (d : Nat) (l0 : Value) (l1 : Value) (l2 : Value) (l3 : Value) (l4 : Value) (l5 : Value) (l6 : Value) (l7 : Value) (l8 : Value) (l9 : Value) (l10 : Value) (l11 : Value) (l12 : Value) (x0 : Int32) (h : zMm) (Q : Option Value → zMm → Prop), zWp d zi_187 none 18 [l0, l1, l2, l3, l4, l5, l6, l7, l8, l9, l10, l11, l12] [.int x0] h Q = zWp d zi_187 none 19 [l0, l1, l2, l3, l4, l5, l6, l7, l8, l9, l10, l11, l12] [.long x0.toInt64] h Q) ∧
    (∀ (d : Nat) (l0 : Value) (l1 : Value) (l2 : Value) (l3 : Value) (l4 : Value) (l5 : Value) (l6 : Value) (l7 : Value) (l8 : Value) (l9 : Value) (l10 : Value) (l11 : Value) (l12 : Value) (x0 : Int64) (h : zMm) (Q : Option Value → zMm → Prop), zWp d zi_187 none 19 [l0, l1, l2, l3, l4, l5, l6, l7, l8, l9, l10, l11, l12] [.long x0] h Q = zWp d zi_187 none 20 [l0, l1, l2, l3, l4, l5, l6, l7, l8, l9, l10, l11, l12] [.long 0, .long x0] h Q) ∧
    (∀ (d : Nat) (l0 : Value) (l1 : Value) (l2 : Value) (l3 : Value) (l4 : Value) (l5 : Value) (l6 : Value) (l7 : Value) (l8 : Value) (l9 : Value) (l10 : Value) (l11 : Value) (l12 : Value) (x1 : Int64) (x0 : Int64) (h : zMm) (Q : Option Value → zMm → Prop), zWp d zi_187 none 20 [l0, l1, l2, l3, l4, l5, l6, l7, l8, l9, l10, l11, l12] [.long x1, .long x0] h Q = zWp d zi_187 none 21 [l0, l1, l2, l3, l4, l5, l6, l7, l8, l9, l10, l11, l12] [.long 1, .long x1, .long x0] h Q) ∧
    (∀ (d : Nat) (l0 : Value) (l1 : Value) (l2 : Value) (l3 : Value) (l4 : Value) (l5 : Value) (l6 : Value) (l7 : Value) (l8 : Value) (l9 : Value) (l10 : Value) (l11 : Value) (l12 : Value) (x2 : Int64) (x1 : Int64) (x0 : Int64) (h : zMm) (Q : Option Value → zMm → Prop), zWp d zi_187 none 21 [l0, l1, l2, l3, l4, l5, l6, l7, l8, l9, l10, l11, l12] [.long x2, .long x1, .long x0] h Q = zWM d 122 [.long x0, .long x1, .long x2] h (fun r h1 => zWp d zi_187 none 24 [l0, l1, l2, l3, l4, l5, l6, l7, l8, l9, l10, l11, l12] (r.toList ++ []) h1 Q)) ∧
    (∀ (d : Nat) (l0 : Value) (l1 : Value) (l2 : Value) (l3 : Value) (l4 : Value) (l5 : Value) (l6 : Value) (l7 : Value) (l8 : Value) (l9 : Value) (l10 : Value) (l11 : Value) (l12 : Value) (x0 : Int32) (h : zMm) (Q : Option Value → zMm → Prop), zWp d zi_187 none 24 [l0, l1, l2, l3, l4, l5, l6, l7, l8, l9, l10, l11, l12] [.int x0] h Q = if x0 = 0 then zWp d zi_187 none 27 [l0, l1, l2, l3, l4, l5, l6, l7, l8, l9, l10, l11, l12] [] h Q else zWp d zi_187 none 29 [l0, l1, l2, l3, l4, l5, l6, l7, l8, l9, l10, l11, l12] [] h Q) ∧
    (∀ (d : Nat) (l0 : Value) (l1 : Value) (l2 : Value) (l3 : Value) (l4 : Value) (l5 : Value) (l6 : Value) (l7 : Value) (l8 : Value) (l9 : Value) (l10 : Value) (l11 : Value) (l12 : Value)  (h : zMm) (Q : Option Value → zMm → Prop), zWp d zi_187 none 27 [l0, l1, l2, l3, l4, l5, l6, l7, l8, l9, l10, l11, l12] [] h Q = zWp d zi_187 none 28 [l0, l1, l2, l3, l4, l5, l6, l7, l8, l9, l10, l11, l12] [.int (-1)] h Q) ∧
    (∀ (d : Nat) (l0 : Value) (l1 : Value) (l2 : Value) (l3 : Value) (l4 : Value) (l5 : Value) (l6 : Value) (l7 : Value) (l8 : Value) (l9 : Value) (l10 : Value) (l11 : Value) (l12 : Value) (x0 : Int32) (h : zMm) (Q : Option Value → zMm → Prop), zWp d zi_187 none 28 [l0, l1, l2, l3, l4, l5, l6, l7, l8, l9, l10, l11, l12] [.int x0] h Q = Q (some (.int x0)) h) ∧
    (∀ (d : Nat) (l0 : Nat) (l1 : Value) (l2 : Value) (l3 : Value) (l4 : Value) (l5 : Value) (l6 : Value) (l7 : Value) (l8 : Value) (l9 : Value) (l10 : Value) (l11 : Value) (l12 : Value)  (h : zMm) (Q : Option Value → zMm → Prop), zWp d zi_187 none 29 [.ref l0, l1, l2, l3, l4, l5, l6, l7, l8, l9, l10, l11, l12] [] h Q = zWp d zi_187 none 30 [.ref l0, l1, l2, l3, l4, l5, l6, l7, l8, l9, l10, l11, l12] [.ref l0] h Q) ∧
    (∀ (d : Nat) (l0 : Value) (l1 : Value) (l2 : Value) (l3 : Value) (l4 : Value) (l5 : Value) (l6 : Value) (l7 : Value) (l8 : Value) (l9 : Value) (l10 : Value) (l11 : Value) (l12 : Value) (x0 : Nat) (I : Nat → Nat → Int32) (L : Nat → Nat → Int64) (P : Nat → Nat → Option Nat) (Q : Option Value → zMm → Prop), zSH[x0]? = some (.inl 10) → zWp d zi_187 none 30 [l0, l1, l2, l3, l4, l5, l6, l7, l8, l9, l10, l11, l12] [.ref x0] (zSH, I, L, P) Q = zWp d zi_187 none 33 [l0, l1, l2, l3, l4, l5, l6, l7, l8, l9, l10, l11, l12] [.int (I x0 8)] (zSH, I, L, P) Q) ∧
    (∀ (d : Nat) (l0 : Value) (l1 : Value) (l2 : Value) (l3 : Int32) (l4 : Value) (l5 : Value) (l6 : Value) (l7 : Value) (l8 : Value) (l9 : Value) (l10 : Value) (l11 : Value) (l12 : Value) (x0 : Int32) (h : zMm) (Q : Option Value → zMm → Prop), zWp d zi_187 none 33 [l0, l1, l2, .int l3, l4, l5, l6, l7, l8, l9, l10, l11, l12] [.int x0] h Q = zWp d zi_187 none 35 [l0, l1, l2, .int l3, .int x0, l5, l6, l7, l8, l9, l10, l11, l12] [] h Q) ∧
    (∀ (d : Nat) (l0 : Nat) (l1 : Value) (l2 : Value) (l3 : Value) (l4 : Value) (l5 : Value) (l6 : Value) (l7 : Value) (l8 : Value) (l9 : Value) (l10 : Value) (l11 : Value) (l12 : Value)  (h : zMm) (Q : Option Value → zMm → Prop), zWp d zi_187 none 35 [.ref l0, l1, l2, l3, l4, l5, l6, l7, l8, l9, l10, l11, l12] [] h Q = zWp d zi_187 none 36 [.ref l0, l1, l2, l3, l4, l5, l6, l7, l8, l9, l10, l11, l12] [.ref l0] h Q) ∧
    (∀ (d : Nat) (l0 : Value) (l1 : Value) (l2 : Value) (l3 : Value) (l4 : Value) (l5 : Value) (l6 : Value) (l7 : Value) (l8 : Value) (l9 : Value) (l10 : Value) (l11 : Value) (l12 : Value) (x0 : Nat) (I : Nat → Nat → Int32) (L : Nat → Nat → Int64) (P : Nat → Nat → Option Nat) (Q : Option Value → zMm → Prop), zSH[x0]? = some (.inl 10) → zWp d zi_187 none 36 [l0, l1, l2, l3, l4, l5, l6, l7, l8, l9, l10, l11, l12] [.ref x0] (zSH, I, L, P) Q = zWp d zi_187 none 39 [l0, l1, l2, l3, l4, l5, l6, l7, l8, l9, l10, l11, l12] [.int (I x0 9)] (zSH, I, L, P) Q) ∧
    (∀ (d : Nat) (l0 : Value) (l1 : Value) (l2 : Value) (l3 : Value) (l4 : Int32) (l5 : Value) (l6 : Value) (l7 : Value) (l8 : Value) (l9 : Value) (l10 : Value) (l11 : Value) (l12 : Value) (x0 : Int32) (h : zMm) (Q : Option Value → zMm → Prop), zWp d zi_187 none 39 [l0, l1, l2, l3, .int l4, l5, l6, l7, l8, l9, l10, l11, l12] [.int x0] h Q = zWp d zi_187 none 41 [l0, l1, l2, l3, .int l4, .int x0, l6, l7, l8, l9, l10, l11, l12] [] h Q) ∧
    (∀ (d : Nat) (l0 : Nat) (l1 : Value) (l2 : Value) (l3 : Value) (l4 : Value) (l5 : Value) (l6 : Value) (l7 : Value) (l8 : Value) (l9 : Value) (l10 : Value) (l11 : Value) (l12 : Value)  (h : zMm) (Q : Option Value → zMm → Prop), zWp d zi_187 none 41 [.ref l0, l1, l2, l3, l4, l5, l6, l7, l8, l9, l10, l11, l12] [] h Q = zWp d zi_187 none 42 [.ref l0, l1, l2, l3, l4, l5, l6, l7, l8, l9, l10, l11, l12] [.ref l0] h Q) ∧
    (∀ (d : Nat) (l0 : Value) (l1 : Value) (l2 : Value) (l3 : Value) (l4 : Value) (l5 : Value) (l6 : Value) (l7 : Value) (l8 : Value) (l9 : Value) (l10 : Value) (l11 : Value) (l12 : Value) (x0 : Nat) (I : Nat → Nat → Int32) (L : Nat → Nat → Int64) (P : Nat → Nat → Option Nat) (Q : Option Value → zMm → Prop), zSH[x0]? = some (.inl 10) → zWp d zi_187 none 42 [l0, l1, l2, l3, l4, l5, l6, l7, l8, l9, l10, l11, l12] [.ref x0] (zSH, I, L, P) Q = zWp d zi_187 none 45 [l0, l1, l2, l3, l4, l5, l6, l7, l8, l9, l10, l11, l12] [.int (I x0 33)] (zSH, I, L, P) Q) ∧
    (∀ (d : Nat) (l0 : Value) (l1 : Value) (l2 : Value) (l3 : Value) (l4 : Value) (l5 : Int32) (l6 : Value) (l7 : Value) (l8 : Value) (l9 : Value) (l10 : Value) (l11 : Value) (l12 : Value) (x0 : Int32) (h : zMm) (Q : Option Value → zMm → Prop), zWp d zi_187 none 45 [l0, l1, l2, l3, l4, .int l5, l6, l7, l8, l9, l10, l11, l12] [.int x0] h Q = zWp d zi_187 none 47 [l0, l1, l2, l3, l4, .int l5, .int x0, l7, l8, l9, l10, l11, l12] [] h Q) ∧
    (∀ (d : Nat) (l0 : Nat) (l1 : Value) (l2 : Value) (l3 : Value) (l4 : Value) (l5 : Value) (l6 : Value) (l7 : Value) (l8 : Value) (l9 : Value) (l10 : Value) (l11 : Value) (l12 : Value)  (h : zMm) (Q : Option Value → zMm → Prop), zWp d zi_187 none 47 [.ref l0, l1, l2, l3, l4, l5, l6, l7, l8, l9, l10, l11, l12] [] h Q = zWp d zi_187 none 48 [.ref l0, l1, l2, l3, l4, l5, l6, l7, l8, l9, l10, l11, l12] [.ref l0] h Q) ∧
    (∀ (d : Nat) (l0 : Value) (l1 : Value) (l2 : Value) (l3 : Value) (l4 : Value) (l5 : Value) (l6 : Value) (l7 : Value) (l8 : Value) (l9 : Value) (l10 : Value) (l11 : Value) (l12 : Value) (x0 : Nat) (I : Nat → Nat → Int32) (L : Nat → Nat → Int64) (P : Nat → Nat → Option Nat) (Q : Option Value → zMm → Prop), zSH[x0]? = some (.inl 10) → zWp d zi_187 none 48 [l0, l1, l2, l3, l4, l5, l6, l7, l8, l9, l10, l11, l12] [.ref x0] (zSH, I, L, P) Q = zWp d zi_187 none 51 [l0, l1, l2, l3, l4, l5, l6, l7, l8, l9, l10, l11, l12] [.int (I x0 35)] (zSH, I, L, P) Q) ∧
    (∀ (d : Nat) (l0 : Value) (l1 : Value) (l2 : Value) (l3 : Value) (l4 : Value) (l5 : Value) (l6 : Int32) (l7 : Value) (l8 : Value) (l9 : Value) (l10 : Value) (l11 : Value) (l12 : Value) (x0 : Int32) (h : zMm) (Q : Option Value → zMm → Prop), zWp d zi_187 none 51 [l0, l1, l2, l3, l4, l5, .int l6, l7, l8, l9, l10, l11, l12] [.int x0] h Q = zWp d zi_187 none 53 [l0, l1, l2, l3, l4, l5, .int l6, .int x0, l8, l9, l10, l11, l12] [] h Q) ∧
    (∀ (d : Nat) (l0 : Nat) (l1 : Value) (l2 : Value) (l3 : Value) (l4 : Value) (l5 : Value) (l6 : Value) (l7 : Value) (l8 : Value) (l9 : Value) (l10 : Value) (l11 : Value) (l12 : Value)  (h : zMm) (Q : Option Value → zMm → Prop), zWp d zi_187 none 53 [.ref l0, l1, l2, l3, l4, l5, l6, l7, l8, l9, l10, l11, l12] [] h Q = zWp d zi_187 none 54 [.ref l0, l1, l2, l3, l4, l5, l6, l7, l8, l9, l10, l11, l12] [.ref l0] h Q) ∧
    (∀ (d : Nat) (l0 : Value) (l1 : Value) (l2 : Value) (l3 : Value) (l4 : Value) (l5 : Value) (l6 : Value) (l7 : Value) (l8 : Value) (l9 : Value) (l10 : Value) (l11 : Value) (l12 : Value) (x0 : Nat) (I : Nat → Nat → Int32) (L : Nat → Nat → Int64) (P : Nat → Nat → Option Nat) (Q : Option Value → zMm → Prop), zSH[x0]? = some (.inl 10) → zWp d zi_187 none 54 [l0, l1, l2, l3, l4, l5, l6, l7, l8, l9, l10, l11, l12] [.ref x0] (zSH, I, L, P) Q = zWp d zi_187 none 57 [l0, l1, l2, l3, l4, l5, l6, l7, l8, l9, l10, l11, l12] [.int (I x0 36)] (zSH, I, L, P) Q) ∧
    (∀ (d : Nat) (l0 : Value) (l1 : Value) (l2 : Value) (l3 : Value) (l4 : Value) (l5 : Value) (l6 : Value) (l7 : Int32) (l8 : Value) (l9 : Value) (l10 : Value) (l11 : Value) (l12 : Value) (x0 : Int32) (h : zMm) (Q : Option Value → zMm → Prop), zWp d zi_187 none 57 [l0, l1, l2, l3, l4, l5, l6, .int l7, l8, l9, l10, l11, l12] [.int x0] h Q = zWp d zi_187 none 59 [l0, l1, l2, l3, l4, l5, l6, .int l7, .int x0, l9, l10, l11, l12] [] h Q) ∧
    (∀ (d : Nat) (l0 : Value) (l1 : Value) (l2 : Value) (l3 : Value) (l4 : Value) (l5 : Value) (l6 : Value) (l7 : Value) (l8 : Value) (l9 : Value) (l10 : Value) (l11 : Value) (l12 : Value)  (h : zMm) (Q : Option Value → zMm → Prop), zWp d zi_187 none 59 [l0, l1, l2, l3, l4, l5, l6, l7, l8, l9, l10, l11, l12] [] h Q = zWp d zi_187 none 61 [l0, l1, l2, l3, l4, l5, l6, l7, l8, l9, l10, l11, l12] [.int (-2)] h Q) ∧
    (∀ (d : Nat) (l0 : Value) (l1 : Value) (l2 : Value) (l3 : Value) (l4 : Value) (l5 : Value) (l6 : Value) (l7 : Value) (l8 : Int32) (l9 : Value) (l10 : Value) (l11 : Value) (l12 : Value) (x0 : Int32) (h : zMm) (Q : Option Value → zMm → Prop), zWp d zi_187 none 61 [l0, l1, l2, l3, l4, l5, l6, l7, .int l8, l9, l10, l11, l12] [.int x0] h Q = zWp d zi_187 none 63 [l0, l1, l2, l3, l4, l5, l6, l7, .int l8, .int x0, l10, l11, l12] [] h Q) ∧
    (∀ (d : Nat) (l0 : Value) (l1 : Value) (l2 : Value) (l3 : Value) (l4 : Value) (l5 : Value) (l6 : Value) (l7 : Value) (l8 : Value) (l9 : Value) (l10 : Value) (l11 : Value) (l12 : Value)  (h : zMm) (Q : Option Value → zMm → Prop), zWp d zi_187 none 63 [l0, l1, l2, l3, l4, l5, l6, l7, l8, l9, l10, l11, l12] [] h Q = zWp d zi_187 none 65 [l0, l1, l2, l3, l4, l5, l6, l7, l8, l9, l10, l11, l12] [.int (-2)] h Q) ∧
    (∀ (d : Nat) (l0 : Value) (l1 : Value) (l2 : Value) (l3 : Value) (l4 : Value) (l5 : Value) (l6 : Value) (l7 : Value) (l8 : Value) (l9 : Int32) (l10 : Value) (l11 : Value) (l12 : Value) (x0 : Int32) (h : zMm) (Q : Option Value → zMm → Prop), zWp d zi_187 none 65 [l0, l1, l2, l3, l4, l5, l6, l7, l8, .int l9, l10, l11, l12] [.int x0] h Q = zWp d zi_187 none 67 [l0, l1, l2, l3, l4, l5, l6, l7, l8, .int l9, .int x0, l11, l12] [] h Q) ∧
    (∀ (d : Nat) (l0 : Value) (l1 : Value) (l2 : Value) (l3 : Value) (l4 : Value) (l5 : Value) (l6 : Int32) (l7 : Value) (l8 : Value) (l9 : Value) (l10 : Value) (l11 : Value) (l12 : Value)  (h : zMm) (Q : Option Value → zMm → Prop), zWp d zi_187 none 67 [l0, l1, l2, l3, l4, l5, .int l6, l7, l8, l9, l10, l11, l12] [] h Q = zWp d zi_187 none 69 [l0, l1, l2, l3, l4, l5, .int l6, l7, l8, l9, l10, l11, l12] [.int l6] h Q) ∧
    (∀ (d : Nat) (l0 : Value) (l1 : Value) (l2 : Value) (l3 : Value) (l4 : Value) (l5 : Value) (l6 : Value) (l7 : Value) (l8 : Value) (l9 : Value) (l10 : Int32) (l11 : Value) (l12 : Value) (x0 : Int32) (h : zMm) (Q : Option Value → zMm → Prop), zWp d zi_187 none 69 [l0, l1, l2, l3, l4, l5, l6, l7, l8, l9, .int l10, l11, l12] [.int x0] h Q = zWp d zi_187 none 71 [l0, l1, l2, l3, l4, l5, l6, l7, l8, l9, .int l10, .int x0, l12] [] h Q) ∧
    (∀ (d : Nat) (l0 : Value) (l1 : Value) (l2 : Value) (l3 : Value) (l4 : Value) (l5 : Value) (l6 : Int32) (l7 : Value) (l8 : Value) (l9 : Value) (l10 : Value) (l11 : Value) (l12 : Value) (x0 : Int32) (h : zMm) (Q : Option Value → zMm → Prop), zWp d zi_187 none 73 [l0, l1, l2, l3, l4, l5, .int l6, l7, l8, l9, l10, l11, l12] [.int x0] h Q = zWp d zi_187 none 75 [l0, l1, l2, l3, l4, l5, .int l6, l7, l8, l9, l10, l11, l12] [.int l6, .int x0] h Q) ∧
    (∀ (d : Nat) (l0 : Value) (l1 : Value) (l2 : Int32) (l3 : Value) (l4 : Value) (l5 : Value) (l6 : Value) (l7 : Value) (l8 : Value) (l9 : Value) (l10 : Value) (l11 : Value) (l12 : Value) (x1 : Int32) (x0 : Int32) (h : zMm) (Q : Option Value → zMm → Prop), zWp d zi_187 none 75 [l0, l1, .int l2, l3, l4, l5, l6, l7, l8, l9, l10, l11, l12] [.int x1, .int x0] h Q = zWp d zi_187 none 76 [l0, l1, .int l2, l3, l4, l5, l6, l7, l8, l9, l10, l11, l12] [.int l2, .int x1, .int x0] h Q) ∧
    (∀ (d : Nat) (l0 : Value) (l1 : Value) (l2 : Value) (l3 : Value) (l4 : Value) (l5 : Value) (l6 : Value) (l7 : Value) (l8 : Value) (l9 : Value) (l10 : Value) (l11 : Value) (l12 : Value) (x2 : Int32) (x1 : Int32) (x0 : Int32) (h : zMm) (Q : Option Value → zMm → Prop), zWp d zi_187 none 76 [l0, l1, l2, l3, l4, l5, l6, l7, l8, l9, l10, l11, l12] [.int x2, .int x1, .int x0] h Q = zWp d zi_187 none 77 [l0, l1, l2, l3, l4, l5, l6, l7, l8, l9, l10, l11, l12] [.int (x1 + x2), .int x0] h Q) ∧
    (∀ (d : Nat) (l0 : Value) (l1 : Value) (l2 : Value) (l3 : Value) (l4 : Value) (l5 : Value) (l6 : Value) (l7 : Value) (l8 : Value) (l9 : Value) (l10 : Value) (l11 : Value) (l12 : Value) (x1 : Int32) (x0 : Int32) (h : zMm) (Q : Option Value → zMm → Prop), zWp d zi_187 none 77 [l0, l1, l2, l3, l4, l5, l6, l7, l8, l9, l10, l11, l12] [.int x1, .int x0] h Q = if x1 ≤ x0 then zWp d zi_187 none 175 [l0, l1, l2, l3, l4, l5, l6, l7, l8, l9, l10, l11, l12] [] h Q else zWp d zi_187 none 80 [l0, l1, l2, l3, l4, l5, l6, l7, l8, l9, l10, l11, l12] [] h Q) ∧
    (∀ (d : Nat) (l0 : Nat) (l1 : Value) (l2 : Value) (l3 : Value) (l4 : Value) (l5 : Value) (l6 : Value) (l7 : Value) (l8 : Value) (l9 : Value) (l10 : Value) (l11 : Value) (l12 : Value)  (h : zMm) (Q : Option Value → zMm → Prop), zWp d zi_187 none 80 [.ref l0, l1, l2, l3, l4, l5, l6, l7, l8, l9, l10, l11, l12] [] h Q = zWp d zi_187 none 81 [.ref l0, l1, l2, l3, l4, l5, l6, l7, l8, l9, l10, l11, l12] [.ref l0] h Q) ∧
    (∀ (d : Nat) (l0 : Value) (l1 : Int32) (l2 : Value) (l3 : Value) (l4 : Value) (l5 : Value) (l6 : Value) (l7 : Value) (l8 : Value) (l9 : Value) (l10 : Value) (l11 : Value) (l12 : Value) (x0 : Nat) (h : zMm) (Q : Option Value → zMm → Prop), zWp d zi_187 none 81 [l0, .int l1, l2, l3, l4, l5, l6, l7, l8, l9, l10, l11, l12] [.ref x0] h Q = zWp d zi_187 none 82 [l0, .int l1, l2, l3, l4, l5, l6, l7, l8, l9, l10, l11, l12] [.int l1, .ref x0] h Q) ∧
    (∀ (d : Nat) (l0 : Value) (l1 : Value) (l2 : Value) (l3 : Value) (l4 : Value) (l5 : Value) (l6 : Value) (l7 : Value) (l8 : Value) (l9 : Value) (l10 : Value) (l11 : Value) (l12 : Value) (x1 : Int32) (x0 : Nat) (I : Nat → Nat → Int32) (L : Nat → Nat → Int64) (P : Nat → Nat → Option Nat) (Q : Option Value → zMm → Prop), zSH[x0]? = some (.inl 10) → zWp d zi_187 none 82 [l0, l1, l2, l3, l4, l5, l6, l7, l8, l9, l10, l11, l12] [.int x1, .ref x0] (zSH, I, L, P) Q = zWp d zi_187 none 85 [l0, l1, l2, l3, l4, l5, l6, l7, l8, l9, l10, l11, l12] [] (zSH, zw I x0 (upd (I x0) 37 x1), L, P) Q) ∧
    (∀ (d : Nat) (l0 : Value) (l1 : Value) (l2 : Value) (l3 : Value) (l4 : Value) (l5 : Value) (l6 : Value) (l7 : Value) (l8 : Value) (l9 : Value) (l10 : Value) (l11 : Value) (l12 : Value)  (h : zMm) (Q : Option Value → zMm → Prop), zWp d zi_187 none 85 [l0, l1, l2, l3, l4, l5, l6, l7, l8, l9, l10, l11, l12] [] h Q = zWp d zi_187 none 86 [l0, l1, l2, l3, l4, l5, l6, l7, l8, l9, l10, l11, l12] [.int 0] h Q) ∧
    (∀ (d : Nat) (l0 : Value) (l1 : Value) (l2 : Value) (l3 : Value) (l4 : Value) (l5 : Value) (l6 : Value) (l7 : Value) (l8 : Value) (l9 : Value) (l10 : Value) (l11 : Int32) (l12 : Value) (x0 : Int32) (h : zMm) (Q : Option Value → zMm → Prop), zWp d zi_187 none 86 [l0, l1, l2, l3, l4, l5, l6, l7, l8, l9, l10, .int l11, l12] [.int x0] h Q = zWp d zi_187 none 88 [l0, l1, l2, l3, l4, l5, l6, l7, l8, l9, l10, .int l11, .int x0] [] h Q) ∧
    (∀ (d : Nat) (l0 : Value) (l1 : Value) (l2 : Int32) (l3 : Value) (l4 : Value) (l5 : Value) (l6 : Value) (l7 : Value) (l8 : Value) (l9 : Value) (l10 : Value) (l11 : Value) (l12 : Value) (x0 : Int32) (h : zMm) (Q : Option Value → zMm → Prop), zWp d zi_187 none 90 [l0, l1, .int l2, l3, l4, l5, l6, l7, l8, l9, l10, l11, l12] [.int x0] h Q = zWp d zi_187 none 91 [l0, l1, .int l2, l3, l4, l5, l6, l7, l8, l9, l10, l11, l12] [.int l2, .int x0] h Q) ∧
    (∀ (d : Nat) (l0 : Value) (l1 : Value) (l2 : Value) (l3 : Value) (l4 : Value) (l5 : Value) (l6 : Value) (l7 : Value) (l8 : Value) (l9 : Value) (l10 : Value) (l11 : Value) (l12 : Value) (x1 : Int32) (x0 : Int32) (h : zMm) (Q : Option Value → zMm → Prop), zWp d zi_187 none 91 [l0, l1, l2, l3, l4, l5, l6, l7, l8, l9, l10, l11, l12] [.int x1, .int x0] h Q = if x1 ≤ x0 then zWp d zi_187 none 113 [l0, l1, l2, l3, l4, l5, l6, l7, l8, l9, l10, l11, l12] [] h Q else zWp d zi_187 none 94 [l0, l1, l2, l3, l4, l5, l6, l7, l8, l9, l10, l11, l12] [] h Q) ∧
    (∀ (d : Nat) (l0 : Nat) (l1 : Value) (l2 : Value) (l3 : Value) (l4 : Value) (l5 : Value) (l6 : Value) (l7 : Value) (l8 : Value) (l9 : Value) (l10 : Value) (l11 : Value) (l12 : Value)  (h : zMm) (Q : Option Value → zMm → Prop), zWp d zi_187 none 94 [.ref l0, l1, l2, l3, l4, l5, l6, l7, l8, l9, l10, l11, l12] [] h Q = zWp d zi_187 none 95 [.ref l0, l1, l2, l3, l4, l5, l6, l7, l8, l9, l10, l11, l12] [.ref l0] h Q) ∧
    (∀ (d : Nat) (l0 : Nat) (l1 : Value) (l2 : Value) (l3 : Value) (l4 : Value) (l5 : Value) (l6 : Value) (l7 : Value) (l8 : Value) (l9 : Value) (l10 : Value) (l11 : Value) (l12 : Value) (x0 : Nat) (h : zMm) (Q : Option Value → zMm → Prop), zWp d zi_187 none 95 [.ref l0, l1, l2, l3, l4, l5, l6, l7, l8, l9, l10, l11, l12] [.ref x0] h Q = zWp d zi_187 none 96 [.ref l0, l1, l2, l3, l4, l5, l6, l7, l8, l9, l10, l11, l12] [.ref l0, .ref x0] h Q) ∧
    (∀ (d : Nat) (l0 : Value) (l1 : Value) (l2 : Value) (l3 : Value) (l4 : Value) (l5 : Value) (l6 : Value) (l7 : Value) (l8 : Value) (l9 : Value) (l10 : Value) (l11 : Value) (l12 : Value) (x1 : Nat) (x0 : Nat) (I : Nat → Nat → Int32) (L : Nat → Nat → Int64) (P : Nat → Nat → Option Nat) (Q : Option Value → zMm → Prop), zSH[x1]? = some (.inl 10) → zWp d zi_187 none 96 [l0, l1, l2, l3, l4, l5, l6, l7, l8, l9, l10, l11, l12] [.ref x1, .ref x0] (zSH, I, L, P) Q = zWp d zi_187 none 99 [l0, l1, l2, l3, l4, l5, l6, l7, l8, l9, l10, l11, l12] [.int (I x1 34), .ref x0] (zSH, I, L, P) Q) ∧
    (∀ (d : Nat) (l0 : Value) (l1 : Value) (l2 : Value) (l3 : Value) (l4 : Value) (l5 : Value) (l6 : Value) (l7 : Value) (l8 : Value) (l9 : Value) (l10 : Value) (l11 : Value) (l12 : Value) (x1 : Int32) (x0 : Nat) (h : zMm) (Q : Option Value → zMm → Prop), zWp d zi_187 none 99 [l0, l1, l2, l3, l4, l5, l6, l7, l8, l9, l10, l11, l12] [.int x1, .ref x0] h Q = zWp d zi_187 none 100 [l0, l1, l2, l3, l4, l5, l6, l7, l8, l9, l10, l11, l12] [.int 1, .int x1, .ref x0] h Q) ∧
    (∀ (d : Nat) (l0 : Value) (l1 : Value) (l2 : Value) (l3 : Value) (l4 : Value) (l5 : Value) (l6 : Value) (l7 : Value) (l8 : Value) (l9 : Value) (l10 : Value) (l11 : Int32) (l12 : Value) (x2 : Int32) (x1 : Int32) (x0 : Nat) (h : zMm) (Q : Option Value → zMm → Prop), zWp d zi_187 none 100 [l0, l1, l2, l3, l4, l5, l6, l7, l8, l9, l10, .int l11, l12] [.int x2, .int x1, .ref x0] h Q = zWp d zi_187 none 102 [l0, l1, l2, l3, l4, l5, l6, l7, l8, l9, l10, .int l11, l12] [.int l11, .int x2, .int x1, .ref x0] h Q) ∧
    (∀ (d : Nat) (l0 : Value) (l1 : Value) (l2 : Value) (l3 : Value) (l4 : Value) (l5 : Value) (l6 : Value) (l7 : Value) (l8 : Value) (l9 : Value) (l10 : Value) (l11 : Value) (l12 : Value) (x3 : Int32) (x2 : Int32) (x1 : Int32) (x0 : Nat) (h : zMm) (Q : Option Value → zMm → Prop), zWp d zi_187 none 102 [l0, l1, l2, l3, l4, l5, l6, l7, l8, l9, l10, l11, l12] [.int x3, .int x2, .int x1, .ref x0] h Q = zWp d zi_187 none 103 [l0, l1, l2, l3, l4, l5, l6, l7, l8, l9, l10, l11, l12] [.int (x2 <<< (x3 &&& 31)), .int x1, .ref x0] h Q) ∧
    (∀ (d : Nat) (l0 : Value) (l1 : Value) (l2 : Value) (l3 : Value) (l4 : Value) (l5 : Value) (l6 : Value) (l7 : Value) (l8 : Value) (l9 : Value) (l10 : Value) (l11 : Value) (l12 : Value) (x2 : Int32) (x1 : Int32) (x0 : Nat) (h : zMm) (Q : Option Value → zMm → Prop), zWp d zi_187 none 103 [l0, l1, l2, l3, l4, l5, l6, l7, l8, l9, l10, l11, l12] [.int x2, .int x1, .ref x0] h Q = zWp d zi_187 none 104 [l0, l1, l2, l3, l4, l5, l6, l7, l8, l9, l10, l11, l12] [.int (x1 ||| x2), .ref x0] h Q) ∧
    (∀ (d : Nat) (l0 : Value) (l1 : Value) (l2 : Value) (l3 : Value) (l4 : Value) (l5 : Value) (l6 : Value) (l7 : Value) (l8 : Value) (l9 : Value) (l10 : Value) (l11 : Value) (l12 : Value) (x1 : Int32) (x0 : Nat) (I : Nat → Nat → Int32) (L : Nat → Nat → Int64) (P : Nat → Nat → Option Nat) (Q : Option Value → zMm → Prop), zSH[x0]? = some (.inl 10) → zWp d zi_187 none 104 [l0, l1, l2, l3, l4, l5, l6, l7, l8, l9, l10, l11, l12] [.int x1, .ref x0] (zSH, I, L, P) Q = zWM d 185 [.ref x0, .int x1] (zSH, I, L, P) (fun r h1 => zWp d zi_187 none 107 [l0, l1, l2, l3, l4, l5, l6, l7, l8, l9, l10, l11, l12] (r.toList ++ []) h1 Q)) ∧
    (∀ (d : Nat) (l0 : Value) (l1 : Value) (l2 : Value) (l3 : Value) (l4 : Value) (l5 : Value) (l6 : Value) (l7 : Value) (l8 : Value) (l9 : Value) (l10 : Value) (l11 : Int32) (l12 : Int32)  (h : zMm) (Q : Option Value → zMm → Prop), zWp d zi_187 none 107 [l0, l1, l2, l3, l4, l5, l6, l7, l8, l9, l10, .int l11, .int l12] [] h Q = zWp d zi_187 none 110 [l0, l1, l2, l3, l4, l5, l6, l7, l8, l9, l10, .int l11, .int (l12 + 1)] [] h Q) ∧
    (∀ (d : Nat) (l0 : Value) (l1 : Value) (l2 : Value) (l3 : Value) (l4 : Value) (l5 : Value) (l6 : Value) (l7 : Value) (l8 : Value) (l9 : Value) (l10 : Value) (l11 : Value) (l12 : Value)  (h : zMm) (Q : Option Value → zMm → Prop), zWp d zi_187 none 110 [l0, l1, l2, l3, l4, l5, l6, l7, l8, l9, l10, l11, l12] [] h Q = zWp d zi_187 none 88 [l0, l1, l2, l3, l4, l5, l6, l7, l8, l9, l10, l11, l12] [] h Q) ∧
    (∀ (d : Nat) (l0 : Nat) (l1 : Value) (l2 : Value) (l3 : Value) (l4 : Value) (l5 : Value) (l6 : Value) (l7 : Value) (l8 : Value) (l9 : Value) (l10 : Value) (l11 : Value) (l12 : Value)  (h : zMm) (Q : Option Value → zMm → Prop), zWp d zi_187 none 113 [.ref l0, l1, l2, l3, l4, l5, l6, l7, l8, l9, l10, l11, l12] [] h Q = zWp d zi_187 none 114 [.ref l0, l1, l2, l3, l4, l5, l6, l7, l8, l9, l10, l11, l12] [.ref l0] h Q) ∧
    (∀ (d : Nat) (l0 : Value) (l1 : Value) (l2 : Value) (l3 : Value) (l4 : Value) (l5 : Value) (l6 : Value) (l7 : Value) (l8 : Value) (l9 : Value) (l10 : Value) (l11 : Value) (l12 : Value) (x0 : Nat) (I : Nat → Nat → Int32) (L : Nat → Nat → Int64) (P : Nat → Nat → Option Nat) (Q : Option Value → zMm → Prop), zSH[x0]? = some (.inl 10) → zWp d zi_187 none 114 [l0, l1, l2, l3, l4, l5, l6, l7, l8, l9, l10, l11, l12] [.ref x0] (zSH, I, L, P) Q = zWp d zi_187 none 117 [l0, l1, l2, l3, l4, l5, l6, l7, l8, l9, l10, l11, l12] [.int (I x0 8)] (zSH, I, L, P) Q) ∧
    (∀ (d : Nat) (l0 : Value) (l1 : Value) (l2 : Value) (l3 : Value) (l4 : Value) (l5 : Value) (l6 : Value) (l7 : Value) (l8 : Value) (l9 : Value) (l10 : Int32) (l11 : Value) (l12 : Value) (x0 : Int32) (h : zMm) (Q : Option Value → zMm → Prop), zWp d zi_187 none 117 [l0, l1, l2, l3, l4, l5, l6, l7, l8, l9, .int l10, l11, l12] [.int x0] h Q = zWp d zi_187 none 119 [l0, l1, l2, l3, l4, l5, l6, l7, l8, l9, .int l10, l11, l12] [.int l10, .int x0] h Q) ∧
    (∀ (d : Nat) (l0 : Value) (l1 : Value) (l2 : Value) (l3 : Value) (l4 : Value) (l5 : Value) (l6 : Value) (l7 : Value) (l8 : Value) (l9 : Value) (l10 : Value) (l11 : Value) (l12 : Value) (x1 : Int32) (x0 : Int32) (h : zMm) (Q : Option Value → zMm → Prop), zWp d zi_187 none 119 [l0, l1, l2, l3, l4, l5, l6, l7, l8, l9, l10, l11, l12] [.int x1, .int x0] h Q = if x0 ≤ x1 then zWp d zi_187 none 127 [l0, l1, l2, l3, l4, l5, l6, l7, l8, l9, l10, l11, l12] [] h Q else zWp d zi_187 none 122 [l0, l1, l2, l3, l4, l5, l6, l7, l8, l9, l10, l11, l12] [] h Q) ∧
    (∀ (d : Nat) (l0 : Value) (l1 : Value) (l2 : Value) (l3 : Value) (l4 : Value) (l5 : Value) (l6 : Value) (l7 : Value) (l8 : Value) (l9 : Value) (l10 : Value) (l11 : Int32) (l12 : Value)  (h : zMm) (Q : Option Value → zMm → Prop), zWp d zi_187 none 122 [l0, l1, l2, l3, l4, l5, l6, l7, l8, l9, l10, .int l11, l12] [] h Q = zWp d zi_187 none 124 [l0, l1, l2, l3, l4, l5, l6, l7, l8, l9, l10, .int l11, l12] [.int l11] h Q) ∧
    (∀ (d : Nat) (l0 : Value) (l1 : Value) (l2 : Value) (l3 : Value) (l4 : Value) (l5 : Value) (l6 : Value) (l7 : Value) (l8 : Value) (l9 : Value) (l10 : Value) (l11 : Value) (l12 : Value) (x0 : Int32) (h : zMm) (Q : Option Value → zMm → Prop), zWp d zi_187 none 124 [l0, l1, l2, l3, l4, l5, l6, l7, l8, l9, l10, l11, l12] [.int x0] h Q = zWp d zi_187 none 129 [l0, l1, l2, l3, l4, l5, l6, l7, l8, l9, l10, l11, l12] [.int x0] h Q) ∧
    (∀ (d : Nat) (l0 : Value) (l1 : Value) (l2 : Value) (l3 : Value) (l4 : Value) (l5 : Value) (l6 : Value) (l7 : Value) (l8 : Value) (l9 : Int32) (l10 : Value) (l11 : Value) (l12 : Value)  (h : zMm) (Q : Option Value → zMm → Prop), zWp d zi_187 none 127 [l0, l1, l2, l3, l4, l5, l6, l7, l8, .int l9, l10, l11, l12] [] h Q = zWp d zi_187 none 129 [l0, l1, l2, l3, l4, l5, l6, l7, l8, .int l9, l10, l11, l12] [.int l9] h Q) ∧
    (∀ (d : Nat) (l0 : Value) (l1 : Value) (l2 : Value) (l3 : Value) (l4 : Value) (l5 : Value) (l6 : Value) (l7 : Value) (l8 : Int32) (l9 : Value) (l10 : Value) (l11 : Value) (l12 : Value) (x0 : Int32) (h : zMm) (Q : Option Value → zMm → Prop), zWp d zi_187 none 129 [l0, l1, l2, l3, l4, l5, l6, l7, .int l8, l9, l10, l11, l12] [.int x0] h Q = zWp d zi_187 none 131 [l0, l1, l2, l3, l4, l5, l6, l7, .int l8, .int x0, l10, l11, l12] [] h Q) ∧
    (∀ (d : Nat) (l0 : Nat) (l1 : Value) (l2 : Value) (l3 : Value) (l4 : Value) (l5 : Value) (l6 : Value) (l7 : Value) (l8 : Value) (l9 : Value) (l10 : Value) (l11 : Value) (l12 : Value)  (h : zMm) (Q : Option Value → zMm → Prop), zWp d zi_187 none 131 [.ref l0, l1, l2, l3, l4, l5, l6, l7, l8, l9, l10, l11, l12] [] h Q = zWp d zi_187 none 132 [.ref l0, l1, l2, l3, l4, l5, l6, l7, l8, l9, l10, l11, l12] [.ref l0] h Q) ∧
    (∀ (d : Nat) (l0 : Value) (l1 : Value) (l2 : Value) (l3 : Value) (l4 : Value) (l5 : Value) (l6 : Value) (l7 : Value) (l8 : Value) (l9 : Value) (l10 : Value) (l11 : Value) (l12 : Value) (x0 : Nat) (I : Nat → Nat → Int32) (L : Nat → Nat → Int64) (P : Nat → Nat → Option Nat) (Q : Option Value → zMm → Prop), zSH[x0]? = some (.inl 10) → zWp d zi_187 none 132 [l0, l1, l2, l3, l4, l5, l6, l7, l8, l9, l10, l11, l12] [.ref x0] (zSH, I, L, P) Q = zWp d zi_187 none 135 [l0, l1, l2, l3, l4, l5, l6, l7, l8, l9, l10, l11, l12] [.int (I x0 8)] (zSH, I, L, P) Q) ∧
    (∀ (d : Nat) (l0 : Value) (l1 : Value) (l2 : Value) (l3 : Value) (l4 : Value) (l5 : Value) (l6 : Value) (l7 : Value) (l8 : Value) (l9 : Value) (l10 : Int32) (l11 : Value) (l12 : Value) (x0 : Int32) (h : zMm) (Q : Option Value → zMm → Prop), zWp d zi_187 none 135 [l0, l1, l2, l3, l4, l5, l6, l7, l8, l9, .int l10, l11, l12] [.int x0] h Q = zWp d zi_187 none 137 [l0, l1, l2, l3, l4, l5, l6, l7, l8, l9, .int l10, l11, l12] [.int l10, .int x0] h Q) ∧
    (∀ (d : Nat) (l0 : Value) (l1 : Value) (l2 : Value) (l3 : Value) (l4 : Value) (l5 : Value) (l6 : Value) (l7 : Value) (l8 : Value) (l9 : Value) (l10 : Value) (l11 : Value) (l12 : Value) (x1 : Int32) (x0 : Int32) (h : zMm) (Q : Option Value → zMm → Prop), zWp d zi_187 none 137 [l0, l1, l2, l3, l4, l5, l6, l7, l8, l9, l10, l11, l12] [.int x1, .int x0] h Q = if x0 ≤ x1 then zWp d zi_187 none 147 [l0, l1, l2, l3, l4, l5, l6, l7, l8, l9, l10, l11, l12] [] h Q else zWp d zi_187 none 140 [l0, l1, l2, l3, l4, l5, l6, l7, l8, l9, l10, l11, l12] [] h Q) ∧
    (∀ (d : Nat) (l0 : Nat) (l1 : Value) (l2 : Value) (l3 : Value) (l4 : Value) (l5 : Value) (l6 : Value) (l7 : Value) (l8 : Value) (l9 : Value) (l10 : Value) (l11 : Value) (l12 : Value)  (h : zMm) (Q : Option Value → zMm → Prop), zWp d zi_187 none 140 [.ref l0, l1, l2, l3, l4, l5, l6, l7, l8, l9, l10, l11, l12] [] h Q = zWp d zi_187 none 141 [.ref l0, l1, l2, l3, l4, l5, l6, l7, l8, l9, l10, l11, l12] [.ref l0] h Q) ∧
    (∀ (d : Nat) (l0 : Value) (l1 : Value) (l2 : Value) (l3 : Value) (l4 : Value) (l5 : Value) (l6 : Value) (l7 : Value) (l8 : Value) (l9 : Value) (l10 : Value) (l11 : Value) (l12 : Value) (x0 : Nat) (I : Nat → Nat → Int32) (L : Nat → Nat → Int64) (P : Nat → Nat → Option Nat) (Q : Option Value → zMm → Prop), zSH[x0]? = some (.inl 10) → zWp d zi_187 none 141 [l0, l1, l2, l3, l4, l5, l6, l7, l8, l9, l10, l11, l12] [.ref x0] (zSH, I, L, P) Q = zWp d zi_187 none 144 [l0, l1, l2, l3, l4, l5, l6, l7, l8, l9, l10, l11, l12] [.int (I x0 8)] (zSH, I, L, P) Q) ∧
    (∀ (d : Nat) (l0 : Value) (l1 : Value) (l2 : Value) (l3 : Value) (l4 : Value) (l5 : Value) (l6 : Value) (l7 : Value) (l8 : Value) (l9 : Value) (l10 : Value) (l11 : Value) (l12 : Value) (x0 : Int32) (h : zMm) (Q : Option Value → zMm → Prop), zWp d zi_187 none 144 [l0, l1, l2, l3, l4, l5, l6, l7, l8, l9, l10, l11, l12] [.int x0] h Q = zWp d zi_187 none 149 [l0, l1, l2, l3, l4, l5, l6, l7, l8, l9, l10, l11, l12] [.int x0] h Q) ∧
    (∀ (d : Nat) (l0 : Value) (l1 : Value) (l2 : Value) (l3 : Value) (l4 : Value) (l5 : Value) (l6 : Value) (l7 : Value) (l8 : Value) (l9 : Value) (l10 : Int32) (l11 : Value) (l12 : Value)  (h : zMm) (Q : Option Value → zMm → Prop), zWp d zi_187 none 147 [l0, l1, l2, l3, l4, l5, l6, l7, l8, l9, .int l10, l11, l12] [] h Q = zWp d zi_187 none 149 [l0, l1, l2, l3, l4, l5, l6, l7, l8, l9, .int l10, l11, l12] [.int l10] h Q) ∧
    (∀ (d : Nat) (l0 : Value) (l1 : Value) (l2 : Value) (l3 : Value) (l4 : Value) (l5 : Value) (l6 : Value) (l7 : Value) (l8 : Value) (l9 : Int32) (l10 : Value) (l11 : Value) (l12 : Value) (x0 : Int32) (h : zMm) (Q : Option Value → zMm → Prop), zWp d zi_187 none 149 [l0, l1, l2, l3, l4, l5, l6, l7, l8, .int l9, l10, l11, l12] [.int x0] h Q = zWp d zi_187 none 151 [l0, l1, l2, l3, l4, l5, l6, l7, l8, .int l9, .int x0, l11, l12] [] h Q) ∧
    (∀ (d : Nat) (l0 : Nat) (l1 : Value) (l2 : Value) (l3 : Value) (l4 : Value) (l5 : Value) (l6 : Value) (l7 : Value) (l8 : Value) (l9 : Value) (l10 : Value) (l11 : Value) (l12 : Value)  (h : zMm) (Q : Option Value → zMm → Prop), zWp d zi_187 none 151 [.ref l0, l1, l2, l3, l4, l5, l6, l7, l8, l9, l10, l11, l12] [] h Q = zWp d zi_187 none 152 [.ref l0, l1, l2, l3, l4, l5, l6, l7, l8, l9, l10, l11, l12] [.ref l0] h Q) ∧
    (∀ (d : Nat) (l0 : Value) (l1 : Value) (l2 : Value) (l3 : Value) (l4 : Int32) (l5 : Value) (l6 : Value) (l7 : Value) (l8 : Value) (l9 : Value) (l10 : Value) (l11 : Value) (l12 : Value) (x0 : Nat) (h : zMm) (Q : Option Value → zMm → Prop), zWp d zi_187 none 152 [l0, l1, l2, l3, .int l4, l5, l6, l7, l8, l9, l10, l11, l12] [.ref x0] h Q = zWp d zi_187 none 154 [l0, l1, l2, l3, .int l4, l5, l6, l7, l8, l9, l10, l11, l12] [.int l4, .ref x0] h Q) ∧
    (∀ (d : Nat) (l0 : Value) (l1 : Value) (l2 : Value) (l3 : Value) (l4 : Value) (l5 : Value) (l6 : Value) (l7 : Value) (l8 : Value) (l9 : Value) (l10 : Value) (l11 : Value) (l12 : Value) (x1 : Int32) (x0 : Nat) (I : Nat → Nat → Int32) (L : Nat → Nat → Int64) (P : Nat → Nat → Option Nat) (Q : Option Value → zMm → Prop), zSH[x0]? = some (.inl 10) → zWp d zi_187 none 154 [l0, l1, l2, l3, l4, l5, l6, l7, l8, l9, l10, l11, l12] [.int x1, .ref x0] (zSH, I, L, P) Q = zWp d zi_187 none 157 [l0, l1, l2, l3, l4, l5, l6, l7, l8, l9, l10, l11, l12] [] (zSH, zw I x0 (upd (I x0) 8 x1), L, P) Q) ∧
    (∀ (d : Nat) (l0 : Nat) (l1 : Value) (l2 : Value) (l3 : Value) (l4 : Value) (l5 : Value) (l6 : Value) (l7 : Value) (l8 : Value) (l9 : Value) (l10 : Value) (l11 : Value) (l12 : Value)  (h : zMm) (Q : Option Value → zMm → Prop), zWp d zi_187 none 157 [.ref l0, l1, l2, l3, l4, l5, l6, l7, l8, l9, l10, l11, l12] [] h Q = zWp d zi_187 none 158 [.ref l0, l1, l2, l3, l4, l5, l6, l7, l8, l9, l10, l11, l12] [.ref l0] h Q) ∧
    (∀ (d : Nat) (l0 : Value) (l1 : Value) (l2 : Value) (l3 : Value) (l4 : Value) (l5 : Int32) (l6 : Value) (l7 : Value) (l8 : Value) (l9 : Value) (l10 : Value) (l11 : Value) (l12 : Value) (x0 : Nat) (h : zMm) (Q : Option Value → zMm → Prop), zWp d zi_187 none 158 [l0, l1, l2, l3, l4, .int l5, l6, l7, l8, l9, l10, l11, l12] [.ref x0] h Q = zWp d zi_187 none 160 [l0, l1, l2, l3, l4, .int l5, l6, l7, l8, l9, l10, l11, l12] [.int l5, .ref x0] h Q) ∧
    (∀ (d : Nat) (l0 : Value) (l1 : Value) (l2 : Value) (l3 : Value) (l4 : Value) (l5 : Value) (l6 : Value) (l7 : Value) (l8 : Value) (l9 : Value) (l10 : Value) (l11 : Value) (l12 : Value) (x1 : Int32) (x0 : Nat) (I : Nat → Nat → Int32) (L : Nat → Nat → Int64) (P : Nat → Nat → Option Nat) (Q : Option Value → zMm → Prop), zSH[x0]? = some (.inl 10) → zWp d zi_187 none 160 [l0, l1, l2, l3, l4, l5, l6, l7, l8, l9, l10, l11, l12] [.int x1, .ref x0] (zSH, I, L, P) Q = zWp d zi_187 none 163 [l0, l1, l2, l3, l4, l5, l6, l7, l8, l9, l10, l11, l12] [] (zSH, zw I x0 (upd (I x0) 9 x1), L, P) Q) ∧
    (∀ (d : Nat) (l0 : Nat) (l1 : Value) (l2 : Value) (l3 : Value) (l4 : Value) (l5 : Value) (l6 : Value) (l7 : Value) (l8 : Value) (l9 : Value) (l10 : Value) (l11 : Value) (l12 : Value)  (h : zMm) (Q : Option Value → zMm → Prop), zWp d zi_187 none 163 [.ref l0, l1, l2, l3, l4, l5, l6, l7, l8, l9, l10, l11, l12] [] h Q = zWp d zi_187 none 164 [.ref l0, l1, l2, l3, l4, l5, l6, l7, l8, l9, l10, l11, l12] [.ref l0] h Q) ∧
    (∀ (d : Nat) (l0 : Value) (l1 : Value) (l2 : Value) (l3 : Value) (l4 : Value) (l5 : Value) (l6 : Int32) (l7 : Value) (l8 : Value) (l9 : Value) (l10 : Value) (l11 : Value) (l12 : Value) (x0 : Nat) (h : zMm) (Q : Option Value → zMm → Prop), zWp d zi_187 none 164 [l0, l1, l2, l3, l4, l5, .int l6, l7, l8, l9, l10, l11, l12] [.ref x0] h Q = zWp d zi_187 none 166 [l0, l1, l2, l3, l4, l5, .int l6, l7, l8, l9, l10, l11, l12] [.int l6, .ref x0] h Q) ∧
    (∀ (d : Nat) (l0 : Value) (l1 : Value) (l2 : Value) (l3 : Value) (l4 : Value) (l5 : Value) (l6 : Value) (l7 : Value) (l8 : Value) (l9 : Value) (l10 : Value) (l11 : Value) (l12 : Value) (x1 : Int32) (x0 : Nat) (I : Nat → Nat → Int32) (L : Nat → Nat → Int64) (P : Nat → Nat → Option Nat) (Q : Option Value → zMm → Prop), zSH[x0]? = some (.inl 10) → zWp d zi_187 none 166 [l0, l1, l2, l3, l4, l5, l6, l7, l8, l9, l10, l11, l12] [.int x1, .ref x0] (zSH, I, L, P) Q = zWp d zi_187 none 169 [l0, l1, l2, l3, l4, l5, l6, l7, l8, l9, l10, l11, l12] [] (zSH, zw I x0 (upd (I x0) 33 x1), L, P) Q) ∧
    (∀ (d : Nat) (l0 : Value) (l1 : Value) (l2 : Value) (l3 : Value) (l4 : Value) (l5 : Value) (l6 : Value) (l7 : Value) (l8 : Value) (l9 : Value) (l10 : Int32) (l11 : Int32) (l12 : Value)  (h : zMm) (Q : Option Value → zMm → Prop), zWp d zi_187 none 169 [l0, l1, l2, l3, l4, l5, l6, l7, l8, l9, .int l10, .int l11, l12] [] h Q = zWp d zi_187 none 172 [l0, l1, l2, l3, l4, l5, l6, l7, l8, l9, .int l10, .int (l11 + 1), l12] [] h Q) ∧
    (∀ (d : Nat) (l0 : Value) (l1 : Value) (l2 : Value) (l3 : Value) (l4 : Value) (l5 : Value) (l6 : Value) (l7 : Value) (l8 : Value) (l9 : Value) (l10 : Value) (l11 : Value) (l12 : Value)  (h : zMm) (Q : Option Value → zMm → Prop), zWp d zi_187 none 172 [l0, l1, l2, l3, l4, l5, l6, l7, l8, l9, l10, l11, l12] [] h Q = zWp d zi_187 none 71 [l0, l1, l2, l3, l4, l5, l6, l7, l8, l9, l10, l11, l12] [] h Q) ∧
    (∀ (d : Nat) (l0 : Nat) (l1 : Value) (l2 : Value) (l3 : Value) (l4 : Value) (l5 : Value) (l6 : Value) (l7 : Value) (l8 : Value) (l9 : Value) (l10 : Value) (l11 : Value) (l12 : Value)  (h : zMm) (Q : Option Value → zMm → Prop), zWp d zi_187 none 175 [.ref l0, l1, l2, l3, l4, l5, l6, l7, l8, l9, l10, l11, l12] [] h Q = zWp d zi_187 none 176 [.ref l0, l1, l2, l3, l4, l5, l6, l7, l8, l9, l10, l11, l12] [.ref l0] h Q) ∧
    (∀ (d : Nat) (l0 : Value) (l1 : Value) (l2 : Value) (l3 : Value) (l4 : Value) (l5 : Value) (l6 : Value) (l7 : Int32) (l8 : Value) (l9 : Value) (l10 : Value) (l11 : Value) (l12 : Value) (x0 : Nat) (h : zMm) (Q : Option Value → zMm → Prop), zWp d zi_187 none 176 [l0, l1, l2, l3, l4, l5, l6, .int l7, l8, l9, l10, l11, l12] [.ref x0] h Q = zWp d zi_187 none 178 [l0, l1, l2, l3, l4, l5, l6, .int l7, l8, l9, l10, l11, l12] [.int l7, .ref x0] h Q) ∧
    (∀ (d : Nat) (l0 : Value) (l1 : Value) (l2 : Value) (l3 : Value) (l4 : Value) (l5 : Value) (l6 : Value) (l7 : Value) (l8 : Value) (l9 : Value) (l10 : Value) (l11 : Value) (l12 : Value) (x1 : Int32) (x0 : Nat) (I : Nat → Nat → Int32) (L : Nat → Nat → Int64) (P : Nat → Nat → Option Nat) (Q : Option Value → zMm → Prop), zSH[x0]? = some (.inl 10) → zWp d zi_187 none 178 [l0, l1, l2, l3, l4, l5, l6, l7, l8, l9, l10, l11, l12] [.int x1, .ref x0] (zSH, I, L, P) Q = zWp d zi_187 none 181 [l0, l1, l2, l3, l4, l5, l6, l7, l8, l9, l10, l11, l12] [] (zSH, zw I x0 (upd (I x0) 35 x1), L, P) Q) ∧
    (∀ (d : Nat) (l0 : Nat) (l1 : Value) (l2 : Value) (l3 : Value) (l4 : Value) (l5 : Value) (l6 : Value) (l7 : Value) (l8 : Value) (l9 : Value) (l10 : Value) (l11 : Value) (l12 : Value)  (h : zMm) (Q : Option Value → zMm → Prop), zWp d zi_187 none 181 [.ref l0, l1, l2, l3, l4, l5, l6, l7, l8, l9, l10, l11, l12] [] h Q = zWp d zi_187 none 182 [.ref l0, l1, l2, l3, l4, l5, l6, l7, l8, l9, l10, l11, l12] [.ref l0] h Q) ∧
    (∀ (d : Nat) (l0 : Value) (l1 : Value) (l2 : Value) (l3 : Value) (l4 : Value) (l5 : Value) (l6 : Value) (l7 : Value) (l8 : Int32) (l9 : Value) (l10 : Value) (l11 : Value) (l12 : Value) (x0 : Nat) (h : zMm) (Q : Option Value → zMm → Prop), zWp d zi_187 none 182 [l0, l1, l2, l3, l4, l5, l6, l7, .int l8, l9, l10, l11, l12] [.ref x0] h Q = zWp d zi_187 none 184 [l0, l1, l2, l3, l4, l5, l6, l7, .int l8, l9, l10, l11, l12] [.int l8, .ref x0] h Q) ∧
    (∀ (d : Nat) (l0 : Value) (l1 : Value) (l2 : Value) (l3 : Value) (l4 : Value) (l5 : Value) (l6 : Value) (l7 : Value) (l8 : Value) (l9 : Value) (l10 : Value) (l11 : Value) (l12 : Value) (x1 : Int32) (x0 : Nat) (I : Nat → Nat → Int32) (L : Nat → Nat → Int64) (P : Nat → Nat → Option Nat) (Q : Option Value → zMm → Prop), zSH[x0]? = some (.inl 10) → zWp d zi_187 none 184 [l0, l1, l2, l3, l4, l5, l6, l7, l8, l9, l10, l11, l12] [.int x1, .ref x0] (zSH, I, L, P) Q = zWp d zi_187 none 187 [l0, l1, l2, l3, l4, l5, l6, l7, l8, l9, l10, l11, l12] [] (zSH, zw I x0 (upd (I x0) 36 x1), L, P) Q) ∧
    (∀ (d : Nat) (l0 : Value) (l1 : Value) (l2 : Value) (l3 : Int32) (l4 : Value) (l5 : Value) (l6 : Value) (l7 : Value) (l8 : Value) (l9 : Value) (l10 : Value) (l11 : Value) (l12 : Value)  (h : zMm) (Q : Option Value → zMm → Prop), zWp d zi_187 none 187 [l0, l1, l2, .int l3, l4, l5, l6, l7, l8, l9, l10, l11, l12] [] h Q = zWp d zi_187 none 188 [l0, l1, l2, .int l3, l4, l5, l6, l7, l8, l9, l10, l11, l12] [.int l3] h Q) ∧
    (∀ (d : Nat) (l0 : Value) (l1 : Value) (l2 : Value) (l3 : Value) (l4 : Value) (l5 : Value) (l6 : Value) (l7 : Value) (l8 : Value) (l9 : Value) (l10 : Value) (l11 : Value) (l12 : Value) (x0 : Int32) (h : zMm) (Q : Option Value → zMm → Prop), zWp d zi_187 none 188 [l0, l1, l2, l3, l4, l5, l6, l7, l8, l9, l10, l11, l12] [.int x0] h Q = if x0 = 0 then zWp d zi_187 none 191 [l0, l1, l2, l3, l4, l5, l6, l7, l8, l9, l10, l11, l12] [] h Q else zWp d zi_187 none 196 [l0, l1, l2, l3, l4, l5, l6, l7, l8, l9, l10, l11, l12] [] h Q) ∧
    (∀ (d : Nat) (l0 : Value) (l1 : Value) (l2 : Value) (l3 : Value) (l4 : Value) (l5 : Value) (l6 : Value) (l7 : Value) (l8 : Value) (l9 : Int32) (l10 : Value) (l11 : Value) (l12 : Value)  (h : zMm) (Q : Option Value → zMm → Prop), zWp d zi_187 none 191 [l0, l1, l2, l3, l4, l5, l6, l7, l8, .int l9, l10, l11, l12] [] h Q = zWp d zi_187 none 193 [l0, l1, l2, l3, l4, l5, l6, l7, l8, .int l9, l10, l11, l12] [.int l9] h Q) ∧
    (∀ (d : Nat) (l0 : Value) (l1 : Value) (l2 : Value) (l3 : Value) (l4 : Value) (l5 : Value) (l6 : Value) (l7 : Value) (l8 : Value) (l9 : Value) (l10 : Value) (l11 : Value) (l12 : Value) (x0 : Int32) (h : zMm) (Q : Option Value → zMm → Prop), zWp d zi_187 none 193 [l0, l1, l2, l3, l4, l5, l6, l7, l8, l9, l10, l11, l12] [.int x0] h Q = zWp d zi_187 none 198 [l0, l1, l2, l3, l4, l5, l6, l7, l8, l9, l10, l11, l12] [.int x0] h Q) ∧
    (∀ (d : Nat) (l0 : Value) (l1 : Value) (l2 : Value) (l3 : Value) (l4 : Value) (l5 : Value) (l6 : Value) (l7 : Value) (l8 : Value) (l9 : Value) (l10 : Int32) (l11 : Value) (l12 : Value)  (h : zMm) (Q : Option Value → zMm → Prop), zWp d zi_187 none 196 [l0, l1, l2, l3, l4, l5, l6, l7, l8, l9, .int l10, l11, l12] [] h Q = zWp d zi_187 none 198 [l0, l1, l2, l3, l4, l5, l6, l7, l8, l9, .int l10, l11, l12] [.int l10] h Q) ∧
    (∀ (d : Nat) (l0 : Value) (l1 : Value) (l2 : Value) (l3 : Value) (l4 : Value) (l5 : Value) (l6 : Value) (l7 : Value) (l8 : Value) (l9 : Value) (l10 : Value) (l11 : Value) (l12 : Value) (x0 : Int32) (h : zMm) (Q : Option Value → zMm → Prop), zWp d zi_187 none 198 [l0, l1, l2, l3, l4, l5, l6, l7, l8, l9, l10, l11, l12] [.int x0] h Q = Q (some (.int x0)) h) :=
  ⟨(fun d l0 l1 l2 l3 l4 l5 l6 l7 l8 l9 l10 l11 l12  h Q => zr_iload_n rfl rfl),
   (fun d l0 l1 l2 l3 l4 l5 l6 l7 l8 l9 l10 l11 l12 x0 h Q => zr_i2l rfl),
   (fun d l0 l1 l2 l3 l4 l5 l6 l7 l8 l9 l10 l11 l12 x0 h Q => zr_lconst rfl (by decide)),
   (fun d l0 l1 l2 l3 l4 l5 l6 l7 l8 l9 l10 l11 l12 x1 x0 h Q => zr_bipush rfl (by decide)),
   (fun d l0 l1 l2 l3 l4 l5 l6 l7 l8 l9 l10 l11 l12 x2 x1 x0 h Q => zr_aload_n rfl rfl),
   (fun d l0 l1 l2 l3 l4 l5 l6 l7 l8 l9 l10 l11 l12 x3 x2 x1 x0 I L P Q p0 => zr_getI rfl lf_10_172 (fun _ _ _ => rfl) p0),
   (fun d l0 l1 l2 l3 l4 l5 l6 l7 l8 l9 l10 l11 l12 x3 x2 x1 x0 h Q => zr_isub rfl),
   (fun d l0 l1 l2 l3 l4 l5 l6 l7 l8 l9 l10 l11 l12 x2 x1 x0 h Q => zr_i2l rfl),
   (fun d l0 l1 l2 l3 l4 l5 l6 l7 l8 l9 l10 l11 l12 x2 x1 x0 h Q => zr_sta (as := [.long x2, .long x1, .long x0]) (rest := []) rfl lm_10_110 (by decide) m_122 kd_122 rfl (Nat.le_of_ble_eq_true rfl)),
   (fun d l0 l1 l2 l3 l4 l5 l6 l7 l8 l9 l10 l11 l12 x0 h Q => zr_if_eq rfl (by decide)),
   (fun d l0 l1 l2 l3 l4 l5 l6 l7 l8 l9 l10 l11 l12  h Q => zr_iload_n rfl rfl),
   (fun d l0 l1 l2 l3 l4 l5 l6 l7 l8 l9 l10 l11 l12 x0 h Q => zr_i2l rfl),
   (fun d l0 l1 l2 l3 l4 l5 l6 l7 l8 l9 l10 l11 l12 x0 h Q => zr_lconst rfl (by decide)),
   (fun d l0 l1 l2 l3 l4 l5 l6 l7 l8 l9 l10 l11 l12 x1 x0 h Q => zr_lconst rfl (by decide)),
   (fun d l0 l1 l2 l3 l4 l5 l6 l7 l8 l9 l10 l11 l12 x2 x1 x0 h Q => zr_sta (as := [.long x2, .long x1, .long x0]) (rest := []) rfl lm_10_110 (by decide) m_122 kd_122 rfl (Nat.le_of_ble_eq_true rfl)),
   (fun d l0 l1 l2 l3 l4 l5 l6 l7 l8 l9 l10 l11 l12 x0 h Q => zr_if_ne rfl (by decide)),
   (fun d l0 l1 l2 l3 l4 l5 l6 l7 l8 l9 l10 l11 l12  h Q => zr_iconst rfl (by decide)),
   (fun d l0 l1 l2 l3 l4 l5 l6 l7 l8 l9 l10 l11 l12 x0 h Q => zr_iret rfl rfl),
   (fun d l0 l1 l2 l3 l4 l5 l6 l7 l8 l9 l10 l11 l12  h Q => zr_aload_n rfl rfl),
   (fun d l0 l1 l2 l3 l4 l5 l6 l7 l8 l9 l10 l11 l12 x0 I L P Q p0 => zr_getI rfl lf_10_84 (fun _ _ _ => rfl) p0),
   (fun d l0 l1 l2 l3 l4 l5 l6 l7 l8 l9 l10 l11 l12 x0 h Q => zr_istore (n := 4) rfl (Nat.le_of_ble_eq_true rfl) rfl),
   (fun d l0 l1 l2 l3 l4 l5 l6 l7 l8 l9 l10 l11 l12  h Q => zr_aload_n rfl rfl),
   (fun d l0 l1 l2 l3 l4 l5 l6 l7 l8 l9 l10 l11 l12 x0 I L P Q p0 => zr_getI rfl lf_10_87 (fun _ _ _ => rfl) p0),
   (fun d l0 l1 l2 l3 l4 l5 l6 l7 l8 l9 l10 l11 l12 x0 h Q => zr_istore (n := 5) rfl (Nat.le_of_ble_eq_true rfl) rfl),
   (fun d l0 l1 l2 l3 l4 l5 l6 l7 l8 l9 l10 l11 l12  h Q => zr_aload_n rfl rfl),
   (fun d l0 l1 l2 l3 l4 l5 l6 l7 l8 l9 l10 l11 l12 x0 I L P Q p0 => zr_getI rfl lf_10_172 (fun _ _ _ => rfl) p0),
   (fun d l0 l1 l2 l3 l4 l5 l6 l7 l8 l9 l10 l11 l12 x0 h Q => zr_istore (n := 6) rfl (Nat.le_of_ble_eq_true rfl) rfl),
   (fun d l0 l1 l2 l3 l4 l5 l6 l7 l8 l9 l10 l11 l12  h Q => zr_aload_n rfl rfl),
   (fun d l0 l1 l2 l3 l4 l5 l6 l7 l8 l9 l10 l11 l12 x0 I L P Q p0 => zr_getI rfl lf_10_310 (fun _ _ _ => rfl) p0),
   (fun d l0 l1 l2 l3 l4 l5 l6 l7 l8 l9 l10 l11 l12 x0 h Q => zr_istore (n := 7) rfl (Nat.le_of_ble_eq_true rfl) rfl),
   (fun d l0 l1 l2 l3 l4 l5 l6 l7 l8 l9 l10 l11 l12  h Q => zr_aload_n rfl rfl),
   (fun d l0 l1 l2 l3 l4 l5 l6 l7 l8 l9 l10 l11 l12 x0 I L P Q p0 => zr_getI rfl lf_10_90 (fun _ _ _ => rfl) p0),
   (fun d l0 l1 l2 l3 l4 l5 l6 l7 l8 l9 l10 l11 l12 x0 h Q => zr_istore (n := 8) rfl (Nat.le_of_ble_eq_true rfl) rfl),
   (fun d l0 l1 l2 l3 l4 l5 l6 l7 l8 l9 l10 l11 l12  h Q => zr_bipush rfl (by decide)),
   (fun d l0 l1 l2 l3 l4 l5 l6 l7 l8 l9 l10 l11 l12 x0 h Q => zr_istore (n := 9) rfl (Nat.le_of_ble_eq_true rfl) rfl),
   (fun d l0 l1 l2 l3 l4 l5 l6 l7 l8 l9 l10 l11 l12  h Q => zr_bipush rfl (by decide)),
   (fun d l0 l1 l2 l3 l4 l5 l6 l7 l8 l9 l10 l11 l12 x0 h Q => zr_istore (n := 10) rfl (Nat.le_of_ble_eq_true rfl) rfl),
   (fun d l0 l1 l2 l3 l4 l5 l6 l7 l8 l9 l10 l11 l12  h Q => zr_iload rfl rfl),
   (fun d l0 l1 l2 l3 l4 l5 l6 l7 l8 l9 l10 l11 l12 x0 h Q => zr_istore (n := 11) rfl (Nat.le_of_ble_eq_true rfl) rfl),
   (fun d l0 l1 l2 l3 l4 l5 l6 l7 l8 l9 l10 l11 l12 x0 h Q => zr_iload rfl rfl),
   (fun d l0 l1 l2 l3 l4 l5 l6 l7 l8 l9 l10 l11 l12 x1 x0 h Q => zr_iload_n rfl rfl),
   (fun d l0 l1 l2 l3 l4 l5 l6 l7 l8 l9 l10 l11 l12 x2 x1 x0 h Q => zr_iadd rfl),
   (fun d l0 l1 l2 l3 l4 l5 l6 l7 l8 l9 l10 l11 l12 x1 x0 h Q => zr_ic_ge rfl (by decide)),
   (fun d l0 l1 l2 l3 l4 l5 l6 l7 l8 l9 l10 l11 l12  h Q => zr_aload_n rfl rfl),
   (fun d l0 l1 l2 l3 l4 l5 l6 l7 l8 l9 l10 l11 l12 x0 h Q => zr_iload_n rfl rfl),
   (fun d l0 l1 l2 l3 l4 l5 l6 l7 l8 l9 l10 l11 l12 x1 x0 I L P Q p0 => zr_putI rfl lf_10_295 (by decide) rfl p0),
   (fun d l0 l1 l2 l3 l4 l5 l6 l7 l8 l9 l10 l11 l12  h Q => zr_iconst rfl (by decide)),
   (fun d l0 l1 l2 l3 l4 l5 l6 l7 l8 l9 l10 l11 l12 x0 h Q => zr_istore (n := 12) rfl (Nat.le_of_ble_eq_true rfl) rfl),
   (fun d l0 l1 l2 l3 l4 l5 l6 l7 l8 l9 l10 l11 l12 x0 h Q => zr_iload_n rfl rfl),
   (fun d l0 l1 l2 l3 l4 l5 l6 l7 l8 l9 l10 l11 l12 x1 x0 h Q => zr_ic_ge rfl (by decide)),
   (fun d l0 l1 l2 l3 l4 l5 l6 l7 l8 l9 l10 l11 l12  h Q => zr_aload_n rfl rfl),
   (fun d l0 l1 l2 l3 l4 l5 l6 l7 l8 l9 l10 l11 l12 x0 h Q => zr_aload_n rfl rfl),
   (fun d l0 l1 l2 l3 l4 l5 l6 l7 l8 l9 l10 l11 l12 x1 x0 I L P Q p0 => zr_getI rfl lf_10_301 (fun _ _ _ => rfl) p0),
   (fun d l0 l1 l2 l3 l4 l5 l6 l7 l8 l9 l10 l11 l12 x1 x0 h Q => zr_iconst rfl (by decide)),
   (fun d l0 l1 l2 l3 l4 l5 l6 l7 l8 l9 l10 l11 l12 x2 x1 x0 h Q => zr_iload rfl rfl),
   (fun d l0 l1 l2 l3 l4 l5 l6 l7 l8 l9 l10 l11 l12 x3 x2 x1 x0 h Q => zr_ishl rfl),
   (fun d l0 l1 l2 l3 l4 l5 l6 l7 l8 l9 l10 l11 l12 x2 x1 x0 h Q => zr_ior rfl),
   (fun d l0 l1 l2 l3 l4 l5 l6 l7 l8 l9 l10 l11 l12 x1 x0 I L P Q p0 => zr_vir (as := [.int x1]) (rest := []) rfl lm_10_315 m_185 kd_185 rfl (Nat.le_of_ble_eq_true rfl) p0),
   (fun d l0 l1 l2 l3 l4 l5 l6 l7 l8 l9 l10 l11 l12  h Q => zr_iinc (n := 12) (kc := 1) rfl rfl (Nat.le_of_ble_eq_true rfl) rfl (by decide)),
   (fun d l0 l1 l2 l3 l4 l5 l6 l7 l8 l9 l10 l11 l12  h Q => zr_goto rfl (by decide)),
   (fun d l0 l1 l2 l3 l4 l5 l6 l7 l8 l9 l10 l11 l12  h Q => zr_aload_n rfl rfl),
   (fun d l0 l1 l2 l3 l4 l5 l6 l7 l8 l9 l10 l11 l12 x0 I L P Q p0 => zr_getI rfl lf_10_84 (fun _ _ _ => rfl) p0),
   (fun d l0 l1 l2 l3 l4 l5 l6 l7 l8 l9 l10 l11 l12 x0 h Q => zr_iload rfl rfl),
   (fun d l0 l1 l2 l3 l4 l5 l6 l7 l8 l9 l10 l11 l12 x1 x0 h Q => zr_ic_le rfl (by decide)),
   (fun d l0 l1 l2 l3 l4 l5 l6 l7 l8 l9 l10 l11 l12  h Q => zr_iload rfl rfl),
   (fun d l0 l1 l2 l3 l4 l5 l6 l7 l8 l9 l10 l11 l12 x0 h Q => zr_goto rfl (by decide)),
   (fun d l0 l1 l2 l3 l4 l5 l6 l7 l8 l9 l10 l11 l12  h Q => zr_iload rfl rfl),
   (fun d l0 l1 l2 l3 l4 l5 l6 l7 l8 l9 l10 l11 l12 x0 h Q => zr_istore (n := 9) rfl (Nat.le_of_ble_eq_true rfl) rfl),
   (fun d l0 l1 l2 l3 l4 l5 l6 l7 l8 l9 l10 l11 l12  h Q => zr_aload_n rfl rfl),
   (fun d l0 l1 l2 l3 l4 l5 l6 l7 l8 l9 l10 l11 l12 x0 I L P Q p0 => zr_getI rfl lf_10_84 (fun _ _ _ => rfl) p0),
   (fun d l0 l1 l2 l3 l4 l5 l6 l7 l8 l9 l10 l11 l12 x0 h Q => zr_iload rfl rfl),
   (fun d l0 l1 l2 l3 l4 l5 l6 l7 l8 l9 l10 l11 l12 x1 x0 h Q => zr_ic_le rfl (by decide)),
   (fun d l0 l1 l2 l3 l4 l5 l6 l7 l8 l9 l10 l11 l12  h Q => zr_aload_n rfl rfl),
   (fun d l0 l1 l2 l3 l4 l5 l6 l7 l8 l9 l10 l11 l12 x0 I L P Q p0 => zr_getI rfl lf_10_84 (fun _ _ _ => rfl) p0),
   (fun d l0 l1 l2 l3 l4 l5 l6 l7 l8 l9 l10 l11 l12 x0 h Q => zr_goto rfl (by decide)),
   (fun d l0 l1 l2 l3 l4 l5 l6 l7 l8 l9 l10 l11 l12  h Q => zr_iload rfl rfl),
   (fun d l0 l1 l2 l3 l4 l5 l6 l7 l8 l9 l10 l11 l12 x0 h Q => zr_istore (n := 10) rfl (Nat.le_of_ble_eq_true rfl) rfl),
   (fun d l0 l1 l2 l3 l4 l5 l6 l7 l8 l9 l10 l11 l12  h Q => zr_aload_n rfl rfl),
   (fun d l0 l1 l2 l3 l4 l5 l6 l7 l8 l9 l10 l11 l12 x0 h Q => zr_iload rfl rfl),
   (fun d l0 l1 l2 l3 l4 l5 l6 l7 l8 l9 l10 l11 l12 x1 x0 I L P Q p0 => zr_putI rfl lf_10_84 (by decide) rfl p0),
   (fun d l0 l1 l2 l3 l4 l5 l6 l7 l8 l9 l10 l11 l12  h Q => zr_aload_n rfl rfl),
   (fun d l0 l1 l2 l3 l4 l5 l6 l7 l8 l9 l10 l11 l12 x0 h Q => zr_iload rfl rfl),
   (fun d l0 l1 l2 l3 l4 l5 l6 l7 l8 l9 l10 l11 l12 x1 x0 I L P Q p0 => zr_putI rfl lf_10_87 (by decide) rfl p0),
   (fun d l0 l1 l2 l3 l4 l5 l6 l7 l8 l9 l10 l11 l12  h Q => zr_aload_n rfl rfl),
   (fun d l0 l1 l2 l3 l4 l5 l6 l7 l8 l9 l10 l11 l12 x0 h Q => zr_iload rfl rfl),
   (fun d l0 l1 l2 l3 l4 l5 l6 l7 l8 l9 l10 l11 l12 x1 x0 I L P Q p0 => zr_putI rfl lf_10_172 (by decide) rfl p0),
   (fun d l0 l1 l2 l3 l4 l5 l6 l7 l8 l9 l10 l11 l12  h Q => zr_iinc (n := 11) (kc := 1) rfl rfl (Nat.le_of_ble_eq_true rfl) rfl (by decide)),
   (fun d l0 l1 l2 l3 l4 l5 l6 l7 l8 l9 l10 l11 l12  h Q => zr_goto rfl (by decide)),
   (fun d l0 l1 l2 l3 l4 l5 l6 l7 l8 l9 l10 l11 l12  h Q => zr_aload_n rfl rfl),
   (fun d l0 l1 l2 l3 l4 l5 l6 l7 l8 l9 l10 l11 l12 x0 h Q => zr_iload rfl rfl),
   (fun d l0 l1 l2 l3 l4 l5 l6 l7 l8 l9 l10 l11 l12 x1 x0 I L P Q p0 => zr_putI rfl lf_10_310 (by decide) rfl p0),
   (fun d l0 l1 l2 l3 l4 l5 l6 l7 l8 l9 l10 l11 l12  h Q => zr_aload_n rfl rfl),
   (fun d l0 l1 l2 l3 l4 l5 l6 l7 l8 l9 l10 l11 l12 x0 h Q => zr_iload rfl rfl),
   (fun d l0 l1 l2 l3 l4 l5 l6 l7 l8 l9 l10 l11 l12 x1 x0 I L P Q p0 => zr_putI rfl lf_10_90 (by decide) rfl p0),
   (fun d l0 l1 l2 l3 l4 l5 l6 l7 l8 l9 l10 l11 l12  h Q => zr_iload_n rfl rfl),
   (fun d l0 l1 l2 l3 l4 l5 l6 l7 l8 l9 l10 l11 l12 x0 h Q => zr_if_ne rfl (by decide)),
   (fun d l0 l1 l2 l3 l4 l5 l6 l7 l8 l9 l10 l11 l12  h Q => zr_iload rfl rfl),
   (fun d l0 l1 l2 l3 l4 l5 l6 l7 l8 l9 l10 l11 l12 x0 h Q => zr_goto rfl (by decide)),
   (fun d l0 l1 l2 l3 l4 l5 l6 l7 l8 l9 l10 l11 l12  h Q => zr_iload rfl rfl),
   (fun d l0 l1 l2 l3 l4 l5 l6 l7 l8 l9 l10 l11 l12 x0 h Q => zr_iret rfl rfl)⟩
theorem H_X10_best_71 : ∀ (d : Nat) (l0 : Value) (l1 : Value) (l2 : Value) (l3 : Value) (l4 : Value) (l5 : Value) (l6 : Value) (l7 : Value) (l8 : Value) (l9 : Value) (l10 : Value) (l11 : Int32) (l12 : Value)  (h : zMm) (Q : Option Value → zMm → Prop), zWp d zi_187 none 71 [l0, l1, l2, l3, l4, l5, l6, l7, l8, l9, l10, .int l11, l12] [] h Q = zWp d zi_187 none 73 [l0, l1, l2, l3, l4, l5, l6, l7, l8, l9, l10, .int l11, l12] [.int l11] h Q := fun d l0 l1 l2 l3 l4 l5 l6 l7 l8 l9 l10 l11 l12  h Q => zr_iload rfl rfl
theorem H_X10_best_88 : ∀ (d : Nat) (l0 : Value) (l1 : Value) (l2 : Value) (l3 : Value) (l4 : Value) (l5 : Value) (l6 : Value) (l7 : Value) (l8 : Value) (l9 : Value) (l10 : Value) (l11 : Value) (l12 : Int32)  (h : zMm) (Q : Option Value → zMm → Prop), zWp d zi_187 none 88 [l0, l1, l2, l3, l4, l5, l6, l7, l8, l9, l10, l11, .int l12] [] h Q = zWp d zi_187 none 90 [l0, l1, l2, l3, l4, l5, l6, l7, l8, l9, l10, l11, .int l12] [.int l12] h Q := fun d l0 l1 l2 l3 l4 l5 l6 l7 l8 l9 l10 l11 l12  h Q => zr_iload rfl rfl
theorem E_X10_rival : ∀ (d : Nat) (a0 : Nat) (a1 : Int32) (h : zMm) (Q : Option Value → zMm → Prop), zWM (d + 1) 188 [.ref a0, .int a1] h Q = zWp d zi_188 none 0 [.ref a0, .int a1, .retAddr 0, .retAddr 0] [] h Q := fun d a0 a1 h Q => zW_M m_188 (Nat.le_of_ble_eq_true rfl) rfl
set_option maxRecDepth 100000 in
theorem R_X10_rival :
    (∀ (d : Nat) (l0 : Nat) (l1 : Value) (l2 : Value) (l3 : Value)  (h : zMm) (Q : Option Value → zMm → Prop), zWp d zi_188 none 0 [.ref l0, l1, l2, l3] [] h Q = zWp d zi_188 none 1 [.ref l0, l1, l2, l3] [.ref l0] h Q) ∧
    (∀ (d : Nat) (l0 : Value) (l1 : Int32) (l2 : Value) (l3 : Value) (x0 : Nat) (h : zMm) (Q : Option Value → zMm → Prop), zWp d zi_188 none 1 [l0, .int l1, l2, l3] [.ref x0] h Q = zWp d zi_188 none 2 [l0, .int l1, l2, l3] [.int l1, .ref x0] h Q) ∧
    (∀ (d : Nat) (l0 : Value) (l1 : Value) (l2 : Value) (l3 : Value) (x1 : Int32) (x0 : Nat) (I : Nat → Nat → Int32) (L : Nat → Nat → Int64) (P : Nat → Nat → Option Nat) (Q : Option Value → zMm → Prop), zSH[x0]? = some (.inl 10) → zWp d zi_188 none 2 [l0, l1, l2, l3] [.int x1, .ref x0] (zSH, I, L, P) Q = zWp d zi_188 none 5 [l0, l1, l2, l3] [] (zSH, zw I x0 (upd (I x0) 37 x1), L, P) Q) ∧
    (∀ (d : Nat) (l0 : Value) (l1 : Value) (l2 : Value) (l3 : Value)  (h : zMm) (Q : Option Value → zMm → Prop), zWp d zi_188 none 5 [l0, l1, l2, l3] [] h Q = zWp d zi_188 none 6 [l0, l1, l2, l3] [.int 0] h Q) ∧
    (∀ (d : Nat) (l0 : Value) (l1 : Int32) (l2 : Value) (l3 : Value) (x0 : Int32) (h : zMm) (Q : Option Value → zMm → Prop), zWp d zi_188 none 6 [l0, .int l1, l2, l3] [.int x0] h Q = zWp d zi_188 none 7 [l0, .int l1, .int x0, l3] [] h Q) ∧
    (∀ (d : Nat) (l0 : Value) (l1 : Value) (l2 : Value) (l3 : Value)  (h : zMm) (Q : Option Value → zMm → Prop), zWp d zi_188 none 7 [l0, l1, l2, l3] [] h Q = zWp d zi_188 none 8 [l0, l1, l2, l3] [.int 0] h Q) ∧
    (∀ (d : Nat) (l0 : Value) (l1 : Value) (l2 : Int32) (l3 : Value) (x0 : Int32) (h : zMm) (Q : Option Value → zMm → Prop), zWp d zi_188 none 8 [l0, l1, .int l2, l3] [.int x0] h Q = zWp d zi_188 none 9 [l0, l1, .int l2, .int x0] [] h Q) ∧
    (∀ (d : Nat) (l0 : Value) (l1 : Value) (l2 : Value) (l3 : Value) (x0 : Int32) (h : zMm) (Q : Option Value → zMm → Prop), zWp d zi_188 none 10 [l0, l1, l2, l3] [.int x0] h Q = zWp d zi_188 none 12 [l0, l1, l2, l3] [.int 99, .int x0] h Q) ∧
    (∀ (d : Nat) (l0 : Value) (l1 : Value) (l2 : Value) (l3 : Value) (x1 : Int32) (x0 : Int32) (h : zMm) (Q : Option Value → zMm → Prop), zWp d zi_188 none 12 [l0, l1, l2, l3] [.int x1, .int x0] h Q = if x1 < x0 then zWp d zi_188 none 49 [l0, l1, l2, l3] [] h Q else zWp d zi_188 none 15 [l0, l1, l2, l3] [] h Q) ∧
    (∀ (d : Nat) (l0 : Value) (l1 : Value) (l2 : Int32) (l3 : Value)  (h : zMm) (Q : Option Value → zMm → Prop), zWp d zi_188 none 15 [l0, l1, .int l2, l3] [] h Q = zWp d zi_188 none 16 [l0, l1, .int l2, l3] [.int l2] h Q) ∧
    (∀ (d : Nat) (l0 : Nat) (l1 : Value) (l2 : Value) (l3 : Value) (x0 : Int32) (h : zMm) (Q : Option Value → zMm → Prop), zWp d zi_188 none 16 [.ref l0, l1, l2, l3] [.int x0] h Q = zWp d zi_188 none 17 [.ref l0, l1, l2, l3] [.ref l0, .int x0] h Q) ∧
    (∀ (d : Nat) (l0 : Value) (l1 : Value) (l2 : Value) (l3 : Value) (x1 : Nat) (x0 : Int32) (I : Nat → Nat → Int32) (L : Nat → Nat → Int64) (P : Nat → Nat → Option Nat) (Q : Option Value → zMm → Prop), zSH[x1]? = some (.inl 10) → zWp d zi_188 none 17 [l0, l1, l2, l3] [.ref x1, .int x0] (zSH, I, L, P) Q = zWp d zi_188 none 20 [l0, l1, l2, l3] [.int (I x1 6), .int x0] (zSH, I, L, P) Q) ∧
    (∀ (d : Nat) (l0 : Value) (l1 : Value) (l2 : Value) (l3 : Value) (x1 : Int32) (x0 : Int32) (h : zMm) (Q : Option Value → zMm → Prop), zWp d zi_188 none 20 [l0, l1, l2, l3] [.int x1, .int x0] h Q = if x0 < x1 then zWp d zi_188 none 25 [l0, l1, l2, l3] [] h Q else zWp d zi_188 none 23 [l0, l1, l2, l3] [] h Q) ∧
    (∀ (d : Nat) (l0 : Value) (l1 : Value) (l2 : Value) (l3 : Int32)  (h : zMm) (Q : Option Value → zMm → Prop), zWp d zi_188 none 23 [l0, l1, l2, .int l3] [] h Q = zWp d zi_188 none 24 [l0, l1, l2, .int l3] [.int l3] h Q) ∧
    (∀ (d : Nat) (l0 : Value) (l1 : Value) (l2 : Value) (l3 : Value) (x0 : Int32) (h : zMm) (Q : Option Value → zMm → Prop), zWp d zi_188 none 24 [l0, l1, l2, l3] [.int x0] h Q = Q (some (.int x0)) h) ∧
    (∀ (d : Nat) (l0 : Value) (l1 : Value) (l2 : Int32) (l3 : Value)  (h : zMm) (Q : Option Value → zMm → Prop), zWp d zi_188 none 25 [l0, l1, .int l2, l3] [] h Q = zWp d zi_188 none 26 [l0, l1, .int l2, l3] [.int l2] h Q) ∧
    (∀ (d : Nat) (l0 : Nat) (l1 : Value) (l2 : Value) (l3 : Value) (x0 : Int32) (h : zMm) (Q : Option Value → zMm → Prop), zWp d zi_188 none 26 [.ref l0, l1, l2, l3] [.int x0] h Q = zWp d zi_188 none 27 [.ref l0, l1, l2, l3] [.ref l0, .int x0] h Q) ∧
    (∀ (d : Nat) (l0 : Value) (l1 : Value) (l2 : Value) (l3 : Value) (x1 : Nat) (x0 : Int32) (h : zMm) (Q : Option Value → zMm → Prop), zWp d zi_188 none 27 [l0, l1, l2, l3] [.ref x1, .int x0] h Q = zWp d zi_188 none 29 [l0, l1, l2, l3] [.int 12, .ref x1, .int x0] h Q) ∧
    (∀ (d : Nat) (l0 : Value) (l1 : Value) (l2 : Value) (l3 : Value) (x2 : Int32) (x1 : Nat) (x0 : Int32) (I : Nat → Nat → Int32) (L : Nat → Nat → Int64) (P : Nat → Nat → Option Nat) (Q : Option Value → zMm → Prop), zSH[x1]? = some (.inl 10) → zWp d zi_188 none 29 [l0, l1, l2, l3] [.int x2, .ref x1, .int x0] (zSH, I, L, P) Q = zWM d 183 [.ref x1, .int x2] (zSH, I, L, P) (fun r h1 => zWp d zi_188 none 32 [l0, l1, l2, l3] (r.toList ++ [.int x0]) h1 Q)) ∧
    (∀ (d : Nat) (l0 : Value) (l1 : Value) (l2 : Value) (l3 : Value) (x1 : Int32) (x0 : Int32) (h : zMm) (Q : Option Value → zMm → Prop), zWp d zi_188 none 32 [l0, l1, l2, l3] [.int x1, .int x0] h Q = zWp d zi_188 none 33 [l0, l1, l2, l3] [.int 4, .int x1, .int x0] h Q) ∧
    (∀ (d : Nat) (l0 : Value) (l1 : Value) (l2 : Value) (l3 : Value) (x2 : Int32) (x1 : Int32) (x0 : Int32) (h : zMm) (Q : Option Value → zMm → Prop), zWp d zi_188 none 33 [l0, l1, l2, l3] [.int x2, .int x1, .int x0] h Q = if x1 ≤ x2 then zWp d zi_188 none 40 [l0, l1, l2, l3] [.int x0] h Q else zWp d zi_188 none 36 [l0, l1, l2, l3] [.int x0] h Q) ∧
    (∀ (d : Nat) (l0 : Value) (l1 : Value) (l2 : Value) (l3 : Value) (x0 : Int32) (h : zMm) (Q : Option Value → zMm → Prop), zWp d zi_188 none 36 [l0, l1, l2, l3] [.int x0] h Q = zWp d zi_188 none 37 [l0, l1, l2, l3] [.int 1, .int x0] h Q) ∧
    (∀ (d : Nat) (l0 : Value) (l1 : Value) (l2 : Value) (l3 : Value) (x1 : Int32) (x0 : Int32) (h : zMm) (Q : Option Value → zMm → Prop), zWp d zi_188 none 37 [l0, l1, l2, l3] [.int x1, .int x0] h Q = zWp d zi_188 none 41 [l0, l1, l2, l3] [.int x1, .int x0] h Q) ∧
    (∀ (d : Nat) (l0 : Value) (l1 : Value) (l2 : Value) (l3 : Value) (x0 : Int32) (h : zMm) (Q : Option Value → zMm → Prop), zWp d zi_188 none 40 [l0, l1, l2, l3] [.int x0] h Q = zWp d zi_188 none 41 [l0, l1, l2, l3] [.int 0, .int x0] h Q) ∧
    (∀ (d : Nat) (l0 : Value) (l1 : Value) (l2 : Value) (l3 : Value) (x1 : Int32) (x0 : Int32) (h : zMm) (Q : Option Value → zMm → Prop), zWp d zi_188 none 41 [l0, l1, l2, l3] [.int x1, .int x0] h Q = zWp d zi_188 none 42 [l0, l1, l2, l3] [.int (x0 + x1)] h Q) ∧
    (∀ (d : Nat) (l0 : Value) (l1 : Int32) (l2 : Value) (l3 : Value) (x0 : Int32) (h : zMm) (Q : Option Value → zMm → Prop), zWp d zi_188 none 42 [l0, .int l1, l2, l3] [.int x0] h Q = zWp d zi_188 none 43 [l0, .int l1, .int x0, l3] [] h Q) ∧
    (∀ (d : Nat) (l0 : Value) (l1 : Value) (l2 : Int32) (l3 : Int32)  (h : zMm) (Q : Option Value → zMm → Prop), zWp d zi_188 none 43 [l0, l1, .int l2, .int l3] [] h Q = zWp d zi_188 none 46 [l0, l1, .int l2, .int (l3 + 1)] [] h Q) ∧
    (∀ (d : Nat) (l0 : Value) (l1 : Value) (l2 : Value) (l3 : Value)  (h : zMm) (Q : Option Value → zMm → Prop), zWp d zi_188 none 46 [l0, l1, l2, l3] [] h Q = zWp d zi_188 none 9 [l0, l1, l2, l3] [] h Q) ∧
    (∀ (d : Nat) (l0 : Value) (l1 : Value) (l2 : Value) (l3 : Value)  (h : zMm) (Q : Option Value → zMm → Prop), zWp d zi_188 none 49 [l0, l1, l2, l3] [] h Q = zWp d zi_188 none 51 [l0, l1, l2, l3] [.int (-2)] h Q) ∧
    (∀ (d : Nat) (l0 : Value) (l1 : Value) (l2 : Value) (l3 : Value) (x0 : Int32) (h : zMm) (Q : Option Value → zMm → Prop), zWp d zi_188 none 51 [l0, l1, l2, l3] [.int x0] h Q = Q (some (.int x0)) h) :=
  ⟨(fun d l0 l1 l2 l3  h Q => zr_aload_n rfl rfl),
   (fun d l0 l1 l2 l3 x0 h Q => zr_iload_n rfl rfl),
   (fun d l0 l1 l2 l3 x1 x0 I L P Q p0 => zr_putI rfl lf_10_295 (by decide) rfl p0),
   (fun d l0 l1 l2 l3  h Q => zr_iconst rfl (by decide)),
   (fun d l0 l1 l2 l3 x0 h Q => zr_istore_n (n := 2) rfl (Nat.le_of_ble_eq_true rfl) rfl),
   (fun d l0 l1 l2 l3  h Q => zr_iconst rfl (by decide)),
   (fun d l0 l1 l2 l3 x0 h Q => zr_istore_n (n := 3) rfl (Nat.le_of_ble_eq_true rfl) rfl),
   (fun d l0 l1 l2 l3 x0 h Q => zr_bipush rfl (by decide)),
   (fun d l0 l1 l2 l3 x1 x0 h Q => zr_ic_gt rfl (by decide)),
   (fun d l0 l1 l2 l3  h Q => zr_iload_n rfl rfl),
   (fun d l0 l1 l2 l3 x0 h Q => zr_aload_n rfl rfl),
   (fun d l0 l1 l2 l3 x1 x0 I L P Q p0 => zr_getI rfl lf_10_99 (fun _ _ _ => rfl) p0),
   (fun d l0 l1 l2 l3 x1 x0 h Q => zr_ic_lt rfl (by decide)),
   (fun d l0 l1 l2 l3  h Q => zr_iload_n rfl rfl),
   (fun d l0 l1 l2 l3 x0 h Q => zr_iret rfl rfl),
   (fun d l0 l1 l2 l3  h Q => zr_iload_n rfl rfl),
   (fun d l0 l1 l2 l3 x0 h Q => zr_aload_n rfl rfl),
   (fun d l0 l1 l2 l3 x1 x0 h Q => zr_bipush rfl (by decide)),
   (fun d l0 l1 l2 l3 x2 x1 x0 I L P Q p0 => zr_vir (as := [.int x2]) (rest := [.int x0]) rfl lm_10_307 m_183 kd_183 rfl (Nat.le_of_ble_eq_true rfl) p0),
   (fun d l0 l1 l2 l3 x1 x0 h Q => zr_iconst rfl (by decide)),
   (fun d l0 l1 l2 l3 x2 x1 x0 h Q => zr_ic_le rfl (by decide)),
   (fun d l0 l1 l2 l3 x0 h Q => zr_iconst rfl (by decide)),
   (fun d l0 l1 l2 l3 x1 x0 h Q => zr_goto rfl (by decide)),
   (fun d l0 l1 l2 l3 x0 h Q => zr_iconst rfl (by decide)),
   (fun d l0 l1 l2 l3 x1 x0 h Q => zr_iadd rfl),
   (fun d l0 l1 l2 l3 x0 h Q => zr_istore_n (n := 2) rfl (Nat.le_of_ble_eq_true rfl) rfl),
   (fun d l0 l1 l2 l3  h Q => zr_iinc (n := 3) (kc := 1) rfl rfl (Nat.le_of_ble_eq_true rfl) rfl (by decide)),
   (fun d l0 l1 l2 l3  h Q => zr_goto rfl (by decide)),
   (fun d l0 l1 l2 l3  h Q => zr_bipush rfl (by decide)),
   (fun d l0 l1 l2 l3 x0 h Q => zr_iret rfl rfl)⟩
theorem H_X10_rival_9 : ∀ (d : Nat) (l0 : Value) (l1 : Value) (l2 : Value) (l3 : Int32)  (h : zMm) (Q : Option Value → zMm → Prop), zWp d zi_188 none 9 [l0, l1, l2, .int l3] [] h Q = zWp d zi_188 none 10 [l0, l1, l2, .int l3] [.int l3] h Q := fun d l0 l1 l2 l3  h Q => zr_iload_n rfl rfl
theorem E_X10_nightIs : ∀ (d : Nat) (a0 : Nat) (a1 : Int32) (h : zMm) (Q : Option Value → zMm → Prop), zWM (d + 1) 189 [.ref a0, .int a1] h Q = zWp d zi_189 none 0 [.ref a0, .int a1] [] h Q := fun d a0 a1 h Q => zW_M m_189 (Nat.le_of_ble_eq_true rfl) rfl
set_option maxRecDepth 100000 in
theorem R_X10_nightIs :
    (∀ (d : Nat) (l0 : Value) (l1 : Int32)  (h : zMm) (Q : Option Value → zMm → Prop), zWp d zi_189 none 0 [l0, .int l1] [] h Q = zWp d zi_189 none 1 [l0, .int l1] [.int l1] h Q) ∧
    (∀ (d : Nat) (l0 : Value) (l1 : Value) (x0 : Int32) (h : zMm) (Q : Option Value → zMm → Prop), zWp d zi_189 none 1 [l0, l1] [.int x0] h Q = zWM d 206 [.int x0] h (fun r h1 => zWp d zi_189 none 4 [l0, l1] (r.toList ++ []) h1 Q)) ∧
    (∀ (d : Nat) (l0 : Value) (l1 : Value) (x0 : Int32) (h : zMm) (Q : Option Value → zMm → Prop), zWp d zi_189 none 4 [l0, l1] [.int x0] h Q = if x0 = 0 then zWp d zi_189 none 7 [l0, l1] [] h Q else zWp d zi_189 none 11 [l0, l1] [] h Q) ∧
    (∀ (d : Nat) (l0 : Value) (l1 : Value)  (h : zMm) (Q : Option Value → zMm → Prop), zWp d zi_189 none 7 [l0, l1] [] h Q = zWp d zi_189 none 8 [l0, l1] [.int (-1)] h Q) ∧
    (∀ (d : Nat) (l0 : Value) (l1 : Value) (x0 : Int32) (h : zMm) (Q : Option Value → zMm → Prop), zWp d zi_189 none 8 [l0, l1] [.int x0] h Q = zWp d zi_189 none 42 [l0, l1] [.int x0] h Q) ∧
    (∀ (d : Nat) (l0 : Nat) (l1 : Value)  (h : zMm) (Q : Option Value → zMm → Prop), zWp d zi_189 none 11 [.ref l0, l1] [] h Q = zWp d zi_189 none 12 [.ref l0, l1] [.ref l0] h Q) ∧
    (∀ (d : Nat) (l0 : Value) (l1 : Value) (x0 : Nat) (I : Nat → Nat → Int32) (L : Nat → Nat → Int64) (P : Nat → Nat → Option Nat) (Q : Option Value → zMm → Prop), zSH[x0]? = some (.inl 10) → zWp d zi_189 none 12 [l0, l1] [.ref x0] (zSH, I, L, P) Q = zWp d zi_189 none 15 [l0, l1] [va_rf (P x0 46)] (zSH, I, L, P) Q) ∧
    (∀ (d : Nat) (l0 : Value) (l1 : Int32) (x0 : Nat) (h : zMm) (Q : Option Value → zMm → Prop), zWp d zi_189 none 15 [l0, .int l1] [.ref x0] h Q = zWp d zi_189 none 16 [l0, .int l1] [.int l1, .ref x0] h Q) ∧
    (∀ (d : Nat) (l0 : Value) (l1 : Value) (x1 : Int32) (x0 : Nat) (I : Nat → Nat → Int32) (L : Nat → Nat → Int64) (P : Nat → Nat → Option Nat) (Q : Option Value → zMm → Prop), zAk zSH x0 = some .int → zWp d zi_189 none 16 [l0, l1] [.int x1, .ref x0] (zSH, I, L, P) Q = (vp_in x1 (zAn zSH x0) ∧ zWp d zi_189 none 17 [l0, l1] [.int (I x0 x1.toNatClampNeg)] (zSH, I, L, P) Q)) ∧
    (∀ (d : Nat) (l0 : Value) (l1 : Value) (x0 : Int32) (h : zMm) (Q : Option Value → zMm → Prop), zWp d zi_189 none 17 [l0, l1] [.int x0] h Q = if 0 ≤ x0 then zWp d zi_189 none 25 [l0, l1] [] h Q else zWp d zi_189 none 20 [l0, l1] [] h Q) ∧
    (∀ (d : Nat) (l0 : Value) (l1 : Value)  (h : zMm) (Q : Option Value → zMm → Prop), zWp d zi_189 none 20 [l0, l1] [] h Q = zWp d zi_189 none 22 [l0, l1] [.int (-11)] h Q) ∧
    (∀ (d : Nat) (l0 : Value) (l1 : Value) (x0 : Int32) (h : zMm) (Q : Option Value → zMm → Prop), zWp d zi_189 none 22 [l0, l1] [.int x0] h Q = zWp d zi_189 none 42 [l0, l1] [.int x0] h Q) ∧
    (∀ (d : Nat) (l0 : Nat) (l1 : Value)  (h : zMm) (Q : Option Value → zMm → Prop), zWp d zi_189 none 25 [.ref l0, l1] [] h Q = zWp d zi_189 none 26 [.ref l0, l1] [.ref l0] h Q) ∧
    (∀ (d : Nat) (l0 : Value) (l1 : Value) (x0 : Nat) (I : Nat → Nat → Int32) (L : Nat → Nat → Int64) (P : Nat → Nat → Option Nat) (Q : Option Value → zMm → Prop), zSH[x0]? = some (.inl 10) → zWp d zi_189 none 26 [l0, l1] [.ref x0] (zSH, I, L, P) Q = zWp d zi_189 none 29 [l0, l1] [va_rf (P x0 46)] (zSH, I, L, P) Q) ∧
    (∀ (d : Nat) (l0 : Value) (l1 : Int32) (x0 : Nat) (h : zMm) (Q : Option Value → zMm → Prop), zWp d zi_189 none 29 [l0, .int l1] [.ref x0] h Q = zWp d zi_189 none 30 [l0, .int l1] [.int l1, .ref x0] h Q) ∧
    (∀ (d : Nat) (l0 : Value) (l1 : Value) (x1 : Int32) (x0 : Nat) (I : Nat → Nat → Int32) (L : Nat → Nat → Int64) (P : Nat → Nat → Option Nat) (Q : Option Value → zMm → Prop), zAk zSH x0 = some .int → zWp d zi_189 none 30 [l0, l1] [.int x1, .ref x0] (zSH, I, L, P) Q = (vp_in x1 (zAn zSH x0) ∧ zWp d zi_189 none 31 [l0, l1] [.int (I x0 x1.toNatClampNeg)] (zSH, I, L, P) Q)) ∧
    (∀ (d : Nat) (l0 : Value) (l1 : Value) (x0 : Int32) (h : zMm) (Q : Option Value → zMm → Prop), zWp d zi_189 none 31 [l0, l1] [.int x0] h Q = zWp d zi_189 none 33 [l0, l1] [.int 50, .int x0] h Q) ∧
    (∀ (d : Nat) (l0 : Value) (l1 : Value) (x1 : Int32) (x0 : Int32) (h : zMm) (Q : Option Value → zMm → Prop), zWp d zi_189 none 33 [l0, l1] [.int x1, .int x0] h Q = if x0 = x1 then zWp d zi_189 none 36 [l0, l1] [] h Q else zWp d zi_189 none 40 [l0, l1] [] h Q) ∧
    (∀ (d : Nat) (l0 : Value) (l1 : Value)  (h : zMm) (Q : Option Value → zMm → Prop), zWp d zi_189 none 36 [l0, l1] [] h Q = zWp d zi_189 none 37 [l0, l1] [.int 1] h Q) ∧
    (∀ (d : Nat) (l0 : Value) (l1 : Value) (x0 : Int32) (h : zMm) (Q : Option Value → zMm → Prop), zWp d zi_189 none 37 [l0, l1] [.int x0] h Q = zWp d zi_189 none 42 [l0, l1] [.int x0] h Q) ∧
    (∀ (d : Nat) (l0 : Value) (l1 : Value)  (h : zMm) (Q : Option Value → zMm → Prop), zWp d zi_189 none 40 [l0, l1] [] h Q = zWp d zi_189 none 42 [l0, l1] [.int (-12)] h Q) ∧
    (∀ (d : Nat) (l0 : Value) (l1 : Value) (x0 : Int32) (h : zMm) (Q : Option Value → zMm → Prop), zWp d zi_189 none 42 [l0, l1] [.int x0] h Q = Q (some (.int x0)) h) :=
  ⟨(fun d l0 l1  h Q => zr_iload_n rfl rfl),
   (fun d l0 l1 x0 h Q => zr_sta (as := [.int x0]) (rest := []) rfl lm_10_135 (by decide) m_206 kd_206 rfl (Nat.le_of_ble_eq_true rfl)),
   (fun d l0 l1 x0 h Q => zr_if_ne rfl (by decide)),
   (fun d l0 l1  h Q => zr_iconst rfl (by decide)),
   (fun d l0 l1 x0 h Q => zr_goto rfl (by decide)),
   (fun d l0 l1  h Q => zr_aload_n rfl rfl),
   (fun d l0 l1 x0 I L P Q p0 => zr_getQ rfl lf_10_67 (fun _ _ _ => rfl) p0),
   (fun d l0 l1 x0 h Q => zr_iload_n rfl rfl),
   (fun d l0 l1 x1 x0 I L P Q p0 => zr_ald rfl p0),
   (fun d l0 l1 x0 h Q => zr_if_ge rfl (by decide)),
   (fun d l0 l1  h Q => zr_bipush rfl (by decide)),
   (fun d l0 l1 x0 h Q => zr_goto rfl (by decide)),
   (fun d l0 l1  h Q => zr_aload_n rfl rfl),
   (fun d l0 l1 x0 I L P Q p0 => zr_getQ rfl lf_10_67 (fun _ _ _ => rfl) p0),
   (fun d l0 l1 x0 h Q => zr_iload_n rfl rfl),
   (fun d l0 l1 x1 x0 I L P Q p0 => zr_ald rfl p0),
   (fun d l0 l1 x0 h Q => zr_bipush rfl (by decide)),
   (fun d l0 l1 x1 x0 h Q => zr_ic_ne rfl (by decide)),
   (fun d l0 l1  h Q => zr_iconst rfl (by decide)),
   (fun d l0 l1 x0 h Q => zr_goto rfl (by decide)),
   (fun d l0 l1  h Q => zr_bipush rfl (by decide)),
   (fun d l0 l1 x0 h Q => zr_iret rfl rfl)⟩
theorem E_X10_judge : ∀ (d : Nat) (a0 : Nat) (a1 : Int32) (a2 : Int32) (h : zMm) (Q : Option Value → zMm → Prop), zWM (d + 1) 190 [.ref a0, .int a1, .int a2] h Q = zWp d zi_190 none 0 [.ref a0, .int a1, .int a2, .retAddr 0, .retAddr 0] [] h Q := fun d a0 a1 a2 h Q => zW_M m_190 (Nat.le_of_ble_eq_true rfl) rfl
set_option maxRecDepth 100000 in
theorem R_X10_judge :
    (∀ (d : Nat) (l0 : Nat) (l1 : Value) (l2 : Value) (l3 : Value) (l4 : Value)  (h : zMm) (Q : Option Value → zMm → Prop), zWp d zi_190 none 0 [.ref l0, l1, l2, l3, l4] [] h Q = zWp d zi_190 none 1 [.ref l0, l1, l2, l3, l4] [.ref l0] h Q) ∧
    (∀ (d : Nat) (l0 : Value) (l1 : Value) (l2 : Int32) (l3 : Value) (l4 : Value) (x0 : Nat) (h : zMm) (Q : Option Value → zMm → Prop), zWp d zi_190 none 1 [l0, l1, .int l2, l3, l4] [.ref x0] h Q = zWp d zi_190 none 2 [l0, l1, .int l2, l3, l4] [.int l2, .ref x0] h Q) ∧
    (∀ (d : Nat) (l0 : Value) (l1 : Value) (l2 : Value) (l3 : Value) (l4 : Value) (x1 : Int32) (x0 : Nat) (I : Nat → Nat → Int32) (L : Nat → Nat → Int64) (P : Nat → Nat → Option Nat) (Q : Option Value → zMm → Prop), zSH[x0]? = some (.inl 10) → zWp d zi_190 none 2 [l0, l1, l2, l3, l4] [.int x1, .ref x0] (zSH, I, L, P) Q = zWM d 131 [.ref x0, .int x1] (zSH, I, L, P) (fun r h1 => zWp d zi_190 none 5 [l0, l1, l2, l3, l4] (r.toList ++ []) h1 Q)) ∧
    (∀ (d : Nat) (l0 : Value) (l1 : Value) (l2 : Value) (l3 : Value) (l4 : Value) (x0 : Int32) (h : zMm) (Q : Option Value → zMm → Prop), zWp d zi_190 none 5 [l0, l1, l2, l3, l4] [.int x0] h Q = if x0 = 0 then zWp d zi_190 none 17 [l0, l1, l2, l3, l4] [] h Q else zWp d zi_190 none 8 [l0, l1, l2, l3, l4] [] h Q) ∧
    (∀ (d : Nat) (l0 : Nat) (l1 : Value) (l2 : Value) (l3 : Value) (l4 : Value)  (h : zMm) (Q : Option Value → zMm → Prop), zWp d zi_190 none 8 [.ref l0, l1, l2, l3, l4] [] h Q = zWp d zi_190 none 9 [.ref l0, l1, l2, l3, l4] [.ref l0] h Q) ∧
    (∀ (d : Nat) (l0 : Value) (l1 : Int32) (l2 : Value) (l3 : Value) (l4 : Value) (x0 : Nat) (h : zMm) (Q : Option Value → zMm → Prop), zWp d zi_190 none 9 [l0, .int l1, l2, l3, l4] [.ref x0] h Q = zWp d zi_190 none 10 [l0, .int l1, l2, l3, l4] [.int l1, .ref x0] h Q) ∧
    (∀ (d : Nat) (l0 : Value) (l1 : Value) (l2 : Value) (l3 : Value) (l4 : Value) (x1 : Int32) (x0 : Nat) (I : Nat → Nat → Int32) (L : Nat → Nat → Int64) (P : Nat → Nat → Option Nat) (Q : Option Value → zMm → Prop), zSH[x0]? = some (.inl 10) → zWp d zi_190 none 10 [l0, l1, l2, l3, l4] [.int x1, .ref x0] (zSH, I, L, P) Q = zWM d 189 [.ref x0, .int x1] (zSH, I, L, P) (fun r h1 => zWp d zi_190 none 13 [l0, l1, l2, l3, l4] (r.toList ++ []) h1 Q)) ∧
    (∀ (d : Nat) (l0 : Value) (l1 : Value) (l2 : Value) (l3 : Value) (l4 : Value) (x0 : Int32) (h : zMm) (Q : Option Value → zMm → Prop), zWp d zi_190 none 13 [l0, l1, l2, l3, l4] [.int x0] h Q = zWp d zi_190 none 14 [l0, l1, l2, l3, l4] [.int (-1), .int x0] h Q) ∧
    (∀ (d : Nat) (l0 : Value) (l1 : Value) (l2 : Value) (l3 : Value) (l4 : Value) (x1 : Int32) (x0 : Int32) (h : zMm) (Q : Option Value → zMm → Prop), zWp d zi_190 none 14 [l0, l1, l2, l3, l4] [.int x1, .int x0] h Q = if x0 = x1 then zWp d zi_190 none 17 [l0, l1, l2, l3, l4] [] h Q else zWp d zi_190 none 19 [l0, l1, l2, l3, l4] [] h Q) ∧
    (∀ (d : Nat) (l0 : Value) (l1 : Value) (l2 : Value) (l3 : Value) (l4 : Value)  (h : zMm) (Q : Option Value → zMm → Prop), zWp d zi_190 none 17 [l0, l1, l2, l3, l4] [] h Q = zWp d zi_190 none 18 [l0, l1, l2, l3, l4] [.int (-1)] h Q) ∧
    (∀ (d : Nat) (l0 : Value) (l1 : Value) (l2 : Value) (l3 : Value) (l4 : Value) (x0 : Int32) (h : zMm) (Q : Option Value → zMm → Prop), zWp d zi_190 none 18 [l0, l1, l2, l3, l4] [.int x0] h Q = Q (some (.int x0)) h) ∧
    (∀ (d : Nat) (l0 : Nat) (l1 : Value) (l2 : Value) (l3 : Value) (l4 : Value)  (h : zMm) (Q : Option Value → zMm → Prop), zWp d zi_190 none 19 [.ref l0, l1, l2, l3, l4] [] h Q = zWp d zi_190 none 20 [.ref l0, l1, l2, l3, l4] [.ref l0] h Q) ∧
    (∀ (d : Nat) (l0 : Value) (l1 : Int32) (l2 : Value) (l3 : Value) (l4 : Value) (x0 : Nat) (h : zMm) (Q : Option Value → zMm → Prop), zWp d zi_190 none 20 [l0, .int l1, l2, l3, l4] [.ref x0] h Q = zWp d zi_190 none 21 [l0, .int l1, l2, l3, l4] [.int l1, .ref x0] h Q) ∧
    (∀ (d : Nat) (l0 : Value) (l1 : Value) (l2 : Value) (l3 : Value) (l4 : Value) (x1 : Int32) (x0 : Nat) (I : Nat → Nat → Int32) (L : Nat → Nat → Int64) (P : Nat → Nat → Option Nat) (Q : Option Value → zMm → Prop), zSH[x0]? = some (.inl 10) → zWp d zi_190 none 21 [l0, l1, l2, l3, l4] [.int x1, .ref x0] (zSH, I, L, P) Q = zWM d 189 [.ref x0, .int x1] (zSH, I, L, P) (fun r h1 => zWp d zi_190 none 24 [l0, l1, l2, l3, l4] (r.toList ++ []) h1 Q)) ∧
    (∀ (d : Nat) (l0 : Value) (l1 : Value) (l2 : Value) (l3 : Value) (l4 : Value) (x0 : Int32) (h : zMm) (Q : Option Value → zMm → Prop), zWp d zi_190 none 24 [l0, l1, l2, l3, l4] [.int x0] h Q = if 0 ≤ x0 then zWp d zi_190 none 33 [l0, l1, l2, l3, l4] [] h Q else zWp d zi_190 none 27 [l0, l1, l2, l3, l4] [] h Q) ∧
    (∀ (d : Nat) (l0 : Nat) (l1 : Value) (l2 : Value) (l3 : Value) (l4 : Value)  (h : zMm) (Q : Option Value → zMm → Prop), zWp d zi_190 none 27 [.ref l0, l1, l2, l3, l4] [] h Q = zWp d zi_190 none 28 [.ref l0, l1, l2, l3, l4] [.ref l0] h Q) ∧
    (∀ (d : Nat) (l0 : Value) (l1 : Int32) (l2 : Value) (l3 : Value) (l4 : Value) (x0 : Nat) (h : zMm) (Q : Option Value → zMm → Prop), zWp d zi_190 none 28 [l0, .int l1, l2, l3, l4] [.ref x0] h Q = zWp d zi_190 none 29 [l0, .int l1, l2, l3, l4] [.int l1, .ref x0] h Q) ∧
    (∀ (d : Nat) (l0 : Value) (l1 : Value) (l2 : Value) (l3 : Value) (l4 : Value) (x1 : Int32) (x0 : Nat) (I : Nat → Nat → Int32) (L : Nat → Nat → Int64) (P : Nat → Nat → Option Nat) (Q : Option Value → zMm → Prop), zSH[x0]? = some (.inl 10) → zWp d zi_190 none 29 [l0, l1, l2, l3, l4] [.int x1, .ref x0] (zSH, I, L, P) Q = zWM d 189 [.ref x0, .int x1] (zSH, I, L, P) (fun r h1 => zWp d zi_190 none 32 [l0, l1, l2, l3, l4] (r.toList ++ []) h1 Q)) ∧
    (∀ (d : Nat) (l0 : Value) (l1 : Value) (l2 : Value) (l3 : Value) (l4 : Value) (x0 : Int32) (h : zMm) (Q : Option Value → zMm → Prop), zWp d zi_190 none 32 [l0, l1, l2, l3, l4] [.int x0] h Q = Q (some (.int x0)) h) ∧
    (∀ (d : Nat) (l0 : Nat) (l1 : Value) (l2 : Value) (l3 : Value) (l4 : Value)  (h : zMm) (Q : Option Value → zMm → Prop), zWp d zi_190 none 33 [.ref l0, l1, l2, l3, l4] [] h Q = zWp d zi_190 none 34 [.ref l0, l1, l2, l3, l4] [.ref l0] h Q) ∧
    (∀ (d : Nat) (l0 : Value) (l1 : Value) (l2 : Value) (l3 : Value) (l4 : Value) (x0 : Nat) (I : Nat → Nat → Int32) (L : Nat → Nat → Int64) (P : Nat → Nat → Option Nat) (Q : Option Value → zMm → Prop), zSH[x0]? = some (.inl 10) → zWp d zi_190 none 34 [l0, l1, l2, l3, l4] [.ref x0] (zSH, I, L, P) Q = zWM d 172 [.ref x0] (zSH, I, L, P) (fun r h1 => zWp d zi_190 none 37 [l0, l1, l2, l3, l4] (r.toList ++ []) h1 Q)) ∧
    (∀ (d : Nat) (l0 : Value) (l1 : Value) (l2 : Value) (l3 : Value) (l4 : Value)  (h : zMm) (Q : Option Value → zMm → Prop), zWp d zi_190 none 37 [l0, l1, l2, l3, l4] [] h Q = zWp d zi_190 none 38 [l0, l1, l2, l3, l4] [.int 0] h Q) ∧
    (∀ (d : Nat) (l0 : Value) (l1 : Value) (l2 : Int32) (l3 : Value) (l4 : Value) (x0 : Int32) (h : zMm) (Q : Option Value → zMm → Prop), zWp d zi_190 none 38 [l0, l1, .int l2, l3, l4] [.int x0] h Q = zWp d zi_190 none 39 [l0, l1, .int l2, .int x0, l4] [] h Q) ∧
    (∀ (d : Nat) (l0 : Value) (l1 : Value) (l2 : Value) (l3 : Value) (l4 : Value) (x0 : Int32) (h : zMm) (Q : Option Value → zMm → Prop), zWp d zi_190 none 40 [l0, l1, l2, l3, l4] [.int x0] h Q = zWp d zi_190 none 42 [l0, l1, l2, l3, l4] [.int 61, .int x0] h Q) ∧
    (∀ (d : Nat) (l0 : Value) (l1 : Value) (l2 : Value) (l3 : Value) (l4 : Value) (x1 : Int32) (x0 : Int32) (h : zMm) (Q : Option Value → zMm → Prop), zWp d zi_190 none 42 [l0, l1, l2, l3, l4] [.int x1, .int x0] h Q = if x1 ≤ x0 then zWp d zi_190 none 101 [l0, l1, l2, l3, l4] [] h Q else zWp d zi_190 none 45 [l0, l1, l2, l3, l4] [] h Q) ∧
    (∀ (d : Nat) (l0 : Value) (l1 : Value) (l2 : Value) (l3 : Int32) (l4 : Value)  (h : zMm) (Q : Option Value → zMm → Prop), zWp d zi_190 none 45 [l0, l1, l2, .int l3, l4] [] h Q = zWp d zi_190 none 46 [l0, l1, l2, .int l3, l4] [.int l3] h Q) ∧
    (∀ (d : Nat) (l0 : Nat) (l1 : Value) (l2 : Value) (l3 : Value) (l4 : Value) (x0 : Int32) (h : zMm) (Q : Option Value → zMm → Prop), zWp d zi_190 none 46 [.ref l0, l1, l2, l3, l4] [.int x0] h Q = zWp d zi_190 none 47 [.ref l0, l1, l2, l3, l4] [.ref l0, .int x0] h Q) ∧
    (∀ (d : Nat) (l0 : Value) (l1 : Value) (l2 : Value) (l3 : Value) (l4 : Value) (x1 : Nat) (x0 : Int32) (I : Nat → Nat → Int32) (L : Nat → Nat → Int64) (P : Nat → Nat → Option Nat) (Q : Option Value → zMm → Prop), zSH[x1]? = some (.inl 10) → zWp d zi_190 none 47 [l0, l1, l2, l3, l4] [.ref x1, .int x0] (zSH, I, L, P) Q = zWp d zi_190 none 50 [l0, l1, l2, l3, l4] [va_rf (P x1 47), .int x0] (zSH, I, L, P) Q) ∧
    (∀ (d : Nat) (l0 : Value) (l1 : Int32) (l2 : Value) (l3 : Value) (l4 : Value) (x1 : Nat) (x0 : Int32) (h : zMm) (Q : Option Value → zMm → Prop), zWp d zi_190 none 50 [l0, .int l1, l2, l3, l4] [.ref x1, .int x0] h Q = zWp d zi_190 none 51 [l0, .int l1, l2, l3, l4] [.int l1, .ref x1, .int x0] h Q) ∧
    (∀ (d : Nat) (l0 : Value) (l1 : Value) (l2 : Value) (l3 : Value) (l4 : Value) (x2 : Int32) (x1 : Nat) (x0 : Int32) (I : Nat → Nat → Int32) (L : Nat → Nat → Int64) (P : Nat → Nat → Option Nat) (Q : Option Value → zMm → Prop), zAk zSH x1 = some .int → zWp d zi_190 none 51 [l0, l1, l2, l3, l4] [.int x2, .ref x1, .int x0] (zSH, I, L, P) Q = (vp_in x2 (zAn zSH x1) ∧ zWp d zi_190 none 52 [l0, l1, l2, l3, l4] [.int (I x1 x2.toNatClampNeg), .int x0] (zSH, I, L, P) Q)) ∧
    (∀ (d : Nat) (l0 : Value) (l1 : Value) (l2 : Value) (l3 : Value) (l4 : Value) (x1 : Int32) (x0 : Int32) (h : zMm) (Q : Option Value → zMm → Prop), zWp d zi_190 none 52 [l0, l1, l2, l3, l4] [.int x1, .int x0] h Q = if x1 ≤ x0 then zWp d zi_190 none 101 [l0, l1, l2, l3, l4] [] h Q else zWp d zi_190 none 55 [l0, l1, l2, l3, l4] [] h Q) ∧
    (∀ (d : Nat) (l0 : Nat) (l1 : Value) (l2 : Value) (l3 : Value) (l4 : Value)  (h : zMm) (Q : Option Value → zMm → Prop), zWp d zi_190 none 55 [.ref l0, l1, l2, l3, l4] [] h Q = zWp d zi_190 none 56 [.ref l0, l1, l2, l3, l4] [.ref l0] h Q) ∧
    (∀ (d : Nat) (l0 : Value) (l1 : Value) (l2 : Int32) (l3 : Value) (l4 : Value) (x0 : Nat) (h : zMm) (Q : Option Value → zMm → Prop), zWp d zi_190 none 56 [l0, l1, .int l2, l3, l4] [.ref x0] h Q = zWp d zi_190 none 57 [l0, l1, .int l2, l3, l4] [.int l2, .ref x0] h Q) ∧
    (∀ (d : Nat) (l0 : Value) (l1 : Value) (l2 : Value) (l3 : Int32) (l4 : Value) (x1 : Int32) (x0 : Nat) (h : zMm) (Q : Option Value → zMm → Prop), zWp d zi_190 none 57 [l0, l1, l2, .int l3, l4] [.int x1, .ref x0] h Q = zWp d zi_190 none 58 [l0, l1, l2, .int l3, l4] [.int l3, .int x1, .ref x0] h Q) ∧
    (∀ (d : Nat) (l0 : Value) (l1 : Value) (l2 : Value) (l3 : Value) (l4 : Value) (x2 : Int32) (x1 : Int32) (x0 : Nat) (I : Nat → Nat → Int32) (L : Nat → Nat → Int64) (P : Nat → Nat → Option Nat) (Q : Option Value → zMm → Prop), zSH[x0]? = some (.inl 10) → zWp d zi_190 none 58 [l0, l1, l2, l3, l4] [.int x2, .int x1, .ref x0] (zSH, I, L, P) Q = zWM d 176 [.ref x0, .int x1, .int x2] (zSH, I, L, P) (fun r h1 => zWp d zi_190 none 61 [l0, l1, l2, l3, l4] (r.toList ++ []) h1 Q)) ∧
    (∀ (d : Nat) (l0 : Value) (l1 : Value) (l2 : Value) (l3 : Int32) (l4 : Value) (x0 : Int32) (h : zMm) (Q : Option Value → zMm → Prop), zWp d zi_190 none 61 [l0, l1, l2, .int l3, l4] [.int x0] h Q = zWp d zi_190 none 63 [l0, l1, l2, .int l3, .int x0] [] h Q) ∧
    (∀ (d : Nat) (l0 : Nat) (l1 : Value) (l2 : Value) (l3 : Value) (l4 : Value)  (h : zMm) (Q : Option Value → zMm → Prop), zWp d zi_190 none 63 [.ref l0, l1, l2, l3, l4] [] h Q = zWp d zi_190 none 64 [.ref l0, l1, l2, l3, l4] [.ref l0] h Q) ∧
    (∀ (d : Nat) (l0 : Value) (l1 : Value) (l2 : Value) (l3 : Value) (l4 : Value) (x0 : Nat) (I : Nat → Nat → Int32) (L : Nat → Nat → Int64) (P : Nat → Nat → Option Nat) (Q : Option Value → zMm → Prop), zSH[x0]? = some (.inl 10) → zWp d zi_190 none 64 [l0, l1, l2, l3, l4] [.ref x0] (zSH, I, L, P) Q = zWp d zi_190 none 67 [l0, l1, l2, l3, l4] [va_rf (P x0 48)] (zSH, I, L, P) Q) ∧
    (∀ (d : Nat) (l0 : Value) (l1 : Value) (l2 : Value) (l3 : Value) (l4 : Value) (x0 : Nat) (h : zMm) (Q : Option Value → zMm → Prop), zWp d zi_190 none 67 [l0, l1, l2, l3, l4] [.ref x0] h Q = zWp d zi_190 none 69 [l0, l1, l2, l3, l4] [.int 60, .ref x0] h Q) ∧
    (∀ (d : Nat) (l0 : Value) (l1 : Int32) (l2 : Value) (l3 : Value) (l4 : Value) (x1 : Int32) (x0 : Nat) (h : zMm) (Q : Option Value → zMm → Prop), zWp d zi_190 none 69 [l0, .int l1, l2, l3, l4] [.int x1, .ref x0] h Q = zWp d zi_190 none 70 [l0, .int l1, l2, l3, l4] [.int l1, .int x1, .ref x0] h Q) ∧
    (∀ (d : Nat) (l0 : Value) (l1 : Value) (l2 : Value) (l3 : Value) (l4 : Value) (x2 : Int32) (x1 : Int32) (x0 : Nat) (h : zMm) (Q : Option Value → zMm → Prop), zWp d zi_190 none 70 [l0, l1, l2, l3, l4] [.int x2, .int x1, .ref x0] h Q = zWp d zi_190 none 71 [l0, l1, l2, l3, l4] [.int (x1 * x2), .ref x0] h Q) ∧
    (∀ (d : Nat) (l0 : Value) (l1 : Value) (l2 : Value) (l3 : Int32) (l4 : Value) (x1 : Int32) (x0 : Nat) (h : zMm) (Q : Option Value → zMm → Prop), zWp d zi_190 none 71 [l0, l1, l2, .int l3, l4] [.int x1, .ref x0] h Q = zWp d zi_190 none 72 [l0, l1, l2, .int l3, l4] [.int l3, .int x1, .ref x0] h Q) ∧
    (∀ (d : Nat) (l0 : Value) (l1 : Value) (l2 : Value) (l3 : Value) (l4 : Value) (x2 : Int32) (x1 : Int32) (x0 : Nat) (h : zMm) (Q : Option Value → zMm → Prop), zWp d zi_190 none 72 [l0, l1, l2, l3, l4] [.int x2, .int x1, .ref x0] h Q = zWp d zi_190 none 73 [l0, l1, l2, l3, l4] [.int (x1 + x2), .ref x0] h Q) ∧
    (∀ (d : Nat) (l0 : Value) (l1 : Value) (l2 : Value) (l3 : Value) (l4 : Value) (x1 : Int32) (x0 : Nat) (I : Nat → Nat → Int32) (L : Nat → Nat → Int64) (P : Nat → Nat → Option Nat) (Q : Option Value → zMm → Prop), zAk zSH x0 = some .long → zWp d zi_190 none 73 [l0, l1, l2, l3, l4] [.int x1, .ref x0] (zSH, I, L, P) Q = (vp_in x1 (zAn zSH x0) ∧ zWp d zi_190 none 74 [l0, l1, l2, l3, l4] [.long (L x0 x1.toNatClampNeg)] (zSH, I, L, P) Q)) ∧
    (∀ (d : Nat) (l0 : Value) (l1 : Value) (l2 : Value) (l3 : Value) (l4 : Int32) (x0 : Int64) (h : zMm) (Q : Option Value → zMm → Prop), zWp d zi_190 none 74 [l0, l1, l2, l3, .int l4] [.long x0] h Q = zWp d zi_190 none 76 [l0, l1, l2, l3, .int l4] [.int l4, .long x0] h Q) ∧
    (∀ (d : Nat) (l0 : Value) (l1 : Value) (l2 : Value) (l3 : Value) (l4 : Value) (x1 : Int32) (x0 : Int64) (h : zMm) (Q : Option Value → zMm → Prop), zWp d zi_190 none 76 [l0, l1, l2, l3, l4] [.int x1, .long x0] h Q = zWp d zi_190 none 78 [l0, l1, l2, l3, l4] [.int 127, .int x1, .long x0] h Q) ∧
    (∀ (d : Nat) (l0 : Value) (l1 : Value) (l2 : Value) (l3 : Value) (l4 : Value) (x2 : Int32) (x1 : Int32) (x0 : Int64) (h : zMm) (Q : Option Value → zMm → Prop), zWp d zi_190 none 78 [l0, l1, l2, l3, l4] [.int x2, .int x1, .long x0] h Q = if x1 ≤ x2 then zWp d zi_190 none 86 [l0, l1, l2, l3, l4] [.long x0] h Q else zWp d zi_190 none 81 [l0, l1, l2, l3, l4] [.long x0] h Q) ∧
    (∀ (d : Nat) (l0 : Value) (l1 : Value) (l2 : Value) (l3 : Value) (l4 : Value) (x0 : Int64) (h : zMm) (Q : Option Value → zMm → Prop), zWp d zi_190 none 81 [l0, l1, l2, l3, l4] [.long x0] h Q = zWp d zi_190 none 83 [l0, l1, l2, l3, l4] [.int 127, .long x0] h Q) ∧
    (∀ (d : Nat) (l0 : Value) (l1 : Value) (l2 : Value) (l3 : Value) (l4 : Value) (x1 : Int32) (x0 : Int64) (h : zMm) (Q : Option Value → zMm → Prop), zWp d zi_190 none 83 [l0, l1, l2, l3, l4] [.int x1, .long x0] h Q = zWp d zi_190 none 88 [l0, l1, l2, l3, l4] [.int x1, .long x0] h Q) ∧
    (∀ (d : Nat) (l0 : Value) (l1 : Value) (l2 : Value) (l3 : Value) (l4 : Int32) (x0 : Int64) (h : zMm) (Q : Option Value → zMm → Prop), zWp d zi_190 none 86 [l0, l1, l2, l3, .int l4] [.long x0] h Q = zWp d zi_190 none 88 [l0, l1, l2, l3, .int l4] [.int l4, .long x0] h Q) ∧
    (∀ (d : Nat) (l0 : Value) (l1 : Value) (l2 : Value) (l3 : Value) (l4 : Value) (x1 : Int32) (x0 : Int64) (h : zMm) (Q : Option Value → zMm → Prop), zWp d zi_190 none 88 [l0, l1, l2, l3, l4] [.int x1, .long x0] h Q = zWp d zi_190 none 89 [l0, l1, l2, l3, l4] [.long x1.toInt64, .long x0] h Q) ∧
    (∀ (d : Nat) (l0 : Value) (l1 : Value) (l2 : Value) (l3 : Value) (l4 : Value) (x1 : Int64) (x0 : Int64) (h : zMm) (Q : Option Value → zMm → Prop), zWp d zi_190 none 89 [l0, l1, l2, l3, l4] [.long x1, .long x0] h Q = zWp d zi_190 none 90 [l0, l1, l2, l3, l4] [.int (lg_cmp x0 x1)] h Q) ∧
    (∀ (d : Nat) (l0 : Value) (l1 : Value) (l2 : Value) (l3 : Value) (l4 : Value) (x0 : Int32) (h : zMm) (Q : Option Value → zMm → Prop), zWp d zi_190 none 90 [l0, l1, l2, l3, l4] [.int x0] h Q = if x0 = 0 then zWp d zi_190 none 95 [l0, l1, l2, l3, l4] [] h Q else zWp d zi_190 none 93 [l0, l1, l2, l3, l4] [] h Q) ∧
    (∀ (d : Nat) (l0 : Value) (l1 : Value) (l2 : Value) (l3 : Int32) (l4 : Value)  (h : zMm) (Q : Option Value → zMm → Prop), zWp d zi_190 none 93 [l0, l1, l2, .int l3, l4] [] h Q = zWp d zi_190 none 94 [l0, l1, l2, .int l3, l4] [.int l3] h Q) ∧
    (∀ (d : Nat) (l0 : Value) (l1 : Value) (l2 : Value) (l3 : Value) (l4 : Value) (x0 : Int32) (h : zMm) (Q : Option Value → zMm → Prop), zWp d zi_190 none 94 [l0, l1, l2, l3, l4] [.int x0] h Q = Q (some (.int x0)) h) ∧
    (∀ (d : Nat) (l0 : Value) (l1 : Value) (l2 : Int32) (l3 : Int32) (l4 : Value)  (h : zMm) (Q : Option Value → zMm → Prop), zWp d zi_190 none 95 [l0, l1, .int l2, .int l3, l4] [] h Q = zWp d zi_190 none 98 [l0, l1, .int l2, .int (l3 + 1), l4] [] h Q) ∧
    (∀ (d : Nat) (l0 : Value) (l1 : Value) (l2 : Value) (l3 : Value) (l4 : Value)  (h : zMm) (Q : Option Value → zMm → Prop), zWp d zi_190 none 98 [l0, l1, l2, l3, l4] [] h Q = zWp d zi_190 none 39 [l0, l1, l2, l3, l4] [] h Q) ∧
    (∀ (d : Nat) (l0 : Value) (l1 : Value) (l2 : Value) (l3 : Value) (l4 : Value)  (h : zMm) (Q : Option Value → zMm → Prop), zWp d zi_190 none 101 [l0, l1, l2, l3, l4] [] h Q = zWp d zi_190 none 103 [l0, l1, l2, l3, l4] [.int (-2)] h Q) ∧
    (∀ (d : Nat) (l0 : Value) (l1 : Value) (l2 : Value) (l3 : Value) (l4 : Value) (x0 : Int32) (h : zMm) (Q : Option Value → zMm → Prop), zWp d zi_190 none 103 [l0, l1, l2, l3, l4] [.int x0] h Q = Q (some (.int x0)) h) :=
  ⟨(fun d l0 l1 l2 l3 l4  h Q => zr_aload_n rfl rfl),
   (fun d l0 l1 l2 l3 l4 x0 h Q => zr_iload_n rfl rfl),
   (fun d l0 l1 l2 l3 l4 x1 x0 I L P Q p0 => zr_vir (as := [.int x1]) (rest := []) rfl lm_10_152 m_131 kd_131 rfl (Nat.le_of_ble_eq_true rfl) p0),
   (fun d l0 l1 l2 l3 l4 x0 h Q => zr_if_eq rfl (by decide)),
   (fun d l0 l1 l2 l3 l4  h Q => zr_aload_n rfl rfl),
   (fun d l0 l1 l2 l3 l4 x0 h Q => zr_iload_n rfl rfl),
   (fun d l0 l1 l2 l3 l4 x1 x0 I L P Q p0 => zr_vir (as := [.int x1]) (rest := []) rfl lm_10_319 m_189 kd_189 rfl (Nat.le_of_ble_eq_true rfl) p0),
   (fun d l0 l1 l2 l3 l4 x0 h Q => zr_iconst rfl (by decide)),
   (fun d l0 l1 l2 l3 l4 x1 x0 h Q => zr_ic_ne rfl (by decide)),
   (fun d l0 l1 l2 l3 l4  h Q => zr_iconst rfl (by decide)),
   (fun d l0 l1 l2 l3 l4 x0 h Q => zr_iret rfl rfl),
   (fun d l0 l1 l2 l3 l4  h Q => zr_aload_n rfl rfl),
   (fun d l0 l1 l2 l3 l4 x0 h Q => zr_iload_n rfl rfl),
   (fun d l0 l1 l2 l3 l4 x1 x0 I L P Q p0 => zr_vir (as := [.int x1]) (rest := []) rfl lm_10_319 m_189 kd_189 rfl (Nat.le_of_ble_eq_true rfl) p0),
   (fun d l0 l1 l2 l3 l4 x0 h Q => zr_if_ge rfl (by decide)),
   (fun d l0 l1 l2 l3 l4  h Q => zr_aload_n rfl rfl),
   (fun d l0 l1 l2 l3 l4 x0 h Q => zr_iload_n rfl rfl),
   (fun d l0 l1 l2 l3 l4 x1 x0 I L P Q p0 => zr_vir (as := [.int x1]) (rest := []) rfl lm_10_319 m_189 kd_189 rfl (Nat.le_of_ble_eq_true rfl) p0),
   (fun d l0 l1 l2 l3 l4 x0 h Q => zr_iret rfl rfl),
   (fun d l0 l1 l2 l3 l4  h Q => zr_aload_n rfl rfl),
   (fun d l0 l1 l2 l3 l4 x0 I L P Q p0 => zr_vir (as := []) (rest := []) rfl lm_10_279 m_172 kd_172 rfl (Nat.le_of_ble_eq_true rfl) p0),
   (fun d l0 l1 l2 l3 l4  h Q => zr_iconst rfl (by decide)),
   (fun d l0 l1 l2 l3 l4 x0 h Q => zr_istore_n (n := 3) rfl (Nat.le_of_ble_eq_true rfl) rfl),
   (fun d l0 l1 l2 l3 l4 x0 h Q => zr_bipush rfl (by decide)),
   (fun d l0 l1 l2 l3 l4 x1 x0 h Q => zr_ic_ge rfl (by decide)),
   (fun d l0 l1 l2 l3 l4  h Q => zr_iload_n rfl rfl),
   (fun d l0 l1 l2 l3 l4 x0 h Q => zr_aload_n rfl rfl),
   (fun d l0 l1 l2 l3 l4 x1 x0 I L P Q p0 => zr_getQ rfl lf_10_70 (fun _ _ _ => rfl) p0),
   (fun d l0 l1 l2 l3 l4 x1 x0 h Q => zr_iload_n rfl rfl),
   (fun d l0 l1 l2 l3 l4 x2 x1 x0 I L P Q p0 => zr_ald rfl p0),
   (fun d l0 l1 l2 l3 l4 x1 x0 h Q => zr_ic_ge rfl (by decide)),
   (fun d l0 l1 l2 l3 l4  h Q => zr_aload_n rfl rfl),
   (fun d l0 l1 l2 l3 l4 x0 h Q => zr_iload_n rfl rfl),
   (fun d l0 l1 l2 l3 l4 x1 x0 h Q => zr_iload_n rfl rfl),
   (fun d l0 l1 l2 l3 l4 x2 x1 x0 I L P Q p0 => zr_vir (as := [.int x2, .int x1]) (rest := []) rfl lm_10_286 m_176 kd_176 rfl (Nat.le_of_ble_eq_true rfl) p0),
   (fun d l0 l1 l2 l3 l4 x0 h Q => zr_istore (n := 4) rfl (Nat.le_of_ble_eq_true rfl) rfl),
   (fun d l0 l1 l2 l3 l4  h Q => zr_aload_n rfl rfl),
   (fun d l0 l1 l2 l3 l4 x0 I L P Q p0 => zr_getQ rfl lf_10_73 (fun _ _ _ => rfl) p0),
   (fun d l0 l1 l2 l3 l4 x0 h Q => zr_bipush rfl (by decide)),
   (fun d l0 l1 l2 l3 l4 x1 x0 h Q => zr_iload_n rfl rfl),
   (fun d l0 l1 l2 l3 l4 x2 x1 x0 h Q => zr_imul rfl),
   (fun d l0 l1 l2 l3 l4 x1 x0 h Q => zr_iload_n rfl rfl),
   (fun d l0 l1 l2 l3 l4 x2 x1 x0 h Q => zr_iadd rfl),
   (fun d l0 l1 l2 l3 l4 x1 x0 I L P Q p0 => zr_lld rfl p0),
   (fun d l0 l1 l2 l3 l4 x0 h Q => zr_iload rfl rfl),
   (fun d l0 l1 l2 l3 l4 x1 x0 h Q => zr_bipush rfl (by decide)),
   (fun d l0 l1 l2 l3 l4 x2 x1 x0 h Q => zr_ic_le rfl (by decide)),
   (fun d l0 l1 l2 l3 l4 x0 h Q => zr_bipush rfl (by decide)),
   (fun d l0 l1 l2 l3 l4 x1 x0 h Q => zr_goto rfl (by decide)),
   (fun d l0 l1 l2 l3 l4 x0 h Q => zr_iload rfl rfl),
   (fun d l0 l1 l2 l3 l4 x1 x0 h Q => zr_i2l rfl),
   (fun d l0 l1 l2 l3 l4 x1 x0 h Q => zr_lcmp rfl),
   (fun d l0 l1 l2 l3 l4 x0 h Q => zr_if_eq rfl (by decide)),
   (fun d l0 l1 l2 l3 l4  h Q => zr_iload_n rfl rfl),
   (fun d l0 l1 l2 l3 l4 x0 h Q => zr_iret rfl rfl),
   (fun d l0 l1 l2 l3 l4  h Q => zr_iinc (n := 3) (kc := 1) rfl rfl (Nat.le_of_ble_eq_true rfl) rfl (by decide)),
   (fun d l0 l1 l2 l3 l4  h Q => zr_goto rfl (by decide)),
   (fun d l0 l1 l2 l3 l4  h Q => zr_bipush rfl (by decide)),
   (fun d l0 l1 l2 l3 l4 x0 h Q => zr_iret rfl rfl)⟩
theorem H_X10_judge_39 : ∀ (d : Nat) (l0 : Value) (l1 : Value) (l2 : Value) (l3 : Int32) (l4 : Value)  (h : zMm) (Q : Option Value → zMm → Prop), zWp d zi_190 none 39 [l0, l1, l2, .int l3, l4] [] h Q = zWp d zi_190 none 40 [l0, l1, l2, .int l3, l4] [.int l3] h Q := fun d l0 l1 l2 l3 l4  h Q => zr_iload_n rfl rfl
theorem E_X10_led : ∀ (d : Nat) (a0 : Nat) (a1 : Int32) (h : zMm) (Q : Option Value → zMm → Prop), zWM (d + 1) 191 [.ref a0, .int a1] h Q = zWp d zi_191 none 0 [.ref a0, .int a1] [] h Q := fun d a0 a1 h Q => zW_M m_191 (Nat.le_of_ble_eq_true rfl) rfl
set_option maxRecDepth 100000 in
theorem R_X10_led :
    (∀ (d : Nat) (l0 : Value) (l1 : Int32)  (h : zMm) (Q : Option Value → zMm → Prop), zWp d zi_191 none 0 [l0, .int l1] [] h Q = zWp d zi_191 none 1 [l0, .int l1] [.int l1] h Q) ∧
    (∀ (d : Nat) (l0 : Value) (l1 : Value) (x0 : Int32) (h : zMm) (Q : Option Value → zMm → Prop), zWp d zi_191 none 1 [l0, l1] [.int x0] h Q = if x0 = 0 then zWp d zi_191 none 4 [l0, l1] [] h Q else zWp d zi_191 none 11 [l0, l1] [] h Q) ∧
    (∀ (d : Nat) (l0 : Nat) (l1 : Value)  (h : zMm) (Q : Option Value → zMm → Prop), zWp d zi_191 none 4 [.ref l0, l1] [] h Q = zWp d zi_191 none 5 [.ref l0, l1] [.ref l0] h Q) ∧
    (∀ (d : Nat) (l0 : Value) (l1 : Value) (x0 : Nat) (I : Nat → Nat → Int32) (L : Nat → Nat → Int64) (P : Nat → Nat → Option Nat) (Q : Option Value → zMm → Prop), zSH[x0]? = some (.inl 10) → zWp d zi_191 none 5 [l0, l1] [.ref x0] (zSH, I, L, P) Q = zWp d zi_191 none 8 [l0, l1] [.int (I x0 35)] (zSH, I, L, P) Q) ∧
    (∀ (d : Nat) (l0 : Value) (l1 : Value) (x0 : Int32) (h : zMm) (Q : Option Value → zMm → Prop), zWp d zi_191 none 8 [l0, l1] [.int x0] h Q = zWp d zi_191 none 24 [l0, l1] [.int x0] h Q) ∧
    (∀ (d : Nat) (l0 : Value) (l1 : Int32)  (h : zMm) (Q : Option Value → zMm → Prop), zWp d zi_191 none 11 [l0, .int l1] [] h Q = zWp d zi_191 none 12 [l0, .int l1] [.int l1] h Q) ∧
    (∀ (d : Nat) (l0 : Value) (l1 : Value) (x0 : Int32) (h : zMm) (Q : Option Value → zMm → Prop), zWp d zi_191 none 12 [l0, l1] [.int x0] h Q = zWp d zi_191 none 13 [l0, l1] [.int 1, .int x0] h Q) ∧
    (∀ (d : Nat) (l0 : Value) (l1 : Value) (x1 : Int32) (x0 : Int32) (h : zMm) (Q : Option Value → zMm → Prop), zWp d zi_191 none 13 [l0, l1] [.int x1, .int x0] h Q = if x0 = x1 then zWp d zi_191 none 16 [l0, l1] [] h Q else zWp d zi_191 none 23 [l0, l1] [] h Q) ∧
    (∀ (d : Nat) (l0 : Nat) (l1 : Value)  (h : zMm) (Q : Option Value → zMm → Prop), zWp d zi_191 none 16 [.ref l0, l1] [] h Q = zWp d zi_191 none 17 [.ref l0, l1] [.ref l0] h Q) ∧
    (∀ (d : Nat) (l0 : Value) (l1 : Value) (x0 : Nat) (I : Nat → Nat → Int32) (L : Nat → Nat → Int64) (P : Nat → Nat → Option Nat) (Q : Option Value → zMm → Prop), zSH[x0]? = some (.inl 10) → zWp d zi_191 none 17 [l0, l1] [.ref x0] (zSH, I, L, P) Q = zWp d zi_191 none 20 [l0, l1] [.int (I x0 36)] (zSH, I, L, P) Q) ∧
    (∀ (d : Nat) (l0 : Value) (l1 : Value) (x0 : Int32) (h : zMm) (Q : Option Value → zMm → Prop), zWp d zi_191 none 20 [l0, l1] [.int x0] h Q = zWp d zi_191 none 24 [l0, l1] [.int x0] h Q) ∧
    (∀ (d : Nat) (l0 : Value) (l1 : Value)  (h : zMm) (Q : Option Value → zMm → Prop), zWp d zi_191 none 23 [l0, l1] [] h Q = zWp d zi_191 none 24 [l0, l1] [.int (-1)] h Q) ∧
    (∀ (d : Nat) (l0 : Value) (l1 : Value) (x0 : Int32) (h : zMm) (Q : Option Value → zMm → Prop), zWp d zi_191 none 24 [l0, l1] [.int x0] h Q = Q (some (.int x0)) h) :=
  ⟨(fun d l0 l1  h Q => zr_iload_n rfl rfl),
   (fun d l0 l1 x0 h Q => zr_if_ne rfl (by decide)),
   (fun d l0 l1  h Q => zr_aload_n rfl rfl),
   (fun d l0 l1 x0 I L P Q p0 => zr_getI rfl lf_10_310 (fun _ _ _ => rfl) p0),
   (fun d l0 l1 x0 h Q => zr_goto rfl (by decide)),
   (fun d l0 l1  h Q => zr_iload_n rfl rfl),
   (fun d l0 l1 x0 h Q => zr_iconst rfl (by decide)),
   (fun d l0 l1 x1 x0 h Q => zr_ic_ne rfl (by decide)),
   (fun d l0 l1  h Q => zr_aload_n rfl rfl),
   (fun d l0 l1 x0 I L P Q p0 => zr_getI rfl lf_10_90 (fun _ _ _ => rfl) p0),
   (fun d l0 l1 x0 h Q => zr_goto rfl (by decide)),
   (fun d l0 l1  h Q => zr_iconst rfl (by decide)),
   (fun d l0 l1 x0 h Q => zr_iret rfl rfl)⟩
theorem E_X10_image : ∀ (d : Nat) (a0 : Nat) (h : zMm) (Q : Option Value → zMm → Prop), zWM (d + 1) 192 [.ref a0] h Q = zWp d zi_192 none 0 [.ref a0] [] h Q := fun d a0 h Q => zW_M m_192 (Nat.le_of_ble_eq_true rfl) rfl
set_option maxRecDepth 100000 in
theorem R_X10_image :
    (∀ (d : Nat) (l0 : Nat)  (h : zMm) (Q : Option Value → zMm → Prop), zWp d zi_192 none 0 [.ref l0] [] h Q = zWp d zi_192 none 1 [.ref l0] [.ref l0] h Q) ∧
    (∀ (d : Nat) (l0 : Value) (x0 : Nat) (h : zMm) (Q : Option Value → zMm → Prop), zWp d zi_192 none 1 [l0] [.ref x0] h Q = zWp d zi_192 none 2 [l0] [.int 1, .ref x0] h Q) ∧
    (∀ (d : Nat) (l0 : Value) (x1 : Int32) (x0 : Nat) (I : Nat → Nat → Int32) (L : Nat → Nat → Int64) (P : Nat → Nat → Option Nat) (Q : Option Value → zMm → Prop), zSH[x0]? = some (.inl 10) → x1 = 0 ∨ x1 = 1 → zWp d zi_192 none 2 [l0] [.int x1, .ref x0] (zSH, I, L, P) Q = zWp d zi_192 none 5 [l0] [] (zSH, zw I x0 (upd (I x0) 38 x1), L, P) Q) ∧
    (∀ (d : Nat) (l0 : Nat)  (h : zMm) (Q : Option Value → zMm → Prop), zWp d zi_192 none 5 [.ref l0] [] h Q = zWp d zi_192 none 6 [.ref l0] [.ref l0] h Q) ∧
    (∀ (d : Nat) (l0 : Value) (x0 : Nat) (I : Nat → Nat → Int32) (L : Nat → Nat → Int64) (P : Nat → Nat → Option Nat) (Q : Option Value → zMm → Prop), zSH[x0]? = some (.inl 10) → zWp d zi_192 none 6 [l0] [.ref x0] (zSH, I, L, P) Q = zWp d zi_192 none 9 [l0] [va_rf (P x0 39)] (zSH, I, L, P) Q) ∧
    (∀ (d : Nat) (l0 : Value) (x0 : Nat) (h : zMm) (Q : Option Value → zMm → Prop), zWp d zi_192 none 9 [l0] [.ref x0] h Q = zWp d zi_192 none 10 [l0] [.int 0, .ref x0] h Q) ∧
    (∀ (d : Nat) (l0 : Nat) (x1 : Int32) (x0 : Nat) (h : zMm) (Q : Option Value → zMm → Prop), zWp d zi_192 none 10 [.ref l0] [.int x1, .ref x0] h Q = zWp d zi_192 none 11 [.ref l0] [.ref l0, .int x1, .ref x0] h Q) ∧
    (∀ (d : Nat) (l0 : Value) (x2 : Nat) (x1 : Int32) (x0 : Nat) (I : Nat → Nat → Int32) (L : Nat → Nat → Int64) (P : Nat → Nat → Option Nat) (Q : Option Value → zMm → Prop), zSH[x2]? = some (.inl 10) → zWp d zi_192 none 11 [l0] [.ref x2, .int x1, .ref x0] (zSH, I, L, P) Q = zWp d zi_192 none 14 [l0] [.int (I x2 8), .int x1, .ref x0] (zSH, I, L, P) Q) ∧
    (∀ (d : Nat) (l0 : Value) (x2 : Int32) (x1 : Int32) (x0 : Nat) (I : Nat → Nat → Int32) (L : Nat → Nat → Int64) (P : Nat → Nat → Option Nat) (Q : Option Value → zMm → Prop), zAk zSH x0 = some .int → zWp d zi_192 none 14 [l0] [.int x2, .int x1, .ref x0] (zSH, I, L, P) Q = (vp_in x1 (zAn zSH x0) ∧ zWp d zi_192 none 15 [l0] [] (zSH, zw I x0 (upd (I x0) x1.toNatClampNeg x2), L, P) Q)) ∧
    (∀ (d : Nat) (l0 : Nat)  (h : zMm) (Q : Option Value → zMm → Prop), zWp d zi_192 none 15 [.ref l0] [] h Q = zWp d zi_192 none 16 [.ref l0] [.ref l0] h Q) ∧
    (∀ (d : Nat) (l0 : Value) (x0 : Nat) (I : Nat → Nat → Int32) (L : Nat → Nat → Int64) (P : Nat → Nat → Option Nat) (Q : Option Value → zMm → Prop), zSH[x0]? = some (.inl 10) → zWp d zi_192 none 16 [l0] [.ref x0] (zSH, I, L, P) Q = zWp d zi_192 none 19 [l0] [va_rf (P x0 39)] (zSH, I, L, P) Q) ∧
    (∀ (d : Nat) (l0 : Value) (x0 : Nat) (h : zMm) (Q : Option Value → zMm → Prop), zWp d zi_192 none 19 [l0] [.ref x0] h Q = zWp d zi_192 none 20 [l0] [.int 1, .ref x0] h Q) ∧
    (∀ (d : Nat) (l0 : Nat) (x1 : Int32) (x0 : Nat) (h : zMm) (Q : Option Value → zMm → Prop), zWp d zi_192 none 20 [.ref l0] [.int x1, .ref x0] h Q = zWp d zi_192 none 21 [.ref l0] [.ref l0, .int x1, .ref x0] h Q) ∧
    (∀ (d : Nat) (l0 : Value) (x2 : Nat) (x1 : Int32) (x0 : Nat) (I : Nat → Nat → Int32) (L : Nat → Nat → Int64) (P : Nat → Nat → Option Nat) (Q : Option Value → zMm → Prop), zSH[x2]? = some (.inl 10) → zWp d zi_192 none 21 [l0] [.ref x2, .int x1, .ref x0] (zSH, I, L, P) Q = zWp d zi_192 none 24 [l0] [.int (I x2 9), .int x1, .ref x0] (zSH, I, L, P) Q) ∧
    (∀ (d : Nat) (l0 : Value) (x2 : Int32) (x1 : Int32) (x0 : Nat) (I : Nat → Nat → Int32) (L : Nat → Nat → Int64) (P : Nat → Nat → Option Nat) (Q : Option Value → zMm → Prop), zAk zSH x0 = some .int → zWp d zi_192 none 24 [l0] [.int x2, .int x1, .ref x0] (zSH, I, L, P) Q = (vp_in x1 (zAn zSH x0) ∧ zWp d zi_192 none 25 [l0] [] (zSH, zw I x0 (upd (I x0) x1.toNatClampNeg x2), L, P) Q)) ∧
    (∀ (d : Nat) (l0 : Nat)  (h : zMm) (Q : Option Value → zMm → Prop), zWp d zi_192 none 25 [.ref l0] [] h Q = zWp d zi_192 none 26 [.ref l0] [.ref l0] h Q) ∧
    (∀ (d : Nat) (l0 : Value) (x0 : Nat) (I : Nat → Nat → Int32) (L : Nat → Nat → Int64) (P : Nat → Nat → Option Nat) (Q : Option Value → zMm → Prop), zSH[x0]? = some (.inl 10) → zWp d zi_192 none 26 [l0] [.ref x0] (zSH, I, L, P) Q = zWp d zi_192 none 29 [l0] [va_rf (P x0 39)] (zSH, I, L, P) Q) ∧
    (∀ (d : Nat) (l0 : Value) (x0 : Nat) (h : zMm) (Q : Option Value → zMm → Prop), zWp d zi_192 none 29 [l0] [.ref x0] h Q = zWp d zi_192 none 30 [l0] [.int 2, .ref x0] h Q) ∧
    (∀ (d : Nat) (l0 : Nat) (x1 : Int32) (x0 : Nat) (h : zMm) (Q : Option Value → zMm → Prop), zWp d zi_192 none 30 [.ref l0] [.int x1, .ref x0] h Q = zWp d zi_192 none 31 [.ref l0] [.ref l0, .int x1, .ref x0] h Q) ∧
    (∀ (d : Nat) (l0 : Value) (x2 : Nat) (x1 : Int32) (x0 : Nat) (I : Nat → Nat → Int32) (L : Nat → Nat → Int64) (P : Nat → Nat → Option Nat) (Q : Option Value → zMm → Prop), zSH[x2]? = some (.inl 10) → zWp d zi_192 none 31 [l0] [.ref x2, .int x1, .ref x0] (zSH, I, L, P) Q = zWp d zi_192 none 34 [l0] [.int (I x2 33), .int x1, .ref x0] (zSH, I, L, P) Q) ∧
    (∀ (d : Nat) (l0 : Value) (x2 : Int32) (x1 : Int32) (x0 : Nat) (I : Nat → Nat → Int32) (L : Nat → Nat → Int64) (P : Nat → Nat → Option Nat) (Q : Option Value → zMm → Prop), zAk zSH x0 = some .int → zWp d zi_192 none 34 [l0] [.int x2, .int x1, .ref x0] (zSH, I, L, P) Q = (vp_in x1 (zAn zSH x0) ∧ zWp d zi_192 none 35 [l0] [] (zSH, zw I x0 (upd (I x0) x1.toNatClampNeg x2), L, P) Q)) ∧
    (∀ (d : Nat) (l0 : Nat)  (h : zMm) (Q : Option Value → zMm → Prop), zWp d zi_192 none 35 [.ref l0] [] h Q = zWp d zi_192 none 36 [.ref l0] [.ref l0] h Q) ∧
    (∀ (d : Nat) (l0 : Value) (x0 : Nat) (I : Nat → Nat → Int32) (L : Nat → Nat → Int64) (P : Nat → Nat → Option Nat) (Q : Option Value → zMm → Prop), zSH[x0]? = some (.inl 10) → zWp d zi_192 none 36 [l0] [.ref x0] (zSH, I, L, P) Q = zWp d zi_192 none 39 [l0] [va_rf (P x0 39)] (zSH, I, L, P) Q) ∧
    (∀ (d : Nat) (l0 : Value) (x0 : Nat) (h : zMm) (Q : Option Value → zMm → Prop), zWp d zi_192 none 39 [l0] [.ref x0] h Q = zWp d zi_192 none 40 [l0] [.int 3, .ref x0] h Q) ∧
    (∀ (d : Nat) (l0 : Nat) (x1 : Int32) (x0 : Nat) (h : zMm) (Q : Option Value → zMm → Prop), zWp d zi_192 none 40 [.ref l0] [.int x1, .ref x0] h Q = zWp d zi_192 none 41 [.ref l0] [.ref l0, .int x1, .ref x0] h Q) ∧
    (∀ (d : Nat) (l0 : Value) (x2 : Nat) (x1 : Int32) (x0 : Nat) (I : Nat → Nat → Int32) (L : Nat → Nat → Int64) (P : Nat → Nat → Option Nat) (Q : Option Value → zMm → Prop), zSH[x2]? = some (.inl 10) → zWp d zi_192 none 41 [l0] [.ref x2, .int x1, .ref x0] (zSH, I, L, P) Q = zWp d zi_192 none 44 [l0] [.int (I x2 35), .int x1, .ref x0] (zSH, I, L, P) Q) ∧
    (∀ (d : Nat) (l0 : Value) (x2 : Int32) (x1 : Int32) (x0 : Nat) (I : Nat → Nat → Int32) (L : Nat → Nat → Int64) (P : Nat → Nat → Option Nat) (Q : Option Value → zMm → Prop), zAk zSH x0 = some .int → zWp d zi_192 none 44 [l0] [.int x2, .int x1, .ref x0] (zSH, I, L, P) Q = (vp_in x1 (zAn zSH x0) ∧ zWp d zi_192 none 45 [l0] [] (zSH, zw I x0 (upd (I x0) x1.toNatClampNeg x2), L, P) Q)) ∧
    (∀ (d : Nat) (l0 : Nat)  (h : zMm) (Q : Option Value → zMm → Prop), zWp d zi_192 none 45 [.ref l0] [] h Q = zWp d zi_192 none 46 [.ref l0] [.ref l0] h Q) ∧
    (∀ (d : Nat) (l0 : Value) (x0 : Nat) (I : Nat → Nat → Int32) (L : Nat → Nat → Int64) (P : Nat → Nat → Option Nat) (Q : Option Value → zMm → Prop), zSH[x0]? = some (.inl 10) → zWp d zi_192 none 46 [l0] [.ref x0] (zSH, I, L, P) Q = zWp d zi_192 none 49 [l0] [va_rf (P x0 39)] (zSH, I, L, P) Q) ∧
    (∀ (d : Nat) (l0 : Value) (x0 : Nat) (h : zMm) (Q : Option Value → zMm → Prop), zWp d zi_192 none 49 [l0] [.ref x0] h Q = zWp d zi_192 none 50 [l0] [.int 4, .ref x0] h Q) ∧
    (∀ (d : Nat) (l0 : Nat) (x1 : Int32) (x0 : Nat) (h : zMm) (Q : Option Value → zMm → Prop), zWp d zi_192 none 50 [.ref l0] [.int x1, .ref x0] h Q = zWp d zi_192 none 51 [.ref l0] [.ref l0, .int x1, .ref x0] h Q) ∧
    (∀ (d : Nat) (l0 : Value) (x2 : Nat) (x1 : Int32) (x0 : Nat) (I : Nat → Nat → Int32) (L : Nat → Nat → Int64) (P : Nat → Nat → Option Nat) (Q : Option Value → zMm → Prop), zSH[x2]? = some (.inl 10) → zWp d zi_192 none 51 [l0] [.ref x2, .int x1, .ref x0] (zSH, I, L, P) Q = zWp d zi_192 none 54 [l0] [.int (I x2 36), .int x1, .ref x0] (zSH, I, L, P) Q) ∧
    (∀ (d : Nat) (l0 : Value) (x2 : Int32) (x1 : Int32) (x0 : Nat) (I : Nat → Nat → Int32) (L : Nat → Nat → Int64) (P : Nat → Nat → Option Nat) (Q : Option Value → zMm → Prop), zAk zSH x0 = some .int → zWp d zi_192 none 54 [l0] [.int x2, .int x1, .ref x0] (zSH, I, L, P) Q = (vp_in x1 (zAn zSH x0) ∧ zWp d zi_192 none 55 [l0] [] (zSH, zw I x0 (upd (I x0) x1.toNatClampNeg x2), L, P) Q)) ∧
    (∀ (d : Nat) (l0 : Nat)  (h : zMm) (Q : Option Value → zMm → Prop), zWp d zi_192 none 55 [.ref l0] [] h Q = zWp d zi_192 none 56 [.ref l0] [.ref l0] h Q) ∧
    (∀ (d : Nat) (l0 : Value) (x0 : Nat) (I : Nat → Nat → Int32) (L : Nat → Nat → Int64) (P : Nat → Nat → Option Nat) (Q : Option Value → zMm → Prop), zSH[x0]? = some (.inl 10) → zWp d zi_192 none 56 [l0] [.ref x0] (zSH, I, L, P) Q = zWp d zi_192 none 59 [l0] [va_rf (P x0 39)] (zSH, I, L, P) Q) ∧
    (∀ (d : Nat) (l0 : Value) (x0 : Nat) (h : zMm) (Q : Option Value → zMm → Prop), zWp d zi_192 none 59 [l0] [.ref x0] h Q = zWp d zi_192 none 60 [l0] [.int 5, .ref x0] h Q) ∧
    (∀ (d : Nat) (l0 : Nat) (x1 : Int32) (x0 : Nat) (h : zMm) (Q : Option Value → zMm → Prop), zWp d zi_192 none 60 [.ref l0] [.int x1, .ref x0] h Q = zWp d zi_192 none 61 [.ref l0] [.ref l0, .int x1, .ref x0] h Q) ∧
    (∀ (d : Nat) (l0 : Value) (x2 : Nat) (x1 : Int32) (x0 : Nat) (I : Nat → Nat → Int32) (L : Nat → Nat → Int64) (P : Nat → Nat → Option Nat) (Q : Option Value → zMm → Prop), zSH[x2]? = some (.inl 10) → zWp d zi_192 none 61 [l0] [.ref x2, .int x1, .ref x0] (zSH, I, L, P) Q = zWp d zi_192 none 64 [l0] [.int (I x2 34), .int x1, .ref x0] (zSH, I, L, P) Q) ∧
    (∀ (d : Nat) (l0 : Value) (x2 : Int32) (x1 : Int32) (x0 : Nat) (I : Nat → Nat → Int32) (L : Nat → Nat → Int64) (P : Nat → Nat → Option Nat) (Q : Option Value → zMm → Prop), zAk zSH x0 = some .int → zWp d zi_192 none 64 [l0] [.int x2, .int x1, .ref x0] (zSH, I, L, P) Q = (vp_in x1 (zAn zSH x0) ∧ zWp d zi_192 none 65 [l0] [] (zSH, zw I x0 (upd (I x0) x1.toNatClampNeg x2), L, P) Q)) ∧
    (∀ (d : Nat) (l0 : Nat)  (h : zMm) (Q : Option Value → zMm → Prop), zWp d zi_192 none 65 [.ref l0] [] h Q = zWp d zi_192 none 66 [.ref l0] [.ref l0] h Q) ∧
    (∀ (d : Nat) (l0 : Value) (x0 : Nat) (I : Nat → Nat → Int32) (L : Nat → Nat → Int64) (P : Nat → Nat → Option Nat) (Q : Option Value → zMm → Prop), zSH[x0]? = some (.inl 10) → zWp d zi_192 none 66 [l0] [.ref x0] (zSH, I, L, P) Q = zWp d zi_192 none 69 [l0] [.int (I x0 33)] (zSH, I, L, P) Q) ∧
    (∀ (d : Nat) (l0 : Value) (x0 : Int32) (h : zMm) (Q : Option Value → zMm → Prop), zWp d zi_192 none 69 [l0] [.int x0] h Q = Q (some (.int x0)) h) :=
  ⟨(fun d l0  h Q => zr_aload_n rfl rfl),
   (fun d l0 x0 h Q => zr_iconst rfl (by decide)),
   (fun d l0 x1 x0 I L P Q p0 p1 => zr_putZ rfl lf_10_322 (by decide) rfl p0 p1),
   (fun d l0  h Q => zr_aload_n rfl rfl),
   (fun d l0 x0 I L P Q p0 => zr_getQ rfl lf_10_58 (fun _ _ _ => rfl) p0),
   (fun d l0 x0 h Q => zr_iconst rfl (by decide)),
   (fun d l0 x1 x0 h Q => zr_aload_n rfl rfl),
   (fun d l0 x2 x1 x0 I L P Q p0 => zr_getI rfl lf_10_84 (fun _ _ _ => rfl) p0),
   (fun d l0 x2 x1 x0 I L P Q p0 => zr_ast rfl p0),
   (fun d l0  h Q => zr_aload_n rfl rfl),
   (fun d l0 x0 I L P Q p0 => zr_getQ rfl lf_10_58 (fun _ _ _ => rfl) p0),
   (fun d l0 x0 h Q => zr_iconst rfl (by decide)),
   (fun d l0 x1 x0 h Q => zr_aload_n rfl rfl),
   (fun d l0 x2 x1 x0 I L P Q p0 => zr_getI rfl lf_10_87 (fun _ _ _ => rfl) p0),
   (fun d l0 x2 x1 x0 I L P Q p0 => zr_ast rfl p0),
   (fun d l0  h Q => zr_aload_n rfl rfl),
   (fun d l0 x0 I L P Q p0 => zr_getQ rfl lf_10_58 (fun _ _ _ => rfl) p0),
   (fun d l0 x0 h Q => zr_iconst rfl (by decide)),
   (fun d l0 x1 x0 h Q => zr_aload_n rfl rfl),
   (fun d l0 x2 x1 x0 I L P Q p0 => zr_getI rfl lf_10_172 (fun _ _ _ => rfl) p0),
   (fun d l0 x2 x1 x0 I L P Q p0 => zr_ast rfl p0),
   (fun d l0  h Q => zr_aload_n rfl rfl),
   (fun d l0 x0 I L P Q p0 => zr_getQ rfl lf_10_58 (fun _ _ _ => rfl) p0),
   (fun d l0 x0 h Q => zr_iconst rfl (by decide)),
   (fun d l0 x1 x0 h Q => zr_aload_n rfl rfl),
   (fun d l0 x2 x1 x0 I L P Q p0 => zr_getI rfl lf_10_310 (fun _ _ _ => rfl) p0),
   (fun d l0 x2 x1 x0 I L P Q p0 => zr_ast rfl p0),
   (fun d l0  h Q => zr_aload_n rfl rfl),
   (fun d l0 x0 I L P Q p0 => zr_getQ rfl lf_10_58 (fun _ _ _ => rfl) p0),
   (fun d l0 x0 h Q => zr_iconst rfl (by decide)),
   (fun d l0 x1 x0 h Q => zr_aload_n rfl rfl),
   (fun d l0 x2 x1 x0 I L P Q p0 => zr_getI rfl lf_10_90 (fun _ _ _ => rfl) p0),
   (fun d l0 x2 x1 x0 I L P Q p0 => zr_ast rfl p0),
   (fun d l0  h Q => zr_aload_n rfl rfl),
   (fun d l0 x0 I L P Q p0 => zr_getQ rfl lf_10_58 (fun _ _ _ => rfl) p0),
   (fun d l0 x0 h Q => zr_iconst rfl (by decide)),
   (fun d l0 x1 x0 h Q => zr_aload_n rfl rfl),
   (fun d l0 x2 x1 x0 I L P Q p0 => zr_getI rfl lf_10_301 (fun _ _ _ => rfl) p0),
   (fun d l0 x2 x1 x0 I L P Q p0 => zr_ast rfl p0),
   (fun d l0  h Q => zr_aload_n rfl rfl),
   (fun d l0 x0 I L P Q p0 => zr_getI rfl lf_10_172 (fun _ _ _ => rfl) p0),
   (fun d l0 x0 h Q => zr_iret rfl rfl)⟩
theorem E_X10_back : ∀ (d : Nat) (a0 : Nat) (h : zMm) (Q : Option Value → zMm → Prop), zWM (d + 1) 193 [.ref a0] h Q = zWp d zi_193 none 0 [.ref a0] [] h Q := fun d a0 h Q => zW_M m_193 (Nat.le_of_ble_eq_true rfl) rfl
set_option maxRecDepth 100000 in
theorem R_X10_back :
    (∀ (d : Nat) (l0 : Nat)  (h : zMm) (Q : Option Value → zMm → Prop), zWp d zi_193 none 0 [.ref l0] [] h Q = zWp d zi_193 none 1 [.ref l0] [.ref l0] h Q) ∧
    (∀ (d : Nat) (l0 : Value) (x0 : Nat) (I : Nat → Nat → Int32) (L : Nat → Nat → Int64) (P : Nat → Nat → Option Nat) (Q : Option Value → zMm → Prop), zSH[x0]? = some (.inl 10) → zWp d zi_193 none 1 [l0] [.ref x0] (zSH, I, L, P) Q = zWp d zi_193 none 4 [l0] [.int (I x0 38)] (zSH, I, L, P) Q) ∧
    (∀ (d : Nat) (l0 : Value) (x0 : Int32) (h : zMm) (Q : Option Value → zMm → Prop), zWp d zi_193 none 4 [l0] [.int x0] h Q = if x0 = 0 then zWp d zi_193 none 7 [l0] [] h Q else zWp d zi_193 none 10 [l0] [] h Q) ∧
    (∀ (d : Nat) (l0 : Value)  (h : zMm) (Q : Option Value → zMm → Prop), zWp d zi_193 none 7 [l0] [] h Q = zWp d zi_193 none 9 [l0] [.int (-5)] h Q) ∧
    (∀ (d : Nat) (l0 : Value) (x0 : Int32) (h : zMm) (Q : Option Value → zMm → Prop), zWp d zi_193 none 9 [l0] [.int x0] h Q = Q (some (.int x0)) h) ∧
    (∀ (d : Nat) (l0 : Nat)  (h : zMm) (Q : Option Value → zMm → Prop), zWp d zi_193 none 10 [.ref l0] [] h Q = zWp d zi_193 none 11 [.ref l0] [.ref l0] h Q) ∧
    (∀ (d : Nat) (l0 : Nat) (x0 : Nat) (h : zMm) (Q : Option Value → zMm → Prop), zWp d zi_193 none 11 [.ref l0] [.ref x0] h Q = zWp d zi_193 none 12 [.ref l0] [.ref l0, .ref x0] h Q) ∧
    (∀ (d : Nat) (l0 : Value) (x1 : Nat) (x0 : Nat) (I : Nat → Nat → Int32) (L : Nat → Nat → Int64) (P : Nat → Nat → Option Nat) (Q : Option Value → zMm → Prop), zSH[x1]? = some (.inl 10) → zWp d zi_193 none 12 [l0] [.ref x1, .ref x0] (zSH, I, L, P) Q = zWp d zi_193 none 15 [l0] [va_rf (P x1 39), .ref x0] (zSH, I, L, P) Q) ∧
    (∀ (d : Nat) (l0 : Value) (x1 : Nat) (x0 : Nat) (h : zMm) (Q : Option Value → zMm → Prop), zWp d zi_193 none 15 [l0] [.ref x1, .ref x0] h Q = zWp d zi_193 none 16 [l0] [.int 0, .ref x1, .ref x0] h Q) ∧
    (∀ (d : Nat) (l0 : Value) (x2 : Int32) (x1 : Nat) (x0 : Nat) (I : Nat → Nat → Int32) (L : Nat → Nat → Int64) (P : Nat → Nat → Option Nat) (Q : Option Value → zMm → Prop), zAk zSH x1 = some .int → zWp d zi_193 none 16 [l0] [.int x2, .ref x1, .ref x0] (zSH, I, L, P) Q = (vp_in x2 (zAn zSH x1) ∧ zWp d zi_193 none 17 [l0] [.int (I x1 x2.toNatClampNeg), .ref x0] (zSH, I, L, P) Q)) ∧
    (∀ (d : Nat) (l0 : Value) (x1 : Int32) (x0 : Nat) (I : Nat → Nat → Int32) (L : Nat → Nat → Int64) (P : Nat → Nat → Option Nat) (Q : Option Value → zMm → Prop), zSH[x0]? = some (.inl 10) → zWp d zi_193 none 17 [l0] [.int x1, .ref x0] (zSH, I, L, P) Q = zWp d zi_193 none 20 [l0] [] (zSH, zw I x0 (upd (I x0) 8 x1), L, P) Q) ∧
    (∀ (d : Nat) (l0 : Nat)  (h : zMm) (Q : Option Value → zMm → Prop), zWp d zi_193 none 20 [.ref l0] [] h Q = zWp d zi_193 none 21 [.ref l0] [.ref l0] h Q) ∧
    (∀ (d : Nat) (l0 : Nat) (x0 : Nat) (h : zMm) (Q : Option Value → zMm → Prop), zWp d zi_193 none 21 [.ref l0] [.ref x0] h Q = zWp d zi_193 none 22 [.ref l0] [.ref l0, .ref x0] h Q) ∧
    (∀ (d : Nat) (l0 : Value) (x1 : Nat) (x0 : Nat) (I : Nat → Nat → Int32) (L : Nat → Nat → Int64) (P : Nat → Nat → Option Nat) (Q : Option Value → zMm → Prop), zSH[x1]? = some (.inl 10) → zWp d zi_193 none 22 [l0] [.ref x1, .ref x0] (zSH, I, L, P) Q = zWp d zi_193 none 25 [l0] [va_rf (P x1 39), .ref x0] (zSH, I, L, P) Q) ∧
    (∀ (d : Nat) (l0 : Value) (x1 : Nat) (x0 : Nat) (h : zMm) (Q : Option Value → zMm → Prop), zWp d zi_193 none 25 [l0] [.ref x1, .ref x0] h Q = zWp d zi_193 none 26 [l0] [.int 1, .ref x1, .ref x0] h Q) ∧
    (∀ (d : Nat) (l0 : Value) (x2 : Int32) (x1 : Nat) (x0 : Nat) (I : Nat → Nat → Int32) (L : Nat → Nat → Int64) (P : Nat → Nat → Option Nat) (Q : Option Value → zMm → Prop), zAk zSH x1 = some .int → zWp d zi_193 none 26 [l0] [.int x2, .ref x1, .ref x0] (zSH, I, L, P) Q = (vp_in x2 (zAn zSH x1) ∧ zWp d zi_193 none 27 [l0] [.int (I x1 x2.toNatClampNeg), .ref x0] (zSH, I, L, P) Q)) ∧
    (∀ (d : Nat) (l0 : Value) (x1 : Int32) (x0 : Nat) (I : Nat → Nat → Int32) (L : Nat → Nat → Int64) (P : Nat → Nat → Option Nat) (Q : Option Value → zMm → Prop), zSH[x0]? = some (.inl 10) → zWp d zi_193 none 27 [l0] [.int x1, .ref x0] (zSH, I, L, P) Q = zWp d zi_193 none 30 [l0] [] (zSH, zw I x0 (upd (I x0) 9 x1), L, P) Q) ∧
    (∀ (d : Nat) (l0 : Nat)  (h : zMm) (Q : Option Value → zMm → Prop), zWp d zi_193 none 30 [.ref l0] [] h Q = zWp d zi_193 none 31 [.ref l0] [.ref l0] h Q) ∧
    (∀ (d : Nat) (l0 : Nat) (x0 : Nat) (h : zMm) (Q : Option Value → zMm → Prop), zWp d zi_193 none 31 [.ref l0] [.ref x0] h Q = zWp d zi_193 none 32 [.ref l0] [.ref l0, .ref x0] h Q) ∧
    (∀ (d : Nat) (l0 : Value) (x1 : Nat) (x0 : Nat) (I : Nat → Nat → Int32) (L : Nat → Nat → Int64) (P : Nat → Nat → Option Nat) (Q : Option Value → zMm → Prop), zSH[x1]? = some (.inl 10) → zWp d zi_193 none 32 [l0] [.ref x1, .ref x0] (zSH, I, L, P) Q = zWp d zi_193 none 35 [l0] [va_rf (P x1 39), .ref x0] (zSH, I, L, P) Q) ∧
    (∀ (d : Nat) (l0 : Value) (x1 : Nat) (x0 : Nat) (h : zMm) (Q : Option Value → zMm → Prop), zWp d zi_193 none 35 [l0] [.ref x1, .ref x0] h Q = zWp d zi_193 none 36 [l0] [.int 2, .ref x1, .ref x0] h Q) ∧
    (∀ (d : Nat) (l0 : Value) (x2 : Int32) (x1 : Nat) (x0 : Nat) (I : Nat → Nat → Int32) (L : Nat → Nat → Int64) (P : Nat → Nat → Option Nat) (Q : Option Value → zMm → Prop), zAk zSH x1 = some .int → zWp d zi_193 none 36 [l0] [.int x2, .ref x1, .ref x0] (zSH, I, L, P) Q = (vp_in x2 (zAn zSH x1) ∧ zWp d zi_193 none 37 [l0] [.int (I x1 x2.toNatClampNeg), .ref x0] (zSH, I, L, P) Q)) ∧
    (∀ (d : Nat) (l0 : Value) (x1 : Int32) (x0 : Nat) (I : Nat → Nat → Int32) (L : Nat → Nat → Int64) (P : Nat → Nat → Option Nat) (Q : Option Value → zMm → Prop), zSH[x0]? = some (.inl 10) → zWp d zi_193 none 37 [l0] [.int x1, .ref x0] (zSH, I, L, P) Q = zWp d zi_193 none 40 [l0] [] (zSH, zw I x0 (upd (I x0) 33 x1), L, P) Q) ∧
    (∀ (d : Nat) (l0 : Nat)  (h : zMm) (Q : Option Value → zMm → Prop), zWp d zi_193 none 40 [.ref l0] [] h Q = zWp d zi_193 none 41 [.ref l0] [.ref l0] h Q) ∧
    (∀ (d : Nat) (l0 : Nat) (x0 : Nat) (h : zMm) (Q : Option Value → zMm → Prop), zWp d zi_193 none 41 [.ref l0] [.ref x0] h Q = zWp d zi_193 none 42 [.ref l0] [.ref l0, .ref x0] h Q) ∧
    (∀ (d : Nat) (l0 : Value) (x1 : Nat) (x0 : Nat) (I : Nat → Nat → Int32) (L : Nat → Nat → Int64) (P : Nat → Nat → Option Nat) (Q : Option Value → zMm → Prop), zSH[x1]? = some (.inl 10) → zWp d zi_193 none 42 [l0] [.ref x1, .ref x0] (zSH, I, L, P) Q = zWp d zi_193 none 45 [l0] [va_rf (P x1 39), .ref x0] (zSH, I, L, P) Q) ∧
    (∀ (d : Nat) (l0 : Value) (x1 : Nat) (x0 : Nat) (h : zMm) (Q : Option Value → zMm → Prop), zWp d zi_193 none 45 [l0] [.ref x1, .ref x0] h Q = zWp d zi_193 none 46 [l0] [.int 3, .ref x1, .ref x0] h Q) ∧
    (∀ (d : Nat) (l0 : Value) (x2 : Int32) (x1 : Nat) (x0 : Nat) (I : Nat → Nat → Int32) (L : Nat → Nat → Int64) (P : Nat → Nat → Option Nat) (Q : Option Value → zMm → Prop), zAk zSH x1 = some .int → zWp d zi_193 none 46 [l0] [.int x2, .ref x1, .ref x0] (zSH, I, L, P) Q = (vp_in x2 (zAn zSH x1) ∧ zWp d zi_193 none 47 [l0] [.int (I x1 x2.toNatClampNeg), .ref x0] (zSH, I, L, P) Q)) ∧
    (∀ (d : Nat) (l0 : Value) (x1 : Int32) (x0 : Nat) (I : Nat → Nat → Int32) (L : Nat → Nat → Int64) (P : Nat → Nat → Option Nat) (Q : Option Value → zMm → Prop), zSH[x0]? = some (.inl 10) → zWp d zi_193 none 47 [l0] [.int x1, .ref x0] (zSH, I, L, P) Q = zWp d zi_193 none 50 [l0] [] (zSH, zw I x0 (upd (I x0) 35 x1), L, P) Q) ∧
    (∀ (d : Nat) (l0 : Nat)  (h : zMm) (Q : Option Value → zMm → Prop), zWp d zi_193 none 50 [.ref l0] [] h Q = zWp d zi_193 none 51 [.ref l0] [.ref l0] h Q) ∧
    (∀ (d : Nat) (l0 : Nat) (x0 : Nat) (h : zMm) (Q : Option Value → zMm → Prop), zWp d zi_193 none 51 [.ref l0] [.ref x0] h Q = zWp d zi_193 none 52 [.ref l0] [.ref l0, .ref x0] h Q) ∧
    (∀ (d : Nat) (l0 : Value) (x1 : Nat) (x0 : Nat) (I : Nat → Nat → Int32) (L : Nat → Nat → Int64) (P : Nat → Nat → Option Nat) (Q : Option Value → zMm → Prop), zSH[x1]? = some (.inl 10) → zWp d zi_193 none 52 [l0] [.ref x1, .ref x0] (zSH, I, L, P) Q = zWp d zi_193 none 55 [l0] [va_rf (P x1 39), .ref x0] (zSH, I, L, P) Q) ∧
    (∀ (d : Nat) (l0 : Value) (x1 : Nat) (x0 : Nat) (h : zMm) (Q : Option Value → zMm → Prop), zWp d zi_193 none 55 [l0] [.ref x1, .ref x0] h Q = zWp d zi_193 none 56 [l0] [.int 4, .ref x1, .ref x0] h Q) ∧
    (∀ (d : Nat) (l0 : Value) (x2 : Int32) (x1 : Nat) (x0 : Nat) (I : Nat → Nat → Int32) (L : Nat → Nat → Int64) (P : Nat → Nat → Option Nat) (Q : Option Value → zMm → Prop), zAk zSH x1 = some .int → zWp d zi_193 none 56 [l0] [.int x2, .ref x1, .ref x0] (zSH, I, L, P) Q = (vp_in x2 (zAn zSH x1) ∧ zWp d zi_193 none 57 [l0] [.int (I x1 x2.toNatClampNeg), .ref x0] (zSH, I, L, P) Q)) ∧
    (∀ (d : Nat) (l0 : Value) (x1 : Int32) (x0 : Nat) (I : Nat → Nat → Int32) (L : Nat → Nat → Int64) (P : Nat → Nat → Option Nat) (Q : Option Value → zMm → Prop), zSH[x0]? = some (.inl 10) → zWp d zi_193 none 57 [l0] [.int x1, .ref x0] (zSH, I, L, P) Q = zWp d zi_193 none 60 [l0] [] (zSH, zw I x0 (upd (I x0) 36 x1), L, P) Q) ∧
    (∀ (d : Nat) (l0 : Nat)  (h : zMm) (Q : Option Value → zMm → Prop), zWp d zi_193 none 60 [.ref l0] [] h Q = zWp d zi_193 none 61 [.ref l0] [.ref l0] h Q) ∧
    (∀ (d : Nat) (l0 : Nat) (x0 : Nat) (h : zMm) (Q : Option Value → zMm → Prop), zWp d zi_193 none 61 [.ref l0] [.ref x0] h Q = zWp d zi_193 none 62 [.ref l0] [.ref l0, .ref x0] h Q) ∧
    (∀ (d : Nat) (l0 : Value) (x1 : Nat) (x0 : Nat) (I : Nat → Nat → Int32) (L : Nat → Nat → Int64) (P : Nat → Nat → Option Nat) (Q : Option Value → zMm → Prop), zSH[x1]? = some (.inl 10) → zWp d zi_193 none 62 [l0] [.ref x1, .ref x0] (zSH, I, L, P) Q = zWp d zi_193 none 65 [l0] [va_rf (P x1 39), .ref x0] (zSH, I, L, P) Q) ∧
    (∀ (d : Nat) (l0 : Value) (x1 : Nat) (x0 : Nat) (h : zMm) (Q : Option Value → zMm → Prop), zWp d zi_193 none 65 [l0] [.ref x1, .ref x0] h Q = zWp d zi_193 none 66 [l0] [.int 5, .ref x1, .ref x0] h Q) ∧
    (∀ (d : Nat) (l0 : Value) (x2 : Int32) (x1 : Nat) (x0 : Nat) (I : Nat → Nat → Int32) (L : Nat → Nat → Int64) (P : Nat → Nat → Option Nat) (Q : Option Value → zMm → Prop), zAk zSH x1 = some .int → zWp d zi_193 none 66 [l0] [.int x2, .ref x1, .ref x0] (zSH, I, L, P) Q = (vp_in x2 (zAn zSH x1) ∧ zWp d zi_193 none 67 [l0] [.int (I x1 x2.toNatClampNeg), .ref x0] (zSH, I, L, P) Q)) ∧
    (∀ (d : Nat) (l0 : Value) (x1 : Int32) (x0 : Nat) (I : Nat → Nat → Int32) (L : Nat → Nat → Int64) (P : Nat → Nat → Option Nat) (Q : Option Value → zMm → Prop), zSH[x0]? = some (.inl 10) → zWp d zi_193 none 67 [l0] [.int x1, .ref x0] (zSH, I, L, P) Q = zWp d zi_193 none 70 [l0] [] (zSH, zw I x0 (upd (I x0) 34 x1), L, P) Q) ∧
    (∀ (d : Nat) (l0 : Nat)  (h : zMm) (Q : Option Value → zMm → Prop), zWp d zi_193 none 70 [.ref l0] [] h Q = zWp d zi_193 none 71 [.ref l0] [.ref l0] h Q) ∧
    (∀ (d : Nat) (l0 : Value) (x0 : Nat) (I : Nat → Nat → Int32) (L : Nat → Nat → Int64) (P : Nat → Nat → Option Nat) (Q : Option Value → zMm → Prop), zSH[x0]? = some (.inl 10) → zWp d zi_193 none 71 [l0] [.ref x0] (zSH, I, L, P) Q = zWp d zi_193 none 74 [l0] [.int (I x0 33)] (zSH, I, L, P) Q) ∧
    (∀ (d : Nat) (l0 : Value) (x0 : Int32) (h : zMm) (Q : Option Value → zMm → Prop), zWp d zi_193 none 74 [l0] [.int x0] h Q = Q (some (.int x0)) h) :=
  ⟨(fun d l0  h Q => zr_aload_n rfl rfl),
   (fun d l0 x0 I L P Q p0 => zr_getI rfl lf_10_322 (fun _ _ _ => rfl) p0),
   (fun d l0 x0 h Q => zr_if_ne rfl (by decide)),
   (fun d l0  h Q => zr_bipush rfl (by decide)),
   (fun d l0 x0 h Q => zr_iret rfl rfl),
   (fun d l0  h Q => zr_aload_n rfl rfl),
   (fun d l0 x0 h Q => zr_aload_n rfl rfl),
   (fun d l0 x1 x0 I L P Q p0 => zr_getQ rfl lf_10_58 (fun _ _ _ => rfl) p0),
   (fun d l0 x1 x0 h Q => zr_iconst rfl (by decide)),
   (fun d l0 x2 x1 x0 I L P Q p0 => zr_ald rfl p0),
   (fun d l0 x1 x0 I L P Q p0 => zr_putI rfl lf_10_84 (by decide) rfl p0),
   (fun d l0  h Q => zr_aload_n rfl rfl),
   (fun d l0 x0 h Q => zr_aload_n rfl rfl),
   (fun d l0 x1 x0 I L P Q p0 => zr_getQ rfl lf_10_58 (fun _ _ _ => rfl) p0),
   (fun d l0 x1 x0 h Q => zr_iconst rfl (by decide)),
   (fun d l0 x2 x1 x0 I L P Q p0 => zr_ald rfl p0),
   (fun d l0 x1 x0 I L P Q p0 => zr_putI rfl lf_10_87 (by decide) rfl p0),
   (fun d l0  h Q => zr_aload_n rfl rfl),
   (fun d l0 x0 h Q => zr_aload_n rfl rfl),
   (fun d l0 x1 x0 I L P Q p0 => zr_getQ rfl lf_10_58 (fun _ _ _ => rfl) p0),
   (fun d l0 x1 x0 h Q => zr_iconst rfl (by decide)),
   (fun d l0 x2 x1 x0 I L P Q p0 => zr_ald rfl p0),
   (fun d l0 x1 x0 I L P Q p0 => zr_putI rfl lf_10_172 (by decide) rfl p0),
   (fun d l0  h Q => zr_aload_n rfl rfl),
   (fun d l0 x0 h Q => zr_aload_n rfl rfl),
   (fun d l0 x1 x0 I L P Q p0 => zr_getQ rfl lf_10_58 (fun _ _ _ => rfl) p0),
   (fun d l0 x1 x0 h Q => zr_iconst rfl (by decide)),
   (fun d l0 x2 x1 x0 I L P Q p0 => zr_ald rfl p0),
   (fun d l0 x1 x0 I L P Q p0 => zr_putI rfl lf_10_310 (by decide) rfl p0),
   (fun d l0  h Q => zr_aload_n rfl rfl),
   (fun d l0 x0 h Q => zr_aload_n rfl rfl),
   (fun d l0 x1 x0 I L P Q p0 => zr_getQ rfl lf_10_58 (fun _ _ _ => rfl) p0),
   (fun d l0 x1 x0 h Q => zr_iconst rfl (by decide)),
   (fun d l0 x2 x1 x0 I L P Q p0 => zr_ald rfl p0),
   (fun d l0 x1 x0 I L P Q p0 => zr_putI rfl lf_10_90 (by decide) rfl p0),
   (fun d l0  h Q => zr_aload_n rfl rfl),
   (fun d l0 x0 h Q => zr_aload_n rfl rfl),
   (fun d l0 x1 x0 I L P Q p0 => zr_getQ rfl lf_10_58 (fun _ _ _ => rfl) p0),
   (fun d l0 x1 x0 h Q => zr_iconst rfl (by decide)),
   (fun d l0 x2 x1 x0 I L P Q p0 => zr_ald rfl p0),
   (fun d l0 x1 x0 I L P Q p0 => zr_putI rfl lf_10_301 (by decide) rfl p0),
   (fun d l0  h Q => zr_aload_n rfl rfl),
   (fun d l0 x0 I L P Q p0 => zr_getI rfl lf_10_172 (fun _ _ _ => rfl) p0),
   (fun d l0 x0 h Q => zr_iret rfl rfl)⟩
theorem E_X10_allPallets : ∀ (d : Nat) (a0 : Nat) (h : zMm) (Q : Option Value → zMm → Prop), zWM (d + 1) 194 [.ref a0] h Q = zWp d zi_194 none 0 [.ref a0, .retAddr 0, .retAddr 0] [] h Q := fun d a0 h Q => zW_M m_194 (Nat.le_of_ble_eq_true rfl) rfl
set_option maxRecDepth 100000 in
theorem R_X10_allPallets :
    (∀ (d : Nat) (l0 : Value) (l1 : Value) (l2 : Value)  (h : zMm) (Q : Option Value → zMm → Prop), zWp d zi_194 none 0 [l0, l1, l2] [] h Q = zWp d zi_194 none 1 [l0, l1, l2] [.int 0] h Q) ∧
    (∀ (d : Nat) (l0 : Nat) (l1 : Value) (l2 : Value) (x0 : Int32) (h : zMm) (Q : Option Value → zMm → Prop), zWp d zi_194 none 1 [.ref l0, l1, l2] [.int x0] h Q = zWp d zi_194 none 2 [.ref l0, .int x0, l2] [] h Q) ∧
    (∀ (d : Nat) (l0 : Value) (l1 : Value) (l2 : Value)  (h : zMm) (Q : Option Value → zMm → Prop), zWp d zi_194 none 2 [l0, l1, l2] [] h Q = zWp d zi_194 none 3 [l0, l1, l2] [.int 0] h Q) ∧
    (∀ (d : Nat) (l0 : Value) (l1 : Int32) (l2 : Value) (x0 : Int32) (h : zMm) (Q : Option Value → zMm → Prop), zWp d zi_194 none 3 [l0, .int l1, l2] [.int x0] h Q = zWp d zi_194 none 4 [l0, .int l1, .int x0] [] h Q) ∧
    (∀ (d : Nat) (l0 : Nat) (l1 : Value) (l2 : Value) (x0 : Int32) (h : zMm) (Q : Option Value → zMm → Prop), zWp d zi_194 none 5 [.ref l0, l1, l2] [.int x0] h Q = zWp d zi_194 none 6 [.ref l0, l1, l2] [.ref l0, .int x0] h Q) ∧
    (∀ (d : Nat) (l0 : Value) (l1 : Value) (l2 : Value) (x1 : Nat) (x0 : Int32) (I : Nat → Nat → Int32) (L : Nat → Nat → Int64) (P : Nat → Nat → Option Nat) (Q : Option Value → zMm → Prop), zSH[x1]? = some (.inl 10) → zWp d zi_194 none 6 [l0, l1, l2] [.ref x1, .int x0] (zSH, I, L, P) Q = zWp d zi_194 none 9 [l0, l1, l2] [.int (I x1 6), .int x0] (zSH, I, L, P) Q) ∧
    (∀ (d : Nat) (l0 : Value) (l1 : Value) (l2 : Value) (x1 : Int32) (x0 : Int32) (h : zMm) (Q : Option Value → zMm → Prop), zWp d zi_194 none 9 [l0, l1, l2] [.int x1, .int x0] h Q = if x1 ≤ x0 then zWp d zi_194 none 27 [l0, l1, l2] [] h Q else zWp d zi_194 none 12 [l0, l1, l2] [] h Q) ∧
    (∀ (d : Nat) (l0 : Value) (l1 : Int32) (l2 : Value)  (h : zMm) (Q : Option Value → zMm → Prop), zWp d zi_194 none 12 [l0, .int l1, l2] [] h Q = zWp d zi_194 none 13 [l0, .int l1, l2] [.int l1] h Q) ∧
    (∀ (d : Nat) (l0 : Nat) (l1 : Value) (l2 : Value) (x0 : Int32) (h : zMm) (Q : Option Value → zMm → Prop), zWp d zi_194 none 13 [.ref l0, l1, l2] [.int x0] h Q = zWp d zi_194 none 14 [.ref l0, l1, l2] [.ref l0, .int x0] h Q) ∧
    (∀ (d : Nat) (l0 : Value) (l1 : Value) (l2 : Value) (x1 : Nat) (x0 : Int32) (I : Nat → Nat → Int32) (L : Nat → Nat → Int64) (P : Nat → Nat → Option Nat) (Q : Option Value → zMm → Prop), zSH[x1]? = some (.inl 10) → zWp d zi_194 none 14 [l0, l1, l2] [.ref x1, .int x0] (zSH, I, L, P) Q = zWp d zi_194 none 17 [l0, l1, l2] [va_rf (P x1 7), .int x0] (zSH, I, L, P) Q) ∧
    (∀ (d : Nat) (l0 : Value) (l1 : Value) (l2 : Int32) (x1 : Nat) (x0 : Int32) (h : zMm) (Q : Option Value → zMm → Prop), zWp d zi_194 none 17 [l0, l1, .int l2] [.ref x1, .int x0] h Q = zWp d zi_194 none 18 [l0, l1, .int l2] [.int l2, .ref x1, .int x0] h Q) ∧
    (∀ (d : Nat) (l0 : Value) (l1 : Value) (l2 : Value) (x2 : Int32) (x1 : Nat) (x0 : Int32) (I : Nat → Nat → Int32) (L : Nat → Nat → Int64) (P : Nat → Nat → Option Nat) (Q : Option Value → zMm → Prop), zAk zSH x1 = some .int → zWp d zi_194 none 18 [l0, l1, l2] [.int x2, .ref x1, .int x0] (zSH, I, L, P) Q = (vp_in x2 (zAn zSH x1) ∧ zWp d zi_194 none 19 [l0, l1, l2] [.int (I x1 x2.toNatClampNeg), .int x0] (zSH, I, L, P) Q)) ∧
    (∀ (d : Nat) (l0 : Value) (l1 : Value) (l2 : Value) (x1 : Int32) (x0 : Int32) (h : zMm) (Q : Option Value → zMm → Prop), zWp d zi_194 none 19 [l0, l1, l2] [.int x1, .int x0] h Q = zWp d zi_194 none 20 [l0, l1, l2] [.int (x0 + x1)] h Q) ∧
    (∀ (d : Nat) (l0 : Nat) (l1 : Value) (l2 : Value) (x0 : Int32) (h : zMm) (Q : Option Value → zMm → Prop), zWp d zi_194 none 20 [.ref l0, l1, l2] [.int x0] h Q = zWp d zi_194 none 21 [.ref l0, .int x0, l2] [] h Q) ∧
    (∀ (d : Nat) (l0 : Value) (l1 : Int32) (l2 : Int32)  (h : zMm) (Q : Option Value → zMm → Prop), zWp d zi_194 none 21 [l0, .int l1, .int l2] [] h Q = zWp d zi_194 none 24 [l0, .int l1, .int (l2 + 1)] [] h Q) ∧
    (∀ (d : Nat) (l0 : Value) (l1 : Value) (l2 : Value)  (h : zMm) (Q : Option Value → zMm → Prop), zWp d zi_194 none 24 [l0, l1, l2] [] h Q = zWp d zi_194 none 4 [l0, l1, l2] [] h Q) ∧
    (∀ (d : Nat) (l0 : Value) (l1 : Int32) (l2 : Value)  (h : zMm) (Q : Option Value → zMm → Prop), zWp d zi_194 none 27 [l0, .int l1, l2] [] h Q = zWp d zi_194 none 28 [l0, .int l1, l2] [.int l1] h Q) ∧
    (∀ (d : Nat) (l0 : Value) (l1 : Value) (l2 : Value) (x0 : Int32) (h : zMm) (Q : Option Value → zMm → Prop), zWp d zi_194 none 28 [l0, l1, l2] [.int x0] h Q = Q (some (.int x0)) h) :=
  ⟨(fun d l0 l1 l2  h Q => zr_iconst rfl (by decide)),
   (fun d l0 l1 l2 x0 h Q => zr_istore_n (n := 1) rfl (Nat.le_of_ble_eq_true rfl) rfl),
   (fun d l0 l1 l2  h Q => zr_iconst rfl (by decide)),
   (fun d l0 l1 l2 x0 h Q => zr_istore_n (n := 2) rfl (Nat.le_of_ble_eq_true rfl) rfl),
   (fun d l0 l1 l2 x0 h Q => zr_aload_n rfl rfl),
   (fun d l0 l1 l2 x1 x0 I L P Q p0 => zr_getI rfl lf_10_99 (fun _ _ _ => rfl) p0),
   (fun d l0 l1 l2 x1 x0 h Q => zr_ic_ge rfl (by decide)),
   (fun d l0 l1 l2  h Q => zr_iload_n rfl rfl),
   (fun d l0 l1 l2 x0 h Q => zr_aload_n rfl rfl),
   (fun d l0 l1 l2 x1 x0 I L P Q p0 => zr_getQ rfl lf_10_22 (fun _ _ _ => rfl) p0),
   (fun d l0 l1 l2 x1 x0 h Q => zr_iload_n rfl rfl),
   (fun d l0 l1 l2 x2 x1 x0 I L P Q p0 => zr_ald rfl p0),
   (fun d l0 l1 l2 x1 x0 h Q => zr_iadd rfl),
   (fun d l0 l1 l2 x0 h Q => zr_istore_n (n := 1) rfl (Nat.le_of_ble_eq_true rfl) rfl),
   (fun d l0 l1 l2  h Q => zr_iinc (n := 2) (kc := 1) rfl rfl (Nat.le_of_ble_eq_true rfl) rfl (by decide)),
   (fun d l0 l1 l2  h Q => zr_goto rfl (by decide)),
   (fun d l0 l1 l2  h Q => zr_iload_n rfl rfl),
   (fun d l0 l1 l2 x0 h Q => zr_iret rfl rfl)⟩
theorem H_X10_allPallets_4 : ∀ (d : Nat) (l0 : Value) (l1 : Value) (l2 : Int32)  (h : zMm) (Q : Option Value → zMm → Prop), zWp d zi_194 none 4 [l0, l1, .int l2] [] h Q = zWp d zi_194 none 5 [l0, l1, .int l2] [.int l2] h Q := fun d l0 l1 l2  h Q => zr_iload_n rfl rfl
theorem E_X10_isBody : ∀ (d : Nat) (a0 : Nat) (a1 : Int32) (h : zMm) (Q : Option Value → zMm → Prop), zWM (d + 1) 195 [.ref a0, .int a1] h Q = zWp d zi_195 none 0 [.ref a0, .int a1] [] h Q := fun d a0 a1 h Q => zW_M m_195 (Nat.le_of_ble_eq_true rfl) rfl
set_option maxRecDepth 100000 in
theorem R_X10_isBody :
    (∀ (d : Nat) (l0 : Value) (l1 : Int32)  (h : zMm) (Q : Option Value → zMm → Prop), zWp d zi_195 none 0 [l0, .int l1] [] h Q = zWp d zi_195 none 1 [l0, .int l1] [.int l1] h Q) ∧
    (∀ (d : Nat) (l0 : Value) (l1 : Value) (x0 : Int32) (h : zMm) (Q : Option Value → zMm → Prop), zWp d zi_195 none 1 [l0, l1] [.int x0] h Q = zWp d zi_195 none 2 [l0, l1] [.long x0.toInt64] h Q) ∧
    (∀ (d : Nat) (l0 : Value) (l1 : Value) (x0 : Int64) (h : zMm) (Q : Option Value → zMm → Prop), zWp d zi_195 none 2 [l0, l1] [.long x0] h Q = zWp d zi_195 none 3 [l0, l1] [.long 0, .long x0] h Q) ∧
    (∀ (d : Nat) (l0 : Nat) (l1 : Value) (x1 : Int64) (x0 : Int64) (h : zMm) (Q : Option Value → zMm → Prop), zWp d zi_195 none 3 [.ref l0, l1] [.long x1, .long x0] h Q = zWp d zi_195 none 4 [.ref l0, l1] [.ref l0, .long x1, .long x0] h Q) ∧
    (∀ (d : Nat) (l0 : Value) (l1 : Value) (x2 : Nat) (x1 : Int64) (x0 : Int64) (I : Nat → Nat → Int32) (L : Nat → Nat → Int64) (P : Nat → Nat → Option Nat) (Q : Option Value → zMm → Prop), zSH[x2]? = some (.inl 10) → zWp d zi_195 none 4 [l0, l1] [.ref x2, .long x1, .long x0] (zSH, I, L, P) Q = zWp d zi_195 none 7 [l0, l1] [.int (I x2 40), .long x1, .long x0] (zSH, I, L, P) Q) ∧
    (∀ (d : Nat) (l0 : Value) (l1 : Value) (x2 : Int32) (x1 : Int64) (x0 : Int64) (h : zMm) (Q : Option Value → zMm → Prop), zWp d zi_195 none 7 [l0, l1] [.int x2, .long x1, .long x0] h Q = zWp d zi_195 none 8 [l0, l1] [.int 1, .int x2, .long x1, .long x0] h Q) ∧
    (∀ (d : Nat) (l0 : Value) (l1 : Value) (x3 : Int32) (x2 : Int32) (x1 : Int64) (x0 : Int64) (h : zMm) (Q : Option Value → zMm → Prop), zWp d zi_195 none 8 [l0, l1] [.int x3, .int x2, .long x1, .long x0] h Q = zWp d zi_195 none 9 [l0, l1] [.int (x2 - x3), .long x1, .long x0] h Q) ∧
    (∀ (d : Nat) (l0 : Value) (l1 : Value) (x2 : Int32) (x1 : Int64) (x0 : Int64) (h : zMm) (Q : Option Value → zMm → Prop), zWp d zi_195 none 9 [l0, l1] [.int x2, .long x1, .long x0] h Q = zWp d zi_195 none 10 [l0, l1] [.long x2.toInt64, .long x1, .long x0] h Q) ∧
    (∀ (d : Nat) (l0 : Value) (l1 : Value) (x2 : Int64) (x1 : Int64) (x0 : Int64) (h : zMm) (Q : Option Value → zMm → Prop), zWp d zi_195 none 10 [l0, l1] [.long x2, .long x1, .long x0] h Q = zWM d 122 [.long x0, .long x1, .long x2] h (fun r h1 => zWp d zi_195 none 13 [l0, l1] (r.toList ++ []) h1 Q)) ∧
    (∀ (d : Nat) (l0 : Value) (l1 : Value) (x0 : Int32) (h : zMm) (Q : Option Value → zMm → Prop), x0 = 0 ∨ x0 = 1 → zWp d zi_195 none 13 [l0, l1] [.int x0] h Q = Q (some (.int x0)) h) :=
  ⟨(fun d l0 l1  h Q => zr_iload_n rfl rfl),
   (fun d l0 l1 x0 h Q => zr_i2l rfl),
   (fun d l0 l1 x0 h Q => zr_lconst rfl (by decide)),
   (fun d l0 l1 x1 x0 h Q => zr_aload_n rfl rfl),
   (fun d l0 l1 x2 x1 x0 I L P Q p0 => zr_getI rfl lf_10_326 (fun _ _ _ => rfl) p0),
   (fun d l0 l1 x2 x1 x0 h Q => zr_iconst rfl (by decide)),
   (fun d l0 l1 x3 x2 x1 x0 h Q => zr_isub rfl),
   (fun d l0 l1 x2 x1 x0 h Q => zr_i2l rfl),
   (fun d l0 l1 x2 x1 x0 h Q => zr_sta (as := [.long x2, .long x1, .long x0]) (rest := []) rfl lm_10_110 (by decide) m_122 kd_122 rfl (Nat.le_of_ble_eq_true rfl)),
   (fun d l0 l1 x0 h Q p0 => zr_zret rfl rfl p0)⟩
theorem E_X10_kindOf : ∀ (d : Nat) (a0 : Nat) (a1 : Int32) (h : zMm) (Q : Option Value → zMm → Prop), zWM (d + 1) 196 [.ref a0, .int a1] h Q = zWp d zi_196 none 0 [.ref a0, .int a1] [] h Q := fun d a0 a1 h Q => zW_M m_196 (Nat.le_of_ble_eq_true rfl) rfl
set_option maxRecDepth 100000 in
theorem R_X10_kindOf :
    (∀ (d : Nat) (l0 : Nat) (l1 : Value)  (h : zMm) (Q : Option Value → zMm → Prop), zWp d zi_196 none 0 [.ref l0, l1] [] h Q = zWp d zi_196 none 1 [.ref l0, l1] [.ref l0] h Q) ∧
    (∀ (d : Nat) (l0 : Value) (l1 : Value) (x0 : Nat) (I : Nat → Nat → Int32) (L : Nat → Nat → Int64) (P : Nat → Nat → Option Nat) (Q : Option Value → zMm → Prop), zSH[x0]? = some (.inl 10) → zWp d zi_196 none 1 [l0, l1] [.ref x0] (zSH, I, L, P) Q = zWp d zi_196 none 4 [l0, l1] [va_rf (P x0 41)] (zSH, I, L, P) Q) ∧
    (∀ (d : Nat) (l0 : Value) (l1 : Int32) (x0 : Nat) (h : zMm) (Q : Option Value → zMm → Prop), zWp d zi_196 none 4 [l0, .int l1] [.ref x0] h Q = zWp d zi_196 none 5 [l0, .int l1] [.int l1, .ref x0] h Q) ∧
    (∀ (d : Nat) (l0 : Value) (l1 : Value) (x1 : Int32) (x0 : Nat) (I : Nat → Nat → Int32) (L : Nat → Nat → Int64) (P : Nat → Nat → Option Nat) (Q : Option Value → zMm → Prop), zAk zSH x0 = some .int → zWp d zi_196 none 5 [l0, l1] [.int x1, .ref x0] (zSH, I, L, P) Q = (vp_in x1 (zAn zSH x0) ∧ zWp d zi_196 none 6 [l0, l1] [.int (I x0 x1.toNatClampNeg)] (zSH, I, L, P) Q)) ∧
    (∀ (d : Nat) (l0 : Value) (l1 : Value) (x0 : Int32) (h : zMm) (Q : Option Value → zMm → Prop), zWp d zi_196 none 6 [l0, l1] [.int x0] h Q = Q (some (.int x0)) h) :=
  ⟨(fun d l0 l1  h Q => zr_aload_n rfl rfl),
   (fun d l0 l1 x0 I L P Q p0 => zr_getQ rfl lf_10_61 (fun _ _ _ => rfl) p0),
   (fun d l0 l1 x0 h Q => zr_iload_n rfl rfl),
   (fun d l0 l1 x1 x0 I L P Q p0 => zr_ald rfl p0),
   (fun d l0 l1 x0 h Q => zr_iret rfl rfl)⟩
theorem E_X10_body : ∀ (d : Nat) (a0 : Nat) (a1 : Int32) (h : zMm) (Q : Option Value → zMm → Prop), zWM (d + 1) 197 [.ref a0, .int a1] h Q = zWp d zi_197 none 0 [.ref a0, .int a1] [] h Q := fun d a0 a1 h Q => zW_M m_197 (Nat.le_of_ble_eq_true rfl) rfl
set_option maxRecDepth 100000 in
theorem R_X10_body :
    (∀ (d : Nat) (l0 : Value) (l1 : Int32)  (h : zMm) (Q : Option Value → zMm → Prop), zWp d zi_197 none 0 [l0, .int l1] [] h Q = zWp d zi_197 none 1 [l0, .int l1] [.int l1] h Q) ∧
    (∀ (d : Nat) (l0 : Value) (l1 : Value) (x0 : Int32) (h : zMm) (Q : Option Value → zMm → Prop), zWp d zi_197 none 1 [l0, l1] [.int x0] h Q = zWp d zi_197 none 2 [l0, l1] [.long x0.toInt64] h Q) ∧
    (∀ (d : Nat) (l0 : Value) (l1 : Value) (x0 : Int64) (h : zMm) (Q : Option Value → zMm → Prop), zWp d zi_197 none 2 [l0, l1] [.long x0] h Q = zWp d zi_197 none 3 [l0, l1] [.long 0, .long x0] h Q) ∧
    (∀ (d : Nat) (l0 : Value) (l1 : Value) (x1 : Int64) (x0 : Int64) (h : zMm) (Q : Option Value → zMm → Prop), zWp d zi_197 none 3 [l0, l1] [.long x1, .long x0] h Q = zWp d zi_197 none 6 [l0, l1] [.long 7, .long x1, .long x0] h Q) ∧
    (∀ (d : Nat) (l0 : Value) (l1 : Value) (x2 : Int64) (x1 : Int64) (x0 : Int64) (h : zMm) (Q : Option Value → zMm → Prop), zWp d zi_197 none 6 [l0, l1] [.long x2, .long x1, .long x0] h Q = zWM d 122 [.long x0, .long x1, .long x2] h (fun r h1 => zWp d zi_197 none 9 [l0, l1] (r.toList ++ []) h1 Q)) ∧
    (∀ (d : Nat) (l0 : Value) (l1 : Value) (x0 : Int32) (h : zMm) (Q : Option Value → zMm → Prop), zWp d zi_197 none 9 [l0, l1] [.int x0] h Q = if x0 = 0 then zWp d zi_197 none 12 [l0, l1] [] h Q else zWp d zi_197 none 14 [l0, l1] [] h Q) ∧
    (∀ (d : Nat) (l0 : Value) (l1 : Value)  (h : zMm) (Q : Option Value → zMm → Prop), zWp d zi_197 none 12 [l0, l1] [] h Q = zWp d zi_197 none 13 [l0, l1] [.int (-1)] h Q) ∧
    (∀ (d : Nat) (l0 : Value) (l1 : Value) (x0 : Int32) (h : zMm) (Q : Option Value → zMm → Prop), zWp d zi_197 none 13 [l0, l1] [.int x0] h Q = Q (some (.int x0)) h) ∧
    (∀ (d : Nat) (l0 : Nat) (l1 : Value)  (h : zMm) (Q : Option Value → zMm → Prop), zWp d zi_197 none 14 [.ref l0, l1] [] h Q = zWp d zi_197 none 15 [.ref l0, l1] [.ref l0] h Q) ∧
    (∀ (d : Nat) (l0 : Value) (l1 : Value) (x0 : Nat) (I : Nat → Nat → Int32) (L : Nat → Nat → Int64) (P : Nat → Nat → Option Nat) (Q : Option Value → zMm → Prop), zSH[x0]? = some (.inl 10) → zWp d zi_197 none 15 [l0, l1] [.ref x0] (zSH, I, L, P) Q = zWp d zi_197 none 18 [l0, l1] [.int (I x0 40)] (zSH, I, L, P) Q) ∧
    (∀ (d : Nat) (l0 : Value) (l1 : Value) (x0 : Int32) (h : zMm) (Q : Option Value → zMm → Prop), zWp d zi_197 none 18 [l0, l1] [.int x0] h Q = zWp d zi_197 none 20 [l0, l1] [.int 50, .int x0] h Q) ∧
    (∀ (d : Nat) (l0 : Value) (l1 : Value) (x1 : Int32) (x0 : Int32) (h : zMm) (Q : Option Value → zMm → Prop), zWp d zi_197 none 20 [l0, l1] [.int x1, .int x0] h Q = if x0 = x1 then zWp d zi_197 none 23 [l0, l1] [] h Q else zWp d zi_197 none 26 [l0, l1] [] h Q) ∧
    (∀ (d : Nat) (l0 : Value) (l1 : Value)  (h : zMm) (Q : Option Value → zMm → Prop), zWp d zi_197 none 23 [l0, l1] [] h Q = zWp d zi_197 none 25 [l0, l1] [.int (-3)] h Q) ∧
    (∀ (d : Nat) (l0 : Value) (l1 : Value) (x0 : Int32) (h : zMm) (Q : Option Value → zMm → Prop), zWp d zi_197 none 25 [l0, l1] [.int x0] h Q = Q (some (.int x0)) h) ∧
    (∀ (d : Nat) (l0 : Nat) (l1 : Value)  (h : zMm) (Q : Option Value → zMm → Prop), zWp d zi_197 none 26 [.ref l0, l1] [] h Q = zWp d zi_197 none 27 [.ref l0, l1] [.ref l0] h Q) ∧
    (∀ (d : Nat) (l0 : Value) (l1 : Value) (x0 : Nat) (I : Nat → Nat → Int32) (L : Nat → Nat → Int64) (P : Nat → Nat → Option Nat) (Q : Option Value → zMm → Prop), zSH[x0]? = some (.inl 10) → zWp d zi_197 none 27 [l0, l1] [.ref x0] (zSH, I, L, P) Q = zWp d zi_197 none 30 [l0, l1] [va_rf (P x0 41)] (zSH, I, L, P) Q) ∧
    (∀ (d : Nat) (l0 : Nat) (l1 : Value) (x0 : Nat) (h : zMm) (Q : Option Value → zMm → Prop), zWp d zi_197 none 30 [.ref l0, l1] [.ref x0] h Q = zWp d zi_197 none 31 [.ref l0, l1] [.ref l0, .ref x0] h Q) ∧
    (∀ (d : Nat) (l0 : Value) (l1 : Value) (x1 : Nat) (x0 : Nat) (I : Nat → Nat → Int32) (L : Nat → Nat → Int64) (P : Nat → Nat → Option Nat) (Q : Option Value → zMm → Prop), zSH[x1]? = some (.inl 10) → zWp d zi_197 none 31 [l0, l1] [.ref x1, .ref x0] (zSH, I, L, P) Q = zWp d zi_197 none 34 [l0, l1] [.int (I x1 40), .ref x0] (zSH, I, L, P) Q) ∧
    (∀ (d : Nat) (l0 : Value) (l1 : Int32) (x1 : Int32) (x0 : Nat) (h : zMm) (Q : Option Value → zMm → Prop), zWp d zi_197 none 34 [l0, .int l1] [.int x1, .ref x0] h Q = zWp d zi_197 none 35 [l0, .int l1] [.int l1, .int x1, .ref x0] h Q) ∧
    (∀ (d : Nat) (l0 : Value) (l1 : Value) (x2 : Int32) (x1 : Int32) (x0 : Nat) (I : Nat → Nat → Int32) (L : Nat → Nat → Int64) (P : Nat → Nat → Option Nat) (Q : Option Value → zMm → Prop), zAk zSH x0 = some .int → zWp d zi_197 none 35 [l0, l1] [.int x2, .int x1, .ref x0] (zSH, I, L, P) Q = (vp_in x1 (zAn zSH x0) ∧ zWp d zi_197 none 36 [l0, l1] [] (zSH, zw I x0 (upd (I x0) x1.toNatClampNeg x2), L, P) Q)) ∧
    (∀ (d : Nat) (l0 : Nat) (l1 : Value)  (h : zMm) (Q : Option Value → zMm → Prop), zWp d zi_197 none 36 [.ref l0, l1] [] h Q = zWp d zi_197 none 37 [.ref l0, l1] [.ref l0] h Q) ∧
    (∀ (d : Nat) (l0 : Value) (l1 : Value) (x0 : Nat) (h : zMm) (Q : Option Value → zMm → Prop), zWp d zi_197 none 37 [l0, l1] [.ref x0] h Q = zWp d zi_197 none 38 [l0, l1] [.ref x0, .ref x0] h Q) ∧
    (∀ (d : Nat) (l0 : Value) (l1 : Value) (x1 : Nat) (x0 : Nat) (I : Nat → Nat → Int32) (L : Nat → Nat → Int64) (P : Nat → Nat → Option Nat) (Q : Option Value → zMm → Prop), zSH[x1]? = some (.inl 10) → zWp d zi_197 none 38 [l0, l1] [.ref x1, .ref x0] (zSH, I, L, P) Q = zWp d zi_197 none 41 [l0, l1] [.int (I x1 40), .ref x0] (zSH, I, L, P) Q) ∧
    (∀ (d : Nat) (l0 : Value) (l1 : Value) (x1 : Int32) (x0 : Nat) (h : zMm) (Q : Option Value → zMm → Prop), zWp d zi_197 none 41 [l0, l1] [.int x1, .ref x0] h Q = zWp d zi_197 none 42 [l0, l1] [.int 1, .int x1, .ref x0] h Q) ∧
    (∀ (d : Nat) (l0 : Value) (l1 : Value) (x2 : Int32) (x1 : Int32) (x0 : Nat) (h : zMm) (Q : Option Value → zMm → Prop), zWp d zi_197 none 42 [l0, l1] [.int x2, .int x1, .ref x0] h Q = zWp d zi_197 none 43 [l0, l1] [.int (x1 + x2), .ref x0] h Q) ∧
    (∀ (d : Nat) (l0 : Value) (l1 : Value) (x1 : Int32) (x0 : Nat) (I : Nat → Nat → Int32) (L : Nat → Nat → Int64) (P : Nat → Nat → Option Nat) (Q : Option Value → zMm → Prop), zSH[x0]? = some (.inl 10) → zWp d zi_197 none 43 [l0, l1] [.int x1, .ref x0] (zSH, I, L, P) Q = zWp d zi_197 none 46 [l0, l1] [] (zSH, zw I x0 (upd (I x0) 40 x1), L, P) Q) ∧
    (∀ (d : Nat) (l0 : Nat) (l1 : Value)  (h : zMm) (Q : Option Value → zMm → Prop), zWp d zi_197 none 46 [.ref l0, l1] [] h Q = zWp d zi_197 none 47 [.ref l0, l1] [.ref l0] h Q) ∧
    (∀ (d : Nat) (l0 : Value) (l1 : Value) (x0 : Nat) (I : Nat → Nat → Int32) (L : Nat → Nat → Int64) (P : Nat → Nat → Option Nat) (Q : Option Value → zMm → Prop), zSH[x0]? = some (.inl 10) → zWp d zi_197 none 47 [l0, l1] [.ref x0] (zSH, I, L, P) Q = zWp d zi_197 none 50 [l0, l1] [.int (I x0 40)] (zSH, I, L, P) Q) ∧
    (∀ (d : Nat) (l0 : Value) (l1 : Value) (x0 : Int32) (h : zMm) (Q : Option Value → zMm → Prop), zWp d zi_197 none 50 [l0, l1] [.int x0] h Q = zWp d zi_197 none 51 [l0, l1] [.int 1, .int x0] h Q) ∧
    (∀ (d : Nat) (l0 : Value) (l1 : Value) (x1 : Int32) (x0 : Int32) (h : zMm) (Q : Option Value → zMm → Prop), zWp d zi_197 none 51 [l0, l1] [.int x1, .int x0] h Q = zWp d zi_197 none 52 [l0, l1] [.int (x0 - x1)] h Q) ∧
    (∀ (d : Nat) (l0 : Value) (l1 : Value) (x0 : Int32) (h : zMm) (Q : Option Value → zMm → Prop), zWp d zi_197 none 52 [l0, l1] [.int x0] h Q = Q (some (.int x0)) h) :=
  ⟨(fun d l0 l1  h Q => zr_iload_n rfl rfl),
   (fun d l0 l1 x0 h Q => zr_i2l rfl),
   (fun d l0 l1 x0 h Q => zr_lconst rfl (by decide)),
   (fun d l0 l1 x1 x0 h Q => zr_ldc2_w rfl lj_10_329),
   (fun d l0 l1 x2 x1 x0 h Q => zr_sta (as := [.long x2, .long x1, .long x0]) (rest := []) rfl lm_10_110 (by decide) m_122 kd_122 rfl (Nat.le_of_ble_eq_true rfl)),
   (fun d l0 l1 x0 h Q => zr_if_ne rfl (by decide)),
   (fun d l0 l1  h Q => zr_iconst rfl (by decide)),
   (fun d l0 l1 x0 h Q => zr_iret rfl rfl),
   (fun d l0 l1  h Q => zr_aload_n rfl rfl),
   (fun d l0 l1 x0 I L P Q p0 => zr_getI rfl lf_10_326 (fun _ _ _ => rfl) p0),
   (fun d l0 l1 x0 h Q => zr_bipush rfl (by decide)),
   (fun d l0 l1 x1 x0 h Q => zr_ic_ne rfl (by decide)),
   (fun d l0 l1  h Q => zr_bipush rfl (by decide)),
   (fun d l0 l1 x0 h Q => zr_iret rfl rfl),
   (fun d l0 l1  h Q => zr_aload_n rfl rfl),
   (fun d l0 l1 x0 I L P Q p0 => zr_getQ rfl lf_10_61 (fun _ _ _ => rfl) p0),
   (fun d l0 l1 x0 h Q => zr_aload_n rfl rfl),
   (fun d l0 l1 x1 x0 I L P Q p0 => zr_getI rfl lf_10_326 (fun _ _ _ => rfl) p0),
   (fun d l0 l1 x1 x0 h Q => zr_iload_n rfl rfl),
   (fun d l0 l1 x2 x1 x0 I L P Q p0 => zr_ast rfl p0),
   (fun d l0 l1  h Q => zr_aload_n rfl rfl),
   (fun d l0 l1 x0 h Q => zr_dup rfl rfl),
   (fun d l0 l1 x1 x0 I L P Q p0 => zr_getI rfl lf_10_326 (fun _ _ _ => rfl) p0),
   (fun d l0 l1 x1 x0 h Q => zr_iconst rfl (by decide)),
   (fun d l0 l1 x2 x1 x0 h Q => zr_iadd rfl),
   (fun d l0 l1 x1 x0 I L P Q p0 => zr_putI rfl lf_10_326 (by decide) rfl p0),
   (fun d l0 l1  h Q => zr_aload_n rfl rfl),
   (fun d l0 l1 x0 I L P Q p0 => zr_getI rfl lf_10_326 (fun _ _ _ => rfl) p0),
   (fun d l0 l1 x0 h Q => zr_iconst rfl (by decide)),
   (fun d l0 l1 x1 x0 h Q => zr_isub rfl),
   (fun d l0 l1 x0 h Q => zr_iret rfl rfl)⟩
theorem E_X10_above : ∀ (d : Nat) (a0 : Int32) (h : zMm) (Q : Option Value → zMm → Prop), zWM (d + 1) 198 [.int a0] h Q = zWp d zi_198 none 0 [.int a0] [] h Q := fun d a0 h Q => zW_M m_198 (Nat.le_of_ble_eq_true rfl) rfl
set_option maxRecDepth 100000 in
theorem R_X10_above :
    (∀ (d : Nat) (l0 : Int32)  (h : zMm) (Q : Option Value → zMm → Prop), zWp d zi_198 none 0 [.int l0] [] h Q = zWp d zi_198 none 1 [.int l0] [.int l0] h Q) ∧
    (∀ (d : Nat) (l0 : Value) (x0 : Int32) (h : zMm) (Q : Option Value → zMm → Prop), zWp d zi_198 none 1 [l0] [.int x0] h Q = zWp d zi_198 none 2 [l0] [.int 3, .int x0] h Q) ∧
    (∀ (d : Nat) (l0 : Value) (x1 : Int32) (x0 : Int32) (h : zMm) (Q : Option Value → zMm → Prop), zWp d zi_198 none 2 [l0] [.int x1, .int x0] h Q = if x0 = x1 then zWp d zi_198 none 5 [l0] [] h Q else zWp d zi_198 none 9 [l0] [] h Q) ∧
    (∀ (d : Nat) (l0 : Value)  (h : zMm) (Q : Option Value → zMm → Prop), zWp d zi_198 none 5 [l0] [] h Q = zWp d zi_198 none 6 [l0] [.int 2] h Q) ∧
    (∀ (d : Nat) (l0 : Value) (x0 : Int32) (h : zMm) (Q : Option Value → zMm → Prop), zWp d zi_198 none 6 [l0] [.int x0] h Q = zWp d zi_198 none 38 [l0] [.int x0] h Q) ∧
    (∀ (d : Nat) (l0 : Int32)  (h : zMm) (Q : Option Value → zMm → Prop), zWp d zi_198 none 9 [.int l0] [] h Q = zWp d zi_198 none 10 [.int l0] [.int l0] h Q) ∧
    (∀ (d : Nat) (l0 : Value) (x0 : Int32) (h : zMm) (Q : Option Value → zMm → Prop), zWp d zi_198 none 10 [l0] [.int x0] h Q = zWp d zi_198 none 11 [l0] [.int 4, .int x0] h Q) ∧
    (∀ (d : Nat) (l0 : Value) (x1 : Int32) (x0 : Int32) (h : zMm) (Q : Option Value → zMm → Prop), zWp d zi_198 none 11 [l0] [.int x1, .int x0] h Q = if x0 = x1 then zWp d zi_198 none 14 [l0] [] h Q else zWp d zi_198 none 18 [l0] [] h Q) ∧
    (∀ (d : Nat) (l0 : Value)  (h : zMm) (Q : Option Value → zMm → Prop), zWp d zi_198 none 14 [l0] [] h Q = zWp d zi_198 none 15 [l0] [.int 1] h Q) ∧
    (∀ (d : Nat) (l0 : Value) (x0 : Int32) (h : zMm) (Q : Option Value → zMm → Prop), zWp d zi_198 none 15 [l0] [.int x0] h Q = zWp d zi_198 none 38 [l0] [.int x0] h Q) ∧
    (∀ (d : Nat) (l0 : Int32)  (h : zMm) (Q : Option Value → zMm → Prop), zWp d zi_198 none 18 [.int l0] [] h Q = zWp d zi_198 none 19 [.int l0] [.int l0] h Q) ∧
    (∀ (d : Nat) (l0 : Value) (x0 : Int32) (h : zMm) (Q : Option Value → zMm → Prop), zWp d zi_198 none 19 [l0] [.int x0] h Q = zWp d zi_198 none 20 [l0] [.int 5, .int x0] h Q) ∧
    (∀ (d : Nat) (l0 : Value) (x1 : Int32) (x0 : Int32) (h : zMm) (Q : Option Value → zMm → Prop), zWp d zi_198 none 20 [l0] [.int x1, .int x0] h Q = if x0 = x1 then zWp d zi_198 none 23 [l0] [] h Q else zWp d zi_198 none 27 [l0] [] h Q) ∧
    (∀ (d : Nat) (l0 : Value)  (h : zMm) (Q : Option Value → zMm → Prop), zWp d zi_198 none 23 [l0] [] h Q = zWp d zi_198 none 24 [l0] [.int 3] h Q) ∧
    (∀ (d : Nat) (l0 : Value) (x0 : Int32) (h : zMm) (Q : Option Value → zMm → Prop), zWp d zi_198 none 24 [l0] [.int x0] h Q = zWp d zi_198 none 38 [l0] [.int x0] h Q) ∧
    (∀ (d : Nat) (l0 : Int32)  (h : zMm) (Q : Option Value → zMm → Prop), zWp d zi_198 none 27 [.int l0] [] h Q = zWp d zi_198 none 28 [.int l0] [.int l0] h Q) ∧
    (∀ (d : Nat) (l0 : Value) (x0 : Int32) (h : zMm) (Q : Option Value → zMm → Prop), zWp d zi_198 none 28 [l0] [.int x0] h Q = zWp d zi_198 none 30 [l0] [.int 7, .int x0] h Q) ∧
    (∀ (d : Nat) (l0 : Value) (x1 : Int32) (x0 : Int32) (h : zMm) (Q : Option Value → zMm → Prop), zWp d zi_198 none 30 [l0] [.int x1, .int x0] h Q = if x0 = x1 then zWp d zi_198 none 33 [l0] [] h Q else zWp d zi_198 none 37 [l0] [] h Q) ∧
    (∀ (d : Nat) (l0 : Value)  (h : zMm) (Q : Option Value → zMm → Prop), zWp d zi_198 none 33 [l0] [] h Q = zWp d zi_198 none 34 [l0] [.int 4] h Q) ∧
    (∀ (d : Nat) (l0 : Value) (x0 : Int32) (h : zMm) (Q : Option Value → zMm → Prop), zWp d zi_198 none 34 [l0] [.int x0] h Q = zWp d zi_198 none 38 [l0] [.int x0] h Q) ∧
    (∀ (d : Nat) (l0 : Value)  (h : zMm) (Q : Option Value → zMm → Prop), zWp d zi_198 none 37 [l0] [] h Q = zWp d zi_198 none 38 [l0] [.int 0] h Q) ∧
    (∀ (d : Nat) (l0 : Value) (x0 : Int32) (h : zMm) (Q : Option Value → zMm → Prop), zWp d zi_198 none 38 [l0] [.int x0] h Q = Q (some (.int x0)) h) :=
  ⟨(fun d l0  h Q => zr_iload_n rfl rfl),
   (fun d l0 x0 h Q => zr_iconst rfl (by decide)),
   (fun d l0 x1 x0 h Q => zr_ic_ne rfl (by decide)),
   (fun d l0  h Q => zr_iconst rfl (by decide)),
   (fun d l0 x0 h Q => zr_goto rfl (by decide)),
   (fun d l0  h Q => zr_iload_n rfl rfl),
   (fun d l0 x0 h Q => zr_iconst rfl (by decide)),
   (fun d l0 x1 x0 h Q => zr_ic_ne rfl (by decide)),
   (fun d l0  h Q => zr_iconst rfl (by decide)),
   (fun d l0 x0 h Q => zr_goto rfl (by decide)),
   (fun d l0  h Q => zr_iload_n rfl rfl),
   (fun d l0 x0 h Q => zr_iconst rfl (by decide)),
   (fun d l0 x1 x0 h Q => zr_ic_ne rfl (by decide)),
   (fun d l0  h Q => zr_iconst rfl (by decide)),
   (fun d l0 x0 h Q => zr_goto rfl (by decide)),
   (fun d l0  h Q => zr_iload_n rfl rfl),
   (fun d l0 x0 h Q => zr_bipush rfl (by decide)),
   (fun d l0 x1 x0 h Q => zr_ic_ne rfl (by decide)),
   (fun d l0  h Q => zr_iconst rfl (by decide)),
   (fun d l0 x0 h Q => zr_goto rfl (by decide)),
   (fun d l0  h Q => zr_iconst rfl (by decide)),
   (fun d l0 x0 h Q => zr_iret rfl rfl)⟩
theorem E_X10_begins : ∀ (d : Nat) (a0 : Nat) (a1 : Int32) (h : zMm) (Q : Option Value → zMm → Prop), zWM (d + 1) 199 [.ref a0, .int a1] h Q = zWp d zi_199 none 0 [.ref a0, .int a1] [] h Q := fun d a0 a1 h Q => zW_M m_199 (Nat.le_of_ble_eq_true rfl) rfl
set_option maxRecDepth 100000 in
theorem R_X10_begins :
    (∀ (d : Nat) (l0 : Nat) (l1 : Value)  (h : zMm) (Q : Option Value → zMm → Prop), zWp d zi_199 none 0 [.ref l0, l1] [] h Q = zWp d zi_199 none 1 [.ref l0, l1] [.ref l0] h Q) ∧
    (∀ (d : Nat) (l0 : Value) (l1 : Value) (x0 : Nat) (I : Nat → Nat → Int32) (L : Nat → Nat → Int64) (P : Nat → Nat → Option Nat) (Q : Option Value → zMm → Prop), zSH[x0]? = some (.inl 10) → zWp d zi_199 none 1 [l0, l1] [.ref x0] (zSH, I, L, P) Q = zWp d zi_199 none 4 [l0, l1] [.int (I x0 43)] (zSH, I, L, P) Q) ∧
    (∀ (d : Nat) (l0 : Value) (l1 : Value) (x0 : Int32) (h : zMm) (Q : Option Value → zMm → Prop), zWp d zi_199 none 4 [l0, l1] [.int x0] h Q = zWp d zi_199 none 6 [l0, l1] [.int 24, .int x0] h Q) ∧
    (∀ (d : Nat) (l0 : Value) (l1 : Value) (x1 : Int32) (x0 : Int32) (h : zMm) (Q : Option Value → zMm → Prop), zWp d zi_199 none 6 [l0, l1] [.int x1, .int x0] h Q = if x1 ≤ x0 then zWp d zi_199 none 19 [l0, l1] [] h Q else zWp d zi_199 none 9 [l0, l1] [] h Q) ∧
    (∀ (d : Nat) (l0 : Nat) (l1 : Value)  (h : zMm) (Q : Option Value → zMm → Prop), zWp d zi_199 none 9 [.ref l0, l1] [] h Q = zWp d zi_199 none 10 [.ref l0, l1] [.ref l0] h Q) ∧
    (∀ (d : Nat) (l0 : Value) (l1 : Value) (x0 : Nat) (I : Nat → Nat → Int32) (L : Nat → Nat → Int64) (P : Nat → Nat → Option Nat) (Q : Option Value → zMm → Prop), zSH[x0]? = some (.inl 10) → zWp d zi_199 none 10 [l0, l1] [.ref x0] (zSH, I, L, P) Q = zWp d zi_199 none 13 [l0, l1] [va_rf (P x0 42)] (zSH, I, L, P) Q) ∧
    (∀ (d : Nat) (l0 : Nat) (l1 : Value) (x0 : Nat) (h : zMm) (Q : Option Value → zMm → Prop), zWp d zi_199 none 13 [.ref l0, l1] [.ref x0] h Q = zWp d zi_199 none 14 [.ref l0, l1] [.ref l0, .ref x0] h Q) ∧
    (∀ (d : Nat) (l0 : Value) (l1 : Value) (x1 : Nat) (x0 : Nat) (I : Nat → Nat → Int32) (L : Nat → Nat → Int64) (P : Nat → Nat → Option Nat) (Q : Option Value → zMm → Prop), zSH[x1]? = some (.inl 10) → zWp d zi_199 none 14 [l0, l1] [.ref x1, .ref x0] (zSH, I, L, P) Q = zWp d zi_199 none 17 [l0, l1] [.int (I x1 43), .ref x0] (zSH, I, L, P) Q) ∧
    (∀ (d : Nat) (l0 : Value) (l1 : Int32) (x1 : Int32) (x0 : Nat) (h : zMm) (Q : Option Value → zMm → Prop), zWp d zi_199 none 17 [l0, .int l1] [.int x1, .ref x0] h Q = zWp d zi_199 none 18 [l0, .int l1] [.int l1, .int x1, .ref x0] h Q) ∧
    (∀ (d : Nat) (l0 : Value) (l1 : Value) (x2 : Int32) (x1 : Int32) (x0 : Nat) (I : Nat → Nat → Int32) (L : Nat → Nat → Int64) (P : Nat → Nat → Option Nat) (Q : Option Value → zMm → Prop), zAk zSH x0 = some .int → zWp d zi_199 none 18 [l0, l1] [.int x2, .int x1, .ref x0] (zSH, I, L, P) Q = (vp_in x1 (zAn zSH x0) ∧ zWp d zi_199 none 19 [l0, l1] [] (zSH, zw I x0 (upd (I x0) x1.toNatClampNeg x2), L, P) Q)) ∧
    (∀ (d : Nat) (l0 : Nat) (l1 : Value)  (h : zMm) (Q : Option Value → zMm → Prop), zWp d zi_199 none 19 [.ref l0, l1] [] h Q = zWp d zi_199 none 20 [.ref l0, l1] [.ref l0] h Q) ∧
    (∀ (d : Nat) (l0 : Value) (l1 : Value) (x0 : Nat) (h : zMm) (Q : Option Value → zMm → Prop), zWp d zi_199 none 20 [l0, l1] [.ref x0] h Q = zWp d zi_199 none 21 [l0, l1] [.ref x0, .ref x0] h Q) ∧
    (∀ (d : Nat) (l0 : Value) (l1 : Value) (x1 : Nat) (x0 : Nat) (I : Nat → Nat → Int32) (L : Nat → Nat → Int64) (P : Nat → Nat → Option Nat) (Q : Option Value → zMm → Prop), zSH[x1]? = some (.inl 10) → zWp d zi_199 none 21 [l0, l1] [.ref x1, .ref x0] (zSH, I, L, P) Q = zWp d zi_199 none 24 [l0, l1] [.int (I x1 43), .ref x0] (zSH, I, L, P) Q) ∧
    (∀ (d : Nat) (l0 : Value) (l1 : Value) (x1 : Int32) (x0 : Nat) (h : zMm) (Q : Option Value → zMm → Prop), zWp d zi_199 none 24 [l0, l1] [.int x1, .ref x0] h Q = zWp d zi_199 none 25 [l0, l1] [.int 1, .int x1, .ref x0] h Q) ∧
    (∀ (d : Nat) (l0 : Value) (l1 : Value) (x2 : Int32) (x1 : Int32) (x0 : Nat) (h : zMm) (Q : Option Value → zMm → Prop), zWp d zi_199 none 25 [l0, l1] [.int x2, .int x1, .ref x0] h Q = zWp d zi_199 none 26 [l0, l1] [.int (x1 + x2), .ref x0] h Q) ∧
    (∀ (d : Nat) (l0 : Value) (l1 : Value) (x1 : Int32) (x0 : Nat) (I : Nat → Nat → Int32) (L : Nat → Nat → Int64) (P : Nat → Nat → Option Nat) (Q : Option Value → zMm → Prop), zSH[x0]? = some (.inl 10) → zWp d zi_199 none 26 [l0, l1] [.int x1, .ref x0] (zSH, I, L, P) Q = zWp d zi_199 none 29 [l0, l1] [] (zSH, zw I x0 (upd (I x0) 43 x1), L, P) Q) ∧
    (∀ (d : Nat) (l0 : Value) (l1 : Value)  (h : zMm) (Q : Option Value → zMm → Prop), zWp d zi_199 none 29 [l0, l1] [] h Q = Q none h) :=
  ⟨(fun d l0 l1  h Q => zr_aload_n rfl rfl),
   (fun d l0 l1 x0 I L P Q p0 => zr_getI rfl lf_10_331 (fun _ _ _ => rfl) p0),
   (fun d l0 l1 x0 h Q => zr_bipush rfl (by decide)),
   (fun d l0 l1 x1 x0 h Q => zr_ic_ge rfl (by decide)),
   (fun d l0 l1  h Q => zr_aload_n rfl rfl),
   (fun d l0 l1 x0 I L P Q p0 => zr_getQ rfl lf_10_64 (fun _ _ _ => rfl) p0),
   (fun d l0 l1 x0 h Q => zr_aload_n rfl rfl),
   (fun d l0 l1 x1 x0 I L P Q p0 => zr_getI rfl lf_10_331 (fun _ _ _ => rfl) p0),
   (fun d l0 l1 x1 x0 h Q => zr_iload_n rfl rfl),
   (fun d l0 l1 x2 x1 x0 I L P Q p0 => zr_ast rfl p0),
   (fun d l0 l1  h Q => zr_aload_n rfl rfl),
   (fun d l0 l1 x0 h Q => zr_dup rfl rfl),
   (fun d l0 l1 x1 x0 I L P Q p0 => zr_getI rfl lf_10_331 (fun _ _ _ => rfl) p0),
   (fun d l0 l1 x1 x0 h Q => zr_iconst rfl (by decide)),
   (fun d l0 l1 x2 x1 x0 h Q => zr_iadd rfl),
   (fun d l0 l1 x1 x0 I L P Q p0 => zr_putI rfl lf_10_331 (by decide) rfl p0),
   (fun d l0 l1  h Q => zr_vret rfl rfl)⟩
theorem E_X10_standsAs : ∀ (d : Nat) (a0 : Nat) (a1 : Int32) (a2 : Int32) (h : zMm) (Q : Option Value → zMm → Prop), zWM (d + 1) 200 [.ref a0, .int a1, .int a2] h Q = zWp d zi_200 none 0 [.ref a0, .int a1, .int a2] [] h Q := fun d a0 a1 a2 h Q => zW_M m_200 (Nat.le_of_ble_eq_true rfl) rfl
set_option maxRecDepth 100000 in
theorem R_X10_standsAs :
    (∀ (d : Nat) (l0 : Value) (l1 : Int32) (l2 : Value)  (h : zMm) (Q : Option Value → zMm → Prop), zWp d zi_200 none 0 [l0, .int l1, l2] [] h Q = zWp d zi_200 none 1 [l0, .int l1, l2] [.int l1] h Q) ∧
    (∀ (d : Nat) (l0 : Value) (l1 : Value) (l2 : Value) (x0 : Int32) (h : zMm) (Q : Option Value → zMm → Prop), zWp d zi_200 none 1 [l0, l1, l2] [.int x0] h Q = zWp d zi_200 none 2 [l0, l1, l2] [.int 1, .int x0] h Q) ∧
    (∀ (d : Nat) (l0 : Value) (l1 : Value) (l2 : Value) (x1 : Int32) (x0 : Int32) (h : zMm) (Q : Option Value → zMm → Prop), zWp d zi_200 none 2 [l0, l1, l2] [.int x1, .int x0] h Q = if x0 = x1 then zWp d zi_200 none 16 [l0, l1, l2] [] h Q else zWp d zi_200 none 5 [l0, l1, l2] [] h Q) ∧
    (∀ (d : Nat) (l0 : Value) (l1 : Int32) (l2 : Value)  (h : zMm) (Q : Option Value → zMm → Prop), zWp d zi_200 none 5 [l0, .int l1, l2] [] h Q = zWp d zi_200 none 6 [l0, .int l1, l2] [.int l1] h Q) ∧
    (∀ (d : Nat) (l0 : Value) (l1 : Value) (l2 : Value) (x0 : Int32) (h : zMm) (Q : Option Value → zMm → Prop), zWp d zi_200 none 6 [l0, l1, l2] [.int x0] h Q = zWp d zi_200 none 7 [l0, l1, l2] [.int 4, .int x0] h Q) ∧
    (∀ (d : Nat) (l0 : Value) (l1 : Value) (l2 : Value) (x1 : Int32) (x0 : Int32) (h : zMm) (Q : Option Value → zMm → Prop), zWp d zi_200 none 7 [l0, l1, l2] [.int x1, .int x0] h Q = if x0 = x1 then zWp d zi_200 none 16 [l0, l1, l2] [] h Q else zWp d zi_200 none 10 [l0, l1, l2] [] h Q) ∧
    (∀ (d : Nat) (l0 : Value) (l1 : Int32) (l2 : Value)  (h : zMm) (Q : Option Value → zMm → Prop), zWp d zi_200 none 10 [l0, .int l1, l2] [] h Q = zWp d zi_200 none 11 [l0, .int l1, l2] [.int l1] h Q) ∧
    (∀ (d : Nat) (l0 : Value) (l1 : Value) (l2 : Value) (x0 : Int32) (h : zMm) (Q : Option Value → zMm → Prop), zWp d zi_200 none 11 [l0, l1, l2] [.int x0] h Q = zWp d zi_200 none 13 [l0, l1, l2] [.int 7, .int x0] h Q) ∧
    (∀ (d : Nat) (l0 : Value) (l1 : Value) (l2 : Value) (x1 : Int32) (x0 : Int32) (h : zMm) (Q : Option Value → zMm → Prop), zWp d zi_200 none 13 [l0, l1, l2] [.int x1, .int x0] h Q = if x0 = x1 then zWp d zi_200 none 16 [l0, l1, l2] [] h Q else zWp d zi_200 none 31 [l0, l1, l2] [] h Q) ∧
    (∀ (d : Nat) (l0 : Nat) (l1 : Value) (l2 : Value)  (h : zMm) (Q : Option Value → zMm → Prop), zWp d zi_200 none 16 [.ref l0, l1, l2] [] h Q = zWp d zi_200 none 17 [.ref l0, l1, l2] [.ref l0] h Q) ∧
    (∀ (d : Nat) (l0 : Value) (l1 : Value) (l2 : Value) (x0 : Nat) (h : zMm) (Q : Option Value → zMm → Prop), zWp d zi_200 none 17 [l0, l1, l2] [.ref x0] h Q = zWp d zi_200 none 19 [l0, l1, l2] [.int 20, .ref x0] h Q) ∧
    (∀ (d : Nat) (l0 : Value) (l1 : Value) (l2 : Value) (x1 : Int32) (x0 : Nat) (I : Nat → Nat → Int32) (L : Nat → Nat → Int64) (P : Nat → Nat → Option Nat) (Q : Option Value → zMm → Prop), zSH[x0]? = some (.inl 10) → zWp d zi_200 none 19 [l0, l1, l2] [.int x1, .ref x0] (zSH, I, L, P) Q = zWM d 199 [.ref x0, .int x1] (zSH, I, L, P) (fun r h1 => zWp d zi_200 none 22 [l0, l1, l2] (r.toList ++ []) h1 Q)) ∧
    (∀ (d : Nat) (l0 : Nat) (l1 : Value) (l2 : Value)  (h : zMm) (Q : Option Value → zMm → Prop), zWp d zi_200 none 22 [.ref l0, l1, l2] [] h Q = zWp d zi_200 none 23 [.ref l0, l1, l2] [.ref l0] h Q) ∧
    (∀ (d : Nat) (l0 : Value) (l1 : Value) (l2 : Value) (x0 : Nat) (h : zMm) (Q : Option Value → zMm → Prop), zWp d zi_200 none 23 [l0, l1, l2] [.ref x0] h Q = zWp d zi_200 none 24 [l0, l1, l2] [.int 0, .ref x0] h Q) ∧
    (∀ (d : Nat) (l0 : Value) (l1 : Value) (l2 : Int32) (x1 : Int32) (x0 : Nat) (h : zMm) (Q : Option Value → zMm → Prop), zWp d zi_200 none 24 [l0, l1, .int l2] [.int x1, .ref x0] h Q = zWp d zi_200 none 25 [l0, l1, .int l2] [.int l2, .int x1, .ref x0] h Q) ∧
    (∀ (d : Nat) (l0 : Value) (l1 : Value) (l2 : Value) (x2 : Int32) (x1 : Int32) (x0 : Nat) (I : Nat → Nat → Int32) (L : Nat → Nat → Int64) (P : Nat → Nat → Option Nat) (Q : Option Value → zMm → Prop), zSH[x0]? = some (.inl 10) → zWp d zi_200 none 25 [l0, l1, l2] [.int x2, .int x1, .ref x0] (zSH, I, L, P) Q = zWM d 200 [.ref x0, .int x1, .int x2] (zSH, I, L, P) (fun r h1 => zWp d zi_200 none 28 [l0, l1, l2] (r.toList ++ []) h1 Q)) ∧
    (∀ (d : Nat) (l0 : Value) (l1 : Value) (l2 : Value) (x0 : Int32) (h : zMm) (Q : Option Value → zMm → Prop), zWp d zi_200 none 28 [l0, l1, l2] [.int x0] h Q = zWp d zi_200 none 29 [l0, l1, l2] [.int 3, .int x0] h Q) ∧
    (∀ (d : Nat) (l0 : Value) (l1 : Value) (l2 : Value) (x1 : Int32) (x0 : Int32) (h : zMm) (Q : Option Value → zMm → Prop), zWp d zi_200 none 29 [l0, l1, l2] [.int x1, .int x0] h Q = zWp d zi_200 none 30 [l0, l1, l2] [.int (x0 + x1)] h Q) ∧
    (∀ (d : Nat) (l0 : Value) (l1 : Value) (l2 : Value) (x0 : Int32) (h : zMm) (Q : Option Value → zMm → Prop), zWp d zi_200 none 30 [l0, l1, l2] [.int x0] h Q = Q (some (.int x0)) h) ∧
    (∀ (d : Nat) (l0 : Value) (l1 : Int32) (l2 : Value)  (h : zMm) (Q : Option Value → zMm → Prop), zWp d zi_200 none 31 [l0, .int l1, l2] [] h Q = zWp d zi_200 none 32 [l0, .int l1, l2] [.int l1] h Q) ∧
    (∀ (d : Nat) (l0 : Value) (l1 : Value) (l2 : Value) (x0 : Int32) (h : zMm) (Q : Option Value → zMm → Prop), zWp d zi_200 none 32 [l0, l1, l2] [.int x0] h Q = zWp d zi_200 none 34 [l0, l1, l2] [.int 6, .int x0] h Q) ∧
    (∀ (d : Nat) (l0 : Value) (l1 : Value) (l2 : Value) (x1 : Int32) (x0 : Int32) (h : zMm) (Q : Option Value → zMm → Prop), zWp d zi_200 none 34 [l0, l1, l2] [.int x1, .int x0] h Q = if x0 = x1 then zWp d zi_200 none 37 [l0, l1, l2] [] h Q else zWp d zi_200 none 52 [l0, l1, l2] [] h Q) ∧
    (∀ (d : Nat) (l0 : Nat) (l1 : Value) (l2 : Value)  (h : zMm) (Q : Option Value → zMm → Prop), zWp d zi_200 none 37 [.ref l0, l1, l2] [] h Q = zWp d zi_200 none 38 [.ref l0, l1, l2] [.ref l0] h Q) ∧
    (∀ (d : Nat) (l0 : Value) (l1 : Value) (l2 : Value) (x0 : Nat) (h : zMm) (Q : Option Value → zMm → Prop), zWp d zi_200 none 38 [l0, l1, l2] [.ref x0] h Q = zWp d zi_200 none 40 [l0, l1, l2] [.int 70, .ref x0] h Q) ∧
    (∀ (d : Nat) (l0 : Value) (l1 : Value) (l2 : Value) (x1 : Int32) (x0 : Nat) (I : Nat → Nat → Int32) (L : Nat → Nat → Int64) (P : Nat → Nat → Option Nat) (Q : Option Value → zMm → Prop), zSH[x0]? = some (.inl 10) → zWp d zi_200 none 40 [l0, l1, l2] [.int x1, .ref x0] (zSH, I, L, P) Q = zWM d 199 [.ref x0, .int x1] (zSH, I, L, P) (fun r h1 => zWp d zi_200 none 43 [l0, l1, l2] (r.toList ++ []) h1 Q)) ∧
    (∀ (d : Nat) (l0 : Nat) (l1 : Value) (l2 : Value)  (h : zMm) (Q : Option Value → zMm → Prop), zWp d zi_200 none 43 [.ref l0, l1, l2] [] h Q = zWp d zi_200 none 44 [.ref l0, l1, l2] [.ref l0] h Q) ∧
    (∀ (d : Nat) (l0 : Value) (l1 : Value) (l2 : Value) (x0 : Nat) (h : zMm) (Q : Option Value → zMm → Prop), zWp d zi_200 none 44 [l0, l1, l2] [.ref x0] h Q = zWp d zi_200 none 45 [l0, l1, l2] [.int 0, .ref x0] h Q) ∧
    (∀ (d : Nat) (l0 : Value) (l1 : Value) (l2 : Int32) (x1 : Int32) (x0 : Nat) (h : zMm) (Q : Option Value → zMm → Prop), zWp d zi_200 none 45 [l0, l1, .int l2] [.int x1, .ref x0] h Q = zWp d zi_200 none 46 [l0, l1, .int l2] [.int l2, .int x1, .ref x0] h Q) ∧
    (∀ (d : Nat) (l0 : Value) (l1 : Value) (l2 : Value) (x2 : Int32) (x1 : Int32) (x0 : Nat) (I : Nat → Nat → Int32) (L : Nat → Nat → Int64) (P : Nat → Nat → Option Nat) (Q : Option Value → zMm → Prop), zSH[x0]? = some (.inl 10) → zWp d zi_200 none 46 [l0, l1, l2] [.int x2, .int x1, .ref x0] (zSH, I, L, P) Q = zWM d 200 [.ref x0, .int x1, .int x2] (zSH, I, L, P) (fun r h1 => zWp d zi_200 none 49 [l0, l1, l2] (r.toList ++ []) h1 Q)) ∧
    (∀ (d : Nat) (l0 : Value) (l1 : Value) (l2 : Value) (x0 : Int32) (h : zMm) (Q : Option Value → zMm → Prop), zWp d zi_200 none 49 [l0, l1, l2] [.int x0] h Q = zWp d zi_200 none 50 [l0, l1, l2] [.int 2, .int x0] h Q) ∧
    (∀ (d : Nat) (l0 : Value) (l1 : Value) (l2 : Value) (x1 : Int32) (x0 : Int32) (h : zMm) (Q : Option Value → zMm → Prop), zWp d zi_200 none 50 [l0, l1, l2] [.int x1, .int x0] h Q = zWp d zi_200 none 51 [l0, l1, l2] [.int (x0 * x1)] h Q) ∧
    (∀ (d : Nat) (l0 : Value) (l1 : Value) (l2 : Value) (x0 : Int32) (h : zMm) (Q : Option Value → zMm → Prop), zWp d zi_200 none 51 [l0, l1, l2] [.int x0] h Q = Q (some (.int x0)) h) ∧
    (∀ (d : Nat) (l0 : Nat) (l1 : Value) (l2 : Value)  (h : zMm) (Q : Option Value → zMm → Prop), zWp d zi_200 none 52 [.ref l0, l1, l2] [] h Q = zWp d zi_200 none 53 [.ref l0, l1, l2] [.ref l0] h Q) ∧
    (∀ (d : Nat) (l0 : Value) (l1 : Value) (l2 : Value) (x0 : Nat) (h : zMm) (Q : Option Value → zMm → Prop), zWp d zi_200 none 53 [l0, l1, l2] [.ref x0] h Q = zWp d zi_200 none 54 [l0, l1, l2] [.int 1, .ref x0] h Q) ∧
    (∀ (d : Nat) (l0 : Value) (l1 : Value) (l2 : Value) (x1 : Int32) (x0 : Nat) (I : Nat → Nat → Int32) (L : Nat → Nat → Int64) (P : Nat → Nat → Option Nat) (Q : Option Value → zMm → Prop), zSH[x0]? = some (.inl 10) → zWp d zi_200 none 54 [l0, l1, l2] [.int x1, .ref x0] (zSH, I, L, P) Q = zWM d 199 [.ref x0, .int x1] (zSH, I, L, P) (fun r h1 => zWp d zi_200 none 57 [l0, l1, l2] (r.toList ++ []) h1 Q)) ∧
    (∀ (d : Nat) (l0 : Value) (l1 : Value) (l2 : Int32)  (h : zMm) (Q : Option Value → zMm → Prop), zWp d zi_200 none 57 [l0, l1, .int l2] [] h Q = zWp d zi_200 none 58 [l0, l1, .int l2] [.int l2] h Q) ∧
    (∀ (d : Nat) (l0 : Nat) (l1 : Value) (l2 : Value) (x0 : Int32) (h : zMm) (Q : Option Value → zMm → Prop), zWp d zi_200 none 58 [.ref l0, l1, l2] [.int x0] h Q = zWp d zi_200 none 59 [.ref l0, l1, l2] [.ref l0, .int x0] h Q) ∧
    (∀ (d : Nat) (l0 : Value) (l1 : Value) (l2 : Value) (x1 : Nat) (x0 : Int32) (I : Nat → Nat → Int32) (L : Nat → Nat → Int64) (P : Nat → Nat → Option Nat) (Q : Option Value → zMm → Prop), zSH[x1]? = some (.inl 10) → zWp d zi_200 none 59 [l0, l1, l2] [.ref x1, .int x0] (zSH, I, L, P) Q = zWp d zi_200 none 62 [l0, l1, l2] [.int (I x1 45), .int x0] (zSH, I, L, P) Q) ∧
    (∀ (d : Nat) (l0 : Value) (l1 : Value) (l2 : Value) (x1 : Int32) (x0 : Int32) (h : zMm) (Q : Option Value → zMm → Prop), zWp d zi_200 none 62 [l0, l1, l2] [.int x1, .int x0] h Q = zWp d zi_200 none 63 [l0, l1, l2] [.int (x0 + x1)] h Q) ∧
    (∀ (d : Nat) (l0 : Value) (l1 : Value) (l2 : Value) (x0 : Int32) (h : zMm) (Q : Option Value → zMm → Prop), zWp d zi_200 none 63 [l0, l1, l2] [.int x0] h Q = Q (some (.int x0)) h) :=
  ⟨(fun d l0 l1 l2  h Q => zr_iload_n rfl rfl),
   (fun d l0 l1 l2 x0 h Q => zr_iconst rfl (by decide)),
   (fun d l0 l1 l2 x1 x0 h Q => zr_ic_eq rfl (by decide)),
   (fun d l0 l1 l2  h Q => zr_iload_n rfl rfl),
   (fun d l0 l1 l2 x0 h Q => zr_iconst rfl (by decide)),
   (fun d l0 l1 l2 x1 x0 h Q => zr_ic_eq rfl (by decide)),
   (fun d l0 l1 l2  h Q => zr_iload_n rfl rfl),
   (fun d l0 l1 l2 x0 h Q => zr_bipush rfl (by decide)),
   (fun d l0 l1 l2 x1 x0 h Q => zr_ic_ne rfl (by decide)),
   (fun d l0 l1 l2  h Q => zr_aload_n rfl rfl),
   (fun d l0 l1 l2 x0 h Q => zr_bipush rfl (by decide)),
   (fun d l0 l1 l2 x1 x0 I L P Q p0 => zr_vir (as := [.int x1]) (rest := []) rfl lm_10_334 m_199 kd_199 rfl (Nat.le_of_ble_eq_true rfl) p0),
   (fun d l0 l1 l2  h Q => zr_aload_n rfl rfl),
   (fun d l0 l1 l2 x0 h Q => zr_iconst rfl (by decide)),
   (fun d l0 l1 l2 x1 x0 h Q => zr_iload_n rfl rfl),
   (fun d l0 l1 l2 x2 x1 x0 I L P Q p0 => zr_vir (as := [.int x2, .int x1]) (rest := []) rfl lm_10_337 m_200 kd_200 rfl (Nat.le_of_ble_eq_true rfl) p0),
   (fun d l0 l1 l2 x0 h Q => zr_iconst rfl (by decide)),
   (fun d l0 l1 l2 x1 x0 h Q => zr_iadd rfl),
   (fun d l0 l1 l2 x0 h Q => zr_iret rfl rfl),
   (fun d l0 l1 l2  h Q => zr_iload_n rfl rfl),
   (fun d l0 l1 l2 x0 h Q => zr_bipush rfl (by decide)),
   (fun d l0 l1 l2 x1 x0 h Q => zr_ic_ne rfl (by decide)),
   (fun d l0 l1 l2  h Q => zr_aload_n rfl rfl),
   (fun d l0 l1 l2 x0 h Q => zr_bipush rfl (by decide)),
   (fun d l0 l1 l2 x1 x0 I L P Q p0 => zr_vir (as := [.int x1]) (rest := []) rfl lm_10_334 m_199 kd_199 rfl (Nat.le_of_ble_eq_true rfl) p0),
   (fun d l0 l1 l2  h Q => zr_aload_n rfl rfl),
   (fun d l0 l1 l2 x0 h Q => zr_iconst rfl (by decide)),
   (fun d l0 l1 l2 x1 x0 h Q => zr_iload_n rfl rfl),
   (fun d l0 l1 l2 x2 x1 x0 I L P Q p0 => zr_vir (as := [.int x2, .int x1]) (rest := []) rfl lm_10_337 m_200 kd_200 rfl (Nat.le_of_ble_eq_true rfl) p0),
   (fun d l0 l1 l2 x0 h Q => zr_iconst rfl (by decide)),
   (fun d l0 l1 l2 x1 x0 h Q => zr_imul rfl),
   (fun d l0 l1 l2 x0 h Q => zr_iret rfl rfl),
   (fun d l0 l1 l2  h Q => zr_aload_n rfl rfl),
   (fun d l0 l1 l2 x0 h Q => zr_iconst rfl (by decide)),
   (fun d l0 l1 l2 x1 x0 I L P Q p0 => zr_vir (as := [.int x1]) (rest := []) rfl lm_10_334 m_199 kd_199 rfl (Nat.le_of_ble_eq_true rfl) p0),
   (fun d l0 l1 l2  h Q => zr_iload_n rfl rfl),
   (fun d l0 l1 l2 x0 h Q => zr_aload_n rfl rfl),
   (fun d l0 l1 l2 x1 x0 I L P Q p0 => zr_getI rfl lf_10_340 (fun _ _ _ => rfl) p0),
   (fun d l0 l1 l2 x1 x0 h Q => zr_iadd rfl),
   (fun d l0 l1 l2 x0 h Q => zr_iret rfl rfl)⟩
theorem E_X10_leansAs : ∀ (d : Nat) (a0 : Nat) (a1 : Int32) (a2 : Int32) (h : zMm) (Q : Option Value → zMm → Prop), zWM (d + 1) 201 [.ref a0, .int a1, .int a2] h Q = zWp d zi_201 none 0 [.ref a0, .int a1, .int a2, .retAddr 0] [] h Q := fun d a0 a1 a2 h Q => zW_M m_201 (Nat.le_of_ble_eq_true rfl) rfl
set_option maxRecDepth 100000 in
theorem R_X10_leansAs :
    (∀ (d : Nat) (l0 : Value) (l1 : Int32) (l2 : Value) (l3 : Value)  (h : zMm) (Q : Option Value → zMm → Prop), zWp d zi_201 none 0 [l0, .int l1, l2, l3] [] h Q = zWp d zi_201 none 1 [l0, .int l1, l2, l3] [.int l1] h Q) ∧
    (∀ (d : Nat) (l0 : Value) (l1 : Value) (l2 : Value) (l3 : Value) (x0 : Int32) (h : zMm) (Q : Option Value → zMm → Prop), zWp d zi_201 none 1 [l0, l1, l2, l3] [.int x0] h Q = zWp d zi_201 none 2 [l0, l1, l2, l3] [.int 3, .int x0] h Q) ∧
    (∀ (d : Nat) (l0 : Value) (l1 : Value) (l2 : Value) (l3 : Value) (x1 : Int32) (x0 : Int32) (h : zMm) (Q : Option Value → zMm → Prop), zWp d zi_201 none 2 [l0, l1, l2, l3] [.int x1, .int x0] h Q = if x0 = x1 then zWp d zi_201 none 10 [l0, l1, l2, l3] [] h Q else zWp d zi_201 none 5 [l0, l1, l2, l3] [] h Q) ∧
    (∀ (d : Nat) (l0 : Value) (l1 : Int32) (l2 : Value) (l3 : Value)  (h : zMm) (Q : Option Value → zMm → Prop), zWp d zi_201 none 5 [l0, .int l1, l2, l3] [] h Q = zWp d zi_201 none 6 [l0, .int l1, l2, l3] [.int l1] h Q) ∧
    (∀ (d : Nat) (l0 : Value) (l1 : Value) (l2 : Value) (l3 : Value) (x0 : Int32) (h : zMm) (Q : Option Value → zMm → Prop), zWp d zi_201 none 6 [l0, l1, l2, l3] [.int x0] h Q = zWp d zi_201 none 7 [l0, l1, l2, l3] [.int 5, .int x0] h Q) ∧
    (∀ (d : Nat) (l0 : Value) (l1 : Value) (l2 : Value) (l3 : Value) (x1 : Int32) (x0 : Int32) (h : zMm) (Q : Option Value → zMm → Prop), zWp d zi_201 none 7 [l0, l1, l2, l3] [.int x1, .int x0] h Q = if x0 = x1 then zWp d zi_201 none 10 [l0, l1, l2, l3] [] h Q else zWp d zi_201 none 25 [l0, l1, l2, l3] [] h Q) ∧
    (∀ (d : Nat) (l0 : Nat) (l1 : Value) (l2 : Value) (l3 : Value)  (h : zMm) (Q : Option Value → zMm → Prop), zWp d zi_201 none 10 [.ref l0, l1, l2, l3] [] h Q = zWp d zi_201 none 11 [.ref l0, l1, l2, l3] [.ref l0] h Q) ∧
    (∀ (d : Nat) (l0 : Value) (l1 : Value) (l2 : Value) (l3 : Value) (x0 : Nat) (h : zMm) (Q : Option Value → zMm → Prop), zWp d zi_201 none 11 [l0, l1, l2, l3] [.ref x0] h Q = zWp d zi_201 none 13 [l0, l1, l2, l3] [.int 41, .ref x0] h Q) ∧
    (∀ (d : Nat) (l0 : Value) (l1 : Value) (l2 : Value) (l3 : Value) (x1 : Int32) (x0 : Nat) (I : Nat → Nat → Int32) (L : Nat → Nat → Int64) (P : Nat → Nat → Option Nat) (Q : Option Value → zMm → Prop), zSH[x0]? = some (.inl 10) → zWp d zi_201 none 13 [l0, l1, l2, l3] [.int x1, .ref x0] (zSH, I, L, P) Q = zWM d 199 [.ref x0, .int x1] (zSH, I, L, P) (fun r h1 => zWp d zi_201 none 16 [l0, l1, l2, l3] (r.toList ++ []) h1 Q)) ∧
    (∀ (d : Nat) (l0 : Nat) (l1 : Value) (l2 : Value) (l3 : Value)  (h : zMm) (Q : Option Value → zMm → Prop), zWp d zi_201 none 16 [.ref l0, l1, l2, l3] [] h Q = zWp d zi_201 none 17 [.ref l0, l1, l2, l3] [.ref l0] h Q) ∧
    (∀ (d : Nat) (l0 : Value) (l1 : Value) (l2 : Value) (l3 : Value) (x0 : Nat) (h : zMm) (Q : Option Value → zMm → Prop), zWp d zi_201 none 17 [l0, l1, l2, l3] [.ref x0] h Q = zWp d zi_201 none 18 [l0, l1, l2, l3] [.int 2, .ref x0] h Q) ∧
    (∀ (d : Nat) (l0 : Value) (l1 : Value) (l2 : Int32) (l3 : Value) (x1 : Int32) (x0 : Nat) (h : zMm) (Q : Option Value → zMm → Prop), zWp d zi_201 none 18 [l0, l1, .int l2, l3] [.int x1, .ref x0] h Q = zWp d zi_201 none 19 [l0, l1, .int l2, l3] [.int l2, .int x1, .ref x0] h Q) ∧
    (∀ (d : Nat) (l0 : Value) (l1 : Value) (l2 : Value) (l3 : Value) (x2 : Int32) (x1 : Int32) (x0 : Nat) (h : zMm) (Q : Option Value → zMm → Prop), zWp d zi_201 none 19 [l0, l1, l2, l3] [.int x2, .int x1, .ref x0] h Q = zWp d zi_201 none 20 [l0, l1, l2, l3] [.int 1, .int x2, .int x1, .ref x0] h Q) ∧
    (∀ (d : Nat) (l0 : Value) (l1 : Value) (l2 : Value) (l3 : Value) (x3 : Int32) (x2 : Int32) (x1 : Int32) (x0 : Nat) (h : zMm) (Q : Option Value → zMm → Prop), zWp d zi_201 none 20 [l0, l1, l2, l3] [.int x3, .int x2, .int x1, .ref x0] h Q = zWp d zi_201 none 21 [l0, l1, l2, l3] [.int (x2 + x3), .int x1, .ref x0] h Q) ∧
    (∀ (d : Nat) (l0 : Value) (l1 : Value) (l2 : Value) (l3 : Value) (x2 : Int32) (x1 : Int32) (x0 : Nat) (I : Nat → Nat → Int32) (L : Nat → Nat → Int64) (P : Nat → Nat → Option Nat) (Q : Option Value → zMm → Prop), zSH[x0]? = some (.inl 10) → zWp d zi_201 none 21 [l0, l1, l2, l3] [.int x2, .int x1, .ref x0] (zSH, I, L, P) Q = zWM d 201 [.ref x0, .int x1, .int x2] (zSH, I, L, P) (fun r h1 => zWp d zi_201 none 24 [l0, l1, l2, l3] (r.toList ++ []) h1 Q)) ∧
    (∀ (d : Nat) (l0 : Value) (l1 : Value) (l2 : Value) (l3 : Value) (x0 : Int32) (h : zMm) (Q : Option Value → zMm → Prop), zWp d zi_201 none 24 [l0, l1, l2, l3] [.int x0] h Q = Q (some (.int x0)) h) ∧
    (∀ (d : Nat) (l0 : Value) (l1 : Int32) (l2 : Value) (l3 : Value)  (h : zMm) (Q : Option Value → zMm → Prop), zWp d zi_201 none 25 [l0, .int l1, l2, l3] [] h Q = zWp d zi_201 none 26 [l0, .int l1, l2, l3] [.int l1] h Q) ∧
    (∀ (d : Nat) (l0 : Value) (l1 : Value) (l2 : Value) (l3 : Value) (x0 : Int32) (h : zMm) (Q : Option Value → zMm → Prop), zWp d zi_201 none 26 [l0, l1, l2, l3] [.int x0] h Q = zWp d zi_201 none 27 [l0, l1, l2, l3] [.int 2, .int x0] h Q) ∧
    (∀ (d : Nat) (l0 : Value) (l1 : Value) (l2 : Value) (l3 : Value) (x1 : Int32) (x0 : Int32) (h : zMm) (Q : Option Value → zMm → Prop), zWp d zi_201 none 27 [l0, l1, l2, l3] [.int x1, .int x0] h Q = if x0 = x1 then zWp d zi_201 none 30 [l0, l1, l2, l3] [] h Q else zWp d zi_201 none 44 [l0, l1, l2, l3] [] h Q) ∧
    (∀ (d : Nat) (l0 : Nat) (l1 : Value) (l2 : Value) (l3 : Value)  (h : zMm) (Q : Option Value → zMm → Prop), zWp d zi_201 none 30 [.ref l0, l1, l2, l3] [] h Q = zWp d zi_201 none 31 [.ref l0, l1, l2, l3] [.ref l0] h Q) ∧
    (∀ (d : Nat) (l0 : Value) (l1 : Value) (l2 : Value) (l3 : Value) (x0 : Nat) (h : zMm) (Q : Option Value → zMm → Prop), zWp d zi_201 none 31 [l0, l1, l2, l3] [.ref x0] h Q = zWp d zi_201 none 33 [l0, l1, l2, l3] [.int 30, .ref x0] h Q) ∧
    (∀ (d : Nat) (l0 : Value) (l1 : Value) (l2 : Value) (l3 : Value) (x1 : Int32) (x0 : Nat) (I : Nat → Nat → Int32) (L : Nat → Nat → Int64) (P : Nat → Nat → Option Nat) (Q : Option Value → zMm → Prop), zSH[x0]? = some (.inl 10) → zWp d zi_201 none 33 [l0, l1, l2, l3] [.int x1, .ref x0] (zSH, I, L, P) Q = zWM d 199 [.ref x0, .int x1] (zSH, I, L, P) (fun r h1 => zWp d zi_201 none 36 [l0, l1, l2, l3] (r.toList ++ []) h1 Q)) ∧
    (∀ (d : Nat) (l0 : Nat) (l1 : Value) (l2 : Value) (l3 : Value)  (h : zMm) (Q : Option Value → zMm → Prop), zWp d zi_201 none 36 [.ref l0, l1, l2, l3] [] h Q = zWp d zi_201 none 37 [.ref l0, l1, l2, l3] [.ref l0] h Q) ∧
    (∀ (d : Nat) (l0 : Value) (l1 : Value) (l2 : Value) (l3 : Value) (x0 : Nat) (h : zMm) (Q : Option Value → zMm → Prop), zWp d zi_201 none 37 [l0, l1, l2, l3] [.ref x0] h Q = zWp d zi_201 none 38 [l0, l1, l2, l3] [.int 0, .ref x0] h Q) ∧
    (∀ (d : Nat) (l0 : Value) (l1 : Value) (l2 : Int32) (l3 : Value) (x1 : Int32) (x0 : Nat) (h : zMm) (Q : Option Value → zMm → Prop), zWp d zi_201 none 38 [l0, l1, .int l2, l3] [.int x1, .ref x0] h Q = zWp d zi_201 none 39 [l0, l1, .int l2, l3] [.int l2, .int x1, .ref x0] h Q) ∧
    (∀ (d : Nat) (l0 : Value) (l1 : Value) (l2 : Value) (l3 : Value) (x2 : Int32) (x1 : Int32) (x0 : Nat) (I : Nat → Nat → Int32) (L : Nat → Nat → Int64) (P : Nat → Nat → Option Nat) (Q : Option Value → zMm → Prop), zSH[x0]? = some (.inl 10) → zWp d zi_201 none 39 [l0, l1, l2, l3] [.int x2, .int x1, .ref x0] (zSH, I, L, P) Q = zWM d 201 [.ref x0, .int x1, .int x2] (zSH, I, L, P) (fun r h1 => zWp d zi_201 none 42 [l0, l1, l2, l3] (r.toList ++ []) h1 Q)) ∧
    (∀ (d : Nat) (l0 : Value) (l1 : Value) (l2 : Value) (l3 : Value) (x0 : Int32) (h : zMm) (Q : Option Value → zMm → Prop), zWp d zi_201 none 42 [l0, l1, l2, l3] [.int x0] h Q = zWp d zi_201 none 43 [l0, l1, l2, l3] [.int (-x0)] h Q) ∧
    (∀ (d : Nat) (l0 : Value) (l1 : Value) (l2 : Value) (l3 : Value) (x0 : Int32) (h : zMm) (Q : Option Value → zMm → Prop), zWp d zi_201 none 43 [l0, l1, l2, l3] [.int x0] h Q = Q (some (.int x0)) h) ∧
    (∀ (d : Nat) (l0 : Value) (l1 : Int32) (l2 : Value) (l3 : Value)  (h : zMm) (Q : Option Value → zMm → Prop), zWp d zi_201 none 44 [l0, .int l1, l2, l3] [] h Q = zWp d zi_201 none 45 [l0, .int l1, l2, l3] [.int l1] h Q) ∧
    (∀ (d : Nat) (l0 : Value) (l1 : Value) (l2 : Value) (l3 : Value) (x0 : Int32) (h : zMm) (Q : Option Value → zMm → Prop), zWp d zi_201 none 45 [l0, l1, l2, l3] [.int x0] h Q = zWp d zi_201 none 47 [l0, l1, l2, l3] [.int 7, .int x0] h Q) ∧
    (∀ (d : Nat) (l0 : Value) (l1 : Value) (l2 : Value) (l3 : Value) (x1 : Int32) (x0 : Int32) (h : zMm) (Q : Option Value → zMm → Prop), zWp d zi_201 none 47 [l0, l1, l2, l3] [.int x1, .int x0] h Q = if x0 = x1 then zWp d zi_201 none 50 [l0, l1, l2, l3] [] h Q else zWp d zi_201 none 75 [l0, l1, l2, l3] [] h Q) ∧
    (∀ (d : Nat) (l0 : Nat) (l1 : Value) (l2 : Value) (l3 : Value)  (h : zMm) (Q : Option Value → zMm → Prop), zWp d zi_201 none 50 [.ref l0, l1, l2, l3] [] h Q = zWp d zi_201 none 51 [.ref l0, l1, l2, l3] [.ref l0] h Q) ∧
    (∀ (d : Nat) (l0 : Value) (l1 : Value) (l2 : Value) (l3 : Value) (x0 : Nat) (h : zMm) (Q : Option Value → zMm → Prop), zWp d zi_201 none 51 [l0, l1, l2, l3] [.ref x0] h Q = zWp d zi_201 none 53 [l0, l1, l2, l3] [.int 80, .ref x0] h Q) ∧
    (∀ (d : Nat) (l0 : Value) (l1 : Value) (l2 : Value) (l3 : Value) (x1 : Int32) (x0 : Nat) (I : Nat → Nat → Int32) (L : Nat → Nat → Int64) (P : Nat → Nat → Option Nat) (Q : Option Value → zMm → Prop), zSH[x0]? = some (.inl 10) → zWp d zi_201 none 53 [l0, l1, l2, l3] [.int x1, .ref x0] (zSH, I, L, P) Q = zWM d 199 [.ref x0, .int x1] (zSH, I, L, P) (fun r h1 => zWp d zi_201 none 56 [l0, l1, l2, l3] (r.toList ++ []) h1 Q)) ∧
    (∀ (d : Nat) (l0 : Nat) (l1 : Value) (l2 : Value) (l3 : Value)  (h : zMm) (Q : Option Value → zMm → Prop), zWp d zi_201 none 56 [.ref l0, l1, l2, l3] [] h Q = zWp d zi_201 none 57 [.ref l0, l1, l2, l3] [.ref l0] h Q) ∧
    (∀ (d : Nat) (l0 : Value) (l1 : Value) (l2 : Value) (l3 : Value) (x0 : Nat) (h : zMm) (Q : Option Value → zMm → Prop), zWp d zi_201 none 57 [l0, l1, l2, l3] [.ref x0] h Q = zWp d zi_201 none 58 [l0, l1, l2, l3] [.int 4, .ref x0] h Q) ∧
    (∀ (d : Nat) (l0 : Value) (l1 : Value) (l2 : Int32) (l3 : Value) (x1 : Int32) (x0 : Nat) (h : zMm) (Q : Option Value → zMm → Prop), zWp d zi_201 none 58 [l0, l1, .int l2, l3] [.int x1, .ref x0] h Q = zWp d zi_201 none 59 [l0, l1, .int l2, l3] [.int l2, .int x1, .ref x0] h Q) ∧
    (∀ (d : Nat) (l0 : Value) (l1 : Value) (l2 : Value) (l3 : Value) (x2 : Int32) (x1 : Int32) (x0 : Nat) (I : Nat → Nat → Int32) (L : Nat → Nat → Int64) (P : Nat → Nat → Option Nat) (Q : Option Value → zMm → Prop), zSH[x0]? = some (.inl 10) → zWp d zi_201 none 59 [l0, l1, l2, l3] [.int x2, .int x1, .ref x0] (zSH, I, L, P) Q = zWM d 201 [.ref x0, .int x1, .int x2] (zSH, I, L, P) (fun r h1 => zWp d zi_201 none 62 [l0, l1, l2, l3] (r.toList ++ []) h1 Q)) ∧
    (∀ (d : Nat) (l0 : Value) (l1 : Value) (l2 : Int32) (l3 : Value) (x0 : Int32) (h : zMm) (Q : Option Value → zMm → Prop), zWp d zi_201 none 62 [l0, l1, .int l2, l3] [.int x0] h Q = zWp d zi_201 none 63 [l0, l1, .int l2, .int x0] [] h Q) ∧
    (∀ (d : Nat) (l0 : Value) (l1 : Value) (l2 : Value) (l3 : Int32)  (h : zMm) (Q : Option Value → zMm → Prop), zWp d zi_201 none 63 [l0, l1, l2, .int l3] [] h Q = zWp d zi_201 none 64 [l0, l1, l2, .int l3] [.int l3] h Q) ∧
    (∀ (d : Nat) (l0 : Nat) (l1 : Value) (l2 : Value) (l3 : Value) (x0 : Int32) (h : zMm) (Q : Option Value → zMm → Prop), zWp d zi_201 none 64 [.ref l0, l1, l2, l3] [.int x0] h Q = zWp d zi_201 none 65 [.ref l0, l1, l2, l3] [.ref l0, .int x0] h Q) ∧
    (∀ (d : Nat) (l0 : Nat) (l1 : Value) (l2 : Value) (l3 : Value) (x1 : Nat) (x0 : Int32) (h : zMm) (Q : Option Value → zMm → Prop), zWp d zi_201 none 65 [.ref l0, l1, l2, l3] [.ref x1, .int x0] h Q = zWp d zi_201 none 66 [.ref l0, l1, l2, l3] [.ref l0, .ref x1, .int x0] h Q) ∧
    (∀ (d : Nat) (l0 : Value) (l1 : Value) (l2 : Value) (l3 : Value) (x2 : Nat) (x1 : Nat) (x0 : Int32) (I : Nat → Nat → Int32) (L : Nat → Nat → Int64) (P : Nat → Nat → Option Nat) (Q : Option Value → zMm → Prop), zSH[x2]? = some (.inl 10) → zWp d zi_201 none 66 [l0, l1, l2, l3] [.ref x2, .ref x1, .int x0] (zSH, I, L, P) Q = zWp d zi_201 none 69 [l0, l1, l2, l3] [.int (I x2 44), .ref x1, .int x0] (zSH, I, L, P) Q) ∧
    (∀ (d : Nat) (l0 : Value) (l1 : Value) (l2 : Value) (l3 : Value) (x2 : Int32) (x1 : Nat) (x0 : Int32) (h : zMm) (Q : Option Value → zMm → Prop), zWp d zi_201 none 69 [l0, l1, l2, l3] [.int x2, .ref x1, .int x0] h Q = zWp d zi_201 none 70 [l0, l1, l2, l3] [.int 2, .int x2, .ref x1, .int x0] h Q) ∧
    (∀ (d : Nat) (l0 : Value) (l1 : Value) (l2 : Value) (l3 : Value) (x3 : Int32) (x2 : Int32) (x1 : Nat) (x0 : Int32) (I : Nat → Nat → Int32) (L : Nat → Nat → Int64) (P : Nat → Nat → Option Nat) (Q : Option Value → zMm → Prop), zSH[x1]? = some (.inl 10) → zWp d zi_201 none 70 [l0, l1, l2, l3] [.int x3, .int x2, .ref x1, .int x0] (zSH, I, L, P) Q = zWM d 202 [.ref x1, .int x2, .int x3] (zSH, I, L, P) (fun r h1 => zWp d zi_201 none 73 [l0, l1, l2, l3] (r.toList ++ [.int x0]) h1 Q)) ∧
    (∀ (d : Nat) (l0 : Value) (l1 : Value) (l2 : Value) (l3 : Value) (x1 : Int32) (x0 : Int32) (h : zMm) (Q : Option Value → zMm → Prop), zWp d zi_201 none 73 [l0, l1, l2, l3] [.int x1, .int x0] h Q = zWp d zi_201 none 74 [l0, l1, l2, l3] [.int (x0 + x1)] h Q) ∧
    (∀ (d : Nat) (l0 : Value) (l1 : Value) (l2 : Value) (l3 : Value) (x0 : Int32) (h : zMm) (Q : Option Value → zMm → Prop), zWp d zi_201 none 74 [l0, l1, l2, l3] [.int x0] h Q = Q (some (.int x0)) h) ∧
    (∀ (d : Nat) (l0 : Nat) (l1 : Value) (l2 : Value) (l3 : Value)  (h : zMm) (Q : Option Value → zMm → Prop), zWp d zi_201 none 75 [.ref l0, l1, l2, l3] [] h Q = zWp d zi_201 none 76 [.ref l0, l1, l2, l3] [.ref l0] h Q) ∧
    (∀ (d : Nat) (l0 : Value) (l1 : Value) (l2 : Value) (l3 : Value) (x0 : Nat) (h : zMm) (Q : Option Value → zMm → Prop), zWp d zi_201 none 76 [l0, l1, l2, l3] [.ref x0] h Q = zWp d zi_201 none 78 [l0, l1, l2, l3] [.int 10, .ref x0] h Q) ∧
    (∀ (d : Nat) (l0 : Value) (l1 : Value) (l2 : Value) (l3 : Value) (x1 : Int32) (x0 : Nat) (I : Nat → Nat → Int32) (L : Nat → Nat → Int64) (P : Nat → Nat → Option Nat) (Q : Option Value → zMm → Prop), zSH[x0]? = some (.inl 10) → zWp d zi_201 none 78 [l0, l1, l2, l3] [.int x1, .ref x0] (zSH, I, L, P) Q = zWM d 199 [.ref x0, .int x1] (zSH, I, L, P) (fun r h1 => zWp d zi_201 none 81 [l0, l1, l2, l3] (r.toList ++ []) h1 Q)) ∧
    (∀ (d : Nat) (l0 : Nat) (l1 : Value) (l2 : Value) (l3 : Value)  (h : zMm) (Q : Option Value → zMm → Prop), zWp d zi_201 none 81 [.ref l0, l1, l2, l3] [] h Q = zWp d zi_201 none 82 [.ref l0, l1, l2, l3] [.ref l0] h Q) ∧
    (∀ (d : Nat) (l0 : Nat) (l1 : Value) (l2 : Value) (l3 : Value) (x0 : Nat) (h : zMm) (Q : Option Value → zMm → Prop), zWp d zi_201 none 82 [.ref l0, l1, l2, l3] [.ref x0] h Q = zWp d zi_201 none 83 [.ref l0, l1, l2, l3] [.ref l0, .ref x0] h Q) ∧
    (∀ (d : Nat) (l0 : Value) (l1 : Value) (l2 : Value) (l3 : Value) (x1 : Nat) (x0 : Nat) (I : Nat → Nat → Int32) (L : Nat → Nat → Int64) (P : Nat → Nat → Option Nat) (Q : Option Value → zMm → Prop), zSH[x1]? = some (.inl 10) → zWp d zi_201 none 83 [l0, l1, l2, l3] [.ref x1, .ref x0] (zSH, I, L, P) Q = zWp d zi_201 none 86 [l0, l1, l2, l3] [.int (I x1 44), .ref x0] (zSH, I, L, P) Q) ∧
    (∀ (d : Nat) (l0 : Value) (l1 : Value) (l2 : Int32) (l3 : Value) (x1 : Int32) (x0 : Nat) (h : zMm) (Q : Option Value → zMm → Prop), zWp d zi_201 none 86 [l0, l1, .int l2, l3] [.int x1, .ref x0] h Q = zWp d zi_201 none 87 [l0, l1, .int l2, l3] [.int l2, .int x1, .ref x0] h Q) ∧
    (∀ (d : Nat) (l0 : Value) (l1 : Value) (l2 : Value) (l3 : Value) (x2 : Int32) (x1 : Int32) (x0 : Nat) (I : Nat → Nat → Int32) (L : Nat → Nat → Int64) (P : Nat → Nat → Option Nat) (Q : Option Value → zMm → Prop), zSH[x0]? = some (.inl 10) → zWp d zi_201 none 87 [l0, l1, l2, l3] [.int x2, .int x1, .ref x0] (zSH, I, L, P) Q = zWM d 200 [.ref x0, .int x1, .int x2] (zSH, I, L, P) (fun r h1 => zWp d zi_201 none 90 [l0, l1, l2, l3] (r.toList ++ []) h1 Q)) ∧
    (∀ (d : Nat) (l0 : Value) (l1 : Value) (l2 : Value) (l3 : Value) (x0 : Int32) (h : zMm) (Q : Option Value → zMm → Prop), zWp d zi_201 none 90 [l0, l1, l2, l3] [.int x0] h Q = zWp d zi_201 none 91 [l0, l1, l2, l3] [.int 2, .int x0] h Q) ∧
    (∀ (d : Nat) (l0 : Value) (l1 : Value) (l2 : Value) (l3 : Value) (x1 : Int32) (x0 : Int32) (h : zMm) (Q : Option Value → zMm → Prop), zWp d zi_201 none 91 [l0, l1, l2, l3] [.int x1, .int x0] h Q = zWp d zi_201 none 92 [l0, l1, l2, l3] [.int (x0 * x1)] h Q) ∧
    (∀ (d : Nat) (l0 : Value) (l1 : Value) (l2 : Value) (l3 : Value) (x0 : Int32) (h : zMm) (Q : Option Value → zMm → Prop), zWp d zi_201 none 92 [l0, l1, l2, l3] [.int x0] h Q = Q (some (.int x0)) h) :=
  ⟨(fun d l0 l1 l2 l3  h Q => zr_iload_n rfl rfl),
   (fun d l0 l1 l2 l3 x0 h Q => zr_iconst rfl (by decide)),
   (fun d l0 l1 l2 l3 x1 x0 h Q => zr_ic_eq rfl (by decide)),
   (fun d l0 l1 l2 l3  h Q => zr_iload_n rfl rfl),
   (fun d l0 l1 l2 l3 x0 h Q => zr_iconst rfl (by decide)),
   (fun d l0 l1 l2 l3 x1 x0 h Q => zr_ic_ne rfl (by decide)),
   (fun d l0 l1 l2 l3  h Q => zr_aload_n rfl rfl),
   (fun d l0 l1 l2 l3 x0 h Q => zr_bipush rfl (by decide)),
   (fun d l0 l1 l2 l3 x1 x0 I L P Q p0 => zr_vir (as := [.int x1]) (rest := []) rfl lm_10_334 m_199 kd_199 rfl (Nat.le_of_ble_eq_true rfl) p0),
   (fun d l0 l1 l2 l3  h Q => zr_aload_n rfl rfl),
   (fun d l0 l1 l2 l3 x0 h Q => zr_iconst rfl (by decide)),
   (fun d l0 l1 l2 l3 x1 x0 h Q => zr_iload_n rfl rfl),
   (fun d l0 l1 l2 l3 x2 x1 x0 h Q => zr_iconst rfl (by decide)),
   (fun d l0 l1 l2 l3 x3 x2 x1 x0 h Q => zr_iadd rfl),
   (fun d l0 l1 l2 l3 x2 x1 x0 I L P Q p0 => zr_vir (as := [.int x2, .int x1]) (rest := []) rfl lm_10_343 m_201 kd_201 rfl (Nat.le_of_ble_eq_true rfl) p0),
   (fun d l0 l1 l2 l3 x0 h Q => zr_iret rfl rfl),
   (fun d l0 l1 l2 l3  h Q => zr_iload_n rfl rfl),
   (fun d l0 l1 l2 l3 x0 h Q => zr_iconst rfl (by decide)),
   (fun d l0 l1 l2 l3 x1 x0 h Q => zr_ic_ne rfl (by decide)),
   (fun d l0 l1 l2 l3  h Q => zr_aload_n rfl rfl),
   (fun d l0 l1 l2 l3 x0 h Q => zr_bipush rfl (by decide)),
   (fun d l0 l1 l2 l3 x1 x0 I L P Q p0 => zr_vir (as := [.int x1]) (rest := []) rfl lm_10_334 m_199 kd_199 rfl (Nat.le_of_ble_eq_true rfl) p0),
   (fun d l0 l1 l2 l3  h Q => zr_aload_n rfl rfl),
   (fun d l0 l1 l2 l3 x0 h Q => zr_iconst rfl (by decide)),
   (fun d l0 l1 l2 l3 x1 x0 h Q => zr_iload_n rfl rfl),
   (fun d l0 l1 l2 l3 x2 x1 x0 I L P Q p0 => zr_vir (as := [.int x2, .int x1]) (rest := []) rfl lm_10_343 m_201 kd_201 rfl (Nat.le_of_ble_eq_true rfl) p0),
   (fun d l0 l1 l2 l3 x0 h Q => zr_ineg rfl),
   (fun d l0 l1 l2 l3 x0 h Q => zr_iret rfl rfl),
   (fun d l0 l1 l2 l3  h Q => zr_iload_n rfl rfl),
   (fun d l0 l1 l2 l3 x0 h Q => zr_bipush rfl (by decide)),
   (fun d l0 l1 l2 l3 x1 x0 h Q => zr_ic_ne rfl (by decide)),
   (fun d l0 l1 l2 l3  h Q => zr_aload_n rfl rfl),
   (fun d l0 l1 l2 l3 x0 h Q => zr_bipush rfl (by decide)),
   (fun d l0 l1 l2 l3 x1 x0 I L P Q p0 => zr_vir (as := [.int x1]) (rest := []) rfl lm_10_334 m_199 kd_199 rfl (Nat.le_of_ble_eq_true rfl) p0),
   (fun d l0 l1 l2 l3  h Q => zr_aload_n rfl rfl),
   (fun d l0 l1 l2 l3 x0 h Q => zr_iconst rfl (by decide)),
   (fun d l0 l1 l2 l3 x1 x0 h Q => zr_iload_n rfl rfl),
   (fun d l0 l1 l2 l3 x2 x1 x0 I L P Q p0 => zr_vir (as := [.int x2, .int x1]) (rest := []) rfl lm_10_343 m_201 kd_201 rfl (Nat.le_of_ble_eq_true rfl) p0),
   (fun d l0 l1 l2 l3 x0 h Q => zr_istore_n (n := 3) rfl (Nat.le_of_ble_eq_true rfl) rfl),
   (fun d l0 l1 l2 l3  h Q => zr_iload_n rfl rfl),
   (fun d l0 l1 l2 l3 x0 h Q => zr_aload_n rfl rfl),
   (fun d l0 l1 l2 l3 x1 x0 h Q => zr_aload_n rfl rfl),
   (fun d l0 l1 l2 l3 x2 x1 x0 I L P Q p0 => zr_getI rfl lf_10_346 (fun _ _ _ => rfl) p0),
   (fun d l0 l1 l2 l3 x2 x1 x0 h Q => zr_iconst rfl (by decide)),
   (fun d l0 l1 l2 l3 x3 x2 x1 x0 I L P Q p0 => zr_vir (as := [.int x3, .int x2]) (rest := [.int x0]) rfl lm_10_349 m_202 kd_202 rfl (Nat.le_of_ble_eq_true rfl) p0),
   (fun d l0 l1 l2 l3 x1 x0 h Q => zr_iadd rfl),
   (fun d l0 l1 l2 l3 x0 h Q => zr_iret rfl rfl),
   (fun d l0 l1 l2 l3  h Q => zr_aload_n rfl rfl),
   (fun d l0 l1 l2 l3 x0 h Q => zr_bipush rfl (by decide)),
   (fun d l0 l1 l2 l3 x1 x0 I L P Q p0 => zr_vir (as := [.int x1]) (rest := []) rfl lm_10_334 m_199 kd_199 rfl (Nat.le_of_ble_eq_true rfl) p0),
   (fun d l0 l1 l2 l3  h Q => zr_aload_n rfl rfl),
   (fun d l0 l1 l2 l3 x0 h Q => zr_aload_n rfl rfl),
   (fun d l0 l1 l2 l3 x1 x0 I L P Q p0 => zr_getI rfl lf_10_346 (fun _ _ _ => rfl) p0),
   (fun d l0 l1 l2 l3 x1 x0 h Q => zr_iload_n rfl rfl),
   (fun d l0 l1 l2 l3 x2 x1 x0 I L P Q p0 => zr_vir (as := [.int x2, .int x1]) (rest := []) rfl lm_10_337 m_200 kd_200 rfl (Nat.le_of_ble_eq_true rfl) p0),
   (fun d l0 l1 l2 l3 x0 h Q => zr_iconst rfl (by decide)),
   (fun d l0 l1 l2 l3 x1 x0 h Q => zr_imul rfl),
   (fun d l0 l1 l2 l3 x0 h Q => zr_iret rfl rfl)⟩
theorem E_X10_burnsAs : ∀ (d : Nat) (a0 : Nat) (a1 : Int32) (a2 : Int32) (h : zMm) (Q : Option Value → zMm → Prop), zWM (d + 1) 202 [.ref a0, .int a1, .int a2] h Q = zWp d zi_202 none 0 [.ref a0, .int a1, .int a2, .retAddr 0] [] h Q := fun d a0 a1 a2 h Q => zW_M m_202 (Nat.le_of_ble_eq_true rfl) rfl
set_option maxRecDepth 100000 in
theorem R_X10_burnsAs :
    (∀ (d : Nat) (l0 : Value) (l1 : Int32) (l2 : Value) (l3 : Value)  (h : zMm) (Q : Option Value → zMm → Prop), zWp d zi_202 none 0 [l0, .int l1, l2, l3] [] h Q = zWp d zi_202 none 1 [l0, .int l1, l2, l3] [.int l1] h Q) ∧
    (∀ (d : Nat) (l0 : Value) (l1 : Value) (l2 : Value) (l3 : Value) (x0 : Int32) (h : zMm) (Q : Option Value → zMm → Prop), zWp d zi_202 none 1 [l0, l1, l2, l3] [.int x0] h Q = zWp d zi_202 none 2 [l0, l1, l2, l3] [.int 3, .int x0] h Q) ∧
    (∀ (d : Nat) (l0 : Value) (l1 : Value) (l2 : Value) (l3 : Value) (x1 : Int32) (x0 : Int32) (h : zMm) (Q : Option Value → zMm → Prop), zWp d zi_202 none 2 [l0, l1, l2, l3] [.int x1, .int x0] h Q = if x0 = x1 then zWp d zi_202 none 10 [l0, l1, l2, l3] [] h Q else zWp d zi_202 none 5 [l0, l1, l2, l3] [] h Q) ∧
    (∀ (d : Nat) (l0 : Value) (l1 : Int32) (l2 : Value) (l3 : Value)  (h : zMm) (Q : Option Value → zMm → Prop), zWp d zi_202 none 5 [l0, .int l1, l2, l3] [] h Q = zWp d zi_202 none 6 [l0, .int l1, l2, l3] [.int l1] h Q) ∧
    (∀ (d : Nat) (l0 : Value) (l1 : Value) (l2 : Value) (l3 : Value) (x0 : Int32) (h : zMm) (Q : Option Value → zMm → Prop), zWp d zi_202 none 6 [l0, l1, l2, l3] [.int x0] h Q = zWp d zi_202 none 7 [l0, l1, l2, l3] [.int 5, .int x0] h Q) ∧
    (∀ (d : Nat) (l0 : Value) (l1 : Value) (l2 : Value) (l3 : Value) (x1 : Int32) (x0 : Int32) (h : zMm) (Q : Option Value → zMm → Prop), zWp d zi_202 none 7 [l0, l1, l2, l3] [.int x1, .int x0] h Q = if x0 = x1 then zWp d zi_202 none 10 [l0, l1, l2, l3] [] h Q else zWp d zi_202 none 25 [l0, l1, l2, l3] [] h Q) ∧
    (∀ (d : Nat) (l0 : Nat) (l1 : Value) (l2 : Value) (l3 : Value)  (h : zMm) (Q : Option Value → zMm → Prop), zWp d zi_202 none 10 [.ref l0, l1, l2, l3] [] h Q = zWp d zi_202 none 11 [.ref l0, l1, l2, l3] [.ref l0] h Q) ∧
    (∀ (d : Nat) (l0 : Value) (l1 : Value) (l2 : Value) (l3 : Value) (x0 : Nat) (h : zMm) (Q : Option Value → zMm → Prop), zWp d zi_202 none 11 [l0, l1, l2, l3] [.ref x0] h Q = zWp d zi_202 none 13 [l0, l1, l2, l3] [.int 40, .ref x0] h Q) ∧
    (∀ (d : Nat) (l0 : Value) (l1 : Value) (l2 : Value) (l3 : Value) (x1 : Int32) (x0 : Nat) (I : Nat → Nat → Int32) (L : Nat → Nat → Int64) (P : Nat → Nat → Option Nat) (Q : Option Value → zMm → Prop), zSH[x0]? = some (.inl 10) → zWp d zi_202 none 13 [l0, l1, l2, l3] [.int x1, .ref x0] (zSH, I, L, P) Q = zWM d 199 [.ref x0, .int x1] (zSH, I, L, P) (fun r h1 => zWp d zi_202 none 16 [l0, l1, l2, l3] (r.toList ++ []) h1 Q)) ∧
    (∀ (d : Nat) (l0 : Nat) (l1 : Value) (l2 : Value) (l3 : Value)  (h : zMm) (Q : Option Value → zMm → Prop), zWp d zi_202 none 16 [.ref l0, l1, l2, l3] [] h Q = zWp d zi_202 none 17 [.ref l0, l1, l2, l3] [.ref l0] h Q) ∧
    (∀ (d : Nat) (l0 : Value) (l1 : Value) (l2 : Value) (l3 : Value) (x0 : Nat) (h : zMm) (Q : Option Value → zMm → Prop), zWp d zi_202 none 17 [l0, l1, l2, l3] [.ref x0] h Q = zWp d zi_202 none 18 [l0, l1, l2, l3] [.int 2, .ref x0] h Q) ∧
    (∀ (d : Nat) (l0 : Value) (l1 : Value) (l2 : Int32) (l3 : Value) (x1 : Int32) (x0 : Nat) (h : zMm) (Q : Option Value → zMm → Prop), zWp d zi_202 none 18 [l0, l1, .int l2, l3] [.int x1, .ref x0] h Q = zWp d zi_202 none 19 [l0, l1, .int l2, l3] [.int l2, .int x1, .ref x0] h Q) ∧
    (∀ (d : Nat) (l0 : Value) (l1 : Value) (l2 : Value) (l3 : Value) (x2 : Int32) (x1 : Int32) (x0 : Nat) (I : Nat → Nat → Int32) (L : Nat → Nat → Int64) (P : Nat → Nat → Option Nat) (Q : Option Value → zMm → Prop), zSH[x0]? = some (.inl 10) → zWp d zi_202 none 19 [l0, l1, l2, l3] [.int x2, .int x1, .ref x0] (zSH, I, L, P) Q = zWM d 202 [.ref x0, .int x1, .int x2] (zSH, I, L, P) (fun r h1 => zWp d zi_202 none 22 [l0, l1, l2, l3] (r.toList ++ []) h1 Q)) ∧
    (∀ (d : Nat) (l0 : Value) (l1 : Value) (l2 : Value) (l3 : Value) (x0 : Int32) (h : zMm) (Q : Option Value → zMm → Prop), zWp d zi_202 none 22 [l0, l1, l2, l3] [.int x0] h Q = zWp d zi_202 none 23 [l0, l1, l2, l3] [.int 3, .int x0] h Q) ∧
    (∀ (d : Nat) (l0 : Value) (l1 : Value) (l2 : Value) (l3 : Value) (x1 : Int32) (x0 : Int32) (h : zMm) (Q : Option Value → zMm → Prop), zWp d zi_202 none 23 [l0, l1, l2, l3] [.int x1, .int x0] h Q = zWp d zi_202 none 24 [l0, l1, l2, l3] [.int (x0 * x1)] h Q) ∧
    (∀ (d : Nat) (l0 : Value) (l1 : Value) (l2 : Value) (l3 : Value) (x0 : Int32) (h : zMm) (Q : Option Value → zMm → Prop), zWp d zi_202 none 24 [l0, l1, l2, l3] [.int x0] h Q = Q (some (.int x0)) h) ∧
    (∀ (d : Nat) (l0 : Value) (l1 : Int32) (l2 : Value) (l3 : Value)  (h : zMm) (Q : Option Value → zMm → Prop), zWp d zi_202 none 25 [l0, .int l1, l2, l3] [] h Q = zWp d zi_202 none 26 [l0, .int l1, l2, l3] [.int l1] h Q) ∧
    (∀ (d : Nat) (l0 : Value) (l1 : Value) (l2 : Value) (l3 : Value) (x0 : Int32) (h : zMm) (Q : Option Value → zMm → Prop), zWp d zi_202 none 26 [l0, l1, l2, l3] [.int x0] h Q = zWp d zi_202 none 27 [l0, l1, l2, l3] [.int 4, .int x0] h Q) ∧
    (∀ (d : Nat) (l0 : Value) (l1 : Value) (l2 : Value) (l3 : Value) (x1 : Int32) (x0 : Int32) (h : zMm) (Q : Option Value → zMm → Prop), zWp d zi_202 none 27 [l0, l1, l2, l3] [.int x1, .int x0] h Q = if x0 = x1 then zWp d zi_202 none 36 [l0, l1, l2, l3] [] h Q else zWp d zi_202 none 30 [l0, l1, l2, l3] [] h Q) ∧
    (∀ (d : Nat) (l0 : Value) (l1 : Int32) (l2 : Value) (l3 : Value)  (h : zMm) (Q : Option Value → zMm → Prop), zWp d zi_202 none 30 [l0, .int l1, l2, l3] [] h Q = zWp d zi_202 none 31 [l0, .int l1, l2, l3] [.int l1] h Q) ∧
    (∀ (d : Nat) (l0 : Value) (l1 : Value) (l2 : Value) (l3 : Value) (x0 : Int32) (h : zMm) (Q : Option Value → zMm → Prop), zWp d zi_202 none 31 [l0, l1, l2, l3] [.int x0] h Q = zWp d zi_202 none 33 [l0, l1, l2, l3] [.int 7, .int x0] h Q) ∧
    (∀ (d : Nat) (l0 : Value) (l1 : Value) (l2 : Value) (l3 : Value) (x1 : Int32) (x0 : Int32) (h : zMm) (Q : Option Value → zMm → Prop), zWp d zi_202 none 33 [l0, l1, l2, l3] [.int x1, .int x0] h Q = if x0 = x1 then zWp d zi_202 none 36 [l0, l1, l2, l3] [] h Q else zWp d zi_202 none 61 [l0, l1, l2, l3] [] h Q) ∧
    (∀ (d : Nat) (l0 : Nat) (l1 : Value) (l2 : Value) (l3 : Value)  (h : zMm) (Q : Option Value → zMm → Prop), zWp d zi_202 none 36 [.ref l0, l1, l2, l3] [] h Q = zWp d zi_202 none 37 [.ref l0, l1, l2, l3] [.ref l0] h Q) ∧
    (∀ (d : Nat) (l0 : Value) (l1 : Value) (l2 : Value) (l3 : Value) (x0 : Nat) (h : zMm) (Q : Option Value → zMm → Prop), zWp d zi_202 none 37 [l0, l1, l2, l3] [.ref x0] h Q = zWp d zi_202 none 39 [l0, l1, l2, l3] [.int 50, .ref x0] h Q) ∧
    (∀ (d : Nat) (l0 : Value) (l1 : Value) (l2 : Value) (l3 : Value) (x1 : Int32) (x0 : Nat) (I : Nat → Nat → Int32) (L : Nat → Nat → Int64) (P : Nat → Nat → Option Nat) (Q : Option Value → zMm → Prop), zSH[x0]? = some (.inl 10) → zWp d zi_202 none 39 [l0, l1, l2, l3] [.int x1, .ref x0] (zSH, I, L, P) Q = zWM d 199 [.ref x0, .int x1] (zSH, I, L, P) (fun r h1 => zWp d zi_202 none 42 [l0, l1, l2, l3] (r.toList ++ []) h1 Q)) ∧
    (∀ (d : Nat) (l0 : Nat) (l1 : Value) (l2 : Value) (l3 : Value)  (h : zMm) (Q : Option Value → zMm → Prop), zWp d zi_202 none 42 [.ref l0, l1, l2, l3] [] h Q = zWp d zi_202 none 43 [.ref l0, l1, l2, l3] [.ref l0] h Q) ∧
    (∀ (d : Nat) (l0 : Value) (l1 : Value) (l2 : Value) (l3 : Value) (x0 : Nat) (h : zMm) (Q : Option Value → zMm → Prop), zWp d zi_202 none 43 [l0, l1, l2, l3] [.ref x0] h Q = zWp d zi_202 none 44 [l0, l1, l2, l3] [.int 1, .ref x0] h Q) ∧
    (∀ (d : Nat) (l0 : Value) (l1 : Value) (l2 : Int32) (l3 : Value) (x1 : Int32) (x0 : Nat) (h : zMm) (Q : Option Value → zMm → Prop), zWp d zi_202 none 44 [l0, l1, .int l2, l3] [.int x1, .ref x0] h Q = zWp d zi_202 none 45 [l0, l1, .int l2, l3] [.int l2, .int x1, .ref x0] h Q) ∧
    (∀ (d : Nat) (l0 : Value) (l1 : Value) (l2 : Value) (l3 : Value) (x2 : Int32) (x1 : Int32) (x0 : Nat) (I : Nat → Nat → Int32) (L : Nat → Nat → Int64) (P : Nat → Nat → Option Nat) (Q : Option Value → zMm → Prop), zSH[x0]? = some (.inl 10) → zWp d zi_202 none 45 [l0, l1, l2, l3] [.int x2, .int x1, .ref x0] (zSH, I, L, P) Q = zWM d 202 [.ref x0, .int x1, .int x2] (zSH, I, L, P) (fun r h1 => zWp d zi_202 none 48 [l0, l1, l2, l3] (r.toList ++ []) h1 Q)) ∧
    (∀ (d : Nat) (l0 : Value) (l1 : Value) (l2 : Int32) (l3 : Value) (x0 : Int32) (h : zMm) (Q : Option Value → zMm → Prop), zWp d zi_202 none 48 [l0, l1, .int l2, l3] [.int x0] h Q = zWp d zi_202 none 49 [l0, l1, .int l2, .int x0] [] h Q) ∧
    (∀ (d : Nat) (l0 : Value) (l1 : Value) (l2 : Value) (l3 : Int32)  (h : zMm) (Q : Option Value → zMm → Prop), zWp d zi_202 none 49 [l0, l1, l2, .int l3] [] h Q = zWp d zi_202 none 50 [l0, l1, l2, .int l3] [.int l3] h Q) ∧
    (∀ (d : Nat) (l0 : Nat) (l1 : Value) (l2 : Value) (l3 : Value) (x0 : Int32) (h : zMm) (Q : Option Value → zMm → Prop), zWp d zi_202 none 50 [.ref l0, l1, l2, l3] [.int x0] h Q = zWp d zi_202 none 51 [.ref l0, l1, l2, l3] [.ref l0, .int x0] h Q) ∧
    (∀ (d : Nat) (l0 : Nat) (l1 : Value) (l2 : Value) (l3 : Value) (x1 : Nat) (x0 : Int32) (h : zMm) (Q : Option Value → zMm → Prop), zWp d zi_202 none 51 [.ref l0, l1, l2, l3] [.ref x1, .int x0] h Q = zWp d zi_202 none 52 [.ref l0, l1, l2, l3] [.ref l0, .ref x1, .int x0] h Q) ∧
    (∀ (d : Nat) (l0 : Value) (l1 : Value) (l2 : Value) (l3 : Value) (x2 : Nat) (x1 : Nat) (x0 : Int32) (I : Nat → Nat → Int32) (L : Nat → Nat → Int64) (P : Nat → Nat → Option Nat) (Q : Option Value → zMm → Prop), zSH[x2]? = some (.inl 10) → zWp d zi_202 none 52 [l0, l1, l2, l3] [.ref x2, .ref x1, .int x0] (zSH, I, L, P) Q = zWp d zi_202 none 55 [l0, l1, l2, l3] [.int (I x2 44), .ref x1, .int x0] (zSH, I, L, P) Q) ∧
    (∀ (d : Nat) (l0 : Value) (l1 : Value) (l2 : Value) (l3 : Value) (x2 : Int32) (x1 : Nat) (x0 : Int32) (h : zMm) (Q : Option Value → zMm → Prop), zWp d zi_202 none 55 [l0, l1, l2, l3] [.int x2, .ref x1, .int x0] h Q = zWp d zi_202 none 56 [l0, l1, l2, l3] [.int 2, .int x2, .ref x1, .int x0] h Q) ∧
    (∀ (d : Nat) (l0 : Value) (l1 : Value) (l2 : Value) (l3 : Value) (x3 : Int32) (x2 : Int32) (x1 : Nat) (x0 : Int32) (I : Nat → Nat → Int32) (L : Nat → Nat → Int64) (P : Nat → Nat → Option Nat) (Q : Option Value → zMm → Prop), zSH[x1]? = some (.inl 10) → zWp d zi_202 none 56 [l0, l1, l2, l3] [.int x3, .int x2, .ref x1, .int x0] (zSH, I, L, P) Q = zWM d 200 [.ref x1, .int x2, .int x3] (zSH, I, L, P) (fun r h1 => zWp d zi_202 none 59 [l0, l1, l2, l3] (r.toList ++ [.int x0]) h1 Q)) ∧
    (∀ (d : Nat) (l0 : Value) (l1 : Value) (l2 : Value) (l3 : Value) (x1 : Int32) (x0 : Int32) (h : zMm) (Q : Option Value → zMm → Prop), zWp d zi_202 none 59 [l0, l1, l2, l3] [.int x1, .int x0] h Q = zWp d zi_202 none 60 [l0, l1, l2, l3] [.int (x0 - x1)] h Q) ∧
    (∀ (d : Nat) (l0 : Value) (l1 : Value) (l2 : Value) (l3 : Value) (x0 : Int32) (h : zMm) (Q : Option Value → zMm → Prop), zWp d zi_202 none 60 [l0, l1, l2, l3] [.int x0] h Q = Q (some (.int x0)) h) ∧
    (∀ (d : Nat) (l0 : Nat) (l1 : Value) (l2 : Value) (l3 : Value)  (h : zMm) (Q : Option Value → zMm → Prop), zWp d zi_202 none 61 [.ref l0, l1, l2, l3] [] h Q = zWp d zi_202 none 62 [.ref l0, l1, l2, l3] [.ref l0] h Q) ∧
    (∀ (d : Nat) (l0 : Value) (l1 : Value) (l2 : Value) (l3 : Value) (x0 : Nat) (h : zMm) (Q : Option Value → zMm → Prop), zWp d zi_202 none 62 [l0, l1, l2, l3] [.ref x0] h Q = zWp d zi_202 none 64 [l0, l1, l2, l3] [.int 11, .ref x0] h Q) ∧
    (∀ (d : Nat) (l0 : Value) (l1 : Value) (l2 : Value) (l3 : Value) (x1 : Int32) (x0 : Nat) (I : Nat → Nat → Int32) (L : Nat → Nat → Int64) (P : Nat → Nat → Option Nat) (Q : Option Value → zMm → Prop), zSH[x0]? = some (.inl 10) → zWp d zi_202 none 64 [l0, l1, l2, l3] [.int x1, .ref x0] (zSH, I, L, P) Q = zWM d 199 [.ref x0, .int x1] (zSH, I, L, P) (fun r h1 => zWp d zi_202 none 67 [l0, l1, l2, l3] (r.toList ++ []) h1 Q)) ∧
    (∀ (d : Nat) (l0 : Value) (l1 : Value) (l2 : Int32) (l3 : Value)  (h : zMm) (Q : Option Value → zMm → Prop), zWp d zi_202 none 67 [l0, l1, .int l2, l3] [] h Q = zWp d zi_202 none 68 [l0, l1, .int l2, l3] [.int l2] h Q) ∧
    (∀ (d : Nat) (l0 : Nat) (l1 : Value) (l2 : Value) (l3 : Value) (x0 : Int32) (h : zMm) (Q : Option Value → zMm → Prop), zWp d zi_202 none 68 [.ref l0, l1, l2, l3] [.int x0] h Q = zWp d zi_202 none 69 [.ref l0, l1, l2, l3] [.ref l0, .int x0] h Q) ∧
    (∀ (d : Nat) (l0 : Value) (l1 : Value) (l2 : Value) (l3 : Value) (x1 : Nat) (x0 : Int32) (I : Nat → Nat → Int32) (L : Nat → Nat → Int64) (P : Nat → Nat → Option Nat) (Q : Option Value → zMm → Prop), zSH[x1]? = some (.inl 10) → zWp d zi_202 none 69 [l0, l1, l2, l3] [.ref x1, .int x0] (zSH, I, L, P) Q = zWp d zi_202 none 72 [l0, l1, l2, l3] [.int (I x1 45), .int x0] (zSH, I, L, P) Q) ∧
    (∀ (d : Nat) (l0 : Value) (l1 : Value) (l2 : Value) (l3 : Value) (x1 : Int32) (x0 : Int32) (h : zMm) (Q : Option Value → zMm → Prop), zWp d zi_202 none 72 [l0, l1, l2, l3] [.int x1, .int x0] h Q = zWp d zi_202 none 73 [l0, l1, l2, l3] [.int (x0 ^^^ x1)] h Q) ∧
    (∀ (d : Nat) (l0 : Value) (l1 : Value) (l2 : Value) (l3 : Value) (x0 : Int32) (h : zMm) (Q : Option Value → zMm → Prop), zWp d zi_202 none 73 [l0, l1, l2, l3] [.int x0] h Q = Q (some (.int x0)) h) :=
  ⟨(fun d l0 l1 l2 l3  h Q => zr_iload_n rfl rfl),
   (fun d l0 l1 l2 l3 x0 h Q => zr_iconst rfl (by decide)),
   (fun d l0 l1 l2 l3 x1 x0 h Q => zr_ic_eq rfl (by decide)),
   (fun d l0 l1 l2 l3  h Q => zr_iload_n rfl rfl),
   (fun d l0 l1 l2 l3 x0 h Q => zr_iconst rfl (by decide)),
   (fun d l0 l1 l2 l3 x1 x0 h Q => zr_ic_ne rfl (by decide)),
   (fun d l0 l1 l2 l3  h Q => zr_aload_n rfl rfl),
   (fun d l0 l1 l2 l3 x0 h Q => zr_bipush rfl (by decide)),
   (fun d l0 l1 l2 l3 x1 x0 I L P Q p0 => zr_vir (as := [.int x1]) (rest := []) rfl lm_10_334 m_199 kd_199 rfl (Nat.le_of_ble_eq_true rfl) p0),
   (fun d l0 l1 l2 l3  h Q => zr_aload_n rfl rfl),
   (fun d l0 l1 l2 l3 x0 h Q => zr_iconst rfl (by decide)),
   (fun d l0 l1 l2 l3 x1 x0 h Q => zr_iload_n rfl rfl),
   (fun d l0 l1 l2 l3 x2 x1 x0 I L P Q p0 => zr_vir (as := [.int x2, .int x1]) (rest := []) rfl lm_10_349 m_202 kd_202 rfl (Nat.le_of_ble_eq_true rfl) p0),
   (fun d l0 l1 l2 l3 x0 h Q => zr_iconst rfl (by decide)),
   (fun d l0 l1 l2 l3 x1 x0 h Q => zr_imul rfl),
   (fun d l0 l1 l2 l3 x0 h Q => zr_iret rfl rfl),
   (fun d l0 l1 l2 l3  h Q => zr_iload_n rfl rfl),
   (fun d l0 l1 l2 l3 x0 h Q => zr_iconst rfl (by decide)),
   (fun d l0 l1 l2 l3 x1 x0 h Q => zr_ic_eq rfl (by decide)),
   (fun d l0 l1 l2 l3  h Q => zr_iload_n rfl rfl),
   (fun d l0 l1 l2 l3 x0 h Q => zr_bipush rfl (by decide)),
   (fun d l0 l1 l2 l3 x1 x0 h Q => zr_ic_ne rfl (by decide)),
   (fun d l0 l1 l2 l3  h Q => zr_aload_n rfl rfl),
   (fun d l0 l1 l2 l3 x0 h Q => zr_bipush rfl (by decide)),
   (fun d l0 l1 l2 l3 x1 x0 I L P Q p0 => zr_vir (as := [.int x1]) (rest := []) rfl lm_10_334 m_199 kd_199 rfl (Nat.le_of_ble_eq_true rfl) p0),
   (fun d l0 l1 l2 l3  h Q => zr_aload_n rfl rfl),
   (fun d l0 l1 l2 l3 x0 h Q => zr_iconst rfl (by decide)),
   (fun d l0 l1 l2 l3 x1 x0 h Q => zr_iload_n rfl rfl),
   (fun d l0 l1 l2 l3 x2 x1 x0 I L P Q p0 => zr_vir (as := [.int x2, .int x1]) (rest := []) rfl lm_10_349 m_202 kd_202 rfl (Nat.le_of_ble_eq_true rfl) p0),
   (fun d l0 l1 l2 l3 x0 h Q => zr_istore_n (n := 3) rfl (Nat.le_of_ble_eq_true rfl) rfl),
   (fun d l0 l1 l2 l3  h Q => zr_iload_n rfl rfl),
   (fun d l0 l1 l2 l3 x0 h Q => zr_aload_n rfl rfl),
   (fun d l0 l1 l2 l3 x1 x0 h Q => zr_aload_n rfl rfl),
   (fun d l0 l1 l2 l3 x2 x1 x0 I L P Q p0 => zr_getI rfl lf_10_346 (fun _ _ _ => rfl) p0),
   (fun d l0 l1 l2 l3 x2 x1 x0 h Q => zr_iconst rfl (by decide)),
   (fun d l0 l1 l2 l3 x3 x2 x1 x0 I L P Q p0 => zr_vir (as := [.int x3, .int x2]) (rest := [.int x0]) rfl lm_10_337 m_200 kd_200 rfl (Nat.le_of_ble_eq_true rfl) p0),
   (fun d l0 l1 l2 l3 x1 x0 h Q => zr_isub rfl),
   (fun d l0 l1 l2 l3 x0 h Q => zr_iret rfl rfl),
   (fun d l0 l1 l2 l3  h Q => zr_aload_n rfl rfl),
   (fun d l0 l1 l2 l3 x0 h Q => zr_bipush rfl (by decide)),
   (fun d l0 l1 l2 l3 x1 x0 I L P Q p0 => zr_vir (as := [.int x1]) (rest := []) rfl lm_10_334 m_199 kd_199 rfl (Nat.le_of_ble_eq_true rfl) p0),
   (fun d l0 l1 l2 l3  h Q => zr_iload_n rfl rfl),
   (fun d l0 l1 l2 l3 x0 h Q => zr_aload_n rfl rfl),
   (fun d l0 l1 l2 l3 x1 x0 I L P Q p0 => zr_getI rfl lf_10_340 (fun _ _ _ => rfl) p0),
   (fun d l0 l1 l2 l3 x1 x0 h Q => zr_ixor rfl),
   (fun d l0 l1 l2 l3 x0 h Q => zr_iret rfl rfl)⟩
theorem E_X10_tellsAs : ∀ (d : Nat) (a0 : Nat) (a1 : Int32) (a2 : Int32) (h : zMm) (Q : Option Value → zMm → Prop), zWM (d + 1) 203 [.ref a0, .int a1, .int a2] h Q = zWp d zi_203 none 0 [.ref a0, .int a1, .int a2, .retAddr 0] [] h Q := fun d a0 a1 a2 h Q => zW_M m_203 (Nat.le_of_ble_eq_true rfl) rfl
set_option maxRecDepth 100000 in
theorem R_X10_tellsAs :
    (∀ (d : Nat) (l0 : Value) (l1 : Int32) (l2 : Value) (l3 : Value)  (h : zMm) (Q : Option Value → zMm → Prop), zWp d zi_203 none 0 [l0, .int l1, l2, l3] [] h Q = zWp d zi_203 none 1 [l0, .int l1, l2, l3] [.int l1] h Q) ∧
    (∀ (d : Nat) (l0 : Value) (l1 : Value) (l2 : Value) (l3 : Value) (x0 : Int32) (h : zMm) (Q : Option Value → zMm → Prop), zWp d zi_203 none 1 [l0, l1, l2, l3] [.int x0] h Q = zWp d zi_203 none 2 [l0, l1, l2, l3] [.int 5, .int x0] h Q) ∧
    (∀ (d : Nat) (l0 : Value) (l1 : Value) (l2 : Value) (l3 : Value) (x1 : Int32) (x0 : Int32) (h : zMm) (Q : Option Value → zMm → Prop), zWp d zi_203 none 2 [l0, l1, l2, l3] [.int x1, .int x0] h Q = if x0 = x1 then zWp d zi_203 none 5 [l0, l1, l2, l3] [] h Q else zWp d zi_203 none 20 [l0, l1, l2, l3] [] h Q) ∧
    (∀ (d : Nat) (l0 : Nat) (l1 : Value) (l2 : Value) (l3 : Value)  (h : zMm) (Q : Option Value → zMm → Prop), zWp d zi_203 none 5 [.ref l0, l1, l2, l3] [] h Q = zWp d zi_203 none 6 [.ref l0, l1, l2, l3] [.ref l0] h Q) ∧
    (∀ (d : Nat) (l0 : Value) (l1 : Value) (l2 : Value) (l3 : Value) (x0 : Nat) (h : zMm) (Q : Option Value → zMm → Prop), zWp d zi_203 none 6 [l0, l1, l2, l3] [.ref x0] h Q = zWp d zi_203 none 8 [l0, l1, l2, l3] [.int 60, .ref x0] h Q) ∧
    (∀ (d : Nat) (l0 : Value) (l1 : Value) (l2 : Value) (l3 : Value) (x1 : Int32) (x0 : Nat) (I : Nat → Nat → Int32) (L : Nat → Nat → Int64) (P : Nat → Nat → Option Nat) (Q : Option Value → zMm → Prop), zSH[x0]? = some (.inl 10) → zWp d zi_203 none 8 [l0, l1, l2, l3] [.int x1, .ref x0] (zSH, I, L, P) Q = zWM d 199 [.ref x0, .int x1] (zSH, I, L, P) (fun r h1 => zWp d zi_203 none 11 [l0, l1, l2, l3] (r.toList ++ []) h1 Q)) ∧
    (∀ (d : Nat) (l0 : Nat) (l1 : Value) (l2 : Value) (l3 : Value)  (h : zMm) (Q : Option Value → zMm → Prop), zWp d zi_203 none 11 [.ref l0, l1, l2, l3] [] h Q = zWp d zi_203 none 12 [.ref l0, l1, l2, l3] [.ref l0] h Q) ∧
    (∀ (d : Nat) (l0 : Value) (l1 : Value) (l2 : Value) (l3 : Value) (x0 : Nat) (h : zMm) (Q : Option Value → zMm → Prop), zWp d zi_203 none 12 [l0, l1, l2, l3] [.ref x0] h Q = zWp d zi_203 none 13 [l0, l1, l2, l3] [.int 3, .ref x0] h Q) ∧
    (∀ (d : Nat) (l0 : Value) (l1 : Value) (l2 : Int32) (l3 : Value) (x1 : Int32) (x0 : Nat) (h : zMm) (Q : Option Value → zMm → Prop), zWp d zi_203 none 13 [l0, l1, .int l2, l3] [.int x1, .ref x0] h Q = zWp d zi_203 none 14 [l0, l1, .int l2, l3] [.int l2, .int x1, .ref x0] h Q) ∧
    (∀ (d : Nat) (l0 : Value) (l1 : Value) (l2 : Value) (l3 : Value) (x2 : Int32) (x1 : Int32) (x0 : Nat) (I : Nat → Nat → Int32) (L : Nat → Nat → Int64) (P : Nat → Nat → Option Nat) (Q : Option Value → zMm → Prop), zSH[x0]? = some (.inl 10) → zWp d zi_203 none 14 [l0, l1, l2, l3] [.int x2, .int x1, .ref x0] (zSH, I, L, P) Q = zWM d 203 [.ref x0, .int x1, .int x2] (zSH, I, L, P) (fun r h1 => zWp d zi_203 none 17 [l0, l1, l2, l3] (r.toList ++ []) h1 Q)) ∧
    (∀ (d : Nat) (l0 : Value) (l1 : Value) (l2 : Value) (l3 : Value) (x0 : Int32) (h : zMm) (Q : Option Value → zMm → Prop), zWp d zi_203 none 17 [l0, l1, l2, l3] [.int x0] h Q = zWp d zi_203 none 18 [l0, l1, l2, l3] [.int 5, .int x0] h Q) ∧
    (∀ (d : Nat) (l0 : Value) (l1 : Value) (l2 : Value) (l3 : Value) (x1 : Int32) (x0 : Int32) (h : zMm) (Q : Option Value → zMm → Prop), zWp d zi_203 none 18 [l0, l1, l2, l3] [.int x1, .int x0] h Q = zWp d zi_203 none 19 [l0, l1, l2, l3] [.int (x0 ^^^ x1)] h Q) ∧
    (∀ (d : Nat) (l0 : Value) (l1 : Value) (l2 : Value) (l3 : Value) (x0 : Int32) (h : zMm) (Q : Option Value → zMm → Prop), zWp d zi_203 none 19 [l0, l1, l2, l3] [.int x0] h Q = Q (some (.int x0)) h) ∧
    (∀ (d : Nat) (l0 : Value) (l1 : Int32) (l2 : Value) (l3 : Value)  (h : zMm) (Q : Option Value → zMm → Prop), zWp d zi_203 none 20 [l0, .int l1, l2, l3] [] h Q = zWp d zi_203 none 21 [l0, .int l1, l2, l3] [.int l1] h Q) ∧
    (∀ (d : Nat) (l0 : Value) (l1 : Value) (l2 : Value) (l3 : Value) (x0 : Int32) (h : zMm) (Q : Option Value → zMm → Prop), zWp d zi_203 none 21 [l0, l1, l2, l3] [.int x0] h Q = zWp d zi_203 none 23 [l0, l1, l2, l3] [.int 7, .int x0] h Q) ∧
    (∀ (d : Nat) (l0 : Value) (l1 : Value) (l2 : Value) (l3 : Value) (x1 : Int32) (x0 : Int32) (h : zMm) (Q : Option Value → zMm → Prop), zWp d zi_203 none 23 [l0, l1, l2, l3] [.int x1, .int x0] h Q = if x0 = x1 then zWp d zi_203 none 26 [l0, l1, l2, l3] [] h Q else zWp d zi_203 none 41 [l0, l1, l2, l3] [] h Q) ∧
    (∀ (d : Nat) (l0 : Nat) (l1 : Value) (l2 : Value) (l3 : Value)  (h : zMm) (Q : Option Value → zMm → Prop), zWp d zi_203 none 26 [.ref l0, l1, l2, l3] [] h Q = zWp d zi_203 none 27 [.ref l0, l1, l2, l3] [.ref l0] h Q) ∧
    (∀ (d : Nat) (l0 : Value) (l1 : Value) (l2 : Value) (l3 : Value) (x0 : Nat) (h : zMm) (Q : Option Value → zMm → Prop), zWp d zi_203 none 27 [l0, l1, l2, l3] [.ref x0] h Q = zWp d zi_203 none 29 [l0, l1, l2, l3] [.int 81, .ref x0] h Q) ∧
    (∀ (d : Nat) (l0 : Value) (l1 : Value) (l2 : Value) (l3 : Value) (x1 : Int32) (x0 : Nat) (I : Nat → Nat → Int32) (L : Nat → Nat → Int64) (P : Nat → Nat → Option Nat) (Q : Option Value → zMm → Prop), zSH[x0]? = some (.inl 10) → zWp d zi_203 none 29 [l0, l1, l2, l3] [.int x1, .ref x0] (zSH, I, L, P) Q = zWM d 199 [.ref x0, .int x1] (zSH, I, L, P) (fun r h1 => zWp d zi_203 none 32 [l0, l1, l2, l3] (r.toList ++ []) h1 Q)) ∧
    (∀ (d : Nat) (l0 : Nat) (l1 : Value) (l2 : Value) (l3 : Value)  (h : zMm) (Q : Option Value → zMm → Prop), zWp d zi_203 none 32 [.ref l0, l1, l2, l3] [] h Q = zWp d zi_203 none 33 [.ref l0, l1, l2, l3] [.ref l0] h Q) ∧
    (∀ (d : Nat) (l0 : Value) (l1 : Value) (l2 : Value) (l3 : Value) (x0 : Nat) (h : zMm) (Q : Option Value → zMm → Prop), zWp d zi_203 none 33 [l0, l1, l2, l3] [.ref x0] h Q = zWp d zi_203 none 34 [l0, l1, l2, l3] [.int 4, .ref x0] h Q) ∧
    (∀ (d : Nat) (l0 : Value) (l1 : Value) (l2 : Int32) (l3 : Value) (x1 : Int32) (x0 : Nat) (h : zMm) (Q : Option Value → zMm → Prop), zWp d zi_203 none 34 [l0, l1, .int l2, l3] [.int x1, .ref x0] h Q = zWp d zi_203 none 35 [l0, l1, .int l2, l3] [.int l2, .int x1, .ref x0] h Q) ∧
    (∀ (d : Nat) (l0 : Value) (l1 : Value) (l2 : Value) (l3 : Value) (x2 : Int32) (x1 : Int32) (x0 : Nat) (I : Nat → Nat → Int32) (L : Nat → Nat → Int64) (P : Nat → Nat → Option Nat) (Q : Option Value → zMm → Prop), zSH[x0]? = some (.inl 10) → zWp d zi_203 none 35 [l0, l1, l2, l3] [.int x2, .int x1, .ref x0] (zSH, I, L, P) Q = zWM d 203 [.ref x0, .int x1, .int x2] (zSH, I, L, P) (fun r h1 => zWp d zi_203 none 38 [l0, l1, l2, l3] (r.toList ++ []) h1 Q)) ∧
    (∀ (d : Nat) (l0 : Value) (l1 : Value) (l2 : Value) (l3 : Value) (x0 : Int32) (h : zMm) (Q : Option Value → zMm → Prop), zWp d zi_203 none 38 [l0, l1, l2, l3] [.int x0] h Q = zWp d zi_203 none 39 [l0, l1, l2, l3] [.int 1, .int x0] h Q) ∧
    (∀ (d : Nat) (l0 : Value) (l1 : Value) (l2 : Value) (l3 : Value) (x1 : Int32) (x0 : Int32) (h : zMm) (Q : Option Value → zMm → Prop), zWp d zi_203 none 39 [l0, l1, l2, l3] [.int x1, .int x0] h Q = zWp d zi_203 none 40 [l0, l1, l2, l3] [.int (x0 - x1)] h Q) ∧
    (∀ (d : Nat) (l0 : Value) (l1 : Value) (l2 : Value) (l3 : Value) (x0 : Int32) (h : zMm) (Q : Option Value → zMm → Prop), zWp d zi_203 none 40 [l0, l1, l2, l3] [.int x0] h Q = Q (some (.int x0)) h) ∧
    (∀ (d : Nat) (l0 : Nat) (l1 : Value) (l2 : Value) (l3 : Value)  (h : zMm) (Q : Option Value → zMm → Prop), zWp d zi_203 none 41 [.ref l0, l1, l2, l3] [] h Q = zWp d zi_203 none 42 [.ref l0, l1, l2, l3] [.ref l0] h Q) ∧
    (∀ (d : Nat) (l0 : Value) (l1 : Value) (l2 : Value) (l3 : Value) (x0 : Nat) (h : zMm) (Q : Option Value → zMm → Prop), zWp d zi_203 none 42 [l0, l1, l2, l3] [.ref x0] h Q = zWp d zi_203 none 43 [l0, l1, l2, l3] [.int 2, .ref x0] h Q) ∧
    (∀ (d : Nat) (l0 : Value) (l1 : Value) (l2 : Value) (l3 : Value) (x1 : Int32) (x0 : Nat) (I : Nat → Nat → Int32) (L : Nat → Nat → Int64) (P : Nat → Nat → Option Nat) (Q : Option Value → zMm → Prop), zSH[x0]? = some (.inl 10) → zWp d zi_203 none 43 [l0, l1, l2, l3] [.int x1, .ref x0] (zSH, I, L, P) Q = zWM d 199 [.ref x0, .int x1] (zSH, I, L, P) (fun r h1 => zWp d zi_203 none 46 [l0, l1, l2, l3] (r.toList ++ []) h1 Q)) ∧
    (∀ (d : Nat) (l0 : Nat) (l1 : Value) (l2 : Value) (l3 : Value)  (h : zMm) (Q : Option Value → zMm → Prop), zWp d zi_203 none 46 [.ref l0, l1, l2, l3] [] h Q = zWp d zi_203 none 47 [.ref l0, l1, l2, l3] [.ref l0] h Q) ∧
    (∀ (d : Nat) (l0 : Nat) (l1 : Value) (l2 : Value) (l3 : Value) (x0 : Nat) (h : zMm) (Q : Option Value → zMm → Prop), zWp d zi_203 none 47 [.ref l0, l1, l2, l3] [.ref x0] h Q = zWp d zi_203 none 48 [.ref l0, l1, l2, l3] [.ref l0, .ref x0] h Q) ∧
    (∀ (d : Nat) (l0 : Value) (l1 : Value) (l2 : Value) (l3 : Value) (x1 : Nat) (x0 : Nat) (I : Nat → Nat → Int32) (L : Nat → Nat → Int64) (P : Nat → Nat → Option Nat) (Q : Option Value → zMm → Prop), zSH[x1]? = some (.inl 10) → zWp d zi_203 none 48 [l0, l1, l2, l3] [.ref x1, .ref x0] (zSH, I, L, P) Q = zWp d zi_203 none 51 [l0, l1, l2, l3] [.int (I x1 44), .ref x0] (zSH, I, L, P) Q) ∧
    (∀ (d : Nat) (l0 : Value) (l1 : Value) (l2 : Int32) (l3 : Value) (x1 : Int32) (x0 : Nat) (h : zMm) (Q : Option Value → zMm → Prop), zWp d zi_203 none 51 [l0, l1, .int l2, l3] [.int x1, .ref x0] h Q = zWp d zi_203 none 52 [l0, l1, .int l2, l3] [.int l2, .int x1, .ref x0] h Q) ∧
    (∀ (d : Nat) (l0 : Value) (l1 : Value) (l2 : Value) (l3 : Value) (x2 : Int32) (x1 : Int32) (x0 : Nat) (I : Nat → Nat → Int32) (L : Nat → Nat → Int64) (P : Nat → Nat → Option Nat) (Q : Option Value → zMm → Prop), zSH[x0]? = some (.inl 10) → zWp d zi_203 none 52 [l0, l1, l2, l3] [.int x2, .int x1, .ref x0] (zSH, I, L, P) Q = zWM d 201 [.ref x0, .int x1, .int x2] (zSH, I, L, P) (fun r h1 => zWp d zi_203 none 55 [l0, l1, l2, l3] (r.toList ++ []) h1 Q)) ∧
    (∀ (d : Nat) (l0 : Value) (l1 : Value) (l2 : Int32) (l3 : Value) (x0 : Int32) (h : zMm) (Q : Option Value → zMm → Prop), zWp d zi_203 none 55 [l0, l1, .int l2, l3] [.int x0] h Q = zWp d zi_203 none 56 [l0, l1, .int l2, .int x0] [] h Q) ∧
    (∀ (d : Nat) (l0 : Value) (l1 : Value) (l2 : Value) (l3 : Int32)  (h : zMm) (Q : Option Value → zMm → Prop), zWp d zi_203 none 56 [l0, l1, l2, .int l3] [] h Q = zWp d zi_203 none 57 [l0, l1, l2, .int l3] [.int l3] h Q) ∧
    (∀ (d : Nat) (l0 : Nat) (l1 : Value) (l2 : Value) (l3 : Value) (x0 : Int32) (h : zMm) (Q : Option Value → zMm → Prop), zWp d zi_203 none 57 [.ref l0, l1, l2, l3] [.int x0] h Q = zWp d zi_203 none 58 [.ref l0, l1, l2, l3] [.ref l0, .int x0] h Q) ∧
    (∀ (d : Nat) (l0 : Nat) (l1 : Value) (l2 : Value) (l3 : Value) (x1 : Nat) (x0 : Int32) (h : zMm) (Q : Option Value → zMm → Prop), zWp d zi_203 none 58 [.ref l0, l1, l2, l3] [.ref x1, .int x0] h Q = zWp d zi_203 none 59 [.ref l0, l1, l2, l3] [.ref l0, .ref x1, .int x0] h Q) ∧
    (∀ (d : Nat) (l0 : Value) (l1 : Value) (l2 : Value) (l3 : Value) (x2 : Nat) (x1 : Nat) (x0 : Int32) (I : Nat → Nat → Int32) (L : Nat → Nat → Int64) (P : Nat → Nat → Option Nat) (Q : Option Value → zMm → Prop), zSH[x2]? = some (.inl 10) → zWp d zi_203 none 59 [l0, l1, l2, l3] [.ref x2, .ref x1, .int x0] (zSH, I, L, P) Q = zWp d zi_203 none 62 [l0, l1, l2, l3] [.int (I x2 44), .ref x1, .int x0] (zSH, I, L, P) Q) ∧
    (∀ (d : Nat) (l0 : Value) (l1 : Value) (l2 : Value) (l3 : Value) (x2 : Int32) (x1 : Nat) (x0 : Int32) (h : zMm) (Q : Option Value → zMm → Prop), zWp d zi_203 none 62 [l0, l1, l2, l3] [.int x2, .ref x1, .int x0] h Q = zWp d zi_203 none 63 [l0, l1, l2, l3] [.int 1, .int x2, .ref x1, .int x0] h Q) ∧
    (∀ (d : Nat) (l0 : Value) (l1 : Value) (l2 : Value) (l3 : Value) (x3 : Int32) (x2 : Int32) (x1 : Nat) (x0 : Int32) (I : Nat → Nat → Int32) (L : Nat → Nat → Int64) (P : Nat → Nat → Option Nat) (Q : Option Value → zMm → Prop), zSH[x1]? = some (.inl 10) → zWp d zi_203 none 63 [l0, l1, l2, l3] [.int x3, .int x2, .ref x1, .int x0] (zSH, I, L, P) Q = zWM d 202 [.ref x1, .int x2, .int x3] (zSH, I, L, P) (fun r h1 => zWp d zi_203 none 66 [l0, l1, l2, l3] (r.toList ++ [.int x0]) h1 Q)) ∧
    (∀ (d : Nat) (l0 : Value) (l1 : Value) (l2 : Value) (l3 : Value) (x1 : Int32) (x0 : Int32) (h : zMm) (Q : Option Value → zMm → Prop), zWp d zi_203 none 66 [l0, l1, l2, l3] [.int x1, .int x0] h Q = zWp d zi_203 none 67 [l0, l1, l2, l3] [.int (x0 - x1)] h Q) ∧
    (∀ (d : Nat) (l0 : Value) (l1 : Value) (l2 : Value) (l3 : Value) (x0 : Int32) (h : zMm) (Q : Option Value → zMm → Prop), zWp d zi_203 none 67 [l0, l1, l2, l3] [.int x0] h Q = Q (some (.int x0)) h) :=
  ⟨(fun d l0 l1 l2 l3  h Q => zr_iload_n rfl rfl),
   (fun d l0 l1 l2 l3 x0 h Q => zr_iconst rfl (by decide)),
   (fun d l0 l1 l2 l3 x1 x0 h Q => zr_ic_ne rfl (by decide)),
   (fun d l0 l1 l2 l3  h Q => zr_aload_n rfl rfl),
   (fun d l0 l1 l2 l3 x0 h Q => zr_bipush rfl (by decide)),
   (fun d l0 l1 l2 l3 x1 x0 I L P Q p0 => zr_vir (as := [.int x1]) (rest := []) rfl lm_10_334 m_199 kd_199 rfl (Nat.le_of_ble_eq_true rfl) p0),
   (fun d l0 l1 l2 l3  h Q => zr_aload_n rfl rfl),
   (fun d l0 l1 l2 l3 x0 h Q => zr_iconst rfl (by decide)),
   (fun d l0 l1 l2 l3 x1 x0 h Q => zr_iload_n rfl rfl),
   (fun d l0 l1 l2 l3 x2 x1 x0 I L P Q p0 => zr_vir (as := [.int x2, .int x1]) (rest := []) rfl lm_10_352 m_203 kd_203 rfl (Nat.le_of_ble_eq_true rfl) p0),
   (fun d l0 l1 l2 l3 x0 h Q => zr_iconst rfl (by decide)),
   (fun d l0 l1 l2 l3 x1 x0 h Q => zr_ixor rfl),
   (fun d l0 l1 l2 l3 x0 h Q => zr_iret rfl rfl),
   (fun d l0 l1 l2 l3  h Q => zr_iload_n rfl rfl),
   (fun d l0 l1 l2 l3 x0 h Q => zr_bipush rfl (by decide)),
   (fun d l0 l1 l2 l3 x1 x0 h Q => zr_ic_ne rfl (by decide)),
   (fun d l0 l1 l2 l3  h Q => zr_aload_n rfl rfl),
   (fun d l0 l1 l2 l3 x0 h Q => zr_bipush rfl (by decide)),
   (fun d l0 l1 l2 l3 x1 x0 I L P Q p0 => zr_vir (as := [.int x1]) (rest := []) rfl lm_10_334 m_199 kd_199 rfl (Nat.le_of_ble_eq_true rfl) p0),
   (fun d l0 l1 l2 l3  h Q => zr_aload_n rfl rfl),
   (fun d l0 l1 l2 l3 x0 h Q => zr_iconst rfl (by decide)),
   (fun d l0 l1 l2 l3 x1 x0 h Q => zr_iload_n rfl rfl),
   (fun d l0 l1 l2 l3 x2 x1 x0 I L P Q p0 => zr_vir (as := [.int x2, .int x1]) (rest := []) rfl lm_10_352 m_203 kd_203 rfl (Nat.le_of_ble_eq_true rfl) p0),
   (fun d l0 l1 l2 l3 x0 h Q => zr_iconst rfl (by decide)),
   (fun d l0 l1 l2 l3 x1 x0 h Q => zr_isub rfl),
   (fun d l0 l1 l2 l3 x0 h Q => zr_iret rfl rfl),
   (fun d l0 l1 l2 l3  h Q => zr_aload_n rfl rfl),
   (fun d l0 l1 l2 l3 x0 h Q => zr_iconst rfl (by decide)),
   (fun d l0 l1 l2 l3 x1 x0 I L P Q p0 => zr_vir (as := [.int x1]) (rest := []) rfl lm_10_334 m_199 kd_199 rfl (Nat.le_of_ble_eq_true rfl) p0),
   (fun d l0 l1 l2 l3  h Q => zr_aload_n rfl rfl),
   (fun d l0 l1 l2 l3 x0 h Q => zr_aload_n rfl rfl),
   (fun d l0 l1 l2 l3 x1 x0 I L P Q p0 => zr_getI rfl lf_10_346 (fun _ _ _ => rfl) p0),
   (fun d l0 l1 l2 l3 x1 x0 h Q => zr_iload_n rfl rfl),
   (fun d l0 l1 l2 l3 x2 x1 x0 I L P Q p0 => zr_vir (as := [.int x2, .int x1]) (rest := []) rfl lm_10_343 m_201 kd_201 rfl (Nat.le_of_ble_eq_true rfl) p0),
   (fun d l0 l1 l2 l3 x0 h Q => zr_istore_n (n := 3) rfl (Nat.le_of_ble_eq_true rfl) rfl),
   (fun d l0 l1 l2 l3  h Q => zr_iload_n rfl rfl),
   (fun d l0 l1 l2 l3 x0 h Q => zr_aload_n rfl rfl),
   (fun d l0 l1 l2 l3 x1 x0 h Q => zr_aload_n rfl rfl),
   (fun d l0 l1 l2 l3 x2 x1 x0 I L P Q p0 => zr_getI rfl lf_10_346 (fun _ _ _ => rfl) p0),
   (fun d l0 l1 l2 l3 x2 x1 x0 h Q => zr_iconst rfl (by decide)),
   (fun d l0 l1 l2 l3 x3 x2 x1 x0 I L P Q p0 => zr_vir (as := [.int x3, .int x2]) (rest := [.int x0]) rfl lm_10_349 m_202 kd_202 rfl (Nat.le_of_ble_eq_true rfl) p0),
   (fun d l0 l1 l2 l3 x1 x0 h Q => zr_isub rfl),
   (fun d l0 l1 l2 l3 x0 h Q => zr_iret rfl rfl)⟩
theorem E_X10_act : ∀ (d : Nat) (a0 : Nat) (a1 : Int32) (a2 : Int32) (a3 : Int32) (h : zMm) (Q : Option Value → zMm → Prop), zWM (d + 1) 204 [.ref a0, .int a1, .int a2, .int a3] h Q = zWp d zi_204 none 0 [.ref a0, .int a1, .int a2, .int a3] [] h Q := fun d a0 a1 a2 a3 h Q => zW_M m_204 (Nat.le_of_ble_eq_true rfl) rfl
set_option maxRecDepth 100000 in
theorem R_X10_act :
    (∀ (d : Nat) (l0 : Nat) (l1 : Value) (l2 : Value) (l3 : Value)  (h : zMm) (Q : Option Value → zMm → Prop), zWp d zi_204 none 0 [.ref l0, l1, l2, l3] [] h Q = zWp d zi_204 none 1 [.ref l0, l1, l2, l3] [.ref l0] h Q) ∧
    (∀ (d : Nat) (l0 : Value) (l1 : Value) (l2 : Value) (l3 : Value) (x0 : Nat) (h : zMm) (Q : Option Value → zMm → Prop), zWp d zi_204 none 1 [l0, l1, l2, l3] [.ref x0] h Q = zWp d zi_204 none 2 [l0, l1, l2, l3] [.int 0, .ref x0] h Q) ∧
    (∀ (d : Nat) (l0 : Value) (l1 : Value) (l2 : Value) (l3 : Value) (x1 : Int32) (x0 : Nat) (I : Nat → Nat → Int32) (L : Nat → Nat → Int64) (P : Nat → Nat → Option Nat) (Q : Option Value → zMm → Prop), zSH[x0]? = some (.inl 10) → zWp d zi_204 none 2 [l0, l1, l2, l3] [.int x1, .ref x0] (zSH, I, L, P) Q = zWp d zi_204 none 5 [l0, l1, l2, l3] [] (zSH, zw I x0 (upd (I x0) 43 x1), L, P) Q) ∧
    (∀ (d : Nat) (l0 : Nat) (l1 : Value) (l2 : Value) (l3 : Value)  (h : zMm) (Q : Option Value → zMm → Prop), zWp d zi_204 none 5 [.ref l0, l1, l2, l3] [] h Q = zWp d zi_204 none 6 [.ref l0, l1, l2, l3] [.ref l0] h Q) ∧
    (∀ (d : Nat) (l0 : Value) (l1 : Int32) (l2 : Value) (l3 : Value) (x0 : Nat) (h : zMm) (Q : Option Value → zMm → Prop), zWp d zi_204 none 6 [l0, .int l1, l2, l3] [.ref x0] h Q = zWp d zi_204 none 7 [l0, .int l1, l2, l3] [.int l1, .ref x0] h Q) ∧
    (∀ (d : Nat) (l0 : Value) (l1 : Value) (l2 : Value) (l3 : Value) (x1 : Int32) (x0 : Nat) (I : Nat → Nat → Int32) (L : Nat → Nat → Int64) (P : Nat → Nat → Option Nat) (Q : Option Value → zMm → Prop), zSH[x0]? = some (.inl 10) → zWp d zi_204 none 7 [l0, l1, l2, l3] [.int x1, .ref x0] (zSH, I, L, P) Q = zWM d 195 [.ref x0, .int x1] (zSH, I, L, P) (fun r h1 => zWp d zi_204 none 10 [l0, l1, l2, l3] (r.toList ++ []) h1 Q)) ∧
    (∀ (d : Nat) (l0 : Value) (l1 : Value) (l2 : Value) (l3 : Value) (x0 : Int32) (h : zMm) (Q : Option Value → zMm → Prop), zWp d zi_204 none 10 [l0, l1, l2, l3] [.int x0] h Q = if x0 = 0 then zWp d zi_204 none 13 [l0, l1, l2, l3] [] h Q else zWp d zi_204 none 15 [l0, l1, l2, l3] [] h Q) ∧
    (∀ (d : Nat) (l0 : Value) (l1 : Value) (l2 : Value) (l3 : Value)  (h : zMm) (Q : Option Value → zMm → Prop), zWp d zi_204 none 13 [l0, l1, l2, l3] [] h Q = zWp d zi_204 none 14 [l0, l1, l2, l3] [.int 0] h Q) ∧
    (∀ (d : Nat) (l0 : Value) (l1 : Value) (l2 : Value) (l3 : Value) (x0 : Int32) (h : zMm) (Q : Option Value → zMm → Prop), zWp d zi_204 none 14 [l0, l1, l2, l3] [.int x0] h Q = Q (some (.int x0)) h) ∧
    (∀ (d : Nat) (l0 : Nat) (l1 : Value) (l2 : Value) (l3 : Value)  (h : zMm) (Q : Option Value → zMm → Prop), zWp d zi_204 none 15 [.ref l0, l1, l2, l3] [] h Q = zWp d zi_204 none 16 [.ref l0, l1, l2, l3] [.ref l0] h Q) ∧
    (∀ (d : Nat) (l0 : Nat) (l1 : Value) (l2 : Value) (l3 : Value) (x0 : Nat) (h : zMm) (Q : Option Value → zMm → Prop), zWp d zi_204 none 16 [.ref l0, l1, l2, l3] [.ref x0] h Q = zWp d zi_204 none 17 [.ref l0, l1, l2, l3] [.ref l0, .ref x0] h Q) ∧
    (∀ (d : Nat) (l0 : Value) (l1 : Value) (l2 : Value) (l3 : Value) (x1 : Nat) (x0 : Nat) (I : Nat → Nat → Int32) (L : Nat → Nat → Int64) (P : Nat → Nat → Option Nat) (Q : Option Value → zMm → Prop), zSH[x1]? = some (.inl 10) → zWp d zi_204 none 17 [l0, l1, l2, l3] [.ref x1, .ref x0] (zSH, I, L, P) Q = zWp d zi_204 none 20 [l0, l1, l2, l3] [va_rf (P x1 41), .ref x0] (zSH, I, L, P) Q) ∧
    (∀ (d : Nat) (l0 : Value) (l1 : Int32) (l2 : Value) (l3 : Value) (x1 : Nat) (x0 : Nat) (h : zMm) (Q : Option Value → zMm → Prop), zWp d zi_204 none 20 [l0, .int l1, l2, l3] [.ref x1, .ref x0] h Q = zWp d zi_204 none 21 [l0, .int l1, l2, l3] [.int l1, .ref x1, .ref x0] h Q) ∧
    (∀ (d : Nat) (l0 : Value) (l1 : Value) (l2 : Value) (l3 : Value) (x2 : Int32) (x1 : Nat) (x0 : Nat) (I : Nat → Nat → Int32) (L : Nat → Nat → Int64) (P : Nat → Nat → Option Nat) (Q : Option Value → zMm → Prop), zAk zSH x1 = some .int → zWp d zi_204 none 21 [l0, l1, l2, l3] [.int x2, .ref x1, .ref x0] (zSH, I, L, P) Q = (vp_in x2 (zAn zSH x1) ∧ zWp d zi_204 none 22 [l0, l1, l2, l3] [.int (I x1 x2.toNatClampNeg), .ref x0] (zSH, I, L, P) Q)) ∧
    (∀ (d : Nat) (l0 : Value) (l1 : Value) (l2 : Value) (l3 : Value) (x1 : Int32) (x0 : Nat) (I : Nat → Nat → Int32) (L : Nat → Nat → Int64) (P : Nat → Nat → Option Nat) (Q : Option Value → zMm → Prop), zSH[x0]? = some (.inl 10) → zWp d zi_204 none 22 [l0, l1, l2, l3] [.int x1, .ref x0] (zSH, I, L, P) Q = zWp d zi_204 none 25 [l0, l1, l2, l3] [] (zSH, zw I x0 (upd (I x0) 44 x1), L, P) Q) ∧
    (∀ (d : Nat) (l0 : Nat) (l1 : Value) (l2 : Value) (l3 : Value)  (h : zMm) (Q : Option Value → zMm → Prop), zWp d zi_204 none 25 [.ref l0, l1, l2, l3] [] h Q = zWp d zi_204 none 26 [.ref l0, l1, l2, l3] [.ref l0] h Q) ∧
    (∀ (d : Nat) (l0 : Value) (l1 : Int32) (l2 : Value) (l3 : Value) (x0 : Nat) (h : zMm) (Q : Option Value → zMm → Prop), zWp d zi_204 none 26 [l0, .int l1, l2, l3] [.ref x0] h Q = zWp d zi_204 none 27 [l0, .int l1, l2, l3] [.int l1, .ref x0] h Q) ∧
    (∀ (d : Nat) (l0 : Value) (l1 : Value) (l2 : Value) (l3 : Value) (x1 : Int32) (x0 : Nat) (I : Nat → Nat → Int32) (L : Nat → Nat → Int64) (P : Nat → Nat → Option Nat) (Q : Option Value → zMm → Prop), zSH[x0]? = some (.inl 10) → zWp d zi_204 none 27 [l0, l1, l2, l3] [.int x1, .ref x0] (zSH, I, L, P) Q = zWp d zi_204 none 30 [l0, l1, l2, l3] [] (zSH, zw I x0 (upd (I x0) 45 x1), L, P) Q) ∧
    (∀ (d : Nat) (l0 : Value) (l1 : Value) (l2 : Int32) (l3 : Value)  (h : zMm) (Q : Option Value → zMm → Prop), zWp d zi_204 none 30 [l0, l1, .int l2, l3] [] h Q = zWp d zi_204 none 31 [l0, l1, .int l2, l3] [.int l2] h Q) ∧
    (∀ (d : Nat) (l0 : Value) (l1 : Value) (l2 : Value) (l3 : Value) (x0 : Int32) (h : zMm) (Q : Option Value → zMm → Prop), zWp d zi_204 none 31 [l0, l1, l2, l3] [.int x0] h Q = if x0 = 0 then zWp d zi_204 none 60 [l0, l1, l2, l3] [] h Q else if x0 = 1 then zWp d zi_204 none 70 [l0, l1, l2, l3] [] h Q else if x0 = 2 then zWp d zi_204 none 80 [l0, l1, l2, l3] [] h Q else if x0 = 3 then zWp d zi_204 none 90 [l0, l1, l2, l3] [] h Q else zWp d zi_204 none 100 [l0, l1, l2, l3] [] h Q) ∧
    (∀ (d : Nat) (l0 : Nat) (l1 : Value) (l2 : Value) (l3 : Value)  (h : zMm) (Q : Option Value → zMm → Prop), zWp d zi_204 none 60 [.ref l0, l1, l2, l3] [] h Q = zWp d zi_204 none 61 [.ref l0, l1, l2, l3] [.ref l0] h Q) ∧
    (∀ (d : Nat) (l0 : Nat) (l1 : Value) (l2 : Value) (l3 : Value) (x0 : Nat) (h : zMm) (Q : Option Value → zMm → Prop), zWp d zi_204 none 61 [.ref l0, l1, l2, l3] [.ref x0] h Q = zWp d zi_204 none 62 [.ref l0, l1, l2, l3] [.ref l0, .ref x0] h Q) ∧
    (∀ (d : Nat) (l0 : Value) (l1 : Value) (l2 : Value) (l3 : Value) (x1 : Nat) (x0 : Nat) (I : Nat → Nat → Int32) (L : Nat → Nat → Int64) (P : Nat → Nat → Option Nat) (Q : Option Value → zMm → Prop), zSH[x1]? = some (.inl 10) → zWp d zi_204 none 62 [l0, l1, l2, l3] [.ref x1, .ref x0] (zSH, I, L, P) Q = zWp d zi_204 none 65 [l0, l1, l2, l3] [.int (I x1 44), .ref x0] (zSH, I, L, P) Q) ∧
    (∀ (d : Nat) (l0 : Value) (l1 : Value) (l2 : Value) (l3 : Int32) (x1 : Int32) (x0 : Nat) (h : zMm) (Q : Option Value → zMm → Prop), zWp d zi_204 none 65 [l0, l1, l2, .int l3] [.int x1, .ref x0] h Q = zWp d zi_204 none 66 [l0, l1, l2, .int l3] [.int l3, .int x1, .ref x0] h Q) ∧
    (∀ (d : Nat) (l0 : Value) (l1 : Value) (l2 : Value) (l3 : Value) (x2 : Int32) (x1 : Int32) (x0 : Nat) (I : Nat → Nat → Int32) (L : Nat → Nat → Int64) (P : Nat → Nat → Option Nat) (Q : Option Value → zMm → Prop), zSH[x0]? = some (.inl 10) → zWp d zi_204 none 66 [l0, l1, l2, l3] [.int x2, .int x1, .ref x0] (zSH, I, L, P) Q = zWM d 200 [.ref x0, .int x1, .int x2] (zSH, I, L, P) (fun r h1 => zWp d zi_204 none 69 [l0, l1, l2, l3] (r.toList ++ []) h1 Q)) ∧
    (∀ (d : Nat) (l0 : Value) (l1 : Value) (l2 : Value) (l3 : Value) (x0 : Int32) (h : zMm) (Q : Option Value → zMm → Prop), zWp d zi_204 none 69 [l0, l1, l2, l3] [.int x0] h Q = Q (some (.int x0)) h) ∧
    (∀ (d : Nat) (l0 : Nat) (l1 : Value) (l2 : Value) (l3 : Value)  (h : zMm) (Q : Option Value → zMm → Prop), zWp d zi_204 none 70 [.ref l0, l1, l2, l3] [] h Q = zWp d zi_204 none 71 [.ref l0, l1, l2, l3] [.ref l0] h Q) ∧
    (∀ (d : Nat) (l0 : Nat) (l1 : Value) (l2 : Value) (l3 : Value) (x0 : Nat) (h : zMm) (Q : Option Value → zMm → Prop), zWp d zi_204 none 71 [.ref l0, l1, l2, l3] [.ref x0] h Q = zWp d zi_204 none 72 [.ref l0, l1, l2, l3] [.ref l0, .ref x0] h Q) ∧
    (∀ (d : Nat) (l0 : Value) (l1 : Value) (l2 : Value) (l3 : Value) (x1 : Nat) (x0 : Nat) (I : Nat → Nat → Int32) (L : Nat → Nat → Int64) (P : Nat → Nat → Option Nat) (Q : Option Value → zMm → Prop), zSH[x1]? = some (.inl 10) → zWp d zi_204 none 72 [l0, l1, l2, l3] [.ref x1, .ref x0] (zSH, I, L, P) Q = zWp d zi_204 none 75 [l0, l1, l2, l3] [.int (I x1 44), .ref x0] (zSH, I, L, P) Q) ∧
    (∀ (d : Nat) (l0 : Value) (l1 : Value) (l2 : Value) (l3 : Int32) (x1 : Int32) (x0 : Nat) (h : zMm) (Q : Option Value → zMm → Prop), zWp d zi_204 none 75 [l0, l1, l2, .int l3] [.int x1, .ref x0] h Q = zWp d zi_204 none 76 [l0, l1, l2, .int l3] [.int l3, .int x1, .ref x0] h Q) ∧
    (∀ (d : Nat) (l0 : Value) (l1 : Value) (l2 : Value) (l3 : Value) (x2 : Int32) (x1 : Int32) (x0 : Nat) (I : Nat → Nat → Int32) (L : Nat → Nat → Int64) (P : Nat → Nat → Option Nat) (Q : Option Value → zMm → Prop), zSH[x0]? = some (.inl 10) → zWp d zi_204 none 76 [l0, l1, l2, l3] [.int x2, .int x1, .ref x0] (zSH, I, L, P) Q = zWM d 201 [.ref x0, .int x1, .int x2] (zSH, I, L, P) (fun r h1 => zWp d zi_204 none 79 [l0, l1, l2, l3] (r.toList ++ []) h1 Q)) ∧
    (∀ (d : Nat) (l0 : Value) (l1 : Value) (l2 : Value) (l3 : Value) (x0 : Int32) (h : zMm) (Q : Option Value → zMm → Prop), zWp d zi_204 none 79 [l0, l1, l2, l3] [.int x0] h Q = Q (some (.int x0)) h) ∧
    (∀ (d : Nat) (l0 : Nat) (l1 : Value) (l2 : Value) (l3 : Value)  (h : zMm) (Q : Option Value → zMm → Prop), zWp d zi_204 none 80 [.ref l0, l1, l2, l3] [] h Q = zWp d zi_204 none 81 [.ref l0, l1, l2, l3] [.ref l0] h Q) ∧
    (∀ (d : Nat) (l0 : Nat) (l1 : Value) (l2 : Value) (l3 : Value) (x0 : Nat) (h : zMm) (Q : Option Value → zMm → Prop), zWp d zi_204 none 81 [.ref l0, l1, l2, l3] [.ref x0] h Q = zWp d zi_204 none 82 [.ref l0, l1, l2, l3] [.ref l0, .ref x0] h Q) ∧
    (∀ (d : Nat) (l0 : Value) (l1 : Value) (l2 : Value) (l3 : Value) (x1 : Nat) (x0 : Nat) (I : Nat → Nat → Int32) (L : Nat → Nat → Int64) (P : Nat → Nat → Option Nat) (Q : Option Value → zMm → Prop), zSH[x1]? = some (.inl 10) → zWp d zi_204 none 82 [l0, l1, l2, l3] [.ref x1, .ref x0] (zSH, I, L, P) Q = zWp d zi_204 none 85 [l0, l1, l2, l3] [.int (I x1 44), .ref x0] (zSH, I, L, P) Q) ∧
    (∀ (d : Nat) (l0 : Value) (l1 : Value) (l2 : Value) (l3 : Int32) (x1 : Int32) (x0 : Nat) (h : zMm) (Q : Option Value → zMm → Prop), zWp d zi_204 none 85 [l0, l1, l2, .int l3] [.int x1, .ref x0] h Q = zWp d zi_204 none 86 [l0, l1, l2, .int l3] [.int l3, .int x1, .ref x0] h Q) ∧
    (∀ (d : Nat) (l0 : Value) (l1 : Value) (l2 : Value) (l3 : Value) (x2 : Int32) (x1 : Int32) (x0 : Nat) (I : Nat → Nat → Int32) (L : Nat → Nat → Int64) (P : Nat → Nat → Option Nat) (Q : Option Value → zMm → Prop), zSH[x0]? = some (.inl 10) → zWp d zi_204 none 86 [l0, l1, l2, l3] [.int x2, .int x1, .ref x0] (zSH, I, L, P) Q = zWM d 202 [.ref x0, .int x1, .int x2] (zSH, I, L, P) (fun r h1 => zWp d zi_204 none 89 [l0, l1, l2, l3] (r.toList ++ []) h1 Q)) ∧
    (∀ (d : Nat) (l0 : Value) (l1 : Value) (l2 : Value) (l3 : Value) (x0 : Int32) (h : zMm) (Q : Option Value → zMm → Prop), zWp d zi_204 none 89 [l0, l1, l2, l3] [.int x0] h Q = Q (some (.int x0)) h) ∧
    (∀ (d : Nat) (l0 : Nat) (l1 : Value) (l2 : Value) (l3 : Value)  (h : zMm) (Q : Option Value → zMm → Prop), zWp d zi_204 none 90 [.ref l0, l1, l2, l3] [] h Q = zWp d zi_204 none 91 [.ref l0, l1, l2, l3] [.ref l0] h Q) ∧
    (∀ (d : Nat) (l0 : Nat) (l1 : Value) (l2 : Value) (l3 : Value) (x0 : Nat) (h : zMm) (Q : Option Value → zMm → Prop), zWp d zi_204 none 91 [.ref l0, l1, l2, l3] [.ref x0] h Q = zWp d zi_204 none 92 [.ref l0, l1, l2, l3] [.ref l0, .ref x0] h Q) ∧
    (∀ (d : Nat) (l0 : Value) (l1 : Value) (l2 : Value) (l3 : Value) (x1 : Nat) (x0 : Nat) (I : Nat → Nat → Int32) (L : Nat → Nat → Int64) (P : Nat → Nat → Option Nat) (Q : Option Value → zMm → Prop), zSH[x1]? = some (.inl 10) → zWp d zi_204 none 92 [l0, l1, l2, l3] [.ref x1, .ref x0] (zSH, I, L, P) Q = zWp d zi_204 none 95 [l0, l1, l2, l3] [.int (I x1 44), .ref x0] (zSH, I, L, P) Q) ∧
    (∀ (d : Nat) (l0 : Value) (l1 : Value) (l2 : Value) (l3 : Int32) (x1 : Int32) (x0 : Nat) (h : zMm) (Q : Option Value → zMm → Prop), zWp d zi_204 none 95 [l0, l1, l2, .int l3] [.int x1, .ref x0] h Q = zWp d zi_204 none 96 [l0, l1, l2, .int l3] [.int l3, .int x1, .ref x0] h Q) ∧
    (∀ (d : Nat) (l0 : Value) (l1 : Value) (l2 : Value) (l3 : Value) (x2 : Int32) (x1 : Int32) (x0 : Nat) (I : Nat → Nat → Int32) (L : Nat → Nat → Int64) (P : Nat → Nat → Option Nat) (Q : Option Value → zMm → Prop), zSH[x0]? = some (.inl 10) → zWp d zi_204 none 96 [l0, l1, l2, l3] [.int x2, .int x1, .ref x0] (zSH, I, L, P) Q = zWM d 203 [.ref x0, .int x1, .int x2] (zSH, I, L, P) (fun r h1 => zWp d zi_204 none 99 [l0, l1, l2, l3] (r.toList ++ []) h1 Q)) ∧
    (∀ (d : Nat) (l0 : Value) (l1 : Value) (l2 : Value) (l3 : Value) (x0 : Int32) (h : zMm) (Q : Option Value → zMm → Prop), zWp d zi_204 none 99 [l0, l1, l2, l3] [.int x0] h Q = Q (some (.int x0)) h) ∧
    (∀ (d : Nat) (l0 : Value) (l1 : Value) (l2 : Value) (l3 : Value)  (h : zMm) (Q : Option Value → zMm → Prop), zWp d zi_204 none 100 [l0, l1, l2, l3] [] h Q = zWp d zi_204 none 101 [l0, l1, l2, l3] [.int 0] h Q) ∧
    (∀ (d : Nat) (l0 : Value) (l1 : Value) (l2 : Value) (l3 : Value) (x0 : Int32) (h : zMm) (Q : Option Value → zMm → Prop), zWp d zi_204 none 101 [l0, l1, l2, l3] [.int x0] h Q = Q (some (.int x0)) h) :=
  ⟨(fun d l0 l1 l2 l3  h Q => zr_aload_n rfl rfl),
   (fun d l0 l1 l2 l3 x0 h Q => zr_iconst rfl (by decide)),
   (fun d l0 l1 l2 l3 x1 x0 I L P Q p0 => zr_putI rfl lf_10_331 (by decide) rfl p0),
   (fun d l0 l1 l2 l3  h Q => zr_aload_n rfl rfl),
   (fun d l0 l1 l2 l3 x0 h Q => zr_iload_n rfl rfl),
   (fun d l0 l1 l2 l3 x1 x0 I L P Q p0 => zr_vir (as := [.int x1]) (rest := []) rfl lm_10_355 m_195 kd_195 rfl (Nat.le_of_ble_eq_true rfl) p0),
   (fun d l0 l1 l2 l3 x0 h Q => zr_if_ne rfl (by decide)),
   (fun d l0 l1 l2 l3  h Q => zr_iconst rfl (by decide)),
   (fun d l0 l1 l2 l3 x0 h Q => zr_iret rfl rfl),
   (fun d l0 l1 l2 l3  h Q => zr_aload_n rfl rfl),
   (fun d l0 l1 l2 l3 x0 h Q => zr_aload_n rfl rfl),
   (fun d l0 l1 l2 l3 x1 x0 I L P Q p0 => zr_getQ rfl lf_10_61 (fun _ _ _ => rfl) p0),
   (fun d l0 l1 l2 l3 x1 x0 h Q => zr_iload_n rfl rfl),
   (fun d l0 l1 l2 l3 x2 x1 x0 I L P Q p0 => zr_ald rfl p0),
   (fun d l0 l1 l2 l3 x1 x0 I L P Q p0 => zr_putI rfl lf_10_346 (by decide) rfl p0),
   (fun d l0 l1 l2 l3  h Q => zr_aload_n rfl rfl),
   (fun d l0 l1 l2 l3 x0 h Q => zr_iload_n rfl rfl),
   (fun d l0 l1 l2 l3 x1 x0 I L P Q p0 => zr_putI rfl lf_10_340 (by decide) rfl p0),
   (fun d l0 l1 l2 l3  h Q => zr_iload_n rfl rfl),
   (fun d l0 l1 l2 l3 x0 h Q => by
      by_cases e0 : x0 = 0
      · subst e0; rw [if_pos rfl]; exact zr_tabI rfl (by decide) rfl (by decide)
      rw [if_neg e0]
      have n0 : ¬ x0.toInt = 0 := fun z => e0 (Int32.toInt_inj.mp z)
      by_cases e1 : x0 = 1
      · subst e1; rw [if_pos rfl]; exact zr_tabI rfl (by decide) rfl (by decide)
      rw [if_neg e1]
      have n1 : ¬ x0.toInt = 1 := fun z => e1 (Int32.toInt_inj.mp z)
      by_cases e2 : x0 = 2
      · subst e2; rw [if_pos rfl]; exact zr_tabI rfl (by decide) rfl (by decide)
      rw [if_neg e2]
      have n2 : ¬ x0.toInt = 2 := fun z => e2 (Int32.toInt_inj.mp z)
      by_cases e3 : x0 = 3
      · subst e3; rw [if_pos rfl]; exact zr_tabI rfl (by decide) rfl (by decide)
      rw [if_neg e3]
      have n3 : ¬ x0.toInt = 3 := fun z => e3 (Int32.toInt_inj.mp z)
      exact zr_tabD rfl (by omega) (by decide)),
   (fun d l0 l1 l2 l3  h Q => zr_aload_n rfl rfl),
   (fun d l0 l1 l2 l3 x0 h Q => zr_aload_n rfl rfl),
   (fun d l0 l1 l2 l3 x1 x0 I L P Q p0 => zr_getI rfl lf_10_346 (fun _ _ _ => rfl) p0),
   (fun d l0 l1 l2 l3 x1 x0 h Q => zr_iload_n rfl rfl),
   (fun d l0 l1 l2 l3 x2 x1 x0 I L P Q p0 => zr_vir (as := [.int x2, .int x1]) (rest := []) rfl lm_10_337 m_200 kd_200 rfl (Nat.le_of_ble_eq_true rfl) p0),
   (fun d l0 l1 l2 l3 x0 h Q => zr_iret rfl rfl),
   (fun d l0 l1 l2 l3  h Q => zr_aload_n rfl rfl),
   (fun d l0 l1 l2 l3 x0 h Q => zr_aload_n rfl rfl),
   (fun d l0 l1 l2 l3 x1 x0 I L P Q p0 => zr_getI rfl lf_10_346 (fun _ _ _ => rfl) p0),
   (fun d l0 l1 l2 l3 x1 x0 h Q => zr_iload_n rfl rfl),
   (fun d l0 l1 l2 l3 x2 x1 x0 I L P Q p0 => zr_vir (as := [.int x2, .int x1]) (rest := []) rfl lm_10_343 m_201 kd_201 rfl (Nat.le_of_ble_eq_true rfl) p0),
   (fun d l0 l1 l2 l3 x0 h Q => zr_iret rfl rfl),
   (fun d l0 l1 l2 l3  h Q => zr_aload_n rfl rfl),
   (fun d l0 l1 l2 l3 x0 h Q => zr_aload_n rfl rfl),
   (fun d l0 l1 l2 l3 x1 x0 I L P Q p0 => zr_getI rfl lf_10_346 (fun _ _ _ => rfl) p0),
   (fun d l0 l1 l2 l3 x1 x0 h Q => zr_iload_n rfl rfl),
   (fun d l0 l1 l2 l3 x2 x1 x0 I L P Q p0 => zr_vir (as := [.int x2, .int x1]) (rest := []) rfl lm_10_349 m_202 kd_202 rfl (Nat.le_of_ble_eq_true rfl) p0),
   (fun d l0 l1 l2 l3 x0 h Q => zr_iret rfl rfl),
   (fun d l0 l1 l2 l3  h Q => zr_aload_n rfl rfl),
   (fun d l0 l1 l2 l3 x0 h Q => zr_aload_n rfl rfl),
   (fun d l0 l1 l2 l3 x1 x0 I L P Q p0 => zr_getI rfl lf_10_346 (fun _ _ _ => rfl) p0),
   (fun d l0 l1 l2 l3 x1 x0 h Q => zr_iload_n rfl rfl),
   (fun d l0 l1 l2 l3 x2 x1 x0 I L P Q p0 => zr_vir (as := [.int x2, .int x1]) (rest := []) rfl lm_10_352 m_203 kd_203 rfl (Nat.le_of_ble_eq_true rfl) p0),
   (fun d l0 l1 l2 l3 x0 h Q => zr_iret rfl rfl),
   (fun d l0 l1 l2 l3  h Q => zr_iconst rfl (by decide)),
   (fun d l0 l1 l2 l3 x0 h Q => zr_iret rfl rfl)⟩
theorem E_X10_trace : ∀ (d : Nat) (a0 : Nat) (a1 : Int32) (h : zMm) (Q : Option Value → zMm → Prop), zWM (d + 1) 205 [.ref a0, .int a1] h Q = zWp d zi_205 none 0 [.ref a0, .int a1] [] h Q := fun d a0 a1 h Q => zW_M m_205 (Nat.le_of_ble_eq_true rfl) rfl
set_option maxRecDepth 100000 in
theorem R_X10_trace :
    (∀ (d : Nat) (l0 : Value) (l1 : Int32)  (h : zMm) (Q : Option Value → zMm → Prop), zWp d zi_205 none 0 [l0, .int l1] [] h Q = zWp d zi_205 none 1 [l0, .int l1] [.int l1] h Q) ∧
    (∀ (d : Nat) (l0 : Value) (l1 : Value) (x0 : Int32) (h : zMm) (Q : Option Value → zMm → Prop), zWp d zi_205 none 1 [l0, l1] [.int x0] h Q = if x0 < 0 then zWp d zi_205 none 27 [l0, l1] [] h Q else zWp d zi_205 none 4 [l0, l1] [] h Q) ∧
    (∀ (d : Nat) (l0 : Value) (l1 : Int32)  (h : zMm) (Q : Option Value → zMm → Prop), zWp d zi_205 none 4 [l0, .int l1] [] h Q = zWp d zi_205 none 5 [l0, .int l1] [.int l1] h Q) ∧
    (∀ (d : Nat) (l0 : Nat) (l1 : Value) (x0 : Int32) (h : zMm) (Q : Option Value → zMm → Prop), zWp d zi_205 none 5 [.ref l0, l1] [.int x0] h Q = zWp d zi_205 none 6 [.ref l0, l1] [.ref l0, .int x0] h Q) ∧
    (∀ (d : Nat) (l0 : Value) (l1 : Value) (x1 : Nat) (x0 : Int32) (I : Nat → Nat → Int32) (L : Nat → Nat → Int64) (P : Nat → Nat → Option Nat) (Q : Option Value → zMm → Prop), zSH[x1]? = some (.inl 10) → zWp d zi_205 none 6 [l0, l1] [.ref x1, .int x0] (zSH, I, L, P) Q = zWp d zi_205 none 9 [l0, l1] [.int (I x1 43), .int x0] (zSH, I, L, P) Q) ∧
    (∀ (d : Nat) (l0 : Value) (l1 : Value) (x1 : Int32) (x0 : Int32) (h : zMm) (Q : Option Value → zMm → Prop), zWp d zi_205 none 9 [l0, l1] [.int x1, .int x0] h Q = if x1 ≤ x0 then zWp d zi_205 none 27 [l0, l1] [] h Q else zWp d zi_205 none 12 [l0, l1] [] h Q) ∧
    (∀ (d : Nat) (l0 : Value) (l1 : Int32)  (h : zMm) (Q : Option Value → zMm → Prop), zWp d zi_205 none 12 [l0, .int l1] [] h Q = zWp d zi_205 none 13 [l0, .int l1] [.int l1] h Q) ∧
    (∀ (d : Nat) (l0 : Value) (l1 : Value) (x0 : Int32) (h : zMm) (Q : Option Value → zMm → Prop), zWp d zi_205 none 13 [l0, l1] [.int x0] h Q = zWp d zi_205 none 15 [l0, l1] [.int 24, .int x0] h Q) ∧
    (∀ (d : Nat) (l0 : Value) (l1 : Value) (x1 : Int32) (x0 : Int32) (h : zMm) (Q : Option Value → zMm → Prop), zWp d zi_205 none 15 [l0, l1] [.int x1, .int x0] h Q = if x1 ≤ x0 then zWp d zi_205 none 27 [l0, l1] [] h Q else zWp d zi_205 none 18 [l0, l1] [] h Q) ∧
    (∀ (d : Nat) (l0 : Nat) (l1 : Value)  (h : zMm) (Q : Option Value → zMm → Prop), zWp d zi_205 none 18 [.ref l0, l1] [] h Q = zWp d zi_205 none 19 [.ref l0, l1] [.ref l0] h Q) ∧
    (∀ (d : Nat) (l0 : Value) (l1 : Value) (x0 : Nat) (I : Nat → Nat → Int32) (L : Nat → Nat → Int64) (P : Nat → Nat → Option Nat) (Q : Option Value → zMm → Prop), zSH[x0]? = some (.inl 10) → zWp d zi_205 none 19 [l0, l1] [.ref x0] (zSH, I, L, P) Q = zWp d zi_205 none 22 [l0, l1] [va_rf (P x0 42)] (zSH, I, L, P) Q) ∧
    (∀ (d : Nat) (l0 : Value) (l1 : Int32) (x0 : Nat) (h : zMm) (Q : Option Value → zMm → Prop), zWp d zi_205 none 22 [l0, .int l1] [.ref x0] h Q = zWp d zi_205 none 23 [l0, .int l1] [.int l1, .ref x0] h Q) ∧
    (∀ (d : Nat) (l0 : Value) (l1 : Value) (x1 : Int32) (x0 : Nat) (I : Nat → Nat → Int32) (L : Nat → Nat → Int64) (P : Nat → Nat → Option Nat) (Q : Option Value → zMm → Prop), zAk zSH x0 = some .int → zWp d zi_205 none 23 [l0, l1] [.int x1, .ref x0] (zSH, I, L, P) Q = (vp_in x1 (zAn zSH x0) ∧ zWp d zi_205 none 24 [l0, l1] [.int (I x0 x1.toNatClampNeg)] (zSH, I, L, P) Q)) ∧
    (∀ (d : Nat) (l0 : Value) (l1 : Value) (x0 : Int32) (h : zMm) (Q : Option Value → zMm → Prop), zWp d zi_205 none 24 [l0, l1] [.int x0] h Q = zWp d zi_205 none 28 [l0, l1] [.int x0] h Q) ∧
    (∀ (d : Nat) (l0 : Value) (l1 : Value)  (h : zMm) (Q : Option Value → zMm → Prop), zWp d zi_205 none 27 [l0, l1] [] h Q = zWp d zi_205 none 28 [l0, l1] [.int (-1)] h Q) ∧
    (∀ (d : Nat) (l0 : Value) (l1 : Value) (x0 : Int32) (h : zMm) (Q : Option Value → zMm → Prop), zWp d zi_205 none 28 [l0, l1] [.int x0] h Q = Q (some (.int x0)) h) :=
  ⟨(fun d l0 l1  h Q => zr_iload_n rfl rfl),
   (fun d l0 l1 x0 h Q => zr_if_lt rfl (by decide)),
   (fun d l0 l1  h Q => zr_iload_n rfl rfl),
   (fun d l0 l1 x0 h Q => zr_aload_n rfl rfl),
   (fun d l0 l1 x1 x0 I L P Q p0 => zr_getI rfl lf_10_331 (fun _ _ _ => rfl) p0),
   (fun d l0 l1 x1 x0 h Q => zr_ic_ge rfl (by decide)),
   (fun d l0 l1  h Q => zr_iload_n rfl rfl),
   (fun d l0 l1 x0 h Q => zr_bipush rfl (by decide)),
   (fun d l0 l1 x1 x0 h Q => zr_ic_ge rfl (by decide)),
   (fun d l0 l1  h Q => zr_aload_n rfl rfl),
   (fun d l0 l1 x0 I L P Q p0 => zr_getQ rfl lf_10_64 (fun _ _ _ => rfl) p0),
   (fun d l0 l1 x0 h Q => zr_iload_n rfl rfl),
   (fun d l0 l1 x1 x0 I L P Q p0 => zr_ald rfl p0),
   (fun d l0 l1 x0 h Q => zr_goto rfl (by decide)),
   (fun d l0 l1  h Q => zr_iconst rfl (by decide)),
   (fun d l0 l1 x0 h Q => zr_iret rfl rfl)⟩
theorem E_X10_isShelf : ∀ (d : Nat) (a0 : Int32) (h : zMm) (Q : Option Value → zMm → Prop), zWM (d + 1) 206 [.int a0] h Q = zWp d zi_206 none 0 [.int a0] [] h Q := fun d a0 h Q => zW_M m_206 (Nat.le_of_ble_eq_true rfl) rfl
set_option maxRecDepth 100000 in
theorem R_X10_isShelf :
    (∀ (d : Nat) (l0 : Int32)  (h : zMm) (Q : Option Value → zMm → Prop), zWp d zi_206 none 0 [.int l0] [] h Q = zWp d zi_206 none 1 [.int l0] [.int l0] h Q) ∧
    (∀ (d : Nat) (l0 : Value) (x0 : Int32) (h : zMm) (Q : Option Value → zMm → Prop), zWp d zi_206 none 1 [l0] [.int x0] h Q = zWp d zi_206 none 2 [l0] [.long x0.toInt64] h Q) ∧
    (∀ (d : Nat) (l0 : Value) (x0 : Int64) (h : zMm) (Q : Option Value → zMm → Prop), zWp d zi_206 none 2 [l0] [.long x0] h Q = zWp d zi_206 none 3 [l0] [.long 0, .long x0] h Q) ∧
    (∀ (d : Nat) (l0 : Value) (x1 : Int64) (x0 : Int64) (h : zMm) (Q : Option Value → zMm → Prop), zWp d zi_206 none 3 [l0] [.long x1, .long x0] h Q = zWp d zi_206 none 6 [l0] [.long 5, .long x1, .long x0] h Q) ∧
    (∀ (d : Nat) (l0 : Value) (x2 : Int64) (x1 : Int64) (x0 : Int64) (h : zMm) (Q : Option Value → zMm → Prop), zWp d zi_206 none 6 [l0] [.long x2, .long x1, .long x0] h Q = zWM d 122 [.long x0, .long x1, .long x2] h (fun r h1 => zWp d zi_206 none 9 [l0] (r.toList ++ []) h1 Q)) ∧
    (∀ (d : Nat) (l0 : Value) (x0 : Int32) (h : zMm) (Q : Option Value → zMm → Prop), x0 = 0 ∨ x0 = 1 → zWp d zi_206 none 9 [l0] [.int x0] h Q = Q (some (.int x0)) h) :=
  ⟨(fun d l0  h Q => zr_iload_n rfl rfl),
   (fun d l0 x0 h Q => zr_i2l rfl),
   (fun d l0 x0 h Q => zr_lconst rfl (by decide)),
   (fun d l0 x1 x0 h Q => zr_ldc2_w rfl lj_10_358),
   (fun d l0 x2 x1 x0 h Q => zr_sta (as := [.long x2, .long x1, .long x0]) (rest := []) rfl lm_10_110 (by decide) m_122 kd_122 rfl (Nat.le_of_ble_eq_true rfl)),
   (fun d l0 x0 h Q p0 => zr_zret rfl rfl p0)⟩
theorem E_X10_keep : ∀ (d : Nat) (a0 : Nat) (a1 : Int32) (a2 : Int32) (h : zMm) (Q : Option Value → zMm → Prop), zWM (d + 1) 207 [.ref a0, .int a1, .int a2] h Q = zWp d zi_207 none 0 [.ref a0, .int a1, .int a2] [] h Q := fun d a0 a1 a2 h Q => zW_M m_207 (Nat.le_of_ble_eq_true rfl) rfl
set_option maxRecDepth 100000 in
theorem R_X10_keep :
    (∀ (d : Nat) (l0 : Value) (l1 : Int32) (l2 : Value)  (h : zMm) (Q : Option Value → zMm → Prop), zWp d zi_207 none 0 [l0, .int l1, l2] [] h Q = zWp d zi_207 none 1 [l0, .int l1, l2] [.int l1] h Q) ∧
    (∀ (d : Nat) (l0 : Value) (l1 : Value) (l2 : Value) (x0 : Int32) (h : zMm) (Q : Option Value → zMm → Prop), zWp d zi_207 none 1 [l0, l1, l2] [.int x0] h Q = zWM d 206 [.int x0] h (fun r h1 => zWp d zi_207 none 4 [l0, l1, l2] (r.toList ++ []) h1 Q)) ∧
    (∀ (d : Nat) (l0 : Value) (l1 : Value) (l2 : Value) (x0 : Int32) (h : zMm) (Q : Option Value → zMm → Prop), zWp d zi_207 none 4 [l0, l1, l2] [.int x0] h Q = if x0 = 0 then zWp d zi_207 none 20 [l0, l1, l2] [] h Q else zWp d zi_207 none 7 [l0, l1, l2] [] h Q) ∧
    (∀ (d : Nat) (l0 : Value) (l1 : Value) (l2 : Int32)  (h : zMm) (Q : Option Value → zMm → Prop), zWp d zi_207 none 7 [l0, l1, .int l2] [] h Q = zWp d zi_207 none 8 [l0, l1, .int l2] [.int l2] h Q) ∧
    (∀ (d : Nat) (l0 : Value) (l1 : Value) (l2 : Value) (x0 : Int32) (h : zMm) (Q : Option Value → zMm → Prop), zWp d zi_207 none 8 [l0, l1, l2] [.int x0] h Q = zWp d zi_207 none 9 [l0, l1, l2] [.int (-1), .int x0] h Q) ∧
    (∀ (d : Nat) (l0 : Value) (l1 : Value) (l2 : Value) (x1 : Int32) (x0 : Int32) (h : zMm) (Q : Option Value → zMm → Prop), zWp d zi_207 none 9 [l0, l1, l2] [.int x1, .int x0] h Q = if x0 = x1 then zWp d zi_207 none 22 [l0, l1, l2] [] h Q else zWp d zi_207 none 12 [l0, l1, l2] [] h Q) ∧
    (∀ (d : Nat) (l0 : Nat) (l1 : Value) (l2 : Value)  (h : zMm) (Q : Option Value → zMm → Prop), zWp d zi_207 none 12 [.ref l0, l1, l2] [] h Q = zWp d zi_207 none 13 [.ref l0, l1, l2] [.ref l0] h Q) ∧
    (∀ (d : Nat) (l0 : Value) (l1 : Value) (l2 : Int32) (x0 : Nat) (h : zMm) (Q : Option Value → zMm → Prop), zWp d zi_207 none 13 [l0, l1, .int l2] [.ref x0] h Q = zWp d zi_207 none 14 [l0, l1, .int l2] [.int l2, .ref x0] h Q) ∧
    (∀ (d : Nat) (l0 : Value) (l1 : Value) (l2 : Value) (x1 : Int32) (x0 : Nat) (I : Nat → Nat → Int32) (L : Nat → Nat → Int64) (P : Nat → Nat → Option Nat) (Q : Option Value → zMm → Prop), zSH[x0]? = some (.inl 10) → zWp d zi_207 none 14 [l0, l1, l2] [.int x1, .ref x0] (zSH, I, L, P) Q = zWM d 195 [.ref x0, .int x1] (zSH, I, L, P) (fun r h1 => zWp d zi_207 none 17 [l0, l1, l2] (r.toList ++ []) h1 Q)) ∧
    (∀ (d : Nat) (l0 : Value) (l1 : Value) (l2 : Value) (x0 : Int32) (h : zMm) (Q : Option Value → zMm → Prop), zWp d zi_207 none 17 [l0, l1, l2] [.int x0] h Q = if x0 = 0 then zWp d zi_207 none 20 [l0, l1, l2] [] h Q else zWp d zi_207 none 22 [l0, l1, l2] [] h Q) ∧
    (∀ (d : Nat) (l0 : Value) (l1 : Value) (l2 : Value)  (h : zMm) (Q : Option Value → zMm → Prop), zWp d zi_207 none 20 [l0, l1, l2] [] h Q = zWp d zi_207 none 21 [l0, l1, l2] [.int (-1)] h Q) ∧
    (∀ (d : Nat) (l0 : Value) (l1 : Value) (l2 : Value) (x0 : Int32) (h : zMm) (Q : Option Value → zMm → Prop), zWp d zi_207 none 21 [l0, l1, l2] [.int x0] h Q = Q (some (.int x0)) h) ∧
    (∀ (d : Nat) (l0 : Nat) (l1 : Value) (l2 : Value)  (h : zMm) (Q : Option Value → zMm → Prop), zWp d zi_207 none 22 [.ref l0, l1, l2] [] h Q = zWp d zi_207 none 23 [.ref l0, l1, l2] [.ref l0] h Q) ∧
    (∀ (d : Nat) (l0 : Value) (l1 : Value) (l2 : Value) (x0 : Nat) (I : Nat → Nat → Int32) (L : Nat → Nat → Int64) (P : Nat → Nat → Option Nat) (Q : Option Value → zMm → Prop), zSH[x0]? = some (.inl 10) → zWp d zi_207 none 23 [l0, l1, l2] [.ref x0] (zSH, I, L, P) Q = zWp d zi_207 none 26 [l0, l1, l2] [va_rf (P x0 46)] (zSH, I, L, P) Q) ∧
    (∀ (d : Nat) (l0 : Value) (l1 : Int32) (l2 : Value) (x0 : Nat) (h : zMm) (Q : Option Value → zMm → Prop), zWp d zi_207 none 26 [l0, .int l1, l2] [.ref x0] h Q = zWp d zi_207 none 27 [l0, .int l1, l2] [.int l1, .ref x0] h Q) ∧
    (∀ (d : Nat) (l0 : Value) (l1 : Value) (l2 : Int32) (x1 : Int32) (x0 : Nat) (h : zMm) (Q : Option Value → zMm → Prop), zWp d zi_207 none 27 [l0, l1, .int l2] [.int x1, .ref x0] h Q = zWp d zi_207 none 28 [l0, l1, .int l2] [.int l2, .int x1, .ref x0] h Q) ∧
    (∀ (d : Nat) (l0 : Value) (l1 : Value) (l2 : Value) (x2 : Int32) (x1 : Int32) (x0 : Nat) (I : Nat → Nat → Int32) (L : Nat → Nat → Int64) (P : Nat → Nat → Option Nat) (Q : Option Value → zMm → Prop), zAk zSH x0 = some .int → zWp d zi_207 none 28 [l0, l1, l2] [.int x2, .int x1, .ref x0] (zSH, I, L, P) Q = (vp_in x1 (zAn zSH x0) ∧ zWp d zi_207 none 29 [l0, l1, l2] [] (zSH, zw I x0 (upd (I x0) x1.toNatClampNeg x2), L, P) Q)) ∧
    (∀ (d : Nat) (l0 : Nat) (l1 : Value) (l2 : Value)  (h : zMm) (Q : Option Value → zMm → Prop), zWp d zi_207 none 29 [.ref l0, l1, l2] [] h Q = zWp d zi_207 none 30 [.ref l0, l1, l2] [.ref l0] h Q) ∧
    (∀ (d : Nat) (l0 : Value) (l1 : Value) (l2 : Value) (x0 : Nat) (I : Nat → Nat → Int32) (L : Nat → Nat → Int64) (P : Nat → Nat → Option Nat) (Q : Option Value → zMm → Prop), zSH[x0]? = some (.inl 10) → zWp d zi_207 none 30 [l0, l1, l2] [.ref x0] (zSH, I, L, P) Q = zWp d zi_207 none 33 [l0, l1, l2] [va_rf (P x0 47)] (zSH, I, L, P) Q) ∧
    (∀ (d : Nat) (l0 : Value) (l1 : Int32) (l2 : Value) (x0 : Nat) (h : zMm) (Q : Option Value → zMm → Prop), zWp d zi_207 none 33 [l0, .int l1, l2] [.ref x0] h Q = zWp d zi_207 none 34 [l0, .int l1, l2] [.int l1, .ref x0] h Q) ∧
    (∀ (d : Nat) (l0 : Value) (l1 : Value) (l2 : Value) (x1 : Int32) (x0 : Nat) (h : zMm) (Q : Option Value → zMm → Prop), zWp d zi_207 none 34 [l0, l1, l2] [.int x1, .ref x0] h Q = zWp d zi_207 none 35 [l0, l1, l2] [.int 0, .int x1, .ref x0] h Q) ∧
    (∀ (d : Nat) (l0 : Value) (l1 : Value) (l2 : Value) (x2 : Int32) (x1 : Int32) (x0 : Nat) (I : Nat → Nat → Int32) (L : Nat → Nat → Int64) (P : Nat → Nat → Option Nat) (Q : Option Value → zMm → Prop), zAk zSH x0 = some .int → zWp d zi_207 none 35 [l0, l1, l2] [.int x2, .int x1, .ref x0] (zSH, I, L, P) Q = (vp_in x1 (zAn zSH x0) ∧ zWp d zi_207 none 36 [l0, l1, l2] [] (zSH, zw I x0 (upd (I x0) x1.toNatClampNeg x2), L, P) Q)) ∧
    (∀ (d : Nat) (l0 : Value) (l1 : Value) (l2 : Value)  (h : zMm) (Q : Option Value → zMm → Prop), zWp d zi_207 none 36 [l0, l1, l2] [] h Q = zWp d zi_207 none 37 [l0, l1, l2] [.int 1] h Q) ∧
    (∀ (d : Nat) (l0 : Value) (l1 : Value) (l2 : Value) (x0 : Int32) (h : zMm) (Q : Option Value → zMm → Prop), zWp d zi_207 none 37 [l0, l1, l2] [.int x0] h Q = Q (some (.int x0)) h) :=
  ⟨(fun d l0 l1 l2  h Q => zr_iload_n rfl rfl),
   (fun d l0 l1 l2 x0 h Q => zr_sta (as := [.int x0]) (rest := []) rfl lm_10_135 (by decide) m_206 kd_206 rfl (Nat.le_of_ble_eq_true rfl)),
   (fun d l0 l1 l2 x0 h Q => zr_if_eq rfl (by decide)),
   (fun d l0 l1 l2  h Q => zr_iload_n rfl rfl),
   (fun d l0 l1 l2 x0 h Q => zr_iconst rfl (by decide)),
   (fun d l0 l1 l2 x1 x0 h Q => zr_ic_eq rfl (by decide)),
   (fun d l0 l1 l2  h Q => zr_aload_n rfl rfl),
   (fun d l0 l1 l2 x0 h Q => zr_iload_n rfl rfl),
   (fun d l0 l1 l2 x1 x0 I L P Q p0 => zr_vir (as := [.int x1]) (rest := []) rfl lm_10_355 m_195 kd_195 rfl (Nat.le_of_ble_eq_true rfl) p0),
   (fun d l0 l1 l2 x0 h Q => zr_if_ne rfl (by decide)),
   (fun d l0 l1 l2  h Q => zr_iconst rfl (by decide)),
   (fun d l0 l1 l2 x0 h Q => zr_iret rfl rfl),
   (fun d l0 l1 l2  h Q => zr_aload_n rfl rfl),
   (fun d l0 l1 l2 x0 I L P Q p0 => zr_getQ rfl lf_10_67 (fun _ _ _ => rfl) p0),
   (fun d l0 l1 l2 x0 h Q => zr_iload_n rfl rfl),
   (fun d l0 l1 l2 x1 x0 h Q => zr_iload_n rfl rfl),
   (fun d l0 l1 l2 x2 x1 x0 I L P Q p0 => zr_ast rfl p0),
   (fun d l0 l1 l2  h Q => zr_aload_n rfl rfl),
   (fun d l0 l1 l2 x0 I L P Q p0 => zr_getQ rfl lf_10_70 (fun _ _ _ => rfl) p0),
   (fun d l0 l1 l2 x0 h Q => zr_iload_n rfl rfl),
   (fun d l0 l1 l2 x1 x0 h Q => zr_iconst rfl (by decide)),
   (fun d l0 l1 l2 x2 x1 x0 I L P Q p0 => zr_ast rfl p0),
   (fun d l0 l1 l2  h Q => zr_iconst rfl (by decide)),
   (fun d l0 l1 l2 x0 h Q => zr_iret rfl rfl)⟩
theorem E_X10_row : ∀ (d : Nat) (a0 : Nat) (a1 : Int32) (a2 : Int32) (a3 : Int32) (h : zMm) (Q : Option Value → zMm → Prop), zWM (d + 1) 208 [.ref a0, .int a1, .int a2, .int a3] h Q = zWp d zi_208 none 0 [.ref a0, .int a1, .int a2, .int a3, .retAddr 0] [] h Q := fun d a0 a1 a2 a3 h Q => zW_M m_208 (Nat.le_of_ble_eq_true rfl) rfl
set_option maxRecDepth 100000 in
theorem R_X10_row :
    (∀ (d : Nat) (l0 : Value) (l1 : Int32) (l2 : Value) (l3 : Value) (l4 : Value)  (h : zMm) (Q : Option Value → zMm → Prop), zWp d zi_208 none 0 [l0, .int l1, l2, l3, l4] [] h Q = zWp d zi_208 none 1 [l0, .int l1, l2, l3, l4] [.int l1] h Q) ∧
    (∀ (d : Nat) (l0 : Value) (l1 : Value) (l2 : Value) (l3 : Value) (l4 : Value) (x0 : Int32) (h : zMm) (Q : Option Value → zMm → Prop), zWp d zi_208 none 1 [l0, l1, l2, l3, l4] [.int x0] h Q = zWM d 206 [.int x0] h (fun r h1 => zWp d zi_208 none 4 [l0, l1, l2, l3, l4] (r.toList ++ []) h1 Q)) ∧
    (∀ (d : Nat) (l0 : Value) (l1 : Value) (l2 : Value) (l3 : Value) (l4 : Value) (x0 : Int32) (h : zMm) (Q : Option Value → zMm → Prop), zWp d zi_208 none 4 [l0, l1, l2, l3, l4] [.int x0] h Q = if x0 = 0 then zWp d zi_208 none 25 [l0, l1, l2, l3, l4] [] h Q else zWp d zi_208 none 7 [l0, l1, l2, l3, l4] [] h Q) ∧
    (∀ (d : Nat) (l0 : Value) (l1 : Value) (l2 : Int32) (l3 : Value) (l4 : Value)  (h : zMm) (Q : Option Value → zMm → Prop), zWp d zi_208 none 7 [l0, l1, .int l2, l3, l4] [] h Q = zWp d zi_208 none 8 [l0, l1, .int l2, l3, l4] [.int l2] h Q) ∧
    (∀ (d : Nat) (l0 : Value) (l1 : Value) (l2 : Value) (l3 : Value) (l4 : Value) (x0 : Int32) (h : zMm) (Q : Option Value → zMm → Prop), zWp d zi_208 none 8 [l0, l1, l2, l3, l4] [.int x0] h Q = zWp d zi_208 none 9 [l0, l1, l2, l3, l4] [.long x0.toInt64] h Q) ∧
    (∀ (d : Nat) (l0 : Value) (l1 : Value) (l2 : Value) (l3 : Value) (l4 : Value) (x0 : Int64) (h : zMm) (Q : Option Value → zMm → Prop), zWp d zi_208 none 9 [l0, l1, l2, l3, l4] [.long x0] h Q = zWp d zi_208 none 10 [l0, l1, l2, l3, l4] [.long 0, .long x0] h Q) ∧
    (∀ (d : Nat) (l0 : Value) (l1 : Value) (l2 : Value) (l3 : Value) (l4 : Value) (x1 : Int64) (x0 : Int64) (h : zMm) (Q : Option Value → zMm → Prop), zWp d zi_208 none 10 [l0, l1, l2, l3, l4] [.long x1, .long x0] h Q = zWp d zi_208 none 13 [l0, l1, l2, l3, l4] [.long 4, .long x1, .long x0] h Q) ∧
    (∀ (d : Nat) (l0 : Value) (l1 : Value) (l2 : Value) (l3 : Value) (l4 : Value) (x2 : Int64) (x1 : Int64) (x0 : Int64) (h : zMm) (Q : Option Value → zMm → Prop), zWp d zi_208 none 13 [l0, l1, l2, l3, l4] [.long x2, .long x1, .long x0] h Q = zWM d 122 [.long x0, .long x1, .long x2] h (fun r h1 => zWp d zi_208 none 16 [l0, l1, l2, l3, l4] (r.toList ++ []) h1 Q)) ∧
    (∀ (d : Nat) (l0 : Value) (l1 : Value) (l2 : Value) (l3 : Value) (l4 : Value) (x0 : Int32) (h : zMm) (Q : Option Value → zMm → Prop), zWp d zi_208 none 16 [l0, l1, l2, l3, l4] [.int x0] h Q = if x0 = 0 then zWp d zi_208 none 25 [l0, l1, l2, l3, l4] [] h Q else zWp d zi_208 none 19 [l0, l1, l2, l3, l4] [] h Q) ∧
    (∀ (d : Nat) (l0 : Value) (l1 : Value) (l2 : Value) (l3 : Int32) (l4 : Value)  (h : zMm) (Q : Option Value → zMm → Prop), zWp d zi_208 none 19 [l0, l1, l2, .int l3, l4] [] h Q = zWp d zi_208 none 20 [l0, l1, l2, .int l3, l4] [.int l3] h Q) ∧
    (∀ (d : Nat) (l0 : Value) (l1 : Value) (l2 : Value) (l3 : Value) (l4 : Value) (x0 : Int32) (h : zMm) (Q : Option Value → zMm → Prop), zWp d zi_208 none 20 [l0, l1, l2, l3, l4] [.int x0] h Q = zWp d zi_208 none 22 [l0, l1, l2, l3, l4] [.int 60, .int x0] h Q) ∧
    (∀ (d : Nat) (l0 : Value) (l1 : Value) (l2 : Value) (l3 : Value) (l4 : Value) (x1 : Int32) (x0 : Int32) (h : zMm) (Q : Option Value → zMm → Prop), zWp d zi_208 none 22 [l0, l1, l2, l3, l4] [.int x1, .int x0] h Q = if x0 ≤ x1 then zWp d zi_208 none 27 [l0, l1, l2, l3, l4] [] h Q else zWp d zi_208 none 25 [l0, l1, l2, l3, l4] [] h Q) ∧
    (∀ (d : Nat) (l0 : Value) (l1 : Value) (l2 : Value) (l3 : Value) (l4 : Value)  (h : zMm) (Q : Option Value → zMm → Prop), zWp d zi_208 none 25 [l0, l1, l2, l3, l4] [] h Q = zWp d zi_208 none 26 [l0, l1, l2, l3, l4] [.int (-1)] h Q) ∧
    (∀ (d : Nat) (l0 : Value) (l1 : Value) (l2 : Value) (l3 : Value) (l4 : Value) (x0 : Int32) (h : zMm) (Q : Option Value → zMm → Prop), zWp d zi_208 none 26 [l0, l1, l2, l3, l4] [.int x0] h Q = Q (some (.int x0)) h) ∧
    (∀ (d : Nat) (l0 : Value) (l1 : Value) (l2 : Value) (l3 : Int32) (l4 : Value)  (h : zMm) (Q : Option Value → zMm → Prop), zWp d zi_208 none 27 [l0, l1, l2, .int l3, l4] [] h Q = zWp d zi_208 none 28 [l0, l1, l2, .int l3, l4] [.int l3] h Q) ∧
    (∀ (d : Nat) (l0 : Value) (l1 : Value) (l2 : Value) (l3 : Value) (l4 : Value) (x0 : Int32) (h : zMm) (Q : Option Value → zMm → Prop), zWp d zi_208 none 28 [l0, l1, l2, l3, l4] [.int x0] h Q = if 0 ≤ x0 then zWp d zi_208 none 34 [l0, l1, l2, l3, l4] [] h Q else zWp d zi_208 none 31 [l0, l1, l2, l3, l4] [] h Q) ∧
    (∀ (d : Nat) (l0 : Value) (l1 : Value) (l2 : Value) (l3 : Value) (l4 : Value)  (h : zMm) (Q : Option Value → zMm → Prop), zWp d zi_208 none 31 [l0, l1, l2, l3, l4] [] h Q = zWp d zi_208 none 33 [l0, l1, l2, l3, l4] [.int (-14)] h Q) ∧
    (∀ (d : Nat) (l0 : Value) (l1 : Value) (l2 : Value) (l3 : Value) (l4 : Value) (x0 : Int32) (h : zMm) (Q : Option Value → zMm → Prop), zWp d zi_208 none 33 [l0, l1, l2, l3, l4] [.int x0] h Q = Q (some (.int x0)) h) ∧
    (∀ (d : Nat) (l0 : Nat) (l1 : Value) (l2 : Value) (l3 : Value) (l4 : Value)  (h : zMm) (Q : Option Value → zMm → Prop), zWp d zi_208 none 34 [.ref l0, l1, l2, l3, l4] [] h Q = zWp d zi_208 none 35 [.ref l0, l1, l2, l3, l4] [.ref l0] h Q) ∧
    (∀ (d : Nat) (l0 : Value) (l1 : Value) (l2 : Value) (l3 : Value) (l4 : Value) (x0 : Nat) (I : Nat → Nat → Int32) (L : Nat → Nat → Int64) (P : Nat → Nat → Option Nat) (Q : Option Value → zMm → Prop), zSH[x0]? = some (.inl 10) → zWp d zi_208 none 35 [l0, l1, l2, l3, l4] [.ref x0] (zSH, I, L, P) Q = zWp d zi_208 none 38 [l0, l1, l2, l3, l4] [va_rf (P x0 46)] (zSH, I, L, P) Q) ∧
    (∀ (d : Nat) (l0 : Value) (l1 : Int32) (l2 : Value) (l3 : Value) (l4 : Value) (x0 : Nat) (h : zMm) (Q : Option Value → zMm → Prop), zWp d zi_208 none 38 [l0, .int l1, l2, l3, l4] [.ref x0] h Q = zWp d zi_208 none 39 [l0, .int l1, l2, l3, l4] [.int l1, .ref x0] h Q) ∧
    (∀ (d : Nat) (l0 : Value) (l1 : Value) (l2 : Value) (l3 : Value) (l4 : Value) (x1 : Int32) (x0 : Nat) (h : zMm) (Q : Option Value → zMm → Prop), zWp d zi_208 none 39 [l0, l1, l2, l3, l4] [.int x1, .ref x0] h Q = zWp d zi_208 none 41 [l0, l1, l2, l3, l4] [.int 50, .int x1, .ref x0] h Q) ∧
    (∀ (d : Nat) (l0 : Value) (l1 : Value) (l2 : Int32) (l3 : Value) (l4 : Value) (x2 : Int32) (x1 : Int32) (x0 : Nat) (h : zMm) (Q : Option Value → zMm → Prop), zWp d zi_208 none 41 [l0, l1, .int l2, l3, l4] [.int x2, .int x1, .ref x0] h Q = zWp d zi_208 none 42 [l0, l1, .int l2, l3, l4] [.int l2, .int x2, .int x1, .ref x0] h Q) ∧
    (∀ (d : Nat) (l0 : Value) (l1 : Value) (l2 : Value) (l3 : Value) (l4 : Value) (x3 : Int32) (x2 : Int32) (x1 : Int32) (x0 : Nat) (h : zMm) (Q : Option Value → zMm → Prop), zWp d zi_208 none 42 [l0, l1, l2, l3, l4] [.int x3, .int x2, .int x1, .ref x0] h Q = zWp d zi_208 none 43 [l0, l1, l2, l3, l4] [.int (x2 + x3), .int x1, .ref x0] h Q) ∧
    (∀ (d : Nat) (l0 : Value) (l1 : Value) (l2 : Value) (l3 : Value) (l4 : Value) (x2 : Int32) (x1 : Int32) (x0 : Nat) (I : Nat → Nat → Int32) (L : Nat → Nat → Int64) (P : Nat → Nat → Option Nat) (Q : Option Value → zMm → Prop), zAk zSH x0 = some .int → zWp d zi_208 none 43 [l0, l1, l2, l3, l4] [.int x2, .int x1, .ref x0] (zSH, I, L, P) Q = (vp_in x1 (zAn zSH x0) ∧ zWp d zi_208 none 44 [l0, l1, l2, l3, l4] [] (zSH, zw I x0 (upd (I x0) x1.toNatClampNeg x2), L, P) Q)) ∧
    (∀ (d : Nat) (l0 : Nat) (l1 : Value) (l2 : Value) (l3 : Value) (l4 : Value)  (h : zMm) (Q : Option Value → zMm → Prop), zWp d zi_208 none 44 [.ref l0, l1, l2, l3, l4] [] h Q = zWp d zi_208 none 45 [.ref l0, l1, l2, l3, l4] [.ref l0] h Q) ∧
    (∀ (d : Nat) (l0 : Value) (l1 : Value) (l2 : Value) (l3 : Value) (l4 : Value) (x0 : Nat) (I : Nat → Nat → Int32) (L : Nat → Nat → Int64) (P : Nat → Nat → Option Nat) (Q : Option Value → zMm → Prop), zSH[x0]? = some (.inl 10) → zWp d zi_208 none 45 [l0, l1, l2, l3, l4] [.ref x0] (zSH, I, L, P) Q = zWp d zi_208 none 48 [l0, l1, l2, l3, l4] [va_rf (P x0 47)] (zSH, I, L, P) Q) ∧
    (∀ (d : Nat) (l0 : Value) (l1 : Int32) (l2 : Value) (l3 : Value) (l4 : Value) (x0 : Nat) (h : zMm) (Q : Option Value → zMm → Prop), zWp d zi_208 none 48 [l0, .int l1, l2, l3, l4] [.ref x0] h Q = zWp d zi_208 none 49 [l0, .int l1, l2, l3, l4] [.int l1, .ref x0] h Q) ∧
    (∀ (d : Nat) (l0 : Value) (l1 : Value) (l2 : Value) (l3 : Int32) (l4 : Value) (x1 : Int32) (x0 : Nat) (h : zMm) (Q : Option Value → zMm → Prop), zWp d zi_208 none 49 [l0, l1, l2, .int l3, l4] [.int x1, .ref x0] h Q = zWp d zi_208 none 50 [l0, l1, l2, .int l3, l4] [.int l3, .int x1, .ref x0] h Q) ∧
    (∀ (d : Nat) (l0 : Value) (l1 : Value) (l2 : Value) (l3 : Value) (l4 : Value) (x2 : Int32) (x1 : Int32) (x0 : Nat) (I : Nat → Nat → Int32) (L : Nat → Nat → Int64) (P : Nat → Nat → Option Nat) (Q : Option Value → zMm → Prop), zAk zSH x0 = some .int → zWp d zi_208 none 50 [l0, l1, l2, l3, l4] [.int x2, .int x1, .ref x0] (zSH, I, L, P) Q = (vp_in x1 (zAn zSH x0) ∧ zWp d zi_208 none 51 [l0, l1, l2, l3, l4] [] (zSH, zw I x0 (upd (I x0) x1.toNatClampNeg x2), L, P) Q)) ∧
    (∀ (d : Nat) (l0 : Value) (l1 : Value) (l2 : Value) (l3 : Value) (l4 : Value)  (h : zMm) (Q : Option Value → zMm → Prop), zWp d zi_208 none 51 [l0, l1, l2, l3, l4] [] h Q = zWp d zi_208 none 53 [l0, l1, l2, l3, l4] [.int 60] h Q) ∧
    (∀ (d : Nat) (l0 : Value) (l1 : Int32) (l2 : Value) (l3 : Value) (l4 : Value) (x0 : Int32) (h : zMm) (Q : Option Value → zMm → Prop), zWp d zi_208 none 53 [l0, .int l1, l2, l3, l4] [.int x0] h Q = zWp d zi_208 none 54 [l0, .int l1, l2, l3, l4] [.int l1, .int x0] h Q) ∧
    (∀ (d : Nat) (l0 : Value) (l1 : Value) (l2 : Value) (l3 : Value) (l4 : Value) (x1 : Int32) (x0 : Int32) (h : zMm) (Q : Option Value → zMm → Prop), zWp d zi_208 none 54 [l0, l1, l2, l3, l4] [.int x1, .int x0] h Q = zWp d zi_208 none 55 [l0, l1, l2, l3, l4] [.int (x0 * x1)] h Q) ∧
    (∀ (d : Nat) (l0 : Value) (l1 : Value) (l2 : Value) (l3 : Int32) (l4 : Value) (x0 : Int32) (h : zMm) (Q : Option Value → zMm → Prop), zWp d zi_208 none 55 [l0, l1, l2, .int l3, l4] [.int x0] h Q = zWp d zi_208 none 57 [l0, l1, l2, .int l3, .int x0] [] h Q) ∧
    (∀ (d : Nat) (l0 : Value) (l1 : Value) (l2 : Value) (l3 : Value) (l4 : Value) (x0 : Int32) (h : zMm) (Q : Option Value → zMm → Prop), zWp d zi_208 none 59 [l0, l1, l2, l3, l4] [.int x0] h Q = zWp d zi_208 none 61 [l0, l1, l2, l3, l4] [.int 60, .int x0] h Q) ∧
    (∀ (d : Nat) (l0 : Value) (l1 : Int32) (l2 : Value) (l3 : Value) (l4 : Value) (x1 : Int32) (x0 : Int32) (h : zMm) (Q : Option Value → zMm → Prop), zWp d zi_208 none 61 [l0, .int l1, l2, l3, l4] [.int x1, .int x0] h Q = zWp d zi_208 none 62 [l0, .int l1, l2, l3, l4] [.int l1, .int x1, .int x0] h Q) ∧
    (∀ (d : Nat) (l0 : Value) (l1 : Value) (l2 : Value) (l3 : Value) (l4 : Value) (x2 : Int32) (x1 : Int32) (x0 : Int32) (h : zMm) (Q : Option Value → zMm → Prop), zWp d zi_208 none 62 [l0, l1, l2, l3, l4] [.int x2, .int x1, .int x0] h Q = zWp d zi_208 none 63 [l0, l1, l2, l3, l4] [.int (x1 * x2), .int x0] h Q) ∧
    (∀ (d : Nat) (l0 : Value) (l1 : Value) (l2 : Value) (l3 : Value) (l4 : Value) (x1 : Int32) (x0 : Int32) (h : zMm) (Q : Option Value → zMm → Prop), zWp d zi_208 none 63 [l0, l1, l2, l3, l4] [.int x1, .int x0] h Q = zWp d zi_208 none 65 [l0, l1, l2, l3, l4] [.int 60, .int x1, .int x0] h Q) ∧
    (∀ (d : Nat) (l0 : Value) (l1 : Value) (l2 : Value) (l3 : Value) (l4 : Value) (x2 : Int32) (x1 : Int32) (x0 : Int32) (h : zMm) (Q : Option Value → zMm → Prop), zWp d zi_208 none 65 [l0, l1, l2, l3, l4] [.int x2, .int x1, .int x0] h Q = zWp d zi_208 none 66 [l0, l1, l2, l3, l4] [.int (x1 + x2), .int x0] h Q) ∧
    (∀ (d : Nat) (l0 : Value) (l1 : Value) (l2 : Value) (l3 : Value) (l4 : Value) (x1 : Int32) (x0 : Int32) (h : zMm) (Q : Option Value → zMm → Prop), zWp d zi_208 none 66 [l0, l1, l2, l3, l4] [.int x1, .int x0] h Q = if x1 ≤ x0 then zWp d zi_208 none 83 [l0, l1, l2, l3, l4] [] h Q else zWp d zi_208 none 69 [l0, l1, l2, l3, l4] [] h Q) ∧
    (∀ (d : Nat) (l0 : Nat) (l1 : Value) (l2 : Value) (l3 : Value) (l4 : Value)  (h : zMm) (Q : Option Value → zMm → Prop), zWp d zi_208 none 69 [.ref l0, l1, l2, l3, l4] [] h Q = zWp d zi_208 none 70 [.ref l0, l1, l2, l3, l4] [.ref l0] h Q) ∧
    (∀ (d : Nat) (l0 : Value) (l1 : Value) (l2 : Value) (l3 : Value) (l4 : Value) (x0 : Nat) (I : Nat → Nat → Int32) (L : Nat → Nat → Int64) (P : Nat → Nat → Option Nat) (Q : Option Value → zMm → Prop), zSH[x0]? = some (.inl 10) → zWp d zi_208 none 70 [l0, l1, l2, l3, l4] [.ref x0] (zSH, I, L, P) Q = zWp d zi_208 none 73 [l0, l1, l2, l3, l4] [va_rf (P x0 48)] (zSH, I, L, P) Q) ∧
    (∀ (d : Nat) (l0 : Value) (l1 : Value) (l2 : Value) (l3 : Value) (l4 : Int32) (x0 : Nat) (h : zMm) (Q : Option Value → zMm → Prop), zWp d zi_208 none 73 [l0, l1, l2, l3, .int l4] [.ref x0] h Q = zWp d zi_208 none 75 [l0, l1, l2, l3, .int l4] [.int l4, .ref x0] h Q) ∧
    (∀ (d : Nat) (l0 : Value) (l1 : Value) (l2 : Value) (l3 : Value) (l4 : Value) (x1 : Int32) (x0 : Nat) (h : zMm) (Q : Option Value → zMm → Prop), zWp d zi_208 none 75 [l0, l1, l2, l3, l4] [.int x1, .ref x0] h Q = zWp d zi_208 none 76 [l0, l1, l2, l3, l4] [.long 0, .int x1, .ref x0] h Q) ∧
    (∀ (d : Nat) (l0 : Value) (l1 : Value) (l2 : Value) (l3 : Value) (l4 : Value) (x2 : Int64) (x1 : Int32) (x0 : Nat) (I : Nat → Nat → Int32) (L : Nat → Nat → Int64) (P : Nat → Nat → Option Nat) (Q : Option Value → zMm → Prop), zAk zSH x0 = some .long → zWp d zi_208 none 76 [l0, l1, l2, l3, l4] [.long x2, .int x1, .ref x0] (zSH, I, L, P) Q = (vp_in x1 (zAn zSH x0) ∧ zWp d zi_208 none 77 [l0, l1, l2, l3, l4] [] (zSH, I, zw L x0 (vp_updL (L x0) x1.toNatClampNeg x2), P) Q)) ∧
    (∀ (d : Nat) (l0 : Value) (l1 : Value) (l2 : Value) (l3 : Int32) (l4 : Int32)  (h : zMm) (Q : Option Value → zMm → Prop), zWp d zi_208 none 77 [l0, l1, l2, .int l3, .int l4] [] h Q = zWp d zi_208 none 80 [l0, l1, l2, .int l3, .int (l4 + 1)] [] h Q) ∧
    (∀ (d : Nat) (l0 : Value) (l1 : Value) (l2 : Value) (l3 : Value) (l4 : Value)  (h : zMm) (Q : Option Value → zMm → Prop), zWp d zi_208 none 80 [l0, l1, l2, l3, l4] [] h Q = zWp d zi_208 none 57 [l0, l1, l2, l3, l4] [] h Q) ∧
    (∀ (d : Nat) (l0 : Value) (l1 : Value) (l2 : Value) (l3 : Value) (l4 : Value)  (h : zMm) (Q : Option Value → zMm → Prop), zWp d zi_208 none 83 [l0, l1, l2, l3, l4] [] h Q = zWp d zi_208 none 84 [l0, l1, l2, l3, l4] [.int 1] h Q) ∧
    (∀ (d : Nat) (l0 : Value) (l1 : Value) (l2 : Value) (l3 : Value) (l4 : Value) (x0 : Int32) (h : zMm) (Q : Option Value → zMm → Prop), zWp d zi_208 none 84 [l0, l1, l2, l3, l4] [.int x0] h Q = Q (some (.int x0)) h) :=
  ⟨(fun d l0 l1 l2 l3 l4  h Q => zr_iload_n rfl rfl),
   (fun d l0 l1 l2 l3 l4 x0 h Q => zr_sta (as := [.int x0]) (rest := []) rfl lm_10_135 (by decide) m_206 kd_206 rfl (Nat.le_of_ble_eq_true rfl)),
   (fun d l0 l1 l2 l3 l4 x0 h Q => zr_if_eq rfl (by decide)),
   (fun d l0 l1 l2 l3 l4  h Q => zr_iload_n rfl rfl),
   (fun d l0 l1 l2 l3 l4 x0 h Q => zr_i2l rfl),
   (fun d l0 l1 l2 l3 l4 x0 h Q => zr_lconst rfl (by decide)),
   (fun d l0 l1 l2 l3 l4 x1 x0 h Q => zr_ldc2_w rfl lj_10_121),
   (fun d l0 l1 l2 l3 l4 x2 x1 x0 h Q => zr_sta (as := [.long x2, .long x1, .long x0]) (rest := []) rfl lm_10_110 (by decide) m_122 kd_122 rfl (Nat.le_of_ble_eq_true rfl)),
   (fun d l0 l1 l2 l3 l4 x0 h Q => zr_if_eq rfl (by decide)),
   (fun d l0 l1 l2 l3 l4  h Q => zr_iload_n rfl rfl),
   (fun d l0 l1 l2 l3 l4 x0 h Q => zr_bipush rfl (by decide)),
   (fun d l0 l1 l2 l3 l4 x1 x0 h Q => zr_ic_le rfl (by decide)),
   (fun d l0 l1 l2 l3 l4  h Q => zr_iconst rfl (by decide)),
   (fun d l0 l1 l2 l3 l4 x0 h Q => zr_iret rfl rfl),
   (fun d l0 l1 l2 l3 l4  h Q => zr_iload_n rfl rfl),
   (fun d l0 l1 l2 l3 l4 x0 h Q => zr_if_ge rfl (by decide)),
   (fun d l0 l1 l2 l3 l4  h Q => zr_bipush rfl (by decide)),
   (fun d l0 l1 l2 l3 l4 x0 h Q => zr_iret rfl rfl),
   (fun d l0 l1 l2 l3 l4  h Q => zr_aload_n rfl rfl),
   (fun d l0 l1 l2 l3 l4 x0 I L P Q p0 => zr_getQ rfl lf_10_67 (fun _ _ _ => rfl) p0),
   (fun d l0 l1 l2 l3 l4 x0 h Q => zr_iload_n rfl rfl),
   (fun d l0 l1 l2 l3 l4 x1 x0 h Q => zr_bipush rfl (by decide)),
   (fun d l0 l1 l2 l3 l4 x2 x1 x0 h Q => zr_iload_n rfl rfl),
   (fun d l0 l1 l2 l3 l4 x3 x2 x1 x0 h Q => zr_iadd rfl),
   (fun d l0 l1 l2 l3 l4 x2 x1 x0 I L P Q p0 => zr_ast rfl p0),
   (fun d l0 l1 l2 l3 l4  h Q => zr_aload_n rfl rfl),
   (fun d l0 l1 l2 l3 l4 x0 I L P Q p0 => zr_getQ rfl lf_10_70 (fun _ _ _ => rfl) p0),
   (fun d l0 l1 l2 l3 l4 x0 h Q => zr_iload_n rfl rfl),
   (fun d l0 l1 l2 l3 l4 x1 x0 h Q => zr_iload_n rfl rfl),
   (fun d l0 l1 l2 l3 l4 x2 x1 x0 I L P Q p0 => zr_ast rfl p0),
   (fun d l0 l1 l2 l3 l4  h Q => zr_bipush rfl (by decide)),
   (fun d l0 l1 l2 l3 l4 x0 h Q => zr_iload_n rfl rfl),
   (fun d l0 l1 l2 l3 l4 x1 x0 h Q => zr_imul rfl),
   (fun d l0 l1 l2 l3 l4 x0 h Q => zr_istore (n := 4) rfl (Nat.le_of_ble_eq_true rfl) rfl),
   (fun d l0 l1 l2 l3 l4 x0 h Q => zr_bipush rfl (by decide)),
   (fun d l0 l1 l2 l3 l4 x1 x0 h Q => zr_iload_n rfl rfl),
   (fun d l0 l1 l2 l3 l4 x2 x1 x0 h Q => zr_imul rfl),
   (fun d l0 l1 l2 l3 l4 x1 x0 h Q => zr_bipush rfl (by decide)),
   (fun d l0 l1 l2 l3 l4 x2 x1 x0 h Q => zr_iadd rfl),
   (fun d l0 l1 l2 l3 l4 x1 x0 h Q => zr_ic_ge rfl (by decide)),
   (fun d l0 l1 l2 l3 l4  h Q => zr_aload_n rfl rfl),
   (fun d l0 l1 l2 l3 l4 x0 I L P Q p0 => zr_getQ rfl lf_10_73 (fun _ _ _ => rfl) p0),
   (fun d l0 l1 l2 l3 l4 x0 h Q => zr_iload rfl rfl),
   (fun d l0 l1 l2 l3 l4 x1 x0 h Q => zr_lconst rfl (by decide)),
   (fun d l0 l1 l2 l3 l4 x2 x1 x0 I L P Q p0 => zr_lst rfl p0),
   (fun d l0 l1 l2 l3 l4  h Q => zr_iinc (n := 4) (kc := 1) rfl rfl (Nat.le_of_ble_eq_true rfl) rfl (by decide)),
   (fun d l0 l1 l2 l3 l4  h Q => zr_goto rfl (by decide)),
   (fun d l0 l1 l2 l3 l4  h Q => zr_iconst rfl (by decide)),
   (fun d l0 l1 l2 l3 l4 x0 h Q => zr_iret rfl rfl)⟩
theorem H_X10_row_57 : ∀ (d : Nat) (l0 : Value) (l1 : Value) (l2 : Value) (l3 : Value) (l4 : Int32)  (h : zMm) (Q : Option Value → zMm → Prop), zWp d zi_208 none 57 [l0, l1, l2, l3, .int l4] [] h Q = zWp d zi_208 none 59 [l0, l1, l2, l3, .int l4] [.int l4] h Q := fun d l0 l1 l2 l3 l4  h Q => zr_iload rfl rfl
theorem E_X10_refusal : ∀ (d : Nat) (a0 : Nat) (a1 : Int32) (a2 : Int32) (h : zMm) (Q : Option Value → zMm → Prop), zWM (d + 1) 209 [.ref a0, .int a1, .int a2] h Q = zWp d zi_209 none 0 [.ref a0, .int a1, .int a2] [] h Q := fun d a0 a1 a2 h Q => zW_M m_209 (Nat.le_of_ble_eq_true rfl) rfl
set_option maxRecDepth 100000 in
theorem R_X10_refusal :
    (∀ (d : Nat) (l0 : Value) (l1 : Int32) (l2 : Value)  (h : zMm) (Q : Option Value → zMm → Prop), zWp d zi_209 none 0 [l0, .int l1, l2] [] h Q = zWp d zi_209 none 1 [l0, .int l1, l2] [.int l1] h Q) ∧
    (∀ (d : Nat) (l0 : Value) (l1 : Value) (l2 : Value) (x0 : Int32) (h : zMm) (Q : Option Value → zMm → Prop), zWp d zi_209 none 1 [l0, l1, l2] [.int x0] h Q = zWM d 206 [.int x0] h (fun r h1 => zWp d zi_209 none 4 [l0, l1, l2] (r.toList ++ []) h1 Q)) ∧
    (∀ (d : Nat) (l0 : Value) (l1 : Value) (l2 : Value) (x0 : Int32) (h : zMm) (Q : Option Value → zMm → Prop), zWp d zi_209 none 4 [l0, l1, l2] [.int x0] h Q = if x0 = 0 then zWp d zi_209 none 7 [l0, l1, l2] [] h Q else zWp d zi_209 none 9 [l0, l1, l2] [] h Q) ∧
    (∀ (d : Nat) (l0 : Value) (l1 : Value) (l2 : Value)  (h : zMm) (Q : Option Value → zMm → Prop), zWp d zi_209 none 7 [l0, l1, l2] [] h Q = zWp d zi_209 none 8 [l0, l1, l2] [.int (-1)] h Q) ∧
    (∀ (d : Nat) (l0 : Value) (l1 : Value) (l2 : Value) (x0 : Int32) (h : zMm) (Q : Option Value → zMm → Prop), zWp d zi_209 none 8 [l0, l1, l2] [.int x0] h Q = Q (some (.int x0)) h) ∧
    (∀ (d : Nat) (l0 : Nat) (l1 : Value) (l2 : Value)  (h : zMm) (Q : Option Value → zMm → Prop), zWp d zi_209 none 9 [.ref l0, l1, l2] [] h Q = zWp d zi_209 none 10 [.ref l0, l1, l2] [.ref l0] h Q) ∧
    (∀ (d : Nat) (l0 : Value) (l1 : Value) (l2 : Value) (x0 : Nat) (I : Nat → Nat → Int32) (L : Nat → Nat → Int64) (P : Nat → Nat → Option Nat) (Q : Option Value → zMm → Prop), zSH[x0]? = some (.inl 10) → zWp d zi_209 none 10 [l0, l1, l2] [.ref x0] (zSH, I, L, P) Q = zWp d zi_209 none 13 [l0, l1, l2] [va_rf (P x0 46)] (zSH, I, L, P) Q) ∧
    (∀ (d : Nat) (l0 : Value) (l1 : Int32) (l2 : Value) (x0 : Nat) (h : zMm) (Q : Option Value → zMm → Prop), zWp d zi_209 none 13 [l0, .int l1, l2] [.ref x0] h Q = zWp d zi_209 none 14 [l0, .int l1, l2] [.int l1, .ref x0] h Q) ∧
    (∀ (d : Nat) (l0 : Value) (l1 : Value) (l2 : Value) (x1 : Int32) (x0 : Nat) (I : Nat → Nat → Int32) (L : Nat → Nat → Int64) (P : Nat → Nat → Option Nat) (Q : Option Value → zMm → Prop), zAk zSH x0 = some .int → zWp d zi_209 none 14 [l0, l1, l2] [.int x1, .ref x0] (zSH, I, L, P) Q = (vp_in x1 (zAn zSH x0) ∧ zWp d zi_209 none 15 [l0, l1, l2] [.int (I x0 x1.toNatClampNeg)] (zSH, I, L, P) Q)) ∧
    (∀ (d : Nat) (l0 : Value) (l1 : Value) (l2 : Value) (x0 : Int32) (h : zMm) (Q : Option Value → zMm → Prop), zWp d zi_209 none 15 [l0, l1, l2] [.int x0] h Q = if 0 ≤ x0 then zWp d zi_209 none 21 [l0, l1, l2] [] h Q else zWp d zi_209 none 18 [l0, l1, l2] [] h Q) ∧
    (∀ (d : Nat) (l0 : Value) (l1 : Value) (l2 : Value)  (h : zMm) (Q : Option Value → zMm → Prop), zWp d zi_209 none 18 [l0, l1, l2] [] h Q = zWp d zi_209 none 20 [l0, l1, l2] [.int (-11)] h Q) ∧
    (∀ (d : Nat) (l0 : Value) (l1 : Value) (l2 : Value) (x0 : Int32) (h : zMm) (Q : Option Value → zMm → Prop), zWp d zi_209 none 20 [l0, l1, l2] [.int x0] h Q = Q (some (.int x0)) h) ∧
    (∀ (d : Nat) (l0 : Nat) (l1 : Value) (l2 : Value)  (h : zMm) (Q : Option Value → zMm → Prop), zWp d zi_209 none 21 [.ref l0, l1, l2] [] h Q = zWp d zi_209 none 22 [.ref l0, l1, l2] [.ref l0] h Q) ∧
    (∀ (d : Nat) (l0 : Value) (l1 : Value) (l2 : Value) (x0 : Nat) (I : Nat → Nat → Int32) (L : Nat → Nat → Int64) (P : Nat → Nat → Option Nat) (Q : Option Value → zMm → Prop), zSH[x0]? = some (.inl 10) → zWp d zi_209 none 22 [l0, l1, l2] [.ref x0] (zSH, I, L, P) Q = zWp d zi_209 none 25 [l0, l1, l2] [va_rf (P x0 46)] (zSH, I, L, P) Q) ∧
    (∀ (d : Nat) (l0 : Value) (l1 : Int32) (l2 : Value) (x0 : Nat) (h : zMm) (Q : Option Value → zMm → Prop), zWp d zi_209 none 25 [l0, .int l1, l2] [.ref x0] h Q = zWp d zi_209 none 26 [l0, .int l1, l2] [.int l1, .ref x0] h Q) ∧
    (∀ (d : Nat) (l0 : Value) (l1 : Value) (l2 : Value) (x1 : Int32) (x0 : Nat) (I : Nat → Nat → Int32) (L : Nat → Nat → Int64) (P : Nat → Nat → Option Nat) (Q : Option Value → zMm → Prop), zAk zSH x0 = some .int → zWp d zi_209 none 26 [l0, l1, l2] [.int x1, .ref x0] (zSH, I, L, P) Q = (vp_in x1 (zAn zSH x0) ∧ zWp d zi_209 none 27 [l0, l1, l2] [.int (I x0 x1.toNatClampNeg)] (zSH, I, L, P) Q)) ∧
    (∀ (d : Nat) (l0 : Value) (l1 : Value) (l2 : Value) (x0 : Int32) (h : zMm) (Q : Option Value → zMm → Prop), zWp d zi_209 none 27 [l0, l1, l2] [.int x0] h Q = zWp d zi_209 none 29 [l0, l1, l2] [.int 50, .int x0] h Q) ∧
    (∀ (d : Nat) (l0 : Value) (l1 : Value) (l2 : Value) (x1 : Int32) (x0 : Int32) (h : zMm) (Q : Option Value → zMm → Prop), zWp d zi_209 none 29 [l0, l1, l2] [.int x1, .int x0] h Q = if x1 ≤ x0 then zWp d zi_209 none 35 [l0, l1, l2] [] h Q else zWp d zi_209 none 32 [l0, l1, l2] [] h Q) ∧
    (∀ (d : Nat) (l0 : Value) (l1 : Value) (l2 : Value)  (h : zMm) (Q : Option Value → zMm → Prop), zWp d zi_209 none 32 [l0, l1, l2] [] h Q = zWp d zi_209 none 34 [l0, l1, l2] [.int (-12)] h Q) ∧
    (∀ (d : Nat) (l0 : Value) (l1 : Value) (l2 : Value) (x0 : Int32) (h : zMm) (Q : Option Value → zMm → Prop), zWp d zi_209 none 34 [l0, l1, l2] [.int x0] h Q = Q (some (.int x0)) h) ∧
    (∀ (d : Nat) (l0 : Value) (l1 : Value) (l2 : Int32)  (h : zMm) (Q : Option Value → zMm → Prop), zWp d zi_209 none 35 [l0, l1, .int l2] [] h Q = zWp d zi_209 none 36 [l0, l1, .int l2] [.int l2] h Q) ∧
    (∀ (d : Nat) (l0 : Value) (l1 : Value) (l2 : Value) (x0 : Int32) (h : zMm) (Q : Option Value → zMm → Prop), zWp d zi_209 none 36 [l0, l1, l2] [.int x0] h Q = if x0 < 0 then zWp d zi_209 none 53 [l0, l1, l2] [] h Q else zWp d zi_209 none 39 [l0, l1, l2] [] h Q) ∧
    (∀ (d : Nat) (l0 : Value) (l1 : Value) (l2 : Int32)  (h : zMm) (Q : Option Value → zMm → Prop), zWp d zi_209 none 39 [l0, l1, .int l2] [] h Q = zWp d zi_209 none 40 [l0, l1, .int l2] [.int l2] h Q) ∧
    (∀ (d : Nat) (l0 : Nat) (l1 : Value) (l2 : Value) (x0 : Int32) (h : zMm) (Q : Option Value → zMm → Prop), zWp d zi_209 none 40 [.ref l0, l1, l2] [.int x0] h Q = zWp d zi_209 none 41 [.ref l0, l1, l2] [.ref l0, .int x0] h Q) ∧
    (∀ (d : Nat) (l0 : Value) (l1 : Value) (l2 : Value) (x1 : Nat) (x0 : Int32) (I : Nat → Nat → Int32) (L : Nat → Nat → Int64) (P : Nat → Nat → Option Nat) (Q : Option Value → zMm → Prop), zSH[x1]? = some (.inl 10) → zWp d zi_209 none 41 [l0, l1, l2] [.ref x1, .int x0] (zSH, I, L, P) Q = zWp d zi_209 none 44 [l0, l1, l2] [va_rf (P x1 47), .int x0] (zSH, I, L, P) Q) ∧
    (∀ (d : Nat) (l0 : Value) (l1 : Int32) (l2 : Value) (x1 : Nat) (x0 : Int32) (h : zMm) (Q : Option Value → zMm → Prop), zWp d zi_209 none 44 [l0, .int l1, l2] [.ref x1, .int x0] h Q = zWp d zi_209 none 45 [l0, .int l1, l2] [.int l1, .ref x1, .int x0] h Q) ∧
    (∀ (d : Nat) (l0 : Value) (l1 : Value) (l2 : Value) (x2 : Int32) (x1 : Nat) (x0 : Int32) (I : Nat → Nat → Int32) (L : Nat → Nat → Int64) (P : Nat → Nat → Option Nat) (Q : Option Value → zMm → Prop), zAk zSH x1 = some .int → zWp d zi_209 none 45 [l0, l1, l2] [.int x2, .ref x1, .int x0] (zSH, I, L, P) Q = (vp_in x2 (zAn zSH x1) ∧ zWp d zi_209 none 46 [l0, l1, l2] [.int (I x1 x2.toNatClampNeg), .int x0] (zSH, I, L, P) Q)) ∧
    (∀ (d : Nat) (l0 : Value) (l1 : Value) (l2 : Value) (x1 : Int32) (x0 : Int32) (h : zMm) (Q : Option Value → zMm → Prop), zWp d zi_209 none 46 [l0, l1, l2] [.int x1, .int x0] h Q = if x1 ≤ x0 then zWp d zi_209 none 53 [l0, l1, l2] [] h Q else zWp d zi_209 none 49 [l0, l1, l2] [] h Q) ∧
    (∀ (d : Nat) (l0 : Value) (l1 : Value) (l2 : Value)  (h : zMm) (Q : Option Value → zMm → Prop), zWp d zi_209 none 49 [l0, l1, l2] [] h Q = zWp d zi_209 none 50 [l0, l1, l2] [.int 0] h Q) ∧
    (∀ (d : Nat) (l0 : Value) (l1 : Value) (l2 : Value) (x0 : Int32) (h : zMm) (Q : Option Value → zMm → Prop), zWp d zi_209 none 50 [l0, l1, l2] [.int x0] h Q = zWp d zi_209 none 55 [l0, l1, l2] [.int x0] h Q) ∧
    (∀ (d : Nat) (l0 : Value) (l1 : Value) (l2 : Value)  (h : zMm) (Q : Option Value → zMm → Prop), zWp d zi_209 none 53 [l0, l1, l2] [] h Q = zWp d zi_209 none 55 [l0, l1, l2] [.int (-13)] h Q) ∧
    (∀ (d : Nat) (l0 : Value) (l1 : Value) (l2 : Value) (x0 : Int32) (h : zMm) (Q : Option Value → zMm → Prop), zWp d zi_209 none 55 [l0, l1, l2] [.int x0] h Q = Q (some (.int x0)) h) :=
  ⟨(fun d l0 l1 l2  h Q => zr_iload_n rfl rfl),
   (fun d l0 l1 l2 x0 h Q => zr_sta (as := [.int x0]) (rest := []) rfl lm_10_135 (by decide) m_206 kd_206 rfl (Nat.le_of_ble_eq_true rfl)),
   (fun d l0 l1 l2 x0 h Q => zr_if_ne rfl (by decide)),
   (fun d l0 l1 l2  h Q => zr_iconst rfl (by decide)),
   (fun d l0 l1 l2 x0 h Q => zr_iret rfl rfl),
   (fun d l0 l1 l2  h Q => zr_aload_n rfl rfl),
   (fun d l0 l1 l2 x0 I L P Q p0 => zr_getQ rfl lf_10_67 (fun _ _ _ => rfl) p0),
   (fun d l0 l1 l2 x0 h Q => zr_iload_n rfl rfl),
   (fun d l0 l1 l2 x1 x0 I L P Q p0 => zr_ald rfl p0),
   (fun d l0 l1 l2 x0 h Q => zr_if_ge rfl (by decide)),
   (fun d l0 l1 l2  h Q => zr_bipush rfl (by decide)),
   (fun d l0 l1 l2 x0 h Q => zr_iret rfl rfl),
   (fun d l0 l1 l2  h Q => zr_aload_n rfl rfl),
   (fun d l0 l1 l2 x0 I L P Q p0 => zr_getQ rfl lf_10_67 (fun _ _ _ => rfl) p0),
   (fun d l0 l1 l2 x0 h Q => zr_iload_n rfl rfl),
   (fun d l0 l1 l2 x1 x0 I L P Q p0 => zr_ald rfl p0),
   (fun d l0 l1 l2 x0 h Q => zr_bipush rfl (by decide)),
   (fun d l0 l1 l2 x1 x0 h Q => zr_ic_ge rfl (by decide)),
   (fun d l0 l1 l2  h Q => zr_bipush rfl (by decide)),
   (fun d l0 l1 l2 x0 h Q => zr_iret rfl rfl),
   (fun d l0 l1 l2  h Q => zr_iload_n rfl rfl),
   (fun d l0 l1 l2 x0 h Q => zr_if_lt rfl (by decide)),
   (fun d l0 l1 l2  h Q => zr_iload_n rfl rfl),
   (fun d l0 l1 l2 x0 h Q => zr_aload_n rfl rfl),
   (fun d l0 l1 l2 x1 x0 I L P Q p0 => zr_getQ rfl lf_10_70 (fun _ _ _ => rfl) p0),
   (fun d l0 l1 l2 x1 x0 h Q => zr_iload_n rfl rfl),
   (fun d l0 l1 l2 x2 x1 x0 I L P Q p0 => zr_ald rfl p0),
   (fun d l0 l1 l2 x1 x0 h Q => zr_ic_ge rfl (by decide)),
   (fun d l0 l1 l2  h Q => zr_iconst rfl (by decide)),
   (fun d l0 l1 l2 x0 h Q => zr_goto rfl (by decide)),
   (fun d l0 l1 l2  h Q => zr_bipush rfl (by decide)),
   (fun d l0 l1 l2 x0 h Q => zr_iret rfl rfl)⟩
theorem E_X10_asSort : ∀ (d : Nat) (a0 : Int32) (a1 : Int64) (h : zMm) (Q : Option Value → zMm → Prop), zWM (d + 1) 210 [.int a0, .long a1] h Q = zWp d zi_210 none 0 [.int a0, .long a1, .retAddr 0] [] h Q := fun d a0 a1 h Q => zW_M m_210 (Nat.le_of_ble_eq_true rfl) rfl
set_option maxRecDepth 100000 in
theorem R_X10_asSort :
    (∀ (d : Nat) (l0 : Int32) (l1 : Value) (l2 : Value)  (h : zMm) (Q : Option Value → zMm → Prop), zWp d zi_210 none 0 [.int l0, l1, l2] [] h Q = zWp d zi_210 none 1 [.int l0, l1, l2] [.int l0] h Q) ∧
    (∀ (d : Nat) (l0 : Value) (l1 : Value) (l2 : Value) (x0 : Int32) (h : zMm) (Q : Option Value → zMm → Prop), zWp d zi_210 none 1 [l0, l1, l2] [.int x0] h Q = if x0 = 0 then zWp d zi_210 none 4 [l0, l1, l2] [] h Q else zWp d zi_210 none 11 [l0, l1, l2] [] h Q) ∧
    (∀ (d : Nat) (l0 : Value) (l1 : Int64) (l2 : Value)  (h : zMm) (Q : Option Value → zMm → Prop), zWp d zi_210 none 4 [l0, .long l1, l2] [] h Q = zWp d zi_210 none 5 [l0, .long l1, l2] [.long l1] h Q) ∧
    (∀ (d : Nat) (l0 : Value) (l1 : Value) (l2 : Value) (x0 : Int64) (h : zMm) (Q : Option Value → zMm → Prop), zWp d zi_210 none 5 [l0, l1, l2] [.long x0] h Q = zWp d zi_210 none 6 [l0, l1, l2] [.int x0.toInt32] h Q) ∧
    (∀ (d : Nat) (l0 : Value) (l1 : Value) (l2 : Value) (x0 : Int32) (h : zMm) (Q : Option Value → zMm → Prop), zWp d zi_210 none 6 [l0, l1, l2] [.int x0] h Q = zWp d zi_210 none 7 [l0, l1, l2] [.int x0.toInt8.toInt32] h Q) ∧
    (∀ (d : Nat) (l0 : Value) (l1 : Value) (l2 : Value) (x0 : Int32) (h : zMm) (Q : Option Value → zMm → Prop), zWp d zi_210 none 7 [l0, l1, l2] [.int x0] h Q = zWp d zi_210 none 8 [l0, l1, l2] [.long x0.toInt64] h Q) ∧
    (∀ (d : Nat) (l0 : Value) (l1 : Value) (l2 : Value) (x0 : Int64) (h : zMm) (Q : Option Value → zMm → Prop), zWp d zi_210 none 8 [l0, l1, l2] [.long x0] h Q = zWp d zi_210 none 54 [l0, l1, l2] [.long x0] h Q) ∧
    (∀ (d : Nat) (l0 : Int32) (l1 : Value) (l2 : Value)  (h : zMm) (Q : Option Value → zMm → Prop), zWp d zi_210 none 11 [.int l0, l1, l2] [] h Q = zWp d zi_210 none 12 [.int l0, l1, l2] [.int l0] h Q) ∧
    (∀ (d : Nat) (l0 : Value) (l1 : Value) (l2 : Value) (x0 : Int32) (h : zMm) (Q : Option Value → zMm → Prop), zWp d zi_210 none 12 [l0, l1, l2] [.int x0] h Q = zWp d zi_210 none 13 [l0, l1, l2] [.int 1, .int x0] h Q) ∧
    (∀ (d : Nat) (l0 : Value) (l1 : Value) (l2 : Value) (x1 : Int32) (x0 : Int32) (h : zMm) (Q : Option Value → zMm → Prop), zWp d zi_210 none 13 [l0, l1, l2] [.int x1, .int x0] h Q = if x0 = x1 then zWp d zi_210 none 16 [l0, l1, l2] [] h Q else zWp d zi_210 none 23 [l0, l1, l2] [] h Q) ∧
    (∀ (d : Nat) (l0 : Value) (l1 : Int64) (l2 : Value)  (h : zMm) (Q : Option Value → zMm → Prop), zWp d zi_210 none 16 [l0, .long l1, l2] [] h Q = zWp d zi_210 none 17 [l0, .long l1, l2] [.long l1] h Q) ∧
    (∀ (d : Nat) (l0 : Value) (l1 : Value) (l2 : Value) (x0 : Int64) (h : zMm) (Q : Option Value → zMm → Prop), zWp d zi_210 none 17 [l0, l1, l2] [.long x0] h Q = zWp d zi_210 none 18 [l0, l1, l2] [.int x0.toInt32] h Q) ∧
    (∀ (d : Nat) (l0 : Value) (l1 : Value) (l2 : Value) (x0 : Int32) (h : zMm) (Q : Option Value → zMm → Prop), zWp d zi_210 none 18 [l0, l1, l2] [.int x0] h Q = zWp d zi_210 none 19 [l0, l1, l2] [.int x0.toInt16.toInt32] h Q) ∧
    (∀ (d : Nat) (l0 : Value) (l1 : Value) (l2 : Value) (x0 : Int32) (h : zMm) (Q : Option Value → zMm → Prop), zWp d zi_210 none 19 [l0, l1, l2] [.int x0] h Q = zWp d zi_210 none 20 [l0, l1, l2] [.long x0.toInt64] h Q) ∧
    (∀ (d : Nat) (l0 : Value) (l1 : Value) (l2 : Value) (x0 : Int64) (h : zMm) (Q : Option Value → zMm → Prop), zWp d zi_210 none 20 [l0, l1, l2] [.long x0] h Q = zWp d zi_210 none 54 [l0, l1, l2] [.long x0] h Q) ∧
    (∀ (d : Nat) (l0 : Int32) (l1 : Value) (l2 : Value)  (h : zMm) (Q : Option Value → zMm → Prop), zWp d zi_210 none 23 [.int l0, l1, l2] [] h Q = zWp d zi_210 none 24 [.int l0, l1, l2] [.int l0] h Q) ∧
    (∀ (d : Nat) (l0 : Value) (l1 : Value) (l2 : Value) (x0 : Int32) (h : zMm) (Q : Option Value → zMm → Prop), zWp d zi_210 none 24 [l0, l1, l2] [.int x0] h Q = zWp d zi_210 none 25 [l0, l1, l2] [.int 2, .int x0] h Q) ∧
    (∀ (d : Nat) (l0 : Value) (l1 : Value) (l2 : Value) (x1 : Int32) (x0 : Int32) (h : zMm) (Q : Option Value → zMm → Prop), zWp d zi_210 none 25 [l0, l1, l2] [.int x1, .int x0] h Q = if x0 = x1 then zWp d zi_210 none 28 [l0, l1, l2] [] h Q else zWp d zi_210 none 34 [l0, l1, l2] [] h Q) ∧
    (∀ (d : Nat) (l0 : Value) (l1 : Int64) (l2 : Value)  (h : zMm) (Q : Option Value → zMm → Prop), zWp d zi_210 none 28 [l0, .long l1, l2] [] h Q = zWp d zi_210 none 29 [l0, .long l1, l2] [.long l1] h Q) ∧
    (∀ (d : Nat) (l0 : Value) (l1 : Value) (l2 : Value) (x0 : Int64) (h : zMm) (Q : Option Value → zMm → Prop), zWp d zi_210 none 29 [l0, l1, l2] [.long x0] h Q = zWp d zi_210 none 30 [l0, l1, l2] [.int x0.toInt32] h Q) ∧
    (∀ (d : Nat) (l0 : Value) (l1 : Value) (l2 : Value) (x0 : Int32) (h : zMm) (Q : Option Value → zMm → Prop), zWp d zi_210 none 30 [l0, l1, l2] [.int x0] h Q = zWp d zi_210 none 31 [l0, l1, l2] [.long x0.toInt64] h Q) ∧
    (∀ (d : Nat) (l0 : Value) (l1 : Value) (l2 : Value) (x0 : Int64) (h : zMm) (Q : Option Value → zMm → Prop), zWp d zi_210 none 31 [l0, l1, l2] [.long x0] h Q = zWp d zi_210 none 54 [l0, l1, l2] [.long x0] h Q) ∧
    (∀ (d : Nat) (l0 : Int32) (l1 : Value) (l2 : Value)  (h : zMm) (Q : Option Value → zMm → Prop), zWp d zi_210 none 34 [.int l0, l1, l2] [] h Q = zWp d zi_210 none 35 [.int l0, l1, l2] [.int l0] h Q) ∧
    (∀ (d : Nat) (l0 : Value) (l1 : Value) (l2 : Value) (x0 : Int32) (h : zMm) (Q : Option Value → zMm → Prop), zWp d zi_210 none 35 [l0, l1, l2] [.int x0] h Q = zWp d zi_210 none 36 [l0, l1, l2] [.int 4, .int x0] h Q) ∧
    (∀ (d : Nat) (l0 : Value) (l1 : Value) (l2 : Value) (x1 : Int32) (x0 : Int32) (h : zMm) (Q : Option Value → zMm → Prop), zWp d zi_210 none 36 [l0, l1, l2] [.int x1, .int x0] h Q = if x0 = x1 then zWp d zi_210 none 39 [l0, l1, l2] [] h Q else zWp d zi_210 none 53 [l0, l1, l2] [] h Q) ∧
    (∀ (d : Nat) (l0 : Value) (l1 : Int64) (l2 : Value)  (h : zMm) (Q : Option Value → zMm → Prop), zWp d zi_210 none 39 [l0, .long l1, l2] [] h Q = zWp d zi_210 none 40 [l0, .long l1, l2] [.long l1] h Q) ∧
    (∀ (d : Nat) (l0 : Value) (l1 : Value) (l2 : Value) (x0 : Int64) (h : zMm) (Q : Option Value → zMm → Prop), zWp d zi_210 none 40 [l0, l1, l2] [.long x0] h Q = zWp d zi_210 none 41 [l0, l1, l2] [.long 0, .long x0] h Q) ∧
    (∀ (d : Nat) (l0 : Value) (l1 : Value) (l2 : Value) (x1 : Int64) (x0 : Int64) (h : zMm) (Q : Option Value → zMm → Prop), zWp d zi_210 none 41 [l0, l1, l2] [.long x1, .long x0] h Q = zWp d zi_210 none 42 [l0, l1, l2] [.int (lg_cmp x0 x1)] h Q) ∧
    (∀ (d : Nat) (l0 : Value) (l1 : Value) (l2 : Value) (x0 : Int32) (h : zMm) (Q : Option Value → zMm → Prop), zWp d zi_210 none 42 [l0, l1, l2] [.int x0] h Q = if x0 = 0 then zWp d zi_210 none 49 [l0, l1, l2] [] h Q else zWp d zi_210 none 45 [l0, l1, l2] [] h Q) ∧
    (∀ (d : Nat) (l0 : Value) (l1 : Value) (l2 : Value)  (h : zMm) (Q : Option Value → zMm → Prop), zWp d zi_210 none 45 [l0, l1, l2] [] h Q = zWp d zi_210 none 46 [l0, l1, l2] [.long 1] h Q) ∧
    (∀ (d : Nat) (l0 : Value) (l1 : Value) (l2 : Value) (x0 : Int64) (h : zMm) (Q : Option Value → zMm → Prop), zWp d zi_210 none 46 [l0, l1, l2] [.long x0] h Q = zWp d zi_210 none 54 [l0, l1, l2] [.long x0] h Q) ∧
    (∀ (d : Nat) (l0 : Value) (l1 : Value) (l2 : Value)  (h : zMm) (Q : Option Value → zMm → Prop), zWp d zi_210 none 49 [l0, l1, l2] [] h Q = zWp d zi_210 none 50 [l0, l1, l2] [.long 0] h Q) ∧
    (∀ (d : Nat) (l0 : Value) (l1 : Value) (l2 : Value) (x0 : Int64) (h : zMm) (Q : Option Value → zMm → Prop), zWp d zi_210 none 50 [l0, l1, l2] [.long x0] h Q = zWp d zi_210 none 54 [l0, l1, l2] [.long x0] h Q) ∧
    (∀ (d : Nat) (l0 : Value) (l1 : Int64) (l2 : Value)  (h : zMm) (Q : Option Value → zMm → Prop), zWp d zi_210 none 53 [l0, .long l1, l2] [] h Q = zWp d zi_210 none 54 [l0, .long l1, l2] [.long l1] h Q) ∧
    (∀ (d : Nat) (l0 : Value) (l1 : Value) (l2 : Value) (x0 : Int64) (h : zMm) (Q : Option Value → zMm → Prop), zWp d zi_210 none 54 [l0, l1, l2] [.long x0] h Q = Q (some (.long x0)) h) :=
  ⟨(fun d l0 l1 l2  h Q => zr_iload_n rfl rfl),
   (fun d l0 l1 l2 x0 h Q => zr_if_ne rfl (by decide)),
   (fun d l0 l1 l2  h Q => zr_lload_n rfl rfl),
   (fun d l0 l1 l2 x0 h Q => zr_l2i rfl),
   (fun d l0 l1 l2 x0 h Q => zr_i2b rfl),
   (fun d l0 l1 l2 x0 h Q => zr_i2l rfl),
   (fun d l0 l1 l2 x0 h Q => zr_goto rfl (by decide)),
   (fun d l0 l1 l2  h Q => zr_iload_n rfl rfl),
   (fun d l0 l1 l2 x0 h Q => zr_iconst rfl (by decide)),
   (fun d l0 l1 l2 x1 x0 h Q => zr_ic_ne rfl (by decide)),
   (fun d l0 l1 l2  h Q => zr_lload_n rfl rfl),
   (fun d l0 l1 l2 x0 h Q => zr_l2i rfl),
   (fun d l0 l1 l2 x0 h Q => zr_i2s rfl),
   (fun d l0 l1 l2 x0 h Q => zr_i2l rfl),
   (fun d l0 l1 l2 x0 h Q => zr_goto rfl (by decide)),
   (fun d l0 l1 l2  h Q => zr_iload_n rfl rfl),
   (fun d l0 l1 l2 x0 h Q => zr_iconst rfl (by decide)),
   (fun d l0 l1 l2 x1 x0 h Q => zr_ic_ne rfl (by decide)),
   (fun d l0 l1 l2  h Q => zr_lload_n rfl rfl),
   (fun d l0 l1 l2 x0 h Q => zr_l2i rfl),
   (fun d l0 l1 l2 x0 h Q => zr_i2l rfl),
   (fun d l0 l1 l2 x0 h Q => zr_goto rfl (by decide)),
   (fun d l0 l1 l2  h Q => zr_iload_n rfl rfl),
   (fun d l0 l1 l2 x0 h Q => zr_iconst rfl (by decide)),
   (fun d l0 l1 l2 x1 x0 h Q => zr_ic_ne rfl (by decide)),
   (fun d l0 l1 l2  h Q => zr_lload_n rfl rfl),
   (fun d l0 l1 l2 x0 h Q => zr_lconst rfl (by decide)),
   (fun d l0 l1 l2 x1 x0 h Q => zr_lcmp rfl),
   (fun d l0 l1 l2 x0 h Q => zr_if_eq rfl (by decide)),
   (fun d l0 l1 l2  h Q => zr_lconst rfl (by decide)),
   (fun d l0 l1 l2 x0 h Q => zr_goto rfl (by decide)),
   (fun d l0 l1 l2  h Q => zr_lconst rfl (by decide)),
   (fun d l0 l1 l2 x0 h Q => zr_goto rfl (by decide)),
   (fun d l0 l1 l2  h Q => zr_lload_n rfl rfl),
   (fun d l0 l1 l2 x0 h Q => zr_lret rfl rfl)⟩
theorem E_X10_put : ∀ (d : Nat) (a0 : Nat) (a1 : Int32) (a2 : Int32) (a3 : Int64) (h : zMm) (Q : Option Value → zMm → Prop), zWM (d + 1) 211 [.ref a0, .int a1, .int a2, .long a3] h Q = zWp d zi_211 none 0 [.ref a0, .int a1, .int a2, .long a3, .retAddr 0, .retAddr 0] [] h Q := fun d a0 a1 a2 a3 h Q => zW_M m_211 (Nat.le_of_ble_eq_true rfl) rfl
set_option maxRecDepth 100000 in
theorem R_X10_put :
    (∀ (d : Nat) (l0 : Nat) (l1 : Value) (l2 : Value) (l3 : Value) (l4 : Value) (l5 : Value)  (h : zMm) (Q : Option Value → zMm → Prop), zWp d zi_211 none 0 [.ref l0, l1, l2, l3, l4, l5] [] h Q = zWp d zi_211 none 1 [.ref l0, l1, l2, l3, l4, l5] [.ref l0] h Q) ∧
    (∀ (d : Nat) (l0 : Value) (l1 : Int32) (l2 : Value) (l3 : Value) (l4 : Value) (l5 : Value) (x0 : Nat) (h : zMm) (Q : Option Value → zMm → Prop), zWp d zi_211 none 1 [l0, .int l1, l2, l3, l4, l5] [.ref x0] h Q = zWp d zi_211 none 2 [l0, .int l1, l2, l3, l4, l5] [.int l1, .ref x0] h Q) ∧
    (∀ (d : Nat) (l0 : Value) (l1 : Value) (l2 : Int32) (l3 : Value) (l4 : Value) (l5 : Value) (x1 : Int32) (x0 : Nat) (h : zMm) (Q : Option Value → zMm → Prop), zWp d zi_211 none 2 [l0, l1, .int l2, l3, l4, l5] [.int x1, .ref x0] h Q = zWp d zi_211 none 3 [l0, l1, .int l2, l3, l4, l5] [.int l2, .int x1, .ref x0] h Q) ∧
    (∀ (d : Nat) (l0 : Value) (l1 : Value) (l2 : Value) (l3 : Value) (l4 : Value) (l5 : Value) (x2 : Int32) (x1 : Int32) (x0 : Nat) (I : Nat → Nat → Int32) (L : Nat → Nat → Int64) (P : Nat → Nat → Option Nat) (Q : Option Value → zMm → Prop), zSH[x0]? = some (.inl 10) → zWp d zi_211 none 3 [l0, l1, l2, l3, l4, l5] [.int x2, .int x1, .ref x0] (zSH, I, L, P) Q = zWM d 209 [.ref x0, .int x1, .int x2] (zSH, I, L, P) (fun r h1 => zWp d zi_211 none 6 [l0, l1, l2, l3, l4, l5] (r.toList ++ []) h1 Q)) ∧
    (∀ (d : Nat) (l0 : Value) (l1 : Value) (l2 : Value) (l3 : Value) (l4 : Value) (l5 : Value) (x0 : Int32) (h : zMm) (Q : Option Value → zMm → Prop), zok2 [l0, l1, l2, l3, l4, l5] 5 = true → zWp d zi_211 none 6 [l0, l1, l2, l3, l4, l5] [.int x0] h Q = zWp d zi_211 none 8 [l0, l1, l2, l3, l4, .int x0] [] h Q) ∧
    (∀ (d : Nat) (l0 : Value) (l1 : Value) (l2 : Value) (l3 : Value) (l4 : Value) (l5 : Int32)  (h : zMm) (Q : Option Value → zMm → Prop), zWp d zi_211 none 8 [l0, l1, l2, l3, l4, .int l5] [] h Q = zWp d zi_211 none 10 [l0, l1, l2, l3, l4, .int l5] [.int l5] h Q) ∧
    (∀ (d : Nat) (l0 : Value) (l1 : Value) (l2 : Value) (l3 : Value) (l4 : Value) (l5 : Value) (x0 : Int32) (h : zMm) (Q : Option Value → zMm → Prop), zWp d zi_211 none 10 [l0, l1, l2, l3, l4, l5] [.int x0] h Q = if x0 = 0 then zWp d zi_211 none 13 [l0, l1, l2, l3, l4, l5] [] h Q else zWp d zi_211 none 37 [l0, l1, l2, l3, l4, l5] [] h Q) ∧
    (∀ (d : Nat) (l0 : Nat) (l1 : Value) (l2 : Value) (l3 : Value) (l4 : Value) (l5 : Value)  (h : zMm) (Q : Option Value → zMm → Prop), zWp d zi_211 none 13 [.ref l0, l1, l2, l3, l4, l5] [] h Q = zWp d zi_211 none 14 [.ref l0, l1, l2, l3, l4, l5] [.ref l0] h Q) ∧
    (∀ (d : Nat) (l0 : Value) (l1 : Value) (l2 : Value) (l3 : Value) (l4 : Value) (l5 : Value) (x0 : Nat) (I : Nat → Nat → Int32) (L : Nat → Nat → Int64) (P : Nat → Nat → Option Nat) (Q : Option Value → zMm → Prop), zSH[x0]? = some (.inl 10) → zWp d zi_211 none 14 [l0, l1, l2, l3, l4, l5] [.ref x0] (zSH, I, L, P) Q = zWp d zi_211 none 17 [l0, l1, l2, l3, l4, l5] [va_rf (P x0 48)] (zSH, I, L, P) Q) ∧
    (∀ (d : Nat) (l0 : Value) (l1 : Value) (l2 : Value) (l3 : Value) (l4 : Value) (l5 : Value) (x0 : Nat) (h : zMm) (Q : Option Value → zMm → Prop), zWp d zi_211 none 17 [l0, l1, l2, l3, l4, l5] [.ref x0] h Q = zWp d zi_211 none 19 [l0, l1, l2, l3, l4, l5] [.int 60, .ref x0] h Q) ∧
    (∀ (d : Nat) (l0 : Value) (l1 : Int32) (l2 : Value) (l3 : Value) (l4 : Value) (l5 : Value) (x1 : Int32) (x0 : Nat) (h : zMm) (Q : Option Value → zMm → Prop), zWp d zi_211 none 19 [l0, .int l1, l2, l3, l4, l5] [.int x1, .ref x0] h Q = zWp d zi_211 none 20 [l0, .int l1, l2, l3, l4, l5] [.int l1, .int x1, .ref x0] h Q) ∧
    (∀ (d : Nat) (l0 : Value) (l1 : Value) (l2 : Value) (l3 : Value) (l4 : Value) (l5 : Value) (x2 : Int32) (x1 : Int32) (x0 : Nat) (h : zMm) (Q : Option Value → zMm → Prop), zWp d zi_211 none 20 [l0, l1, l2, l3, l4, l5] [.int x2, .int x1, .ref x0] h Q = zWp d zi_211 none 21 [l0, l1, l2, l3, l4, l5] [.int (x1 * x2), .ref x0] h Q) ∧
    (∀ (d : Nat) (l0 : Value) (l1 : Value) (l2 : Int32) (l3 : Value) (l4 : Value) (l5 : Value) (x1 : Int32) (x0 : Nat) (h : zMm) (Q : Option Value → zMm → Prop), zWp d zi_211 none 21 [l0, l1, .int l2, l3, l4, l5] [.int x1, .ref x0] h Q = zWp d zi_211 none 22 [l0, l1, .int l2, l3, l4, l5] [.int l2, .int x1, .ref x0] h Q) ∧
    (∀ (d : Nat) (l0 : Value) (l1 : Value) (l2 : Value) (l3 : Value) (l4 : Value) (l5 : Value) (x2 : Int32) (x1 : Int32) (x0 : Nat) (h : zMm) (Q : Option Value → zMm → Prop), zWp d zi_211 none 22 [l0, l1, l2, l3, l4, l5] [.int x2, .int x1, .ref x0] h Q = zWp d zi_211 none 23 [l0, l1, l2, l3, l4, l5] [.int (x1 + x2), .ref x0] h Q) ∧
    (∀ (d : Nat) (l0 : Nat) (l1 : Value) (l2 : Value) (l3 : Value) (l4 : Value) (l5 : Value) (x1 : Int32) (x0 : Nat) (h : zMm) (Q : Option Value → zMm → Prop), zWp d zi_211 none 23 [.ref l0, l1, l2, l3, l4, l5] [.int x1, .ref x0] h Q = zWp d zi_211 none 24 [.ref l0, l1, l2, l3, l4, l5] [.ref l0, .int x1, .ref x0] h Q) ∧
    (∀ (d : Nat) (l0 : Value) (l1 : Value) (l2 : Value) (l3 : Value) (l4 : Value) (l5 : Value) (x2 : Nat) (x1 : Int32) (x0 : Nat) (I : Nat → Nat → Int32) (L : Nat → Nat → Int64) (P : Nat → Nat → Option Nat) (Q : Option Value → zMm → Prop), zSH[x2]? = some (.inl 10) → zWp d zi_211 none 24 [l0, l1, l2, l3, l4, l5] [.ref x2, .int x1, .ref x0] (zSH, I, L, P) Q = zWp d zi_211 none 27 [l0, l1, l2, l3, l4, l5] [va_rf (P x2 46), .int x1, .ref x0] (zSH, I, L, P) Q) ∧
    (∀ (d : Nat) (l0 : Value) (l1 : Int32) (l2 : Value) (l3 : Value) (l4 : Value) (l5 : Value) (x2 : Nat) (x1 : Int32) (x0 : Nat) (h : zMm) (Q : Option Value → zMm → Prop), zWp d zi_211 none 27 [l0, .int l1, l2, l3, l4, l5] [.ref x2, .int x1, .ref x0] h Q = zWp d zi_211 none 28 [l0, .int l1, l2, l3, l4, l5] [.int l1, .ref x2, .int x1, .ref x0] h Q) ∧
    (∀ (d : Nat) (l0 : Value) (l1 : Value) (l2 : Value) (l3 : Value) (l4 : Value) (l5 : Value) (x3 : Int32) (x2 : Nat) (x1 : Int32) (x0 : Nat) (I : Nat → Nat → Int32) (L : Nat → Nat → Int64) (P : Nat → Nat → Option Nat) (Q : Option Value → zMm → Prop), zAk zSH x2 = some .int → zWp d zi_211 none 28 [l0, l1, l2, l3, l4, l5] [.int x3, .ref x2, .int x1, .ref x0] (zSH, I, L, P) Q = (vp_in x3 (zAn zSH x2) ∧ zWp d zi_211 none 29 [l0, l1, l2, l3, l4, l5] [.int (I x2 x3.toNatClampNeg), .int x1, .ref x0] (zSH, I, L, P) Q)) ∧
    (∀ (d : Nat) (l0 : Value) (l1 : Value) (l2 : Value) (l3 : Value) (l4 : Value) (l5 : Value) (x2 : Int32) (x1 : Int32) (x0 : Nat) (h : zMm) (Q : Option Value → zMm → Prop), zWp d zi_211 none 29 [l0, l1, l2, l3, l4, l5] [.int x2, .int x1, .ref x0] h Q = zWp d zi_211 none 31 [l0, l1, l2, l3, l4, l5] [.int 50, .int x2, .int x1, .ref x0] h Q) ∧
    (∀ (d : Nat) (l0 : Value) (l1 : Value) (l2 : Value) (l3 : Value) (l4 : Value) (l5 : Value) (x3 : Int32) (x2 : Int32) (x1 : Int32) (x0 : Nat) (h : zMm) (Q : Option Value → zMm → Prop), zWp d zi_211 none 31 [l0, l1, l2, l3, l4, l5] [.int x3, .int x2, .int x1, .ref x0] h Q = zWp d zi_211 none 32 [l0, l1, l2, l3, l4, l5] [.int (x2 - x3), .int x1, .ref x0] h Q) ∧
    (∀ (d : Nat) (l0 : Value) (l1 : Value) (l2 : Value) (l3 : Int64) (l4 : Value) (l5 : Value) (x2 : Int32) (x1 : Int32) (x0 : Nat) (h : zMm) (Q : Option Value → zMm → Prop), zWp d zi_211 none 32 [l0, l1, l2, .long l3, l4, l5] [.int x2, .int x1, .ref x0] h Q = zWp d zi_211 none 33 [l0, l1, l2, .long l3, l4, l5] [.long l3, .int x2, .int x1, .ref x0] h Q) ∧
    (∀ (d : Nat) (l0 : Value) (l1 : Value) (l2 : Value) (l3 : Value) (l4 : Value) (l5 : Value) (x3 : Int64) (x2 : Int32) (x1 : Int32) (x0 : Nat) (h : zMm) (Q : Option Value → zMm → Prop), zWp d zi_211 none 33 [l0, l1, l2, l3, l4, l5] [.long x3, .int x2, .int x1, .ref x0] h Q = zWM d 210 [.int x2, .long x3] h (fun r h1 => zWp d zi_211 none 36 [l0, l1, l2, l3, l4, l5] (r.toList ++ [.int x1, .ref x0]) h1 Q)) ∧
    (∀ (d : Nat) (l0 : Value) (l1 : Value) (l2 : Value) (l3 : Value) (l4 : Value) (l5 : Value) (x2 : Int64) (x1 : Int32) (x0 : Nat) (I : Nat → Nat → Int32) (L : Nat → Nat → Int64) (P : Nat → Nat → Option Nat) (Q : Option Value → zMm → Prop), zAk zSH x0 = some .long → zWp d zi_211 none 36 [l0, l1, l2, l3, l4, l5] [.long x2, .int x1, .ref x0] (zSH, I, L, P) Q = (vp_in x1 (zAn zSH x0) ∧ zWp d zi_211 none 37 [l0, l1, l2, l3, l4, l5] [] (zSH, I, zw L x0 (vp_updL (L x0) x1.toNatClampNeg x2), P) Q)) ∧
    (∀ (d : Nat) (l0 : Value) (l1 : Value) (l2 : Value) (l3 : Value) (l4 : Value) (l5 : Int32)  (h : zMm) (Q : Option Value → zMm → Prop), zWp d zi_211 none 37 [l0, l1, l2, l3, l4, .int l5] [] h Q = zWp d zi_211 none 39 [l0, l1, l2, l3, l4, .int l5] [.int l5] h Q) ∧
    (∀ (d : Nat) (l0 : Value) (l1 : Value) (l2 : Value) (l3 : Value) (l4 : Value) (l5 : Value) (x0 : Int32) (h : zMm) (Q : Option Value → zMm → Prop), zWp d zi_211 none 39 [l0, l1, l2, l3, l4, l5] [.int x0] h Q = if x0 = 0 then zWp d zi_211 none 42 [l0, l1, l2, l3, l4, l5] [] h Q else zWp d zi_211 none 46 [l0, l1, l2, l3, l4, l5] [] h Q) ∧
    (∀ (d : Nat) (l0 : Value) (l1 : Value) (l2 : Value) (l3 : Value) (l4 : Value) (l5 : Value)  (h : zMm) (Q : Option Value → zMm → Prop), zWp d zi_211 none 42 [l0, l1, l2, l3, l4, l5] [] h Q = zWp d zi_211 none 43 [l0, l1, l2, l3, l4, l5] [.int 1] h Q) ∧
    (∀ (d : Nat) (l0 : Value) (l1 : Value) (l2 : Value) (l3 : Value) (l4 : Value) (l5 : Value) (x0 : Int32) (h : zMm) (Q : Option Value → zMm → Prop), zWp d zi_211 none 43 [l0, l1, l2, l3, l4, l5] [.int x0] h Q = zWp d zi_211 none 48 [l0, l1, l2, l3, l4, l5] [.int x0] h Q) ∧
    (∀ (d : Nat) (l0 : Value) (l1 : Value) (l2 : Value) (l3 : Value) (l4 : Value) (l5 : Int32)  (h : zMm) (Q : Option Value → zMm → Prop), zWp d zi_211 none 46 [l0, l1, l2, l3, l4, .int l5] [] h Q = zWp d zi_211 none 48 [l0, l1, l2, l3, l4, .int l5] [.int l5] h Q) ∧
    (∀ (d : Nat) (l0 : Value) (l1 : Value) (l2 : Value) (l3 : Value) (l4 : Value) (l5 : Value) (x0 : Int32) (h : zMm) (Q : Option Value → zMm → Prop), zWp d zi_211 none 48 [l0, l1, l2, l3, l4, l5] [.int x0] h Q = Q (some (.int x0)) h) :=
  ⟨(fun d l0 l1 l2 l3 l4 l5  h Q => zr_aload_n rfl rfl),
   (fun d l0 l1 l2 l3 l4 l5 x0 h Q => zr_iload_n rfl rfl),
   (fun d l0 l1 l2 l3 l4 l5 x1 x0 h Q => zr_iload_n rfl rfl),
   (fun d l0 l1 l2 l3 l4 l5 x2 x1 x0 I L P Q p0 => zr_vir (as := [.int x2, .int x1]) (rest := []) rfl lm_10_360 m_209 kd_209 rfl (Nat.le_of_ble_eq_true rfl) p0),
   (fun d l0 l1 l2 l3 l4 l5 x0 h Q p0 => zr_istore (n := 5) rfl (Nat.le_of_ble_eq_true rfl) p0),
   (fun d l0 l1 l2 l3 l4 l5  h Q => zr_iload rfl rfl),
   (fun d l0 l1 l2 l3 l4 l5 x0 h Q => zr_if_ne rfl (by decide)),
   (fun d l0 l1 l2 l3 l4 l5  h Q => zr_aload_n rfl rfl),
   (fun d l0 l1 l2 l3 l4 l5 x0 I L P Q p0 => zr_getQ rfl lf_10_73 (fun _ _ _ => rfl) p0),
   (fun d l0 l1 l2 l3 l4 l5 x0 h Q => zr_bipush rfl (by decide)),
   (fun d l0 l1 l2 l3 l4 l5 x1 x0 h Q => zr_iload_n rfl rfl),
   (fun d l0 l1 l2 l3 l4 l5 x2 x1 x0 h Q => zr_imul rfl),
   (fun d l0 l1 l2 l3 l4 l5 x1 x0 h Q => zr_iload_n rfl rfl),
   (fun d l0 l1 l2 l3 l4 l5 x2 x1 x0 h Q => zr_iadd rfl),
   (fun d l0 l1 l2 l3 l4 l5 x1 x0 h Q => zr_aload_n rfl rfl),
   (fun d l0 l1 l2 l3 l4 l5 x2 x1 x0 I L P Q p0 => zr_getQ rfl lf_10_67 (fun _ _ _ => rfl) p0),
   (fun d l0 l1 l2 l3 l4 l5 x2 x1 x0 h Q => zr_iload_n rfl rfl),
   (fun d l0 l1 l2 l3 l4 l5 x3 x2 x1 x0 I L P Q p0 => zr_ald rfl p0),
   (fun d l0 l1 l2 l3 l4 l5 x2 x1 x0 h Q => zr_bipush rfl (by decide)),
   (fun d l0 l1 l2 l3 l4 l5 x3 x2 x1 x0 h Q => zr_isub rfl),
   (fun d l0 l1 l2 l3 l4 l5 x2 x1 x0 h Q => zr_lload_n rfl rfl),
   (fun d l0 l1 l2 l3 l4 l5 x3 x2 x1 x0 h Q => zr_sta (as := [.long x3, .int x2]) (rest := [.int x1, .ref x0]) rfl lm_10_363 (by decide) m_210 kd_210 rfl (Nat.le_of_ble_eq_true rfl)),
   (fun d l0 l1 l2 l3 l4 l5 x2 x1 x0 I L P Q p0 => zr_lst rfl p0),
   (fun d l0 l1 l2 l3 l4 l5  h Q => zr_iload rfl rfl),
   (fun d l0 l1 l2 l3 l4 l5 x0 h Q => zr_if_ne rfl (by decide)),
   (fun d l0 l1 l2 l3 l4 l5  h Q => zr_iconst rfl (by decide)),
   (fun d l0 l1 l2 l3 l4 l5 x0 h Q => zr_goto rfl (by decide)),
   (fun d l0 l1 l2 l3 l4 l5  h Q => zr_iload rfl rfl),
   (fun d l0 l1 l2 l3 l4 l5 x0 h Q => zr_iret rfl rfl)⟩
theorem E_X10_element : ∀ (d : Nat) (a0 : Nat) (a1 : Int32) (a2 : Int32) (h : zMm) (Q : Option Value → zMm → Prop), zWM (d + 1) 212 [.ref a0, .int a1, .int a2] h Q = zWp d zi_212 none 0 [.ref a0, .int a1, .int a2] [] h Q := fun d a0 a1 a2 h Q => zW_M m_212 (Nat.le_of_ble_eq_true rfl) rfl
set_option maxRecDepth 100000 in
theorem R_X10_element :
    (∀ (d : Nat) (l0 : Nat) (l1 : Value) (l2 : Value)  (h : zMm) (Q : Option Value → zMm → Prop), zWp d zi_212 none 0 [.ref l0, l1, l2] [] h Q = zWp d zi_212 none 1 [.ref l0, l1, l2] [.ref l0] h Q) ∧
    (∀ (d : Nat) (l0 : Value) (l1 : Int32) (l2 : Value) (x0 : Nat) (h : zMm) (Q : Option Value → zMm → Prop), zWp d zi_212 none 1 [l0, .int l1, l2] [.ref x0] h Q = zWp d zi_212 none 2 [l0, .int l1, l2] [.int l1, .ref x0] h Q) ∧
    (∀ (d : Nat) (l0 : Value) (l1 : Value) (l2 : Int32) (x1 : Int32) (x0 : Nat) (h : zMm) (Q : Option Value → zMm → Prop), zWp d zi_212 none 2 [l0, l1, .int l2] [.int x1, .ref x0] h Q = zWp d zi_212 none 3 [l0, l1, .int l2] [.int l2, .int x1, .ref x0] h Q) ∧
    (∀ (d : Nat) (l0 : Value) (l1 : Value) (l2 : Value) (x2 : Int32) (x1 : Int32) (x0 : Nat) (I : Nat → Nat → Int32) (L : Nat → Nat → Int64) (P : Nat → Nat → Option Nat) (Q : Option Value → zMm → Prop), zSH[x0]? = some (.inl 10) → zWp d zi_212 none 3 [l0, l1, l2] [.int x2, .int x1, .ref x0] (zSH, I, L, P) Q = zWM d 209 [.ref x0, .int x1, .int x2] (zSH, I, L, P) (fun r h1 => zWp d zi_212 none 6 [l0, l1, l2] (r.toList ++ []) h1 Q)) ∧
    (∀ (d : Nat) (l0 : Value) (l1 : Value) (l2 : Value) (x0 : Int32) (h : zMm) (Q : Option Value → zMm → Prop), zWp d zi_212 none 6 [l0, l1, l2] [.int x0] h Q = if x0 = 0 then zWp d zi_212 none 15 [l0, l1, l2] [] h Q else zWp d zi_212 none 9 [l0, l1, l2] [] h Q) ∧
    (∀ (d : Nat) (l0 : Value) (l1 : Value) (l2 : Value)  (h : zMm) (Q : Option Value → zMm → Prop), zWp d zi_212 none 9 [l0, l1, l2] [] h Q = zWp d zi_212 none 12 [l0, l1, l2] [.long (-9223372036854775808)] h Q) ∧
    (∀ (d : Nat) (l0 : Value) (l1 : Value) (l2 : Value) (x0 : Int64) (h : zMm) (Q : Option Value → zMm → Prop), zWp d zi_212 none 12 [l0, l1, l2] [.long x0] h Q = zWp d zi_212 none 26 [l0, l1, l2] [.long x0] h Q) ∧
    (∀ (d : Nat) (l0 : Nat) (l1 : Value) (l2 : Value)  (h : zMm) (Q : Option Value → zMm → Prop), zWp d zi_212 none 15 [.ref l0, l1, l2] [] h Q = zWp d zi_212 none 16 [.ref l0, l1, l2] [.ref l0] h Q) ∧
    (∀ (d : Nat) (l0 : Value) (l1 : Value) (l2 : Value) (x0 : Nat) (I : Nat → Nat → Int32) (L : Nat → Nat → Int64) (P : Nat → Nat → Option Nat) (Q : Option Value → zMm → Prop), zSH[x0]? = some (.inl 10) → zWp d zi_212 none 16 [l0, l1, l2] [.ref x0] (zSH, I, L, P) Q = zWp d zi_212 none 19 [l0, l1, l2] [va_rf (P x0 48)] (zSH, I, L, P) Q) ∧
    (∀ (d : Nat) (l0 : Value) (l1 : Value) (l2 : Value) (x0 : Nat) (h : zMm) (Q : Option Value → zMm → Prop), zWp d zi_212 none 19 [l0, l1, l2] [.ref x0] h Q = zWp d zi_212 none 21 [l0, l1, l2] [.int 60, .ref x0] h Q) ∧
    (∀ (d : Nat) (l0 : Value) (l1 : Int32) (l2 : Value) (x1 : Int32) (x0 : Nat) (h : zMm) (Q : Option Value → zMm → Prop), zWp d zi_212 none 21 [l0, .int l1, l2] [.int x1, .ref x0] h Q = zWp d zi_212 none 22 [l0, .int l1, l2] [.int l1, .int x1, .ref x0] h Q) ∧
    (∀ (d : Nat) (l0 : Value) (l1 : Value) (l2 : Value) (x2 : Int32) (x1 : Int32) (x0 : Nat) (h : zMm) (Q : Option Value → zMm → Prop), zWp d zi_212 none 22 [l0, l1, l2] [.int x2, .int x1, .ref x0] h Q = zWp d zi_212 none 23 [l0, l1, l2] [.int (x1 * x2), .ref x0] h Q) ∧
    (∀ (d : Nat) (l0 : Value) (l1 : Value) (l2 : Int32) (x1 : Int32) (x0 : Nat) (h : zMm) (Q : Option Value → zMm → Prop), zWp d zi_212 none 23 [l0, l1, .int l2] [.int x1, .ref x0] h Q = zWp d zi_212 none 24 [l0, l1, .int l2] [.int l2, .int x1, .ref x0] h Q) ∧
    (∀ (d : Nat) (l0 : Value) (l1 : Value) (l2 : Value) (x2 : Int32) (x1 : Int32) (x0 : Nat) (h : zMm) (Q : Option Value → zMm → Prop), zWp d zi_212 none 24 [l0, l1, l2] [.int x2, .int x1, .ref x0] h Q = zWp d zi_212 none 25 [l0, l1, l2] [.int (x1 + x2), .ref x0] h Q) ∧
    (∀ (d : Nat) (l0 : Value) (l1 : Value) (l2 : Value) (x1 : Int32) (x0 : Nat) (I : Nat → Nat → Int32) (L : Nat → Nat → Int64) (P : Nat → Nat → Option Nat) (Q : Option Value → zMm → Prop), zAk zSH x0 = some .long → zWp d zi_212 none 25 [l0, l1, l2] [.int x1, .ref x0] (zSH, I, L, P) Q = (vp_in x1 (zAn zSH x0) ∧ zWp d zi_212 none 26 [l0, l1, l2] [.long (L x0 x1.toNatClampNeg)] (zSH, I, L, P) Q)) ∧
    (∀ (d : Nat) (l0 : Value) (l1 : Value) (l2 : Value) (x0 : Int64) (h : zMm) (Q : Option Value → zMm → Prop), zWp d zi_212 none 26 [l0, l1, l2] [.long x0] h Q = Q (some (.long x0)) h) :=
  ⟨(fun d l0 l1 l2  h Q => zr_aload_n rfl rfl),
   (fun d l0 l1 l2 x0 h Q => zr_iload_n rfl rfl),
   (fun d l0 l1 l2 x1 x0 h Q => zr_iload_n rfl rfl),
   (fun d l0 l1 l2 x2 x1 x0 I L P Q p0 => zr_vir (as := [.int x2, .int x1]) (rest := []) rfl lm_10_360 m_209 kd_209 rfl (Nat.le_of_ble_eq_true rfl) p0),
   (fun d l0 l1 l2 x0 h Q => zr_if_eq rfl (by decide)),
   (fun d l0 l1 l2  h Q => zr_ldc2_w rfl lj_10_369),
   (fun d l0 l1 l2 x0 h Q => zr_goto rfl (by decide)),
   (fun d l0 l1 l2  h Q => zr_aload_n rfl rfl),
   (fun d l0 l1 l2 x0 I L P Q p0 => zr_getQ rfl lf_10_73 (fun _ _ _ => rfl) p0),
   (fun d l0 l1 l2 x0 h Q => zr_bipush rfl (by decide)),
   (fun d l0 l1 l2 x1 x0 h Q => zr_iload_n rfl rfl),
   (fun d l0 l1 l2 x2 x1 x0 h Q => zr_imul rfl),
   (fun d l0 l1 l2 x1 x0 h Q => zr_iload_n rfl rfl),
   (fun d l0 l1 l2 x2 x1 x0 h Q => zr_iadd rfl),
   (fun d l0 l1 l2 x1 x0 I L P Q p0 => zr_lld rfl p0),
   (fun d l0 l1 l2 x0 h Q => zr_lret rfl rfl)⟩
theorem E_X10_shift : ∀ (d : Nat) (a0 : Nat) (a1 : Int32) (a2 : Int32) (a3 : Int32) (a4 : Int32) (a5 : Int32) (h : zMm) (Q : Option Value → zMm → Prop), zWM (d + 1) 213 [.ref a0, .int a1, .int a2, .int a3, .int a4, .int a5] h Q = zWp d zi_213 none 0 [.ref a0, .int a1, .int a2, .int a3, .int a4, .int a5, .retAddr 0] [] h Q := fun d a0 a1 a2 a3 a4 a5 h Q => zW_M m_213 (Nat.le_of_ble_eq_true rfl) rfl
set_option maxRecDepth 100000 in
theorem R_X10_shift :
    (∀ (d : Nat) (l0 : Value) (l1 : Int32) (l2 : Value) (l3 : Value) (l4 : Value) (l5 : Value) (l6 : Value)  (h : zMm) (Q : Option Value → zMm → Prop), zWp d zi_213 none 0 [l0, .int l1, l2, l3, l4, l5, l6] [] h Q = zWp d zi_213 none 1 [l0, .int l1, l2, l3, l4, l5, l6] [.int l1] h Q) ∧
    (∀ (d : Nat) (l0 : Value) (l1 : Value) (l2 : Value) (l3 : Value) (l4 : Value) (l5 : Value) (l6 : Value) (x0 : Int32) (h : zMm) (Q : Option Value → zMm → Prop), zWp d zi_213 none 1 [l0, l1, l2, l3, l4, l5, l6] [.int x0] h Q = zWM d 206 [.int x0] h (fun r h1 => zWp d zi_213 none 4 [l0, l1, l2, l3, l4, l5, l6] (r.toList ++ []) h1 Q)) ∧
    (∀ (d : Nat) (l0 : Value) (l1 : Value) (l2 : Value) (l3 : Value) (l4 : Value) (l5 : Value) (l6 : Value) (x0 : Int32) (h : zMm) (Q : Option Value → zMm → Prop), zWp d zi_213 none 4 [l0, l1, l2, l3, l4, l5, l6] [.int x0] h Q = if x0 = 0 then zWp d zi_213 none 14 [l0, l1, l2, l3, l4, l5, l6] [] h Q else zWp d zi_213 none 7 [l0, l1, l2, l3, l4, l5, l6] [] h Q) ∧
    (∀ (d : Nat) (l0 : Value) (l1 : Value) (l2 : Value) (l3 : Int32) (l4 : Value) (l5 : Value) (l6 : Value)  (h : zMm) (Q : Option Value → zMm → Prop), zWp d zi_213 none 7 [l0, l1, l2, .int l3, l4, l5, l6] [] h Q = zWp d zi_213 none 8 [l0, l1, l2, .int l3, l4, l5, l6] [.int l3] h Q) ∧
    (∀ (d : Nat) (l0 : Value) (l1 : Value) (l2 : Value) (l3 : Value) (l4 : Value) (l5 : Value) (l6 : Value) (x0 : Int32) (h : zMm) (Q : Option Value → zMm → Prop), zWp d zi_213 none 8 [l0, l1, l2, l3, l4, l5, l6] [.int x0] h Q = zWM d 206 [.int x0] h (fun r h1 => zWp d zi_213 none 11 [l0, l1, l2, l3, l4, l5, l6] (r.toList ++ []) h1 Q)) ∧
    (∀ (d : Nat) (l0 : Value) (l1 : Value) (l2 : Value) (l3 : Value) (l4 : Value) (l5 : Value) (l6 : Value) (x0 : Int32) (h : zMm) (Q : Option Value → zMm → Prop), zWp d zi_213 none 11 [l0, l1, l2, l3, l4, l5, l6] [.int x0] h Q = if x0 = 0 then zWp d zi_213 none 14 [l0, l1, l2, l3, l4, l5, l6] [] h Q else zWp d zi_213 none 16 [l0, l1, l2, l3, l4, l5, l6] [] h Q) ∧
    (∀ (d : Nat) (l0 : Value) (l1 : Value) (l2 : Value) (l3 : Value) (l4 : Value) (l5 : Value) (l6 : Value)  (h : zMm) (Q : Option Value → zMm → Prop), zWp d zi_213 none 14 [l0, l1, l2, l3, l4, l5, l6] [] h Q = zWp d zi_213 none 15 [l0, l1, l2, l3, l4, l5, l6] [.int (-1)] h Q) ∧
    (∀ (d : Nat) (l0 : Value) (l1 : Value) (l2 : Value) (l3 : Value) (l4 : Value) (l5 : Value) (l6 : Value) (x0 : Int32) (h : zMm) (Q : Option Value → zMm → Prop), zWp d zi_213 none 15 [l0, l1, l2, l3, l4, l5, l6] [.int x0] h Q = Q (some (.int x0)) h) ∧
    (∀ (d : Nat) (l0 : Nat) (l1 : Value) (l2 : Value) (l3 : Value) (l4 : Value) (l5 : Value) (l6 : Value)  (h : zMm) (Q : Option Value → zMm → Prop), zWp d zi_213 none 16 [.ref l0, l1, l2, l3, l4, l5, l6] [] h Q = zWp d zi_213 none 17 [.ref l0, l1, l2, l3, l4, l5, l6] [.ref l0] h Q) ∧
    (∀ (d : Nat) (l0 : Value) (l1 : Value) (l2 : Value) (l3 : Value) (l4 : Value) (l5 : Value) (l6 : Value) (x0 : Nat) (I : Nat → Nat → Int32) (L : Nat → Nat → Int64) (P : Nat → Nat → Option Nat) (Q : Option Value → zMm → Prop), zSH[x0]? = some (.inl 10) → zWp d zi_213 none 17 [l0, l1, l2, l3, l4, l5, l6] [.ref x0] (zSH, I, L, P) Q = zWp d zi_213 none 20 [l0, l1, l2, l3, l4, l5, l6] [va_rf (P x0 46)] (zSH, I, L, P) Q) ∧
    (∀ (d : Nat) (l0 : Value) (l1 : Int32) (l2 : Value) (l3 : Value) (l4 : Value) (l5 : Value) (l6 : Value) (x0 : Nat) (h : zMm) (Q : Option Value → zMm → Prop), zWp d zi_213 none 20 [l0, .int l1, l2, l3, l4, l5, l6] [.ref x0] h Q = zWp d zi_213 none 21 [l0, .int l1, l2, l3, l4, l5, l6] [.int l1, .ref x0] h Q) ∧
    (∀ (d : Nat) (l0 : Value) (l1 : Value) (l2 : Value) (l3 : Value) (l4 : Value) (l5 : Value) (l6 : Value) (x1 : Int32) (x0 : Nat) (I : Nat → Nat → Int32) (L : Nat → Nat → Int64) (P : Nat → Nat → Option Nat) (Q : Option Value → zMm → Prop), zAk zSH x0 = some .int → zWp d zi_213 none 21 [l0, l1, l2, l3, l4, l5, l6] [.int x1, .ref x0] (zSH, I, L, P) Q = (vp_in x1 (zAn zSH x0) ∧ zWp d zi_213 none 22 [l0, l1, l2, l3, l4, l5, l6] [.int (I x0 x1.toNatClampNeg)] (zSH, I, L, P) Q)) ∧
    (∀ (d : Nat) (l0 : Value) (l1 : Value) (l2 : Value) (l3 : Value) (l4 : Value) (l5 : Value) (l6 : Value) (x0 : Int32) (h : zMm) (Q : Option Value → zMm → Prop), zWp d zi_213 none 22 [l0, l1, l2, l3, l4, l5, l6] [.int x0] h Q = if x0 < 0 then zWp d zi_213 none 34 [l0, l1, l2, l3, l4, l5, l6] [] h Q else zWp d zi_213 none 25 [l0, l1, l2, l3, l4, l5, l6] [] h Q) ∧
    (∀ (d : Nat) (l0 : Nat) (l1 : Value) (l2 : Value) (l3 : Value) (l4 : Value) (l5 : Value) (l6 : Value)  (h : zMm) (Q : Option Value → zMm → Prop), zWp d zi_213 none 25 [.ref l0, l1, l2, l3, l4, l5, l6] [] h Q = zWp d zi_213 none 26 [.ref l0, l1, l2, l3, l4, l5, l6] [.ref l0] h Q) ∧
    (∀ (d : Nat) (l0 : Value) (l1 : Value) (l2 : Value) (l3 : Value) (l4 : Value) (l5 : Value) (l6 : Value) (x0 : Nat) (I : Nat → Nat → Int32) (L : Nat → Nat → Int64) (P : Nat → Nat → Option Nat) (Q : Option Value → zMm → Prop), zSH[x0]? = some (.inl 10) → zWp d zi_213 none 26 [l0, l1, l2, l3, l4, l5, l6] [.ref x0] (zSH, I, L, P) Q = zWp d zi_213 none 29 [l0, l1, l2, l3, l4, l5, l6] [va_rf (P x0 46)] (zSH, I, L, P) Q) ∧
    (∀ (d : Nat) (l0 : Value) (l1 : Value) (l2 : Value) (l3 : Int32) (l4 : Value) (l5 : Value) (l6 : Value) (x0 : Nat) (h : zMm) (Q : Option Value → zMm → Prop), zWp d zi_213 none 29 [l0, l1, l2, .int l3, l4, l5, l6] [.ref x0] h Q = zWp d zi_213 none 30 [l0, l1, l2, .int l3, l4, l5, l6] [.int l3, .ref x0] h Q) ∧
    (∀ (d : Nat) (l0 : Value) (l1 : Value) (l2 : Value) (l3 : Value) (l4 : Value) (l5 : Value) (l6 : Value) (x1 : Int32) (x0 : Nat) (I : Nat → Nat → Int32) (L : Nat → Nat → Int64) (P : Nat → Nat → Option Nat) (Q : Option Value → zMm → Prop), zAk zSH x0 = some .int → zWp d zi_213 none 30 [l0, l1, l2, l3, l4, l5, l6] [.int x1, .ref x0] (zSH, I, L, P) Q = (vp_in x1 (zAn zSH x0) ∧ zWp d zi_213 none 31 [l0, l1, l2, l3, l4, l5, l6] [.int (I x0 x1.toNatClampNeg)] (zSH, I, L, P) Q)) ∧
    (∀ (d : Nat) (l0 : Value) (l1 : Value) (l2 : Value) (l3 : Value) (l4 : Value) (l5 : Value) (l6 : Value) (x0 : Int32) (h : zMm) (Q : Option Value → zMm → Prop), zWp d zi_213 none 31 [l0, l1, l2, l3, l4, l5, l6] [.int x0] h Q = if 0 ≤ x0 then zWp d zi_213 none 37 [l0, l1, l2, l3, l4, l5, l6] [] h Q else zWp d zi_213 none 34 [l0, l1, l2, l3, l4, l5, l6] [] h Q) ∧
    (∀ (d : Nat) (l0 : Value) (l1 : Value) (l2 : Value) (l3 : Value) (l4 : Value) (l5 : Value) (l6 : Value)  (h : zMm) (Q : Option Value → zMm → Prop), zWp d zi_213 none 34 [l0, l1, l2, l3, l4, l5, l6] [] h Q = zWp d zi_213 none 36 [l0, l1, l2, l3, l4, l5, l6] [.int (-11)] h Q) ∧
    (∀ (d : Nat) (l0 : Value) (l1 : Value) (l2 : Value) (l3 : Value) (l4 : Value) (l5 : Value) (l6 : Value) (x0 : Int32) (h : zMm) (Q : Option Value → zMm → Prop), zWp d zi_213 none 36 [l0, l1, l2, l3, l4, l5, l6] [.int x0] h Q = Q (some (.int x0)) h) ∧
    (∀ (d : Nat) (l0 : Nat) (l1 : Value) (l2 : Value) (l3 : Value) (l4 : Value) (l5 : Value) (l6 : Value)  (h : zMm) (Q : Option Value → zMm → Prop), zWp d zi_213 none 37 [.ref l0, l1, l2, l3, l4, l5, l6] [] h Q = zWp d zi_213 none 38 [.ref l0, l1, l2, l3, l4, l5, l6] [.ref l0] h Q) ∧
    (∀ (d : Nat) (l0 : Value) (l1 : Value) (l2 : Value) (l3 : Value) (l4 : Value) (l5 : Value) (l6 : Value) (x0 : Nat) (I : Nat → Nat → Int32) (L : Nat → Nat → Int64) (P : Nat → Nat → Option Nat) (Q : Option Value → zMm → Prop), zSH[x0]? = some (.inl 10) → zWp d zi_213 none 38 [l0, l1, l2, l3, l4, l5, l6] [.ref x0] (zSH, I, L, P) Q = zWp d zi_213 none 41 [l0, l1, l2, l3, l4, l5, l6] [va_rf (P x0 46)] (zSH, I, L, P) Q) ∧
    (∀ (d : Nat) (l0 : Value) (l1 : Int32) (l2 : Value) (l3 : Value) (l4 : Value) (l5 : Value) (l6 : Value) (x0 : Nat) (h : zMm) (Q : Option Value → zMm → Prop), zWp d zi_213 none 41 [l0, .int l1, l2, l3, l4, l5, l6] [.ref x0] h Q = zWp d zi_213 none 42 [l0, .int l1, l2, l3, l4, l5, l6] [.int l1, .ref x0] h Q) ∧
    (∀ (d : Nat) (l0 : Value) (l1 : Value) (l2 : Value) (l3 : Value) (l4 : Value) (l5 : Value) (l6 : Value) (x1 : Int32) (x0 : Nat) (I : Nat → Nat → Int32) (L : Nat → Nat → Int64) (P : Nat → Nat → Option Nat) (Q : Option Value → zMm → Prop), zAk zSH x0 = some .int → zWp d zi_213 none 42 [l0, l1, l2, l3, l4, l5, l6] [.int x1, .ref x0] (zSH, I, L, P) Q = (vp_in x1 (zAn zSH x0) ∧ zWp d zi_213 none 43 [l0, l1, l2, l3, l4, l5, l6] [.int (I x0 x1.toNatClampNeg)] (zSH, I, L, P) Q)) ∧
    (∀ (d : Nat) (l0 : Value) (l1 : Value) (l2 : Value) (l3 : Value) (l4 : Value) (l5 : Value) (l6 : Value) (x0 : Int32) (h : zMm) (Q : Option Value → zMm → Prop), zWp d zi_213 none 43 [l0, l1, l2, l3, l4, l5, l6] [.int x0] h Q = zWp d zi_213 none 45 [l0, l1, l2, l3, l4, l5, l6] [.int 50, .int x0] h Q) ∧
    (∀ (d : Nat) (l0 : Value) (l1 : Value) (l2 : Value) (l3 : Value) (l4 : Value) (l5 : Value) (l6 : Value) (x1 : Int32) (x0 : Int32) (h : zMm) (Q : Option Value → zMm → Prop), zWp d zi_213 none 45 [l0, l1, l2, l3, l4, l5, l6] [.int x1, .int x0] h Q = if x0 < x1 then zWp d zi_213 none 63 [l0, l1, l2, l3, l4, l5, l6] [] h Q else zWp d zi_213 none 48 [l0, l1, l2, l3, l4, l5, l6] [] h Q) ∧
    (∀ (d : Nat) (l0 : Nat) (l1 : Value) (l2 : Value) (l3 : Value) (l4 : Value) (l5 : Value) (l6 : Value)  (h : zMm) (Q : Option Value → zMm → Prop), zWp d zi_213 none 48 [.ref l0, l1, l2, l3, l4, l5, l6] [] h Q = zWp d zi_213 none 49 [.ref l0, l1, l2, l3, l4, l5, l6] [.ref l0] h Q) ∧
    (∀ (d : Nat) (l0 : Value) (l1 : Value) (l2 : Value) (l3 : Value) (l4 : Value) (l5 : Value) (l6 : Value) (x0 : Nat) (I : Nat → Nat → Int32) (L : Nat → Nat → Int64) (P : Nat → Nat → Option Nat) (Q : Option Value → zMm → Prop), zSH[x0]? = some (.inl 10) → zWp d zi_213 none 49 [l0, l1, l2, l3, l4, l5, l6] [.ref x0] (zSH, I, L, P) Q = zWp d zi_213 none 52 [l0, l1, l2, l3, l4, l5, l6] [va_rf (P x0 46)] (zSH, I, L, P) Q) ∧
    (∀ (d : Nat) (l0 : Value) (l1 : Int32) (l2 : Value) (l3 : Value) (l4 : Value) (l5 : Value) (l6 : Value) (x0 : Nat) (h : zMm) (Q : Option Value → zMm → Prop), zWp d zi_213 none 52 [l0, .int l1, l2, l3, l4, l5, l6] [.ref x0] h Q = zWp d zi_213 none 53 [l0, .int l1, l2, l3, l4, l5, l6] [.int l1, .ref x0] h Q) ∧
    (∀ (d : Nat) (l0 : Value) (l1 : Value) (l2 : Value) (l3 : Value) (l4 : Value) (l5 : Value) (l6 : Value) (x1 : Int32) (x0 : Nat) (I : Nat → Nat → Int32) (L : Nat → Nat → Int64) (P : Nat → Nat → Option Nat) (Q : Option Value → zMm → Prop), zAk zSH x0 = some .int → zWp d zi_213 none 53 [l0, l1, l2, l3, l4, l5, l6] [.int x1, .ref x0] (zSH, I, L, P) Q = (vp_in x1 (zAn zSH x0) ∧ zWp d zi_213 none 54 [l0, l1, l2, l3, l4, l5, l6] [.int (I x0 x1.toNatClampNeg)] (zSH, I, L, P) Q)) ∧
    (∀ (d : Nat) (l0 : Nat) (l1 : Value) (l2 : Value) (l3 : Value) (l4 : Value) (l5 : Value) (l6 : Value) (x0 : Int32) (h : zMm) (Q : Option Value → zMm → Prop), zWp d zi_213 none 54 [.ref l0, l1, l2, l3, l4, l5, l6] [.int x0] h Q = zWp d zi_213 none 55 [.ref l0, l1, l2, l3, l4, l5, l6] [.ref l0, .int x0] h Q) ∧
    (∀ (d : Nat) (l0 : Value) (l1 : Value) (l2 : Value) (l3 : Value) (l4 : Value) (l5 : Value) (l6 : Value) (x1 : Nat) (x0 : Int32) (I : Nat → Nat → Int32) (L : Nat → Nat → Int64) (P : Nat → Nat → Option Nat) (Q : Option Value → zMm → Prop), zSH[x1]? = some (.inl 10) → zWp d zi_213 none 55 [l0, l1, l2, l3, l4, l5, l6] [.ref x1, .int x0] (zSH, I, L, P) Q = zWp d zi_213 none 58 [l0, l1, l2, l3, l4, l5, l6] [va_rf (P x1 46), .int x0] (zSH, I, L, P) Q) ∧
    (∀ (d : Nat) (l0 : Value) (l1 : Value) (l2 : Value) (l3 : Int32) (l4 : Value) (l5 : Value) (l6 : Value) (x1 : Nat) (x0 : Int32) (h : zMm) (Q : Option Value → zMm → Prop), zWp d zi_213 none 58 [l0, l1, l2, .int l3, l4, l5, l6] [.ref x1, .int x0] h Q = zWp d zi_213 none 59 [l0, l1, l2, .int l3, l4, l5, l6] [.int l3, .ref x1, .int x0] h Q) ∧
    (∀ (d : Nat) (l0 : Value) (l1 : Value) (l2 : Value) (l3 : Value) (l4 : Value) (l5 : Value) (l6 : Value) (x2 : Int32) (x1 : Nat) (x0 : Int32) (I : Nat → Nat → Int32) (L : Nat → Nat → Int64) (P : Nat → Nat → Option Nat) (Q : Option Value → zMm → Prop), zAk zSH x1 = some .int → zWp d zi_213 none 59 [l0, l1, l2, l3, l4, l5, l6] [.int x2, .ref x1, .int x0] (zSH, I, L, P) Q = (vp_in x2 (zAn zSH x1) ∧ zWp d zi_213 none 60 [l0, l1, l2, l3, l4, l5, l6] [.int (I x1 x2.toNatClampNeg), .int x0] (zSH, I, L, P) Q)) ∧
    (∀ (d : Nat) (l0 : Value) (l1 : Value) (l2 : Value) (l3 : Value) (l4 : Value) (l5 : Value) (l6 : Value) (x1 : Int32) (x0 : Int32) (h : zMm) (Q : Option Value → zMm → Prop), zWp d zi_213 none 60 [l0, l1, l2, l3, l4, l5, l6] [.int x1, .int x0] h Q = if x0 = x1 then zWp d zi_213 none 66 [l0, l1, l2, l3, l4, l5, l6] [] h Q else zWp d zi_213 none 63 [l0, l1, l2, l3, l4, l5, l6] [] h Q) ∧
    (∀ (d : Nat) (l0 : Value) (l1 : Value) (l2 : Value) (l3 : Value) (l4 : Value) (l5 : Value) (l6 : Value)  (h : zMm) (Q : Option Value → zMm → Prop), zWp d zi_213 none 63 [l0, l1, l2, l3, l4, l5, l6] [] h Q = zWp d zi_213 none 65 [l0, l1, l2, l3, l4, l5, l6] [.int (-12)] h Q) ∧
    (∀ (d : Nat) (l0 : Value) (l1 : Value) (l2 : Value) (l3 : Value) (l4 : Value) (l5 : Value) (l6 : Value) (x0 : Int32) (h : zMm) (Q : Option Value → zMm → Prop), zWp d zi_213 none 65 [l0, l1, l2, l3, l4, l5, l6] [.int x0] h Q = Q (some (.int x0)) h) ∧
    (∀ (d : Nat) (l0 : Value) (l1 : Value) (l2 : Value) (l3 : Value) (l4 : Value) (l5 : Int32) (l6 : Value)  (h : zMm) (Q : Option Value → zMm → Prop), zWp d zi_213 none 66 [l0, l1, l2, l3, l4, .int l5, l6] [] h Q = zWp d zi_213 none 68 [l0, l1, l2, l3, l4, .int l5, l6] [.int l5] h Q) ∧
    (∀ (d : Nat) (l0 : Value) (l1 : Value) (l2 : Value) (l3 : Value) (l4 : Value) (l5 : Value) (l6 : Value) (x0 : Int32) (h : zMm) (Q : Option Value → zMm → Prop), zWp d zi_213 none 68 [l0, l1, l2, l3, l4, l5, l6] [.int x0] h Q = if x0 < 0 then zWp d zi_213 none 107 [l0, l1, l2, l3, l4, l5, l6] [] h Q else zWp d zi_213 none 71 [l0, l1, l2, l3, l4, l5, l6] [] h Q) ∧
    (∀ (d : Nat) (l0 : Value) (l1 : Value) (l2 : Int32) (l3 : Value) (l4 : Value) (l5 : Value) (l6 : Value)  (h : zMm) (Q : Option Value → zMm → Prop), zWp d zi_213 none 71 [l0, l1, .int l2, l3, l4, l5, l6] [] h Q = zWp d zi_213 none 72 [l0, l1, .int l2, l3, l4, l5, l6] [.int l2] h Q) ∧
    (∀ (d : Nat) (l0 : Value) (l1 : Value) (l2 : Value) (l3 : Value) (l4 : Value) (l5 : Value) (l6 : Value) (x0 : Int32) (h : zMm) (Q : Option Value → zMm → Prop), zWp d zi_213 none 72 [l0, l1, l2, l3, l4, l5, l6] [.int x0] h Q = if x0 < 0 then zWp d zi_213 none 107 [l0, l1, l2, l3, l4, l5, l6] [] h Q else zWp d zi_213 none 75 [l0, l1, l2, l3, l4, l5, l6] [] h Q) ∧
    (∀ (d : Nat) (l0 : Value) (l1 : Value) (l2 : Value) (l3 : Value) (l4 : Int32) (l5 : Value) (l6 : Value)  (h : zMm) (Q : Option Value → zMm → Prop), zWp d zi_213 none 75 [l0, l1, l2, l3, .int l4, l5, l6] [] h Q = zWp d zi_213 none 77 [l0, l1, l2, l3, .int l4, l5, l6] [.int l4] h Q) ∧
    (∀ (d : Nat) (l0 : Value) (l1 : Value) (l2 : Value) (l3 : Value) (l4 : Value) (l5 : Value) (l6 : Value) (x0 : Int32) (h : zMm) (Q : Option Value → zMm → Prop), zWp d zi_213 none 77 [l0, l1, l2, l3, l4, l5, l6] [.int x0] h Q = if x0 < 0 then zWp d zi_213 none 107 [l0, l1, l2, l3, l4, l5, l6] [] h Q else zWp d zi_213 none 80 [l0, l1, l2, l3, l4, l5, l6] [] h Q) ∧
    (∀ (d : Nat) (l0 : Value) (l1 : Value) (l2 : Int32) (l3 : Value) (l4 : Value) (l5 : Value) (l6 : Value)  (h : zMm) (Q : Option Value → zMm → Prop), zWp d zi_213 none 80 [l0, l1, .int l2, l3, l4, l5, l6] [] h Q = zWp d zi_213 none 81 [l0, l1, .int l2, l3, l4, l5, l6] [.int l2] h Q) ∧
    (∀ (d : Nat) (l0 : Nat) (l1 : Value) (l2 : Value) (l3 : Value) (l4 : Value) (l5 : Value) (l6 : Value) (x0 : Int32) (h : zMm) (Q : Option Value → zMm → Prop), zWp d zi_213 none 81 [.ref l0, l1, l2, l3, l4, l5, l6] [.int x0] h Q = zWp d zi_213 none 82 [.ref l0, l1, l2, l3, l4, l5, l6] [.ref l0, .int x0] h Q) ∧
    (∀ (d : Nat) (l0 : Value) (l1 : Value) (l2 : Value) (l3 : Value) (l4 : Value) (l5 : Value) (l6 : Value) (x1 : Nat) (x0 : Int32) (I : Nat → Nat → Int32) (L : Nat → Nat → Int64) (P : Nat → Nat → Option Nat) (Q : Option Value → zMm → Prop), zSH[x1]? = some (.inl 10) → zWp d zi_213 none 82 [l0, l1, l2, l3, l4, l5, l6] [.ref x1, .int x0] (zSH, I, L, P) Q = zWp d zi_213 none 85 [l0, l1, l2, l3, l4, l5, l6] [va_rf (P x1 47), .int x0] (zSH, I, L, P) Q) ∧
    (∀ (d : Nat) (l0 : Value) (l1 : Int32) (l2 : Value) (l3 : Value) (l4 : Value) (l5 : Value) (l6 : Value) (x1 : Nat) (x0 : Int32) (h : zMm) (Q : Option Value → zMm → Prop), zWp d zi_213 none 85 [l0, .int l1, l2, l3, l4, l5, l6] [.ref x1, .int x0] h Q = zWp d zi_213 none 86 [l0, .int l1, l2, l3, l4, l5, l6] [.int l1, .ref x1, .int x0] h Q) ∧
    (∀ (d : Nat) (l0 : Value) (l1 : Value) (l2 : Value) (l3 : Value) (l4 : Value) (l5 : Value) (l6 : Value) (x2 : Int32) (x1 : Nat) (x0 : Int32) (I : Nat → Nat → Int32) (L : Nat → Nat → Int64) (P : Nat → Nat → Option Nat) (Q : Option Value → zMm → Prop), zAk zSH x1 = some .int → zWp d zi_213 none 86 [l0, l1, l2, l3, l4, l5, l6] [.int x2, .ref x1, .int x0] (zSH, I, L, P) Q = (vp_in x2 (zAn zSH x1) ∧ zWp d zi_213 none 87 [l0, l1, l2, l3, l4, l5, l6] [.int (I x1 x2.toNatClampNeg), .int x0] (zSH, I, L, P) Q)) ∧
    (∀ (d : Nat) (l0 : Value) (l1 : Value) (l2 : Value) (l3 : Value) (l4 : Value) (l5 : Int32) (l6 : Value) (x1 : Int32) (x0 : Int32) (h : zMm) (Q : Option Value → zMm → Prop), zWp d zi_213 none 87 [l0, l1, l2, l3, l4, .int l5, l6] [.int x1, .int x0] h Q = zWp d zi_213 none 89 [l0, l1, l2, l3, l4, .int l5, l6] [.int l5, .int x1, .int x0] h Q) ∧
    (∀ (d : Nat) (l0 : Value) (l1 : Value) (l2 : Value) (l3 : Value) (l4 : Value) (l5 : Value) (l6 : Value) (x2 : Int32) (x1 : Int32) (x0 : Int32) (h : zMm) (Q : Option Value → zMm → Prop), zWp d zi_213 none 89 [l0, l1, l2, l3, l4, l5, l6] [.int x2, .int x1, .int x0] h Q = zWp d zi_213 none 90 [l0, l1, l2, l3, l4, l5, l6] [.int (x1 - x2), .int x0] h Q) ∧
    (∀ (d : Nat) (l0 : Value) (l1 : Value) (l2 : Value) (l3 : Value) (l4 : Value) (l5 : Value) (l6 : Value) (x1 : Int32) (x0 : Int32) (h : zMm) (Q : Option Value → zMm → Prop), zWp d zi_213 none 90 [l0, l1, l2, l3, l4, l5, l6] [.int x1, .int x0] h Q = if x1 < x0 then zWp d zi_213 none 107 [l0, l1, l2, l3, l4, l5, l6] [] h Q else zWp d zi_213 none 93 [l0, l1, l2, l3, l4, l5, l6] [] h Q) ∧
    (∀ (d : Nat) (l0 : Value) (l1 : Value) (l2 : Value) (l3 : Value) (l4 : Int32) (l5 : Value) (l6 : Value)  (h : zMm) (Q : Option Value → zMm → Prop), zWp d zi_213 none 93 [l0, l1, l2, l3, .int l4, l5, l6] [] h Q = zWp d zi_213 none 95 [l0, l1, l2, l3, .int l4, l5, l6] [.int l4] h Q) ∧
    (∀ (d : Nat) (l0 : Nat) (l1 : Value) (l2 : Value) (l3 : Value) (l4 : Value) (l5 : Value) (l6 : Value) (x0 : Int32) (h : zMm) (Q : Option Value → zMm → Prop), zWp d zi_213 none 95 [.ref l0, l1, l2, l3, l4, l5, l6] [.int x0] h Q = zWp d zi_213 none 96 [.ref l0, l1, l2, l3, l4, l5, l6] [.ref l0, .int x0] h Q) ∧
    (∀ (d : Nat) (l0 : Value) (l1 : Value) (l2 : Value) (l3 : Value) (l4 : Value) (l5 : Value) (l6 : Value) (x1 : Nat) (x0 : Int32) (I : Nat → Nat → Int32) (L : Nat → Nat → Int64) (P : Nat → Nat → Option Nat) (Q : Option Value → zMm → Prop), zSH[x1]? = some (.inl 10) → zWp d zi_213 none 96 [l0, l1, l2, l3, l4, l5, l6] [.ref x1, .int x0] (zSH, I, L, P) Q = zWp d zi_213 none 99 [l0, l1, l2, l3, l4, l5, l6] [va_rf (P x1 47), .int x0] (zSH, I, L, P) Q) ∧
    (∀ (d : Nat) (l0 : Value) (l1 : Value) (l2 : Value) (l3 : Int32) (l4 : Value) (l5 : Value) (l6 : Value) (x1 : Nat) (x0 : Int32) (h : zMm) (Q : Option Value → zMm → Prop), zWp d zi_213 none 99 [l0, l1, l2, .int l3, l4, l5, l6] [.ref x1, .int x0] h Q = zWp d zi_213 none 100 [l0, l1, l2, .int l3, l4, l5, l6] [.int l3, .ref x1, .int x0] h Q) ∧
    (∀ (d : Nat) (l0 : Value) (l1 : Value) (l2 : Value) (l3 : Value) (l4 : Value) (l5 : Value) (l6 : Value) (x2 : Int32) (x1 : Nat) (x0 : Int32) (I : Nat → Nat → Int32) (L : Nat → Nat → Int64) (P : Nat → Nat → Option Nat) (Q : Option Value → zMm → Prop), zAk zSH x1 = some .int → zWp d zi_213 none 100 [l0, l1, l2, l3, l4, l5, l6] [.int x2, .ref x1, .int x0] (zSH, I, L, P) Q = (vp_in x2 (zAn zSH x1) ∧ zWp d zi_213 none 101 [l0, l1, l2, l3, l4, l5, l6] [.int (I x1 x2.toNatClampNeg), .int x0] (zSH, I, L, P) Q)) ∧
    (∀ (d : Nat) (l0 : Value) (l1 : Value) (l2 : Value) (l3 : Value) (l4 : Value) (l5 : Int32) (l6 : Value) (x1 : Int32) (x0 : Int32) (h : zMm) (Q : Option Value → zMm → Prop), zWp d zi_213 none 101 [l0, l1, l2, l3, l4, .int l5, l6] [.int x1, .int x0] h Q = zWp d zi_213 none 103 [l0, l1, l2, l3, l4, .int l5, l6] [.int l5, .int x1, .int x0] h Q) ∧
    (∀ (d : Nat) (l0 : Value) (l1 : Value) (l2 : Value) (l3 : Value) (l4 : Value) (l5 : Value) (l6 : Value) (x2 : Int32) (x1 : Int32) (x0 : Int32) (h : zMm) (Q : Option Value → zMm → Prop), zWp d zi_213 none 103 [l0, l1, l2, l3, l4, l5, l6] [.int x2, .int x1, .int x0] h Q = zWp d zi_213 none 104 [l0, l1, l2, l3, l4, l5, l6] [.int (x1 - x2), .int x0] h Q) ∧
    (∀ (d : Nat) (l0 : Value) (l1 : Value) (l2 : Value) (l3 : Value) (l4 : Value) (l5 : Value) (l6 : Value) (x1 : Int32) (x0 : Int32) (h : zMm) (Q : Option Value → zMm → Prop), zWp d zi_213 none 104 [l0, l1, l2, l3, l4, l5, l6] [.int x1, .int x0] h Q = if x0 ≤ x1 then zWp d zi_213 none 110 [l0, l1, l2, l3, l4, l5, l6] [] h Q else zWp d zi_213 none 107 [l0, l1, l2, l3, l4, l5, l6] [] h Q) ∧
    (∀ (d : Nat) (l0 : Value) (l1 : Value) (l2 : Value) (l3 : Value) (l4 : Value) (l5 : Value) (l6 : Value)  (h : zMm) (Q : Option Value → zMm → Prop), zWp d zi_213 none 107 [l0, l1, l2, l3, l4, l5, l6] [] h Q = zWp d zi_213 none 109 [l0, l1, l2, l3, l4, l5, l6] [.int (-13)] h Q) ∧
    (∀ (d : Nat) (l0 : Value) (l1 : Value) (l2 : Value) (l3 : Value) (l4 : Value) (l5 : Value) (l6 : Value) (x0 : Int32) (h : zMm) (Q : Option Value → zMm → Prop), zWp d zi_213 none 109 [l0, l1, l2, l3, l4, l5, l6] [.int x0] h Q = Q (some (.int x0)) h) ∧
    (∀ (d : Nat) (l0 : Value) (l1 : Value) (l2 : Value) (l3 : Value) (l4 : Value) (l5 : Value) (l6 : Value)  (h : zMm) (Q : Option Value → zMm → Prop), zWp d zi_213 none 110 [l0, l1, l2, l3, l4, l5, l6] [] h Q = zWp d zi_213 none 111 [l0, l1, l2, l3, l4, l5, l6] [.int 0] h Q) ∧
    (∀ (d : Nat) (l0 : Value) (l1 : Value) (l2 : Value) (l3 : Value) (l4 : Value) (l5 : Int32) (l6 : Value) (x0 : Int32) (h : zMm) (Q : Option Value → zMm → Prop), zWp d zi_213 none 111 [l0, l1, l2, l3, l4, .int l5, l6] [.int x0] h Q = zWp d zi_213 none 113 [l0, l1, l2, l3, l4, .int l5, .int x0] [] h Q) ∧
    (∀ (d : Nat) (l0 : Value) (l1 : Value) (l2 : Value) (l3 : Value) (l4 : Value) (l5 : Int32) (l6 : Value) (x0 : Int32) (h : zMm) (Q : Option Value → zMm → Prop), zWp d zi_213 none 115 [l0, l1, l2, l3, l4, .int l5, l6] [.int x0] h Q = zWp d zi_213 none 117 [l0, l1, l2, l3, l4, .int l5, l6] [.int l5, .int x0] h Q) ∧
    (∀ (d : Nat) (l0 : Value) (l1 : Value) (l2 : Value) (l3 : Value) (l4 : Value) (l5 : Value) (l6 : Value) (x1 : Int32) (x0 : Int32) (h : zMm) (Q : Option Value → zMm → Prop), zWp d zi_213 none 117 [l0, l1, l2, l3, l4, l5, l6] [.int x1, .int x0] h Q = if x1 ≤ x0 then zWp d zi_213 none 147 [l0, l1, l2, l3, l4, l5, l6] [] h Q else zWp d zi_213 none 120 [l0, l1, l2, l3, l4, l5, l6] [] h Q) ∧
    (∀ (d : Nat) (l0 : Nat) (l1 : Value) (l2 : Value) (l3 : Value) (l4 : Value) (l5 : Value) (l6 : Value)  (h : zMm) (Q : Option Value → zMm → Prop), zWp d zi_213 none 120 [.ref l0, l1, l2, l3, l4, l5, l6] [] h Q = zWp d zi_213 none 121 [.ref l0, l1, l2, l3, l4, l5, l6] [.ref l0] h Q) ∧
    (∀ (d : Nat) (l0 : Value) (l1 : Value) (l2 : Value) (l3 : Value) (l4 : Value) (l5 : Value) (l6 : Value) (x0 : Nat) (I : Nat → Nat → Int32) (L : Nat → Nat → Int64) (P : Nat → Nat → Option Nat) (Q : Option Value → zMm → Prop), zSH[x0]? = some (.inl 10) → zWp d zi_213 none 121 [l0, l1, l2, l3, l4, l5, l6] [.ref x0] (zSH, I, L, P) Q = zWp d zi_213 none 124 [l0, l1, l2, l3, l4, l5, l6] [va_rf (P x0 49)] (zSH, I, L, P) Q) ∧
    (∀ (d : Nat) (l0 : Value) (l1 : Value) (l2 : Value) (l3 : Value) (l4 : Value) (l5 : Value) (l6 : Int32) (x0 : Nat) (h : zMm) (Q : Option Value → zMm → Prop), zWp d zi_213 none 124 [l0, l1, l2, l3, l4, l5, .int l6] [.ref x0] h Q = zWp d zi_213 none 126 [l0, l1, l2, l3, l4, l5, .int l6] [.int l6, .ref x0] h Q) ∧
    (∀ (d : Nat) (l0 : Nat) (l1 : Value) (l2 : Value) (l3 : Value) (l4 : Value) (l5 : Value) (l6 : Value) (x1 : Int32) (x0 : Nat) (h : zMm) (Q : Option Value → zMm → Prop), zWp d zi_213 none 126 [.ref l0, l1, l2, l3, l4, l5, l6] [.int x1, .ref x0] h Q = zWp d zi_213 none 127 [.ref l0, l1, l2, l3, l4, l5, l6] [.ref l0, .int x1, .ref x0] h Q) ∧
    (∀ (d : Nat) (l0 : Value) (l1 : Value) (l2 : Value) (l3 : Value) (l4 : Value) (l5 : Value) (l6 : Value) (x2 : Nat) (x1 : Int32) (x0 : Nat) (I : Nat → Nat → Int32) (L : Nat → Nat → Int64) (P : Nat → Nat → Option Nat) (Q : Option Value → zMm → Prop), zSH[x2]? = some (.inl 10) → zWp d zi_213 none 127 [l0, l1, l2, l3, l4, l5, l6] [.ref x2, .int x1, .ref x0] (zSH, I, L, P) Q = zWp d zi_213 none 130 [l0, l1, l2, l3, l4, l5, l6] [va_rf (P x2 48), .int x1, .ref x0] (zSH, I, L, P) Q) ∧
    (∀ (d : Nat) (l0 : Value) (l1 : Value) (l2 : Value) (l3 : Value) (l4 : Value) (l5 : Value) (l6 : Value) (x2 : Nat) (x1 : Int32) (x0 : Nat) (h : zMm) (Q : Option Value → zMm → Prop), zWp d zi_213 none 130 [l0, l1, l2, l3, l4, l5, l6] [.ref x2, .int x1, .ref x0] h Q = zWp d zi_213 none 132 [l0, l1, l2, l3, l4, l5, l6] [.int 60, .ref x2, .int x1, .ref x0] h Q) ∧
    (∀ (d : Nat) (l0 : Value) (l1 : Int32) (l2 : Value) (l3 : Value) (l4 : Value) (l5 : Value) (l6 : Value) (x3 : Int32) (x2 : Nat) (x1 : Int32) (x0 : Nat) (h : zMm) (Q : Option Value → zMm → Prop), zWp d zi_213 none 132 [l0, .int l1, l2, l3, l4, l5, l6] [.int x3, .ref x2, .int x1, .ref x0] h Q = zWp d zi_213 none 133 [l0, .int l1, l2, l3, l4, l5, l6] [.int l1, .int x3, .ref x2, .int x1, .ref x0] h Q) ∧
    (∀ (d : Nat) (l0 : Value) (l1 : Value) (l2 : Value) (l3 : Value) (l4 : Value) (l5 : Value) (l6 : Value) (x4 : Int32) (x3 : Int32) (x2 : Nat) (x1 : Int32) (x0 : Nat) (h : zMm) (Q : Option Value → zMm → Prop), zWp d zi_213 none 133 [l0, l1, l2, l3, l4, l5, l6] [.int x4, .int x3, .ref x2, .int x1, .ref x0] h Q = zWp d zi_213 none 134 [l0, l1, l2, l3, l4, l5, l6] [.int (x3 * x4), .ref x2, .int x1, .ref x0] h Q) ∧
    (∀ (d : Nat) (l0 : Value) (l1 : Value) (l2 : Int32) (l3 : Value) (l4 : Value) (l5 : Value) (l6 : Value) (x3 : Int32) (x2 : Nat) (x1 : Int32) (x0 : Nat) (h : zMm) (Q : Option Value → zMm → Prop), zWp d zi_213 none 134 [l0, l1, .int l2, l3, l4, l5, l6] [.int x3, .ref x2, .int x1, .ref x0] h Q = zWp d zi_213 none 135 [l0, l1, .int l2, l3, l4, l5, l6] [.int l2, .int x3, .ref x2, .int x1, .ref x0] h Q) ∧
    (∀ (d : Nat) (l0 : Value) (l1 : Value) (l2 : Value) (l3 : Value) (l4 : Value) (l5 : Value) (l6 : Value) (x4 : Int32) (x3 : Int32) (x2 : Nat) (x1 : Int32) (x0 : Nat) (h : zMm) (Q : Option Value → zMm → Prop), zWp d zi_213 none 135 [l0, l1, l2, l3, l4, l5, l6] [.int x4, .int x3, .ref x2, .int x1, .ref x0] h Q = zWp d zi_213 none 136 [l0, l1, l2, l3, l4, l5, l6] [.int (x3 + x4), .ref x2, .int x1, .ref x0] h Q) ∧
    (∀ (d : Nat) (l0 : Value) (l1 : Value) (l2 : Value) (l3 : Value) (l4 : Value) (l5 : Value) (l6 : Int32) (x3 : Int32) (x2 : Nat) (x1 : Int32) (x0 : Nat) (h : zMm) (Q : Option Value → zMm → Prop), zWp d zi_213 none 136 [l0, l1, l2, l3, l4, l5, .int l6] [.int x3, .ref x2, .int x1, .ref x0] h Q = zWp d zi_213 none 138 [l0, l1, l2, l3, l4, l5, .int l6] [.int l6, .int x3, .ref x2, .int x1, .ref x0] h Q) ∧
    (∀ (d : Nat) (l0 : Value) (l1 : Value) (l2 : Value) (l3 : Value) (l4 : Value) (l5 : Value) (l6 : Value) (x4 : Int32) (x3 : Int32) (x2 : Nat) (x1 : Int32) (x0 : Nat) (h : zMm) (Q : Option Value → zMm → Prop), zWp d zi_213 none 138 [l0, l1, l2, l3, l4, l5, l6] [.int x4, .int x3, .ref x2, .int x1, .ref x0] h Q = zWp d zi_213 none 139 [l0, l1, l2, l3, l4, l5, l6] [.int (x3 + x4), .ref x2, .int x1, .ref x0] h Q) ∧
    (∀ (d : Nat) (l0 : Value) (l1 : Value) (l2 : Value) (l3 : Value) (l4 : Value) (l5 : Value) (l6 : Value) (x3 : Int32) (x2 : Nat) (x1 : Int32) (x0 : Nat) (I : Nat → Nat → Int32) (L : Nat → Nat → Int64) (P : Nat → Nat → Option Nat) (Q : Option Value → zMm → Prop), zAk zSH x2 = some .long → zWp d zi_213 none 139 [l0, l1, l2, l3, l4, l5, l6] [.int x3, .ref x2, .int x1, .ref x0] (zSH, I, L, P) Q = (vp_in x3 (zAn zSH x2) ∧ zWp d zi_213 none 140 [l0, l1, l2, l3, l4, l5, l6] [.long (L x2 x3.toNatClampNeg), .int x1, .ref x0] (zSH, I, L, P) Q)) ∧
    (∀ (d : Nat) (l0 : Value) (l1 : Value) (l2 : Value) (l3 : Value) (l4 : Value) (l5 : Value) (l6 : Value) (x2 : Int64) (x1 : Int32) (x0 : Nat) (I : Nat → Nat → Int32) (L : Nat → Nat → Int64) (P : Nat → Nat → Option Nat) (Q : Option Value → zMm → Prop), zAk zSH x0 = some .long → zWp d zi_213 none 140 [l0, l1, l2, l3, l4, l5, l6] [.long x2, .int x1, .ref x0] (zSH, I, L, P) Q = (vp_in x1 (zAn zSH x0) ∧ zWp d zi_213 none 141 [l0, l1, l2, l3, l4, l5, l6] [] (zSH, I, zw L x0 (vp_updL (L x0) x1.toNatClampNeg x2), P) Q)) ∧
    (∀ (d : Nat) (l0 : Value) (l1 : Value) (l2 : Value) (l3 : Value) (l4 : Value) (l5 : Int32) (l6 : Int32)  (h : zMm) (Q : Option Value → zMm → Prop), zWp d zi_213 none 141 [l0, l1, l2, l3, l4, .int l5, .int l6] [] h Q = zWp d zi_213 none 144 [l0, l1, l2, l3, l4, .int l5, .int (l6 + 1)] [] h Q) ∧
    (∀ (d : Nat) (l0 : Value) (l1 : Value) (l2 : Value) (l3 : Value) (l4 : Value) (l5 : Value) (l6 : Value)  (h : zMm) (Q : Option Value → zMm → Prop), zWp d zi_213 none 144 [l0, l1, l2, l3, l4, l5, l6] [] h Q = zWp d zi_213 none 113 [l0, l1, l2, l3, l4, l5, l6] [] h Q) ∧
    (∀ (d : Nat) (l0 : Value) (l1 : Value) (l2 : Value) (l3 : Value) (l4 : Value) (l5 : Value) (l6 : Value)  (h : zMm) (Q : Option Value → zMm → Prop), zWp d zi_213 none 147 [l0, l1, l2, l3, l4, l5, l6] [] h Q = zWp d zi_213 none 148 [l0, l1, l2, l3, l4, l5, l6] [.int 0] h Q) ∧
    (∀ (d : Nat) (l0 : Value) (l1 : Value) (l2 : Value) (l3 : Value) (l4 : Value) (l5 : Int32) (l6 : Value) (x0 : Int32) (h : zMm) (Q : Option Value → zMm → Prop), zWp d zi_213 none 148 [l0, l1, l2, l3, l4, .int l5, l6] [.int x0] h Q = zWp d zi_213 none 150 [l0, l1, l2, l3, l4, .int l5, .int x0] [] h Q) ∧
    (∀ (d : Nat) (l0 : Value) (l1 : Value) (l2 : Value) (l3 : Value) (l4 : Value) (l5 : Int32) (l6 : Value) (x0 : Int32) (h : zMm) (Q : Option Value → zMm → Prop), zWp d zi_213 none 152 [l0, l1, l2, l3, l4, .int l5, l6] [.int x0] h Q = zWp d zi_213 none 154 [l0, l1, l2, l3, l4, .int l5, l6] [.int l5, .int x0] h Q) ∧
    (∀ (d : Nat) (l0 : Value) (l1 : Value) (l2 : Value) (l3 : Value) (l4 : Value) (l5 : Value) (l6 : Value) (x1 : Int32) (x0 : Int32) (h : zMm) (Q : Option Value → zMm → Prop), zWp d zi_213 none 154 [l0, l1, l2, l3, l4, l5, l6] [.int x1, .int x0] h Q = if x1 ≤ x0 then zWp d zi_213 none 185 [l0, l1, l2, l3, l4, l5, l6] [] h Q else zWp d zi_213 none 157 [l0, l1, l2, l3, l4, l5, l6] [] h Q) ∧
    (∀ (d : Nat) (l0 : Nat) (l1 : Value) (l2 : Value) (l3 : Value) (l4 : Value) (l5 : Value) (l6 : Value)  (h : zMm) (Q : Option Value → zMm → Prop), zWp d zi_213 none 157 [.ref l0, l1, l2, l3, l4, l5, l6] [] h Q = zWp d zi_213 none 158 [.ref l0, l1, l2, l3, l4, l5, l6] [.ref l0] h Q) ∧
    (∀ (d : Nat) (l0 : Value) (l1 : Value) (l2 : Value) (l3 : Value) (l4 : Value) (l5 : Value) (l6 : Value) (x0 : Nat) (I : Nat → Nat → Int32) (L : Nat → Nat → Int64) (P : Nat → Nat → Option Nat) (Q : Option Value → zMm → Prop), zSH[x0]? = some (.inl 10) → zWp d zi_213 none 158 [l0, l1, l2, l3, l4, l5, l6] [.ref x0] (zSH, I, L, P) Q = zWp d zi_213 none 161 [l0, l1, l2, l3, l4, l5, l6] [va_rf (P x0 48)] (zSH, I, L, P) Q) ∧
    (∀ (d : Nat) (l0 : Value) (l1 : Value) (l2 : Value) (l3 : Value) (l4 : Value) (l5 : Value) (l6 : Value) (x0 : Nat) (h : zMm) (Q : Option Value → zMm → Prop), zWp d zi_213 none 161 [l0, l1, l2, l3, l4, l5, l6] [.ref x0] h Q = zWp d zi_213 none 163 [l0, l1, l2, l3, l4, l5, l6] [.int 60, .ref x0] h Q) ∧
    (∀ (d : Nat) (l0 : Value) (l1 : Value) (l2 : Value) (l3 : Int32) (l4 : Value) (l5 : Value) (l6 : Value) (x1 : Int32) (x0 : Nat) (h : zMm) (Q : Option Value → zMm → Prop), zWp d zi_213 none 163 [l0, l1, l2, .int l3, l4, l5, l6] [.int x1, .ref x0] h Q = zWp d zi_213 none 164 [l0, l1, l2, .int l3, l4, l5, l6] [.int l3, .int x1, .ref x0] h Q) ∧
    (∀ (d : Nat) (l0 : Value) (l1 : Value) (l2 : Value) (l3 : Value) (l4 : Value) (l5 : Value) (l6 : Value) (x2 : Int32) (x1 : Int32) (x0 : Nat) (h : zMm) (Q : Option Value → zMm → Prop), zWp d zi_213 none 164 [l0, l1, l2, l3, l4, l5, l6] [.int x2, .int x1, .ref x0] h Q = zWp d zi_213 none 165 [l0, l1, l2, l3, l4, l5, l6] [.int (x1 * x2), .ref x0] h Q) ∧
    (∀ (d : Nat) (l0 : Value) (l1 : Value) (l2 : Value) (l3 : Value) (l4 : Int32) (l5 : Value) (l6 : Value) (x1 : Int32) (x0 : Nat) (h : zMm) (Q : Option Value → zMm → Prop), zWp d zi_213 none 165 [l0, l1, l2, l3, .int l4, l5, l6] [.int x1, .ref x0] h Q = zWp d zi_213 none 167 [l0, l1, l2, l3, .int l4, l5, l6] [.int l4, .int x1, .ref x0] h Q) ∧
    (∀ (d : Nat) (l0 : Value) (l1 : Value) (l2 : Value) (l3 : Value) (l4 : Value) (l5 : Value) (l6 : Value) (x2 : Int32) (x1 : Int32) (x0 : Nat) (h : zMm) (Q : Option Value → zMm → Prop), zWp d zi_213 none 167 [l0, l1, l2, l3, l4, l5, l6] [.int x2, .int x1, .ref x0] h Q = zWp d zi_213 none 168 [l0, l1, l2, l3, l4, l5, l6] [.int (x1 + x2), .ref x0] h Q) ∧
    (∀ (d : Nat) (l0 : Value) (l1 : Value) (l2 : Value) (l3 : Value) (l4 : Value) (l5 : Value) (l6 : Int32) (x1 : Int32) (x0 : Nat) (h : zMm) (Q : Option Value → zMm → Prop), zWp d zi_213 none 168 [l0, l1, l2, l3, l4, l5, .int l6] [.int x1, .ref x0] h Q = zWp d zi_213 none 170 [l0, l1, l2, l3, l4, l5, .int l6] [.int l6, .int x1, .ref x0] h Q) ∧
    (∀ (d : Nat) (l0 : Value) (l1 : Value) (l2 : Value) (l3 : Value) (l4 : Value) (l5 : Value) (l6 : Value) (x2 : Int32) (x1 : Int32) (x0 : Nat) (h : zMm) (Q : Option Value → zMm → Prop), zWp d zi_213 none 170 [l0, l1, l2, l3, l4, l5, l6] [.int x2, .int x1, .ref x0] h Q = zWp d zi_213 none 171 [l0, l1, l2, l3, l4, l5, l6] [.int (x1 + x2), .ref x0] h Q) ∧
    (∀ (d : Nat) (l0 : Nat) (l1 : Value) (l2 : Value) (l3 : Value) (l4 : Value) (l5 : Value) (l6 : Value) (x1 : Int32) (x0 : Nat) (h : zMm) (Q : Option Value → zMm → Prop), zWp d zi_213 none 171 [.ref l0, l1, l2, l3, l4, l5, l6] [.int x1, .ref x0] h Q = zWp d zi_213 none 172 [.ref l0, l1, l2, l3, l4, l5, l6] [.ref l0, .int x1, .ref x0] h Q) ∧
    (∀ (d : Nat) (l0 : Value) (l1 : Value) (l2 : Value) (l3 : Value) (l4 : Value) (l5 : Value) (l6 : Value) (x2 : Nat) (x1 : Int32) (x0 : Nat) (I : Nat → Nat → Int32) (L : Nat → Nat → Int64) (P : Nat → Nat → Option Nat) (Q : Option Value → zMm → Prop), zSH[x2]? = some (.inl 10) → zWp d zi_213 none 172 [l0, l1, l2, l3, l4, l5, l6] [.ref x2, .int x1, .ref x0] (zSH, I, L, P) Q = zWp d zi_213 none 175 [l0, l1, l2, l3, l4, l5, l6] [va_rf (P x2 49), .int x1, .ref x0] (zSH, I, L, P) Q) ∧
    (∀ (d : Nat) (l0 : Value) (l1 : Value) (l2 : Value) (l3 : Value) (l4 : Value) (l5 : Value) (l6 : Int32) (x2 : Nat) (x1 : Int32) (x0 : Nat) (h : zMm) (Q : Option Value → zMm → Prop), zWp d zi_213 none 175 [l0, l1, l2, l3, l4, l5, .int l6] [.ref x2, .int x1, .ref x0] h Q = zWp d zi_213 none 177 [l0, l1, l2, l3, l4, l5, .int l6] [.int l6, .ref x2, .int x1, .ref x0] h Q) ∧
    (∀ (d : Nat) (l0 : Value) (l1 : Value) (l2 : Value) (l3 : Value) (l4 : Value) (l5 : Value) (l6 : Value) (x3 : Int32) (x2 : Nat) (x1 : Int32) (x0 : Nat) (I : Nat → Nat → Int32) (L : Nat → Nat → Int64) (P : Nat → Nat → Option Nat) (Q : Option Value → zMm → Prop), zAk zSH x2 = some .long → zWp d zi_213 none 177 [l0, l1, l2, l3, l4, l5, l6] [.int x3, .ref x2, .int x1, .ref x0] (zSH, I, L, P) Q = (vp_in x3 (zAn zSH x2) ∧ zWp d zi_213 none 178 [l0, l1, l2, l3, l4, l5, l6] [.long (L x2 x3.toNatClampNeg), .int x1, .ref x0] (zSH, I, L, P) Q)) ∧
    (∀ (d : Nat) (l0 : Value) (l1 : Value) (l2 : Value) (l3 : Value) (l4 : Value) (l5 : Value) (l6 : Value) (x2 : Int64) (x1 : Int32) (x0 : Nat) (I : Nat → Nat → Int32) (L : Nat → Nat → Int64) (P : Nat → Nat → Option Nat) (Q : Option Value → zMm → Prop), zAk zSH x0 = some .long → zWp d zi_213 none 178 [l0, l1, l2, l3, l4, l5, l6] [.long x2, .int x1, .ref x0] (zSH, I, L, P) Q = (vp_in x1 (zAn zSH x0) ∧ zWp d zi_213 none 179 [l0, l1, l2, l3, l4, l5, l6] [] (zSH, I, zw L x0 (vp_updL (L x0) x1.toNatClampNeg x2), P) Q)) ∧
    (∀ (d : Nat) (l0 : Value) (l1 : Value) (l2 : Value) (l3 : Value) (l4 : Value) (l5 : Int32) (l6 : Int32)  (h : zMm) (Q : Option Value → zMm → Prop), zWp d zi_213 none 179 [l0, l1, l2, l3, l4, .int l5, .int l6] [] h Q = zWp d zi_213 none 182 [l0, l1, l2, l3, l4, .int l5, .int (l6 + 1)] [] h Q) ∧
    (∀ (d : Nat) (l0 : Value) (l1 : Value) (l2 : Value) (l3 : Value) (l4 : Value) (l5 : Value) (l6 : Value)  (h : zMm) (Q : Option Value → zMm → Prop), zWp d zi_213 none 182 [l0, l1, l2, l3, l4, l5, l6] [] h Q = zWp d zi_213 none 150 [l0, l1, l2, l3, l4, l5, l6] [] h Q) ∧
    (∀ (d : Nat) (l0 : Value) (l1 : Value) (l2 : Value) (l3 : Value) (l4 : Value) (l5 : Int32) (l6 : Value)  (h : zMm) (Q : Option Value → zMm → Prop), zWp d zi_213 none 185 [l0, l1, l2, l3, l4, .int l5, l6] [] h Q = zWp d zi_213 none 187 [l0, l1, l2, l3, l4, .int l5, l6] [.int l5] h Q) ∧
    (∀ (d : Nat) (l0 : Value) (l1 : Value) (l2 : Value) (l3 : Value) (l4 : Value) (l5 : Value) (l6 : Value) (x0 : Int32) (h : zMm) (Q : Option Value → zMm → Prop), zWp d zi_213 none 187 [l0, l1, l2, l3, l4, l5, l6] [.int x0] h Q = Q (some (.int x0)) h) :=
  ⟨(fun d l0 l1 l2 l3 l4 l5 l6  h Q => zr_iload_n rfl rfl),
   (fun d l0 l1 l2 l3 l4 l5 l6 x0 h Q => zr_sta (as := [.int x0]) (rest := []) rfl lm_10_135 (by decide) m_206 kd_206 rfl (Nat.le_of_ble_eq_true rfl)),
   (fun d l0 l1 l2 l3 l4 l5 l6 x0 h Q => zr_if_eq rfl (by decide)),
   (fun d l0 l1 l2 l3 l4 l5 l6  h Q => zr_iload_n rfl rfl),
   (fun d l0 l1 l2 l3 l4 l5 l6 x0 h Q => zr_sta (as := [.int x0]) (rest := []) rfl lm_10_135 (by decide) m_206 kd_206 rfl (Nat.le_of_ble_eq_true rfl)),
   (fun d l0 l1 l2 l3 l4 l5 l6 x0 h Q => zr_if_ne rfl (by decide)),
   (fun d l0 l1 l2 l3 l4 l5 l6  h Q => zr_iconst rfl (by decide)),
   (fun d l0 l1 l2 l3 l4 l5 l6 x0 h Q => zr_iret rfl rfl),
   (fun d l0 l1 l2 l3 l4 l5 l6  h Q => zr_aload_n rfl rfl),
   (fun d l0 l1 l2 l3 l4 l5 l6 x0 I L P Q p0 => zr_getQ rfl lf_10_67 (fun _ _ _ => rfl) p0),
   (fun d l0 l1 l2 l3 l4 l5 l6 x0 h Q => zr_iload_n rfl rfl),
   (fun d l0 l1 l2 l3 l4 l5 l6 x1 x0 I L P Q p0 => zr_ald rfl p0),
   (fun d l0 l1 l2 l3 l4 l5 l6 x0 h Q => zr_if_lt rfl (by decide)),
   (fun d l0 l1 l2 l3 l4 l5 l6  h Q => zr_aload_n rfl rfl),
   (fun d l0 l1 l2 l3 l4 l5 l6 x0 I L P Q p0 => zr_getQ rfl lf_10_67 (fun _ _ _ => rfl) p0),
   (fun d l0 l1 l2 l3 l4 l5 l6 x0 h Q => zr_iload_n rfl rfl),
   (fun d l0 l1 l2 l3 l4 l5 l6 x1 x0 I L P Q p0 => zr_ald rfl p0),
   (fun d l0 l1 l2 l3 l4 l5 l6 x0 h Q => zr_if_ge rfl (by decide)),
   (fun d l0 l1 l2 l3 l4 l5 l6  h Q => zr_bipush rfl (by decide)),
   (fun d l0 l1 l2 l3 l4 l5 l6 x0 h Q => zr_iret rfl rfl),
   (fun d l0 l1 l2 l3 l4 l5 l6  h Q => zr_aload_n rfl rfl),
   (fun d l0 l1 l2 l3 l4 l5 l6 x0 I L P Q p0 => zr_getQ rfl lf_10_67 (fun _ _ _ => rfl) p0),
   (fun d l0 l1 l2 l3 l4 l5 l6 x0 h Q => zr_iload_n rfl rfl),
   (fun d l0 l1 l2 l3 l4 l5 l6 x1 x0 I L P Q p0 => zr_ald rfl p0),
   (fun d l0 l1 l2 l3 l4 l5 l6 x0 h Q => zr_bipush rfl (by decide)),
   (fun d l0 l1 l2 l3 l4 l5 l6 x1 x0 h Q => zr_ic_lt rfl (by decide)),
   (fun d l0 l1 l2 l3 l4 l5 l6  h Q => zr_aload_n rfl rfl),
   (fun d l0 l1 l2 l3 l4 l5 l6 x0 I L P Q p0 => zr_getQ rfl lf_10_67 (fun _ _ _ => rfl) p0),
   (fun d l0 l1 l2 l3 l4 l5 l6 x0 h Q => zr_iload_n rfl rfl),
   (fun d l0 l1 l2 l3 l4 l5 l6 x1 x0 I L P Q p0 => zr_ald rfl p0),
   (fun d l0 l1 l2 l3 l4 l5 l6 x0 h Q => zr_aload_n rfl rfl),
   (fun d l0 l1 l2 l3 l4 l5 l6 x1 x0 I L P Q p0 => zr_getQ rfl lf_10_67 (fun _ _ _ => rfl) p0),
   (fun d l0 l1 l2 l3 l4 l5 l6 x1 x0 h Q => zr_iload_n rfl rfl),
   (fun d l0 l1 l2 l3 l4 l5 l6 x2 x1 x0 I L P Q p0 => zr_ald rfl p0),
   (fun d l0 l1 l2 l3 l4 l5 l6 x1 x0 h Q => zr_ic_eq rfl (by decide)),
   (fun d l0 l1 l2 l3 l4 l5 l6  h Q => zr_bipush rfl (by decide)),
   (fun d l0 l1 l2 l3 l4 l5 l6 x0 h Q => zr_iret rfl rfl),
   (fun d l0 l1 l2 l3 l4 l5 l6  h Q => zr_iload rfl rfl),
   (fun d l0 l1 l2 l3 l4 l5 l6 x0 h Q => zr_if_lt rfl (by decide)),
   (fun d l0 l1 l2 l3 l4 l5 l6  h Q => zr_iload_n rfl rfl),
   (fun d l0 l1 l2 l3 l4 l5 l6 x0 h Q => zr_if_lt rfl (by decide)),
   (fun d l0 l1 l2 l3 l4 l5 l6  h Q => zr_iload rfl rfl),
   (fun d l0 l1 l2 l3 l4 l5 l6 x0 h Q => zr_if_lt rfl (by decide)),
   (fun d l0 l1 l2 l3 l4 l5 l6  h Q => zr_iload_n rfl rfl),
   (fun d l0 l1 l2 l3 l4 l5 l6 x0 h Q => zr_aload_n rfl rfl),
   (fun d l0 l1 l2 l3 l4 l5 l6 x1 x0 I L P Q p0 => zr_getQ rfl lf_10_70 (fun _ _ _ => rfl) p0),
   (fun d l0 l1 l2 l3 l4 l5 l6 x1 x0 h Q => zr_iload_n rfl rfl),
   (fun d l0 l1 l2 l3 l4 l5 l6 x2 x1 x0 I L P Q p0 => zr_ald rfl p0),
   (fun d l0 l1 l2 l3 l4 l5 l6 x1 x0 h Q => zr_iload rfl rfl),
   (fun d l0 l1 l2 l3 l4 l5 l6 x2 x1 x0 h Q => zr_isub rfl),
   (fun d l0 l1 l2 l3 l4 l5 l6 x1 x0 h Q => zr_ic_gt rfl (by decide)),
   (fun d l0 l1 l2 l3 l4 l5 l6  h Q => zr_iload rfl rfl),
   (fun d l0 l1 l2 l3 l4 l5 l6 x0 h Q => zr_aload_n rfl rfl),
   (fun d l0 l1 l2 l3 l4 l5 l6 x1 x0 I L P Q p0 => zr_getQ rfl lf_10_70 (fun _ _ _ => rfl) p0),
   (fun d l0 l1 l2 l3 l4 l5 l6 x1 x0 h Q => zr_iload_n rfl rfl),
   (fun d l0 l1 l2 l3 l4 l5 l6 x2 x1 x0 I L P Q p0 => zr_ald rfl p0),
   (fun d l0 l1 l2 l3 l4 l5 l6 x1 x0 h Q => zr_iload rfl rfl),
   (fun d l0 l1 l2 l3 l4 l5 l6 x2 x1 x0 h Q => zr_isub rfl),
   (fun d l0 l1 l2 l3 l4 l5 l6 x1 x0 h Q => zr_ic_le rfl (by decide)),
   (fun d l0 l1 l2 l3 l4 l5 l6  h Q => zr_bipush rfl (by decide)),
   (fun d l0 l1 l2 l3 l4 l5 l6 x0 h Q => zr_iret rfl rfl),
   (fun d l0 l1 l2 l3 l4 l5 l6  h Q => zr_iconst rfl (by decide)),
   (fun d l0 l1 l2 l3 l4 l5 l6 x0 h Q => zr_istore (n := 6) rfl (Nat.le_of_ble_eq_true rfl) rfl),
   (fun d l0 l1 l2 l3 l4 l5 l6 x0 h Q => zr_iload rfl rfl),
   (fun d l0 l1 l2 l3 l4 l5 l6 x1 x0 h Q => zr_ic_ge rfl (by decide)),
   (fun d l0 l1 l2 l3 l4 l5 l6  h Q => zr_aload_n rfl rfl),
   (fun d l0 l1 l2 l3 l4 l5 l6 x0 I L P Q p0 => zr_getQ rfl lf_10_77 (fun _ _ _ => rfl) p0),
   (fun d l0 l1 l2 l3 l4 l5 l6 x0 h Q => zr_iload rfl rfl),
   (fun d l0 l1 l2 l3 l4 l5 l6 x1 x0 h Q => zr_aload_n rfl rfl),
   (fun d l0 l1 l2 l3 l4 l5 l6 x2 x1 x0 I L P Q p0 => zr_getQ rfl lf_10_73 (fun _ _ _ => rfl) p0),
   (fun d l0 l1 l2 l3 l4 l5 l6 x2 x1 x0 h Q => zr_bipush rfl (by decide)),
   (fun d l0 l1 l2 l3 l4 l5 l6 x3 x2 x1 x0 h Q => zr_iload_n rfl rfl),
   (fun d l0 l1 l2 l3 l4 l5 l6 x4 x3 x2 x1 x0 h Q => zr_imul rfl),
   (fun d l0 l1 l2 l3 l4 l5 l6 x3 x2 x1 x0 h Q => zr_iload_n rfl rfl),
   (fun d l0 l1 l2 l3 l4 l5 l6 x4 x3 x2 x1 x0 h Q => zr_iadd rfl),
   (fun d l0 l1 l2 l3 l4 l5 l6 x3 x2 x1 x0 h Q => zr_iload rfl rfl),
   (fun d l0 l1 l2 l3 l4 l5 l6 x4 x3 x2 x1 x0 h Q => zr_iadd rfl),
   (fun d l0 l1 l2 l3 l4 l5 l6 x3 x2 x1 x0 I L P Q p0 => zr_lld rfl p0),
   (fun d l0 l1 l2 l3 l4 l5 l6 x2 x1 x0 I L P Q p0 => zr_lst rfl p0),
   (fun d l0 l1 l2 l3 l4 l5 l6  h Q => zr_iinc (n := 6) (kc := 1) rfl rfl (Nat.le_of_ble_eq_true rfl) rfl (by decide)),
   (fun d l0 l1 l2 l3 l4 l5 l6  h Q => zr_goto rfl (by decide)),
   (fun d l0 l1 l2 l3 l4 l5 l6  h Q => zr_iconst rfl (by decide)),
   (fun d l0 l1 l2 l3 l4 l5 l6 x0 h Q => zr_istore (n := 6) rfl (Nat.le_of_ble_eq_true rfl) rfl),
   (fun d l0 l1 l2 l3 l4 l5 l6 x0 h Q => zr_iload rfl rfl),
   (fun d l0 l1 l2 l3 l4 l5 l6 x1 x0 h Q => zr_ic_ge rfl (by decide)),
   (fun d l0 l1 l2 l3 l4 l5 l6  h Q => zr_aload_n rfl rfl),
   (fun d l0 l1 l2 l3 l4 l5 l6 x0 I L P Q p0 => zr_getQ rfl lf_10_73 (fun _ _ _ => rfl) p0),
   (fun d l0 l1 l2 l3 l4 l5 l6 x0 h Q => zr_bipush rfl (by decide)),
   (fun d l0 l1 l2 l3 l4 l5 l6 x1 x0 h Q => zr_iload_n rfl rfl),
   (fun d l0 l1 l2 l3 l4 l5 l6 x2 x1 x0 h Q => zr_imul rfl),
   (fun d l0 l1 l2 l3 l4 l5 l6 x1 x0 h Q => zr_iload rfl rfl),
   (fun d l0 l1 l2 l3 l4 l5 l6 x2 x1 x0 h Q => zr_iadd rfl),
   (fun d l0 l1 l2 l3 l4 l5 l6 x1 x0 h Q => zr_iload rfl rfl),
   (fun d l0 l1 l2 l3 l4 l5 l6 x2 x1 x0 h Q => zr_iadd rfl),
   (fun d l0 l1 l2 l3 l4 l5 l6 x1 x0 h Q => zr_aload_n rfl rfl),
   (fun d l0 l1 l2 l3 l4 l5 l6 x2 x1 x0 I L P Q p0 => zr_getQ rfl lf_10_77 (fun _ _ _ => rfl) p0),
   (fun d l0 l1 l2 l3 l4 l5 l6 x2 x1 x0 h Q => zr_iload rfl rfl),
   (fun d l0 l1 l2 l3 l4 l5 l6 x3 x2 x1 x0 I L P Q p0 => zr_lld rfl p0),
   (fun d l0 l1 l2 l3 l4 l5 l6 x2 x1 x0 I L P Q p0 => zr_lst rfl p0),
   (fun d l0 l1 l2 l3 l4 l5 l6  h Q => zr_iinc (n := 6) (kc := 1) rfl rfl (Nat.le_of_ble_eq_true rfl) rfl (by decide)),
   (fun d l0 l1 l2 l3 l4 l5 l6  h Q => zr_goto rfl (by decide)),
   (fun d l0 l1 l2 l3 l4 l5 l6  h Q => zr_iload rfl rfl),
   (fun d l0 l1 l2 l3 l4 l5 l6 x0 h Q => zr_iret rfl rfl)⟩
theorem H_X10_shift_113 : ∀ (d : Nat) (l0 : Value) (l1 : Value) (l2 : Value) (l3 : Value) (l4 : Value) (l5 : Value) (l6 : Int32)  (h : zMm) (Q : Option Value → zMm → Prop), zWp d zi_213 none 113 [l0, l1, l2, l3, l4, l5, .int l6] [] h Q = zWp d zi_213 none 115 [l0, l1, l2, l3, l4, l5, .int l6] [.int l6] h Q := fun d l0 l1 l2 l3 l4 l5 l6  h Q => zr_iload rfl rfl
theorem H_X10_shift_150 : ∀ (d : Nat) (l0 : Value) (l1 : Value) (l2 : Value) (l3 : Value) (l4 : Value) (l5 : Value) (l6 : Int32)  (h : zMm) (Q : Option Value → zMm → Prop), zWp d zi_213 none 150 [l0, l1, l2, l3, l4, l5, .int l6] [] h Q = zWp d zi_213 none 152 [l0, l1, l2, l3, l4, l5, .int l6] [.int l6] h Q := fun d l0 l1 l2 l3 l4 l5 l6  h Q => zr_iload rfl rfl
theorem E_X10_taken : ∀ (d : Nat) (a0 : Nat) (a1 : Int32) (a2 : Int32) (h : zMm) (Q : Option Value → zMm → Prop), zWM (d + 1) 214 [.ref a0, .int a1, .int a2] h Q = zWp d zi_214 none 0 [.ref a0, .int a1, .int a2, .retAddr 0] [] h Q := fun d a0 a1 a2 h Q => zW_M m_214 (Nat.le_of_ble_eq_true rfl) rfl
set_option maxRecDepth 100000 in
theorem R_X10_taken :
    (∀ (d : Nat) (l0 : Value) (l1 : Int32) (l2 : Value) (l3 : Value)  (h : zMm) (Q : Option Value → zMm → Prop), zWp d zi_214 none 0 [l0, .int l1, l2, l3] [] h Q = zWp d zi_214 none 1 [l0, .int l1, l2, l3] [.int l1] h Q) ∧
    (∀ (d : Nat) (l0 : Value) (l1 : Value) (l2 : Value) (l3 : Value) (x0 : Int32) (h : zMm) (Q : Option Value → zMm → Prop), zWp d zi_214 none 1 [l0, l1, l2, l3] [.int x0] h Q = zWM d 206 [.int x0] h (fun r h1 => zWp d zi_214 none 4 [l0, l1, l2, l3] (r.toList ++ []) h1 Q)) ∧
    (∀ (d : Nat) (l0 : Value) (l1 : Value) (l2 : Value) (l3 : Value) (x0 : Int32) (h : zMm) (Q : Option Value → zMm → Prop), zWp d zi_214 none 4 [l0, l1, l2, l3] [.int x0] h Q = if x0 = 0 then zWp d zi_214 none 19 [l0, l1, l2, l3] [] h Q else zWp d zi_214 none 7 [l0, l1, l2, l3] [] h Q) ∧
    (∀ (d : Nat) (l0 : Value) (l1 : Value) (l2 : Int32) (l3 : Value)  (h : zMm) (Q : Option Value → zMm → Prop), zWp d zi_214 none 7 [l0, l1, .int l2, l3] [] h Q = zWp d zi_214 none 8 [l0, l1, .int l2, l3] [.int l2] h Q) ∧
    (∀ (d : Nat) (l0 : Value) (l1 : Value) (l2 : Value) (l3 : Value) (x0 : Int32) (h : zMm) (Q : Option Value → zMm → Prop), zWp d zi_214 none 8 [l0, l1, l2, l3] [.int x0] h Q = zWp d zi_214 none 9 [l0, l1, l2, l3] [.long x0.toInt64] h Q) ∧
    (∀ (d : Nat) (l0 : Value) (l1 : Value) (l2 : Value) (l3 : Value) (x0 : Int64) (h : zMm) (Q : Option Value → zMm → Prop), zWp d zi_214 none 9 [l0, l1, l2, l3] [.long x0] h Q = zWp d zi_214 none 10 [l0, l1, l2, l3] [.long 0, .long x0] h Q) ∧
    (∀ (d : Nat) (l0 : Value) (l1 : Value) (l2 : Value) (l3 : Value) (x1 : Int64) (x0 : Int64) (h : zMm) (Q : Option Value → zMm → Prop), zWp d zi_214 none 10 [l0, l1, l2, l3] [.long x1, .long x0] h Q = zWp d zi_214 none 13 [l0, l1, l2, l3] [.long 7, .long x1, .long x0] h Q) ∧
    (∀ (d : Nat) (l0 : Value) (l1 : Value) (l2 : Value) (l3 : Value) (x2 : Int64) (x1 : Int64) (x0 : Int64) (h : zMm) (Q : Option Value → zMm → Prop), zWp d zi_214 none 13 [l0, l1, l2, l3] [.long x2, .long x1, .long x0] h Q = zWM d 122 [.long x0, .long x1, .long x2] h (fun r h1 => zWp d zi_214 none 16 [l0, l1, l2, l3] (r.toList ++ []) h1 Q)) ∧
    (∀ (d : Nat) (l0 : Value) (l1 : Value) (l2 : Value) (l3 : Value) (x0 : Int32) (h : zMm) (Q : Option Value → zMm → Prop), zWp d zi_214 none 16 [l0, l1, l2, l3] [.int x0] h Q = if x0 = 0 then zWp d zi_214 none 19 [l0, l1, l2, l3] [] h Q else zWp d zi_214 none 21 [l0, l1, l2, l3] [] h Q) ∧
    (∀ (d : Nat) (l0 : Value) (l1 : Value) (l2 : Value) (l3 : Value)  (h : zMm) (Q : Option Value → zMm → Prop), zWp d zi_214 none 19 [l0, l1, l2, l3] [] h Q = zWp d zi_214 none 20 [l0, l1, l2, l3] [.int (-1)] h Q) ∧
    (∀ (d : Nat) (l0 : Value) (l1 : Value) (l2 : Value) (l3 : Value) (x0 : Int32) (h : zMm) (Q : Option Value → zMm → Prop), zWp d zi_214 none 20 [l0, l1, l2, l3] [.int x0] h Q = Q (some (.int x0)) h) ∧
    (∀ (d : Nat) (l0 : Nat) (l1 : Value) (l2 : Value) (l3 : Value)  (h : zMm) (Q : Option Value → zMm → Prop), zWp d zi_214 none 21 [.ref l0, l1, l2, l3] [] h Q = zWp d zi_214 none 22 [.ref l0, l1, l2, l3] [.ref l0] h Q) ∧
    (∀ (d : Nat) (l0 : Value) (l1 : Value) (l2 : Value) (l3 : Value) (x0 : Nat) (I : Nat → Nat → Int32) (L : Nat → Nat → Int64) (P : Nat → Nat → Option Nat) (Q : Option Value → zMm → Prop), zSH[x0]? = some (.inl 10) → zWp d zi_214 none 22 [l0, l1, l2, l3] [.ref x0] (zSH, I, L, P) Q = zWp d zi_214 none 25 [l0, l1, l2, l3] [va_rf (P x0 46)] (zSH, I, L, P) Q) ∧
    (∀ (d : Nat) (l0 : Value) (l1 : Int32) (l2 : Value) (l3 : Value) (x0 : Nat) (h : zMm) (Q : Option Value → zMm → Prop), zWp d zi_214 none 25 [l0, .int l1, l2, l3] [.ref x0] h Q = zWp d zi_214 none 26 [l0, .int l1, l2, l3] [.int l1, .ref x0] h Q) ∧
    (∀ (d : Nat) (l0 : Value) (l1 : Value) (l2 : Value) (l3 : Value) (x1 : Int32) (x0 : Nat) (I : Nat → Nat → Int32) (L : Nat → Nat → Int64) (P : Nat → Nat → Option Nat) (Q : Option Value → zMm → Prop), zAk zSH x0 = some .int → zWp d zi_214 none 26 [l0, l1, l2, l3] [.int x1, .ref x0] (zSH, I, L, P) Q = (vp_in x1 (zAn zSH x0) ∧ zWp d zi_214 none 27 [l0, l1, l2, l3] [.int (I x0 x1.toNatClampNeg)] (zSH, I, L, P) Q)) ∧
    (∀ (d : Nat) (l0 : Value) (l1 : Value) (l2 : Value) (l3 : Value) (x0 : Int32) (h : zMm) (Q : Option Value → zMm → Prop), zWp d zi_214 none 27 [l0, l1, l2, l3] [.int x0] h Q = if 0 ≤ x0 then zWp d zi_214 none 33 [l0, l1, l2, l3] [] h Q else zWp d zi_214 none 30 [l0, l1, l2, l3] [] h Q) ∧
    (∀ (d : Nat) (l0 : Value) (l1 : Value) (l2 : Value) (l3 : Value)  (h : zMm) (Q : Option Value → zMm → Prop), zWp d zi_214 none 30 [l0, l1, l2, l3] [] h Q = zWp d zi_214 none 32 [l0, l1, l2, l3] [.int (-11)] h Q) ∧
    (∀ (d : Nat) (l0 : Value) (l1 : Value) (l2 : Value) (l3 : Value) (x0 : Int32) (h : zMm) (Q : Option Value → zMm → Prop), zWp d zi_214 none 32 [l0, l1, l2, l3] [.int x0] h Q = Q (some (.int x0)) h) ∧
    (∀ (d : Nat) (l0 : Nat) (l1 : Value) (l2 : Value) (l3 : Value)  (h : zMm) (Q : Option Value → zMm → Prop), zWp d zi_214 none 33 [.ref l0, l1, l2, l3] [] h Q = zWp d zi_214 none 34 [.ref l0, l1, l2, l3] [.ref l0] h Q) ∧
    (∀ (d : Nat) (l0 : Value) (l1 : Value) (l2 : Value) (l3 : Value) (x0 : Nat) (I : Nat → Nat → Int32) (L : Nat → Nat → Int64) (P : Nat → Nat → Option Nat) (Q : Option Value → zMm → Prop), zSH[x0]? = some (.inl 10) → zWp d zi_214 none 34 [l0, l1, l2, l3] [.ref x0] (zSH, I, L, P) Q = zWp d zi_214 none 37 [l0, l1, l2, l3] [va_rf (P x0 46)] (zSH, I, L, P) Q) ∧
    (∀ (d : Nat) (l0 : Value) (l1 : Int32) (l2 : Value) (l3 : Value) (x0 : Nat) (h : zMm) (Q : Option Value → zMm → Prop), zWp d zi_214 none 37 [l0, .int l1, l2, l3] [.ref x0] h Q = zWp d zi_214 none 38 [l0, .int l1, l2, l3] [.int l1, .ref x0] h Q) ∧
    (∀ (d : Nat) (l0 : Value) (l1 : Value) (l2 : Value) (l3 : Value) (x1 : Int32) (x0 : Nat) (I : Nat → Nat → Int32) (L : Nat → Nat → Int64) (P : Nat → Nat → Option Nat) (Q : Option Value → zMm → Prop), zAk zSH x0 = some .int → zWp d zi_214 none 38 [l0, l1, l2, l3] [.int x1, .ref x0] (zSH, I, L, P) Q = (vp_in x1 (zAn zSH x0) ∧ zWp d zi_214 none 39 [l0, l1, l2, l3] [.int (I x0 x1.toNatClampNeg)] (zSH, I, L, P) Q)) ∧
    (∀ (d : Nat) (l0 : Value) (l1 : Value) (l2 : Value) (l3 : Value) (x0 : Int32) (h : zMm) (Q : Option Value → zMm → Prop), zWp d zi_214 none 39 [l0, l1, l2, l3] [.int x0] h Q = zWp d zi_214 none 41 [l0, l1, l2, l3] [.int 50, .int x0] h Q) ∧
    (∀ (d : Nat) (l0 : Value) (l1 : Value) (l2 : Value) (l3 : Value) (x1 : Int32) (x0 : Int32) (h : zMm) (Q : Option Value → zMm → Prop), zWp d zi_214 none 41 [l0, l1, l2, l3] [.int x1, .int x0] h Q = if x0 < x1 then zWp d zi_214 none 47 [l0, l1, l2, l3] [] h Q else zWp d zi_214 none 44 [l0, l1, l2, l3] [] h Q) ∧
    (∀ (d : Nat) (l0 : Value) (l1 : Value) (l2 : Value) (l3 : Value)  (h : zMm) (Q : Option Value → zMm → Prop), zWp d zi_214 none 44 [l0, l1, l2, l3] [] h Q = zWp d zi_214 none 46 [l0, l1, l2, l3] [.int (-12)] h Q) ∧
    (∀ (d : Nat) (l0 : Value) (l1 : Value) (l2 : Value) (l3 : Value) (x0 : Int32) (h : zMm) (Q : Option Value → zMm → Prop), zWp d zi_214 none 46 [l0, l1, l2, l3] [.int x0] h Q = Q (some (.int x0)) h) ∧
    (∀ (d : Nat) (l0 : Nat) (l1 : Value) (l2 : Value) (l3 : Value)  (h : zMm) (Q : Option Value → zMm → Prop), zWp d zi_214 none 47 [.ref l0, l1, l2, l3] [] h Q = zWp d zi_214 none 48 [.ref l0, l1, l2, l3] [.ref l0] h Q) ∧
    (∀ (d : Nat) (l0 : Nat) (l1 : Value) (l2 : Value) (l3 : Value) (x0 : Nat) (h : zMm) (Q : Option Value → zMm → Prop), zWp d zi_214 none 48 [.ref l0, l1, l2, l3] [.ref x0] h Q = zWp d zi_214 none 49 [.ref l0, l1, l2, l3] [.ref l0, .ref x0] h Q) ∧
    (∀ (d : Nat) (l0 : Value) (l1 : Value) (l2 : Value) (l3 : Value) (x1 : Nat) (x0 : Nat) (I : Nat → Nat → Int32) (L : Nat → Nat → Int64) (P : Nat → Nat → Option Nat) (Q : Option Value → zMm → Prop), zSH[x1]? = some (.inl 10) → zWp d zi_214 none 49 [l0, l1, l2, l3] [.ref x1, .ref x0] (zSH, I, L, P) Q = zWp d zi_214 none 52 [l0, l1, l2, l3] [va_rf (P x1 46), .ref x0] (zSH, I, L, P) Q) ∧
    (∀ (d : Nat) (l0 : Value) (l1 : Int32) (l2 : Value) (l3 : Value) (x1 : Nat) (x0 : Nat) (h : zMm) (Q : Option Value → zMm → Prop), zWp d zi_214 none 52 [l0, .int l1, l2, l3] [.ref x1, .ref x0] h Q = zWp d zi_214 none 53 [l0, .int l1, l2, l3] [.int l1, .ref x1, .ref x0] h Q) ∧
    (∀ (d : Nat) (l0 : Value) (l1 : Value) (l2 : Value) (l3 : Value) (x2 : Int32) (x1 : Nat) (x0 : Nat) (I : Nat → Nat → Int32) (L : Nat → Nat → Int64) (P : Nat → Nat → Option Nat) (Q : Option Value → zMm → Prop), zAk zSH x1 = some .int → zWp d zi_214 none 53 [l0, l1, l2, l3] [.int x2, .ref x1, .ref x0] (zSH, I, L, P) Q = (vp_in x2 (zAn zSH x1) ∧ zWp d zi_214 none 54 [l0, l1, l2, l3] [.int (I x1 x2.toNatClampNeg), .ref x0] (zSH, I, L, P) Q)) ∧
    (∀ (d : Nat) (l0 : Value) (l1 : Value) (l2 : Value) (l3 : Value) (x1 : Int32) (x0 : Nat) (I : Nat → Nat → Int32) (L : Nat → Nat → Int64) (P : Nat → Nat → Option Nat) (Q : Option Value → zMm → Prop), zSH[x0]? = some (.inl 10) → zWp d zi_214 none 54 [l0, l1, l2, l3] [.int x1, .ref x0] (zSH, I, L, P) Q = zWM d 196 [.ref x0, .int x1] (zSH, I, L, P) (fun r h1 => zWp d zi_214 none 57 [l0, l1, l2, l3] (r.toList ++ []) h1 Q)) ∧
    (∀ (d : Nat) (l0 : Value) (l1 : Value) (l2 : Int32) (l3 : Value) (x0 : Int32) (h : zMm) (Q : Option Value → zMm → Prop), zWp d zi_214 none 57 [l0, l1, .int l2, l3] [.int x0] h Q = zWp d zi_214 none 58 [l0, l1, .int l2, .int x0] [] h Q) ∧
    (∀ (d : Nat) (l0 : Value) (l1 : Value) (l2 : Int32) (l3 : Value) (x0 : Int32) (h : zMm) (Q : Option Value → zMm → Prop), zWp d zi_214 none 59 [l0, l1, .int l2, l3] [.int x0] h Q = zWp d zi_214 none 60 [l0, l1, .int l2, l3] [.int l2, .int x0] h Q) ∧
    (∀ (d : Nat) (l0 : Value) (l1 : Value) (l2 : Value) (l3 : Value) (x1 : Int32) (x0 : Int32) (h : zMm) (Q : Option Value → zMm → Prop), zWp d zi_214 none 60 [l0, l1, l2, l3] [.int x1, .int x0] h Q = if x0 = x1 then zWp d zi_214 none 75 [l0, l1, l2, l3] [] h Q else zWp d zi_214 none 63 [l0, l1, l2, l3] [] h Q) ∧
    (∀ (d : Nat) (l0 : Value) (l1 : Value) (l2 : Value) (l3 : Int32)  (h : zMm) (Q : Option Value → zMm → Prop), zWp d zi_214 none 63 [l0, l1, l2, .int l3] [] h Q = zWp d zi_214 none 64 [l0, l1, l2, .int l3] [.int l3] h Q) ∧
    (∀ (d : Nat) (l0 : Value) (l1 : Value) (l2 : Value) (l3 : Value) (x0 : Int32) (h : zMm) (Q : Option Value → zMm → Prop), zWp d zi_214 none 64 [l0, l1, l2, l3] [.int x0] h Q = if x0 ≤ 0 then zWp d zi_214 none 75 [l0, l1, l2, l3] [] h Q else zWp d zi_214 none 67 [l0, l1, l2, l3] [] h Q) ∧
    (∀ (d : Nat) (l0 : Value) (l1 : Value) (l2 : Value) (l3 : Int32)  (h : zMm) (Q : Option Value → zMm → Prop), zWp d zi_214 none 67 [l0, l1, l2, .int l3] [] h Q = zWp d zi_214 none 68 [l0, l1, l2, .int l3] [.int l3] h Q) ∧
    (∀ (d : Nat) (l0 : Value) (l1 : Value) (l2 : Value) (l3 : Value) (x0 : Int32) (h : zMm) (Q : Option Value → zMm → Prop), zWp d zi_214 none 68 [l0, l1, l2, l3] [.int x0] h Q = zWM d 198 [.int x0] h (fun r h1 => zWp d zi_214 none 71 [l0, l1, l2, l3] (r.toList ++ []) h1 Q)) ∧
    (∀ (d : Nat) (l0 : Value) (l1 : Value) (l2 : Int32) (l3 : Value) (x0 : Int32) (h : zMm) (Q : Option Value → zMm → Prop), zWp d zi_214 none 71 [l0, l1, .int l2, l3] [.int x0] h Q = zWp d zi_214 none 72 [l0, l1, .int l2, .int x0] [] h Q) ∧
    (∀ (d : Nat) (l0 : Value) (l1 : Value) (l2 : Value) (l3 : Value)  (h : zMm) (Q : Option Value → zMm → Prop), zWp d zi_214 none 72 [l0, l1, l2, l3] [] h Q = zWp d zi_214 none 58 [l0, l1, l2, l3] [] h Q) ∧
    (∀ (d : Nat) (l0 : Value) (l1 : Value) (l2 : Value) (l3 : Int32)  (h : zMm) (Q : Option Value → zMm → Prop), zWp d zi_214 none 75 [l0, l1, l2, .int l3] [] h Q = zWp d zi_214 none 76 [l0, l1, l2, .int l3] [.int l3] h Q) ∧
    (∀ (d : Nat) (l0 : Value) (l1 : Value) (l2 : Int32) (l3 : Value) (x0 : Int32) (h : zMm) (Q : Option Value → zMm → Prop), zWp d zi_214 none 76 [l0, l1, .int l2, l3] [.int x0] h Q = zWp d zi_214 none 77 [l0, l1, .int l2, l3] [.int l2, .int x0] h Q) ∧
    (∀ (d : Nat) (l0 : Value) (l1 : Value) (l2 : Value) (l3 : Value) (x1 : Int32) (x0 : Int32) (h : zMm) (Q : Option Value → zMm → Prop), zWp d zi_214 none 77 [l0, l1, l2, l3] [.int x1, .int x0] h Q = if x0 = x1 then zWp d zi_214 none 80 [l0, l1, l2, l3] [] h Q else zWp d zi_214 none 93 [l0, l1, l2, l3] [] h Q) ∧
    (∀ (d : Nat) (l0 : Nat) (l1 : Value) (l2 : Value) (l3 : Value)  (h : zMm) (Q : Option Value → zMm → Prop), zWp d zi_214 none 80 [.ref l0, l1, l2, l3] [] h Q = zWp d zi_214 none 81 [.ref l0, l1, l2, l3] [.ref l0] h Q) ∧
    (∀ (d : Nat) (l0 : Nat) (l1 : Value) (l2 : Value) (l3 : Value) (x0 : Nat) (h : zMm) (Q : Option Value → zMm → Prop), zWp d zi_214 none 81 [.ref l0, l1, l2, l3] [.ref x0] h Q = zWp d zi_214 none 82 [.ref l0, l1, l2, l3] [.ref l0, .ref x0] h Q) ∧
    (∀ (d : Nat) (l0 : Value) (l1 : Value) (l2 : Value) (l3 : Value) (x1 : Nat) (x0 : Nat) (I : Nat → Nat → Int32) (L : Nat → Nat → Int64) (P : Nat → Nat → Option Nat) (Q : Option Value → zMm → Prop), zSH[x1]? = some (.inl 10) → zWp d zi_214 none 82 [l0, l1, l2, l3] [.ref x1, .ref x0] (zSH, I, L, P) Q = zWp d zi_214 none 85 [l0, l1, l2, l3] [va_rf (P x1 46), .ref x0] (zSH, I, L, P) Q) ∧
    (∀ (d : Nat) (l0 : Value) (l1 : Int32) (l2 : Value) (l3 : Value) (x1 : Nat) (x0 : Nat) (h : zMm) (Q : Option Value → zMm → Prop), zWp d zi_214 none 85 [l0, .int l1, l2, l3] [.ref x1, .ref x0] h Q = zWp d zi_214 none 86 [l0, .int l1, l2, l3] [.int l1, .ref x1, .ref x0] h Q) ∧
    (∀ (d : Nat) (l0 : Value) (l1 : Value) (l2 : Value) (l3 : Value) (x2 : Int32) (x1 : Nat) (x0 : Nat) (I : Nat → Nat → Int32) (L : Nat → Nat → Int64) (P : Nat → Nat → Option Nat) (Q : Option Value → zMm → Prop), zAk zSH x1 = some .int → zWp d zi_214 none 86 [l0, l1, l2, l3] [.int x2, .ref x1, .ref x0] (zSH, I, L, P) Q = (vp_in x2 (zAn zSH x1) ∧ zWp d zi_214 none 87 [l0, l1, l2, l3] [.int (I x1 x2.toNatClampNeg), .ref x0] (zSH, I, L, P) Q)) ∧
    (∀ (d : Nat) (l0 : Value) (l1 : Value) (l2 : Value) (l3 : Value) (x1 : Int32) (x0 : Nat) (I : Nat → Nat → Int32) (L : Nat → Nat → Int64) (P : Nat → Nat → Option Nat) (Q : Option Value → zMm → Prop), zSH[x0]? = some (.inl 10) → zWp d zi_214 none 87 [l0, l1, l2, l3] [.int x1, .ref x0] (zSH, I, L, P) Q = zWM d 196 [.ref x0, .int x1] (zSH, I, L, P) (fun r h1 => zWp d zi_214 none 90 [l0, l1, l2, l3] (r.toList ++ []) h1 Q)) ∧
    (∀ (d : Nat) (l0 : Value) (l1 : Value) (l2 : Value) (l3 : Value) (x0 : Int32) (h : zMm) (Q : Option Value → zMm → Prop), zWp d zi_214 none 90 [l0, l1, l2, l3] [.int x0] h Q = zWp d zi_214 none 95 [l0, l1, l2, l3] [.int x0] h Q) ∧
    (∀ (d : Nat) (l0 : Value) (l1 : Value) (l2 : Value) (l3 : Value)  (h : zMm) (Q : Option Value → zMm → Prop), zWp d zi_214 none 93 [l0, l1, l2, l3] [] h Q = zWp d zi_214 none 95 [l0, l1, l2, l3] [.int (-12)] h Q) ∧
    (∀ (d : Nat) (l0 : Value) (l1 : Value) (l2 : Value) (l3 : Value) (x0 : Int32) (h : zMm) (Q : Option Value → zMm → Prop), zWp d zi_214 none 95 [l0, l1, l2, l3] [.int x0] h Q = Q (some (.int x0)) h) :=
  ⟨(fun d l0 l1 l2 l3  h Q => zr_iload_n rfl rfl),
   (fun d l0 l1 l2 l3 x0 h Q => zr_sta (as := [.int x0]) (rest := []) rfl lm_10_135 (by decide) m_206 kd_206 rfl (Nat.le_of_ble_eq_true rfl)),
   (fun d l0 l1 l2 l3 x0 h Q => zr_if_eq rfl (by decide)),
   (fun d l0 l1 l2 l3  h Q => zr_iload_n rfl rfl),
   (fun d l0 l1 l2 l3 x0 h Q => zr_i2l rfl),
   (fun d l0 l1 l2 l3 x0 h Q => zr_lconst rfl (by decide)),
   (fun d l0 l1 l2 l3 x1 x0 h Q => zr_ldc2_w rfl lj_10_329),
   (fun d l0 l1 l2 l3 x2 x1 x0 h Q => zr_sta (as := [.long x2, .long x1, .long x0]) (rest := []) rfl lm_10_110 (by decide) m_122 kd_122 rfl (Nat.le_of_ble_eq_true rfl)),
   (fun d l0 l1 l2 l3 x0 h Q => zr_if_ne rfl (by decide)),
   (fun d l0 l1 l2 l3  h Q => zr_iconst rfl (by decide)),
   (fun d l0 l1 l2 l3 x0 h Q => zr_iret rfl rfl),
   (fun d l0 l1 l2 l3  h Q => zr_aload_n rfl rfl),
   (fun d l0 l1 l2 l3 x0 I L P Q p0 => zr_getQ rfl lf_10_67 (fun _ _ _ => rfl) p0),
   (fun d l0 l1 l2 l3 x0 h Q => zr_iload_n rfl rfl),
   (fun d l0 l1 l2 l3 x1 x0 I L P Q p0 => zr_ald rfl p0),
   (fun d l0 l1 l2 l3 x0 h Q => zr_if_ge rfl (by decide)),
   (fun d l0 l1 l2 l3  h Q => zr_bipush rfl (by decide)),
   (fun d l0 l1 l2 l3 x0 h Q => zr_iret rfl rfl),
   (fun d l0 l1 l2 l3  h Q => zr_aload_n rfl rfl),
   (fun d l0 l1 l2 l3 x0 I L P Q p0 => zr_getQ rfl lf_10_67 (fun _ _ _ => rfl) p0),
   (fun d l0 l1 l2 l3 x0 h Q => zr_iload_n rfl rfl),
   (fun d l0 l1 l2 l3 x1 x0 I L P Q p0 => zr_ald rfl p0),
   (fun d l0 l1 l2 l3 x0 h Q => zr_bipush rfl (by decide)),
   (fun d l0 l1 l2 l3 x1 x0 h Q => zr_ic_lt rfl (by decide)),
   (fun d l0 l1 l2 l3  h Q => zr_bipush rfl (by decide)),
   (fun d l0 l1 l2 l3 x0 h Q => zr_iret rfl rfl),
   (fun d l0 l1 l2 l3  h Q => zr_aload_n rfl rfl),
   (fun d l0 l1 l2 l3 x0 h Q => zr_aload_n rfl rfl),
   (fun d l0 l1 l2 l3 x1 x0 I L P Q p0 => zr_getQ rfl lf_10_67 (fun _ _ _ => rfl) p0),
   (fun d l0 l1 l2 l3 x1 x0 h Q => zr_iload_n rfl rfl),
   (fun d l0 l1 l2 l3 x2 x1 x0 I L P Q p0 => zr_ald rfl p0),
   (fun d l0 l1 l2 l3 x1 x0 I L P Q p0 => zr_vir (as := [.int x1]) (rest := []) rfl lm_10_371 m_196 kd_196 rfl (Nat.le_of_ble_eq_true rfl) p0),
   (fun d l0 l1 l2 l3 x0 h Q => zr_istore_n (n := 3) rfl (Nat.le_of_ble_eq_true rfl) rfl),
   (fun d l0 l1 l2 l3 x0 h Q => zr_iload_n rfl rfl),
   (fun d l0 l1 l2 l3 x1 x0 h Q => zr_ic_eq rfl (by decide)),
   (fun d l0 l1 l2 l3  h Q => zr_iload_n rfl rfl),
   (fun d l0 l1 l2 l3 x0 h Q => zr_if_le rfl (by decide)),
   (fun d l0 l1 l2 l3  h Q => zr_iload_n rfl rfl),
   (fun d l0 l1 l2 l3 x0 h Q => zr_sta (as := [.int x0]) (rest := []) rfl lm_10_374 (by decide) m_198 kd_198 rfl (Nat.le_of_ble_eq_true rfl)),
   (fun d l0 l1 l2 l3 x0 h Q => zr_istore_n (n := 3) rfl (Nat.le_of_ble_eq_true rfl) rfl),
   (fun d l0 l1 l2 l3  h Q => zr_goto rfl (by decide)),
   (fun d l0 l1 l2 l3  h Q => zr_iload_n rfl rfl),
   (fun d l0 l1 l2 l3 x0 h Q => zr_iload_n rfl rfl),
   (fun d l0 l1 l2 l3 x1 x0 h Q => zr_ic_ne rfl (by decide)),
   (fun d l0 l1 l2 l3  h Q => zr_aload_n rfl rfl),
   (fun d l0 l1 l2 l3 x0 h Q => zr_aload_n rfl rfl),
   (fun d l0 l1 l2 l3 x1 x0 I L P Q p0 => zr_getQ rfl lf_10_67 (fun _ _ _ => rfl) p0),
   (fun d l0 l1 l2 l3 x1 x0 h Q => zr_iload_n rfl rfl),
   (fun d l0 l1 l2 l3 x2 x1 x0 I L P Q p0 => zr_ald rfl p0),
   (fun d l0 l1 l2 l3 x1 x0 I L P Q p0 => zr_vir (as := [.int x1]) (rest := []) rfl lm_10_371 m_196 kd_196 rfl (Nat.le_of_ble_eq_true rfl) p0),
   (fun d l0 l1 l2 l3 x0 h Q => zr_goto rfl (by decide)),
   (fun d l0 l1 l2 l3  h Q => zr_bipush rfl (by decide)),
   (fun d l0 l1 l2 l3 x0 h Q => zr_iret rfl rfl)⟩
theorem H_X10_taken_58 : ∀ (d : Nat) (l0 : Value) (l1 : Value) (l2 : Value) (l3 : Int32)  (h : zMm) (Q : Option Value → zMm → Prop), zWp d zi_214 none 58 [l0, l1, l2, .int l3] [] h Q = zWp d zi_214 none 59 [l0, l1, l2, .int l3] [.int l3] h Q := fun d l0 l1 l2 l3  h Q => zr_iload_n rfl rfl
theorem E_X10_count : ∀ (d : Nat) (a0 : Nat) (a1 : Int32) (h : zMm) (Q : Option Value → zMm → Prop), zWM (d + 1) 215 [.ref a0, .int a1] h Q = zWp d zi_215 none 0 [.ref a0, .int a1] [] h Q := fun d a0 a1 h Q => zW_M m_215 (Nat.le_of_ble_eq_true rfl) rfl
set_option maxRecDepth 100000 in
theorem R_X10_count :
    (∀ (d : Nat) (l0 : Value) (l1 : Int32)  (h : zMm) (Q : Option Value → zMm → Prop), zWp d zi_215 none 0 [l0, .int l1] [] h Q = zWp d zi_215 none 1 [l0, .int l1] [.int l1] h Q) ∧
    (∀ (d : Nat) (l0 : Value) (l1 : Value) (x0 : Int32) (h : zMm) (Q : Option Value → zMm → Prop), zWp d zi_215 none 1 [l0, l1] [.int x0] h Q = if x0 = 0 then zWp d zi_215 none 44 [l0, l1] [] h Q else if x0 = 1 then zWp d zi_215 none 49 [l0, l1] [] h Q else if x0 = 2 then zWp d zi_215 none 54 [l0, l1] [] h Q else if x0 = 3 then zWp d zi_215 none 59 [l0, l1] [] h Q else if x0 = 4 then zWp d zi_215 none 64 [l0, l1] [] h Q else if x0 = 5 then zWp d zi_215 none 69 [l0, l1] [] h Q else if x0 = 6 then zWp d zi_215 none 74 [l0, l1] [] h Q else zWp d zi_215 none 79 [l0, l1] [] h Q) ∧
    (∀ (d : Nat) (l0 : Nat) (l1 : Value)  (h : zMm) (Q : Option Value → zMm → Prop), zWp d zi_215 none 44 [.ref l0, l1] [] h Q = zWp d zi_215 none 45 [.ref l0, l1] [.ref l0] h Q) ∧
    (∀ (d : Nat) (l0 : Value) (l1 : Value) (x0 : Nat) (I : Nat → Nat → Int32) (L : Nat → Nat → Int64) (P : Nat → Nat → Option Nat) (Q : Option Value → zMm → Prop), zSH[x0]? = some (.inl 10) → zWp d zi_215 none 45 [l0, l1] [.ref x0] (zSH, I, L, P) Q = zWp d zi_215 none 48 [l0, l1] [.int (I x0 6)] (zSH, I, L, P) Q) ∧
    (∀ (d : Nat) (l0 : Value) (l1 : Value) (x0 : Int32) (h : zMm) (Q : Option Value → zMm → Prop), zWp d zi_215 none 48 [l0, l1] [.int x0] h Q = Q (some (.int x0)) h) ∧
    (∀ (d : Nat) (l0 : Nat) (l1 : Value)  (h : zMm) (Q : Option Value → zMm → Prop), zWp d zi_215 none 49 [.ref l0, l1] [] h Q = zWp d zi_215 none 50 [.ref l0, l1] [.ref l0] h Q) ∧
    (∀ (d : Nat) (l0 : Value) (l1 : Value) (x0 : Nat) (I : Nat → Nat → Int32) (L : Nat → Nat → Int64) (P : Nat → Nat → Option Nat) (Q : Option Value → zMm → Prop), zSH[x0]? = some (.inl 10) → zWp d zi_215 none 50 [l0, l1] [.ref x0] (zSH, I, L, P) Q = zWp d zi_215 none 53 [l0, l1] [.int (I x0 10)] (zSH, I, L, P) Q) ∧
    (∀ (d : Nat) (l0 : Value) (l1 : Value) (x0 : Int32) (h : zMm) (Q : Option Value → zMm → Prop), zWp d zi_215 none 53 [l0, l1] [.int x0] h Q = Q (some (.int x0)) h) ∧
    (∀ (d : Nat) (l0 : Nat) (l1 : Value)  (h : zMm) (Q : Option Value → zMm → Prop), zWp d zi_215 none 54 [.ref l0, l1] [] h Q = zWp d zi_215 none 55 [.ref l0, l1] [.ref l0] h Q) ∧
    (∀ (d : Nat) (l0 : Value) (l1 : Value) (x0 : Nat) (I : Nat → Nat → Int32) (L : Nat → Nat → Int64) (P : Nat → Nat → Option Nat) (Q : Option Value → zMm → Prop), zSH[x0]? = some (.inl 10) → zWp d zi_215 none 55 [l0, l1] [.ref x0] (zSH, I, L, P) Q = zWM d 194 [.ref x0] (zSH, I, L, P) (fun r h1 => zWp d zi_215 none 58 [l0, l1] (r.toList ++ []) h1 Q)) ∧
    (∀ (d : Nat) (l0 : Value) (l1 : Value) (x0 : Int32) (h : zMm) (Q : Option Value → zMm → Prop), zWp d zi_215 none 58 [l0, l1] [.int x0] h Q = Q (some (.int x0)) h) ∧
    (∀ (d : Nat) (l0 : Nat) (l1 : Value)  (h : zMm) (Q : Option Value → zMm → Prop), zWp d zi_215 none 59 [.ref l0, l1] [] h Q = zWp d zi_215 none 60 [.ref l0, l1] [.ref l0] h Q) ∧
    (∀ (d : Nat) (l0 : Value) (l1 : Value) (x0 : Nat) (I : Nat → Nat → Int32) (L : Nat → Nat → Int64) (P : Nat → Nat → Option Nat) (Q : Option Value → zMm → Prop), zSH[x0]? = some (.inl 10) → zWp d zi_215 none 60 [l0, l1] [.ref x0] (zSH, I, L, P) Q = zWp d zi_215 none 63 [l0, l1] [.int (I x0 14)] (zSH, I, L, P) Q) ∧
    (∀ (d : Nat) (l0 : Value) (l1 : Value) (x0 : Int32) (h : zMm) (Q : Option Value → zMm → Prop), zWp d zi_215 none 63 [l0, l1] [.int x0] h Q = Q (some (.int x0)) h) ∧
    (∀ (d : Nat) (l0 : Nat) (l1 : Value)  (h : zMm) (Q : Option Value → zMm → Prop), zWp d zi_215 none 64 [.ref l0, l1] [] h Q = zWp d zi_215 none 65 [.ref l0, l1] [.ref l0] h Q) ∧
    (∀ (d : Nat) (l0 : Value) (l1 : Value) (x0 : Nat) (I : Nat → Nat → Int32) (L : Nat → Nat → Int64) (P : Nat → Nat → Option Nat) (Q : Option Value → zMm → Prop), zSH[x0]? = some (.inl 10) → zWp d zi_215 none 65 [l0, l1] [.ref x0] (zSH, I, L, P) Q = zWp d zi_215 none 68 [l0, l1] [.int (I x0 5)] (zSH, I, L, P) Q) ∧
    (∀ (d : Nat) (l0 : Value) (l1 : Value) (x0 : Int32) (h : zMm) (Q : Option Value → zMm → Prop), zWp d zi_215 none 68 [l0, l1] [.int x0] h Q = Q (some (.int x0)) h) ∧
    (∀ (d : Nat) (l0 : Nat) (l1 : Value)  (h : zMm) (Q : Option Value → zMm → Prop), zWp d zi_215 none 69 [.ref l0, l1] [] h Q = zWp d zi_215 none 70 [.ref l0, l1] [.ref l0] h Q) ∧
    (∀ (d : Nat) (l0 : Value) (l1 : Value) (x0 : Nat) (I : Nat → Nat → Int32) (L : Nat → Nat → Int64) (P : Nat → Nat → Option Nat) (Q : Option Value → zMm → Prop), zSH[x0]? = some (.inl 10) → zWp d zi_215 none 70 [l0, l1] [.ref x0] (zSH, I, L, P) Q = zWp d zi_215 none 73 [l0, l1] [.int (I x0 40)] (zSH, I, L, P) Q) ∧
    (∀ (d : Nat) (l0 : Value) (l1 : Value) (x0 : Int32) (h : zMm) (Q : Option Value → zMm → Prop), zWp d zi_215 none 73 [l0, l1] [.int x0] h Q = Q (some (.int x0)) h) ∧
    (∀ (d : Nat) (l0 : Nat) (l1 : Value)  (h : zMm) (Q : Option Value → zMm → Prop), zWp d zi_215 none 74 [.ref l0, l1] [] h Q = zWp d zi_215 none 75 [.ref l0, l1] [.ref l0] h Q) ∧
    (∀ (d : Nat) (l0 : Value) (l1 : Value) (x0 : Nat) (I : Nat → Nat → Int32) (L : Nat → Nat → Int64) (P : Nat → Nat → Option Nat) (Q : Option Value → zMm → Prop), zSH[x0]? = some (.inl 10) → zWp d zi_215 none 75 [l0, l1] [.ref x0] (zSH, I, L, P) Q = zWp d zi_215 none 78 [l0, l1] [.int (I x0 43)] (zSH, I, L, P) Q) ∧
    (∀ (d : Nat) (l0 : Value) (l1 : Value) (x0 : Int32) (h : zMm) (Q : Option Value → zMm → Prop), zWp d zi_215 none 78 [l0, l1] [.int x0] h Q = Q (some (.int x0)) h) ∧
    (∀ (d : Nat) (l0 : Value) (l1 : Value)  (h : zMm) (Q : Option Value → zMm → Prop), zWp d zi_215 none 79 [l0, l1] [] h Q = zWp d zi_215 none 80 [l0, l1] [.int (-1)] h Q) ∧
    (∀ (d : Nat) (l0 : Value) (l1 : Value) (x0 : Int32) (h : zMm) (Q : Option Value → zMm → Prop), zWp d zi_215 none 80 [l0, l1] [.int x0] h Q = Q (some (.int x0)) h) :=
  ⟨(fun d l0 l1  h Q => zr_iload_n rfl rfl),
   (fun d l0 l1 x0 h Q => by
      by_cases e0 : x0 = 0
      · subst e0; rw [if_pos rfl]; exact zr_tabI rfl (by decide) rfl (by decide)
      rw [if_neg e0]
      have n0 : ¬ x0.toInt = 0 := fun z => e0 (Int32.toInt_inj.mp z)
      by_cases e1 : x0 = 1
      · subst e1; rw [if_pos rfl]; exact zr_tabI rfl (by decide) rfl (by decide)
      rw [if_neg e1]
      have n1 : ¬ x0.toInt = 1 := fun z => e1 (Int32.toInt_inj.mp z)
      by_cases e2 : x0 = 2
      · subst e2; rw [if_pos rfl]; exact zr_tabI rfl (by decide) rfl (by decide)
      rw [if_neg e2]
      have n2 : ¬ x0.toInt = 2 := fun z => e2 (Int32.toInt_inj.mp z)
      by_cases e3 : x0 = 3
      · subst e3; rw [if_pos rfl]; exact zr_tabI rfl (by decide) rfl (by decide)
      rw [if_neg e3]
      have n3 : ¬ x0.toInt = 3 := fun z => e3 (Int32.toInt_inj.mp z)
      by_cases e4 : x0 = 4
      · subst e4; rw [if_pos rfl]; exact zr_tabI rfl (by decide) rfl (by decide)
      rw [if_neg e4]
      have n4 : ¬ x0.toInt = 4 := fun z => e4 (Int32.toInt_inj.mp z)
      by_cases e5 : x0 = 5
      · subst e5; rw [if_pos rfl]; exact zr_tabI rfl (by decide) rfl (by decide)
      rw [if_neg e5]
      have n5 : ¬ x0.toInt = 5 := fun z => e5 (Int32.toInt_inj.mp z)
      by_cases e6 : x0 = 6
      · subst e6; rw [if_pos rfl]; exact zr_tabI rfl (by decide) rfl (by decide)
      rw [if_neg e6]
      have n6 : ¬ x0.toInt = 6 := fun z => e6 (Int32.toInt_inj.mp z)
      exact zr_tabD rfl (by omega) (by decide)),
   (fun d l0 l1  h Q => zr_aload_n rfl rfl),
   (fun d l0 l1 x0 I L P Q p0 => zr_getI rfl lf_10_99 (fun _ _ _ => rfl) p0),
   (fun d l0 l1 x0 h Q => zr_iret rfl rfl),
   (fun d l0 l1  h Q => zr_aload_n rfl rfl),
   (fun d l0 l1 x0 I L P Q p0 => zr_getI rfl lf_10_114 (fun _ _ _ => rfl) p0),
   (fun d l0 l1 x0 h Q => zr_iret rfl rfl),
   (fun d l0 l1  h Q => zr_aload_n rfl rfl),
   (fun d l0 l1 x0 I L P Q p0 => zr_vir (as := []) (rest := []) rfl lm_10_377 m_194 kd_194 rfl (Nat.le_of_ble_eq_true rfl) p0),
   (fun d l0 l1 x0 h Q => zr_iret rfl rfl),
   (fun d l0 l1  h Q => zr_aload_n rfl rfl),
   (fun d l0 l1 x0 I L P Q p0 => zr_getI rfl lf_10_191 (fun _ _ _ => rfl) p0),
   (fun d l0 l1 x0 h Q => zr_iret rfl rfl),
   (fun d l0 l1  h Q => zr_aload_n rfl rfl),
   (fun d l0 l1 x0 I L P Q p0 => zr_getI rfl lf_10_93 (fun _ _ _ => rfl) p0),
   (fun d l0 l1 x0 h Q => zr_iret rfl rfl),
   (fun d l0 l1  h Q => zr_aload_n rfl rfl),
   (fun d l0 l1 x0 I L P Q p0 => zr_getI rfl lf_10_326 (fun _ _ _ => rfl) p0),
   (fun d l0 l1 x0 h Q => zr_iret rfl rfl),
   (fun d l0 l1  h Q => zr_aload_n rfl rfl),
   (fun d l0 l1 x0 I L P Q p0 => zr_getI rfl lf_10_331 (fun _ _ _ => rfl) p0),
   (fun d l0 l1 x0 h Q => zr_iret rfl rfl),
   (fun d l0 l1  h Q => zr_iconst rfl (by decide)),
   (fun d l0 l1 x0 h Q => zr_iret rfl rfl)⟩
