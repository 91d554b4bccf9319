theorem E_X0_has : ∀ (d : Nat) (a0 : Nat) (a1 : Int32) (h : zMm) (Q : Option Value → zMm → Prop), zWM (d + 1) 1 [.ref a0, .int a1] h Q = zWp d zi_1 none 0 [.ref a0, .int a1] [] h Q := fun d a0 a1 h Q => zW_M m_1 (Nat.le_of_ble_eq_true rfl) rfl
set_option maxRecDepth 100000 in
theorem R_X0_has :
    (∀ (d : Nat) (l0 : Value) (l1 : Int32)  (h : zMm) (Q : Option Value → zMm → Prop), zWp d zi_1 none 0 [l0, .int l1] [] h Q = zWp d zi_1 none 1 [l0, .int l1] [.int l1] h Q) ∧
    (∀ (d : Nat) (l0 : Value) (l1 : Value) (x0 : Int32) (h : zMm) (Q : Option Value → zMm → Prop), zWp d zi_1 none 1 [l0, l1] [.int x0] h Q = if x0 < 0 then zWp d zi_1 none 16 [l0, l1] [] h Q else zWp d zi_1 none 4 [l0, l1] [] h Q) ∧
    (∀ (d : Nat) (l0 : Value) (l1 : Int32)  (h : zMm) (Q : Option Value → zMm → Prop), zWp d zi_1 none 4 [l0, .int l1] [] h Q = zWp d zi_1 none 5 [l0, .int l1] [.int l1] h Q) ∧
    (∀ (d : Nat) (l0 : Nat) (l1 : Value) (x0 : Int32) (h : zMm) (Q : Option Value → zMm → Prop), zWp d zi_1 none 5 [.ref l0, l1] [.int x0] h Q = zWp d zi_1 none 6 [.ref l0, l1] [.ref l0, .int x0] h Q) ∧
    (∀ (d : Nat) (l0 : Value) (l1 : Value) (x1 : Nat) (x0 : Int32) (I : Nat → Nat → Int32) (L : Nat → Nat → Int64) (P : Nat → Nat → Option Nat) (Q : Option Value → zMm → Prop), zSH[x1]? = some (.inl 0) → zWp d zi_1 none 6 [l0, l1] [.ref x1, .int x0] (zSH, I, L, P) Q = zWp d zi_1 none 9 [l0, l1] [.int (I x1 2), .int x0] (zSH, I, L, P) Q) ∧
    (∀ (d : Nat) (l0 : Value) (l1 : Value) (x1 : Int32) (x0 : Int32) (h : zMm) (Q : Option Value → zMm → Prop), zWp d zi_1 none 9 [l0, l1] [.int x1, .int x0] h Q = if x1 ≤ x0 then zWp d zi_1 none 16 [l0, l1] [] h Q else zWp d zi_1 none 12 [l0, l1] [] h Q) ∧
    (∀ (d : Nat) (l0 : Value) (l1 : Value)  (h : zMm) (Q : Option Value → zMm → Prop), zWp d zi_1 none 12 [l0, l1] [] h Q = zWp d zi_1 none 13 [l0, l1] [.int 1] h Q) ∧
    (∀ (d : Nat) (l0 : Value) (l1 : Value) (x0 : Int32) (h : zMm) (Q : Option Value → zMm → Prop), zWp d zi_1 none 13 [l0, l1] [.int x0] h Q = zWp d zi_1 none 17 [l0, l1] [.int x0] h Q) ∧
    (∀ (d : Nat) (l0 : Value) (l1 : Value)  (h : zMm) (Q : Option Value → zMm → Prop), zWp d zi_1 none 16 [l0, l1] [] h Q = zWp d zi_1 none 17 [l0, l1] [.int 0] h Q) ∧
    (∀ (d : Nat) (l0 : Value) (l1 : Value) (x0 : Int32) (h : zMm) (Q : Option Value → zMm → Prop), x0 = 0 ∨ x0 = 1 → zWp d zi_1 none 17 [l0, l1] [.int x0] h Q = Q (some (.int x0)) h) :=
  ⟨(fun d l0 l1  h Q => zr_iload_n rfl rfl),
   (fun d l0 l1 x0 h Q => zr_if_lt rfl (by decide)),
   (fun d l0 l1  h Q => zr_iload_n rfl rfl),
   (fun d l0 l1 x0 h Q => zr_aload_n rfl rfl),
   (fun d l0 l1 x1 x0 I L P Q p0 => zr_getI rfl lf_0_16 (fun _ _ _ => rfl) p0),
   (fun d l0 l1 x1 x0 h Q => zr_ic_ge rfl (by decide)),
   (fun d l0 l1  h Q => zr_iconst rfl (by decide)),
   (fun d l0 l1 x0 h Q => zr_goto rfl (by decide)),
   (fun d l0 l1  h Q => zr_iconst rfl (by decide)),
   (fun d l0 l1 x0 h Q p0 => zr_zret rfl rfl p0)⟩
theorem E_X0_isUnder : ∀ (d : Nat) (a0 : Int32) (a1 : Int32) (h : zMm) (Q : Option Value → zMm → Prop), zWM (d + 1) 2 [.int a0, .int a1] h Q = zWp d zi_2 none 0 [.int a0, .int a1, .retAddr 0, .retAddr 0] [] h Q := fun d a0 a1 h Q => zW_M m_2 (Nat.le_of_ble_eq_true rfl) rfl
set_option maxRecDepth 100000 in
theorem R_X0_isUnder :
    (∀ (d : Nat) (l0 : Int32) (l1 : Value) (l2 : Value) (l3 : Value)  (h : zMm) (Q : Option Value → zMm → Prop), zWp d zi_2 none 0 [.int l0, l1, l2, l3] [] h Q = zWp d zi_2 none 1 [.int l0, l1, l2, l3] [.int l0] h Q) ∧
    (∀ (d : Nat) (l0 : Value) (l1 : Int32) (l2 : Value) (l3 : Value) (x0 : Int32) (h : zMm) (Q : Option Value → zMm → Prop), zWp d zi_2 none 1 [l0, .int l1, l2, l3] [.int x0] h Q = zWp d zi_2 none 2 [l0, .int l1, .int x0, l3] [] h Q) ∧
    (∀ (d : Nat) (l0 : Value) (l1 : Value) (l2 : Value) (l3 : Value)  (h : zMm) (Q : Option Value → zMm → Prop), zWp d zi_2 none 2 [l0, l1, l2, l3] [] h Q = zWp d zi_2 none 3 [l0, l1, l2, l3] [.int 0] h Q) ∧
    (∀ (d : Nat) (l0 : Value) (l1 : Value) (l2 : Int32) (l3 : Value) (x0 : Int32) (h : zMm) (Q : Option Value → zMm → Prop), zWp d zi_2 none 3 [l0, l1, .int l2, l3] [.int x0] h Q = zWp d zi_2 none 4 [l0, l1, .int l2, .int x0] [] h Q) ∧
    (∀ (d : Nat) (l0 : Value) (l1 : Value) (l2 : Value) (l3 : Value) (x0 : Int32) (h : zMm) (Q : Option Value → zMm → Prop), zWp d zi_2 none 5 [l0, l1, l2, l3] [.int x0] h Q = zWp d zi_2 none 7 [l0, l1, l2, l3] [.int 8, .int x0] h Q) ∧
    (∀ (d : Nat) (l0 : Value) (l1 : Value) (l2 : Value) (l3 : Value) (x1 : Int32) (x0 : Int32) (h : zMm) (Q : Option Value → zMm → Prop), zWp d zi_2 none 7 [l0, l1, l2, l3] [.int x1, .int x0] h Q = if x1 ≤ x0 then zWp d zi_2 none 39 [l0, l1, l2, l3] [] h Q else zWp d zi_2 none 10 [l0, l1, l2, l3] [] h Q) ∧
    (∀ (d : Nat) (l0 : Value) (l1 : Value) (l2 : Int32) (l3 : Value)  (h : zMm) (Q : Option Value → zMm → Prop), zWp d zi_2 none 10 [l0, l1, .int l2, l3] [] h Q = zWp d zi_2 none 11 [l0, l1, .int l2, l3] [.int l2] h Q) ∧
    (∀ (d : Nat) (l0 : Value) (l1 : Value) (l2 : Value) (l3 : Value) (x0 : Int32) (h : zMm) (Q : Option Value → zMm → Prop), zWp d zi_2 none 11 [l0, l1, l2, l3] [.int x0] h Q = if x0 < 0 then zWp d zi_2 none 39 [l0, l1, l2, l3] [] h Q else zWp d zi_2 none 14 [l0, l1, l2, l3] [] h Q) ∧
    (∀ (d : Nat) (l0 : Value) (l1 : Value) (l2 : Int32) (l3 : Value)  (h : zMm) (Q : Option Value → zMm → Prop), zWp d zi_2 none 14 [l0, l1, .int l2, l3] [] h Q = zWp d zi_2 none 15 [l0, l1, .int l2, l3] [.int l2] h Q) ∧
    (∀ (d : Nat) (l0 : Value) (l1 : Value) (l2 : Value) (l3 : Value) (x0 : Int32) (h : zMm) (Q : Option Value → zMm → Prop), zWp d zi_2 none 15 [l0, l1, l2, l3] [.int x0] h Q = zWp d zi_2 none 17 [l0, l1, l2, l3] [.int 8, .int x0] h Q) ∧
    (∀ (d : Nat) (l0 : Value) (l1 : Value) (l2 : Value) (l3 : Value) (x1 : Int32) (x0 : Int32) (h : zMm) (Q : Option Value → zMm → Prop), zWp d zi_2 none 17 [l0, l1, l2, l3] [.int x1, .int x0] h Q = if x1 ≤ x0 then zWp d zi_2 none 39 [l0, l1, l2, l3] [] h Q else zWp d zi_2 none 20 [l0, l1, l2, l3] [] h Q) ∧
    (∀ (d : Nat) (l0 : Value) (l1 : Value) (l2 : Int32) (l3 : Value)  (h : zMm) (Q : Option Value → zMm → Prop), zWp d zi_2 none 20 [l0, l1, .int l2, l3] [] h Q = zWp d zi_2 none 21 [l0, l1, .int l2, l3] [.int l2] h Q) ∧
    (∀ (d : Nat) (l0 : Value) (l1 : Int32) (l2 : Value) (l3 : Value) (x0 : Int32) (h : zMm) (Q : Option Value → zMm → Prop), zWp d zi_2 none 21 [l0, .int l1, l2, l3] [.int x0] h Q = zWp d zi_2 none 22 [l0, .int l1, l2, l3] [.int l1, .int x0] h Q) ∧
    (∀ (d : Nat) (l0 : Value) (l1 : Value) (l2 : Value) (l3 : Value) (x1 : Int32) (x0 : Int32) (h : zMm) (Q : Option Value → zMm → Prop), zWp d zi_2 none 22 [l0, l1, l2, l3] [.int x1, .int x0] h Q = if x0 = x1 then zWp d zi_2 none 25 [l0, l1, l2, l3] [] h Q else zWp d zi_2 none 27 [l0, l1, l2, l3] [] h Q) ∧
    (∀ (d : Nat) (l0 : Value) (l1 : Value) (l2 : Value) (l3 : Value)  (h : zMm) (Q : Option Value → zMm → Prop), zWp d zi_2 none 25 [l0, l1, l2, l3] [] h Q = zWp d zi_2 none 26 [l0, l1, l2, l3] [.int 1] h Q) ∧
    (∀ (d : Nat) (l0 : Value) (l1 : Value) (l2 : Value) (l3 : Value) (x0 : Int32) (h : zMm) (Q : Option Value → zMm → Prop), x0 = 0 ∨ x0 = 1 → zWp d zi_2 none 26 [l0, l1, l2, l3] [.int x0] h Q = Q (some (.int x0)) h) ∧
    (∀ (d : Nat) (l0 : Value) (l1 : Value) (l2 : Value) (l3 : Value)  (h : zMm) (Q : Option Value → zMm → Prop), zWp d zi_2 none 27 [l0, l1, l2, l3] [] h Q = zWp d zi_2 none 30 [l0, l1, l2, l3] [.ref 1000002] h Q) ∧
    (∀ (d : Nat) (l0 : Value) (l1 : Value) (l2 : Int32) (l3 : Value) (x0 : Nat) (h : zMm) (Q : Option Value → zMm → Prop), zWp d zi_2 none 30 [l0, l1, .int l2, l3] [.ref x0] h Q = zWp d zi_2 none 31 [l0, l1, .int l2, l3] [.int l2, .ref x0] h Q) ∧
    (∀ (d : Nat) (l0 : Value) (l1 : Value) (l2 : Value) (l3 : Value) (x1 : Int32) (x0 : Nat) (I : Nat → Nat → Int32) (L : Nat → Nat → Int64) (P : Nat → Nat → Option Nat) (Q : Option Value → zMm → Prop), zAk zSH x0 = some .int → zWp d zi_2 none 31 [l0, l1, l2, l3] [.int x1, .ref x0] (zSH, I, L, P) Q = (vp_in x1 (zAn zSH x0) ∧ zWp d zi_2 none 32 [l0, l1, l2, l3] [.int (I x0 x1.toNatClampNeg)] (zSH, I, L, P) Q)) ∧
    (∀ (d : Nat) (l0 : Value) (l1 : Int32) (l2 : Value) (l3 : Value) (x0 : Int32) (h : zMm) (Q : Option Value → zMm → Prop), zWp d zi_2 none 32 [l0, .int l1, l2, l3] [.int x0] h Q = zWp d zi_2 none 33 [l0, .int l1, .int x0, l3] [] h Q) ∧
    (∀ (d : Nat) (l0 : Value) (l1 : Value) (l2 : Int32) (l3 : Int32)  (h : zMm) (Q : Option Value → zMm → Prop), zWp d zi_2 none 33 [l0, l1, .int l2, .int l3] [] h Q = zWp d zi_2 none 36 [l0, l1, .int l2, .int (l3 + 1)] [] h Q) ∧
    (∀ (d : Nat) (l0 : Value) (l1 : Value) (l2 : Value) (l3 : Value)  (h : zMm) (Q : Option Value → zMm → Prop), zWp d zi_2 none 36 [l0, l1, l2, l3] [] h Q = zWp d zi_2 none 4 [l0, l1, l2, l3] [] h Q) ∧
    (∀ (d : Nat) (l0 : Value) (l1 : Value) (l2 : Value) (l3 : Value)  (h : zMm) (Q : Option Value → zMm → Prop), zWp d zi_2 none 39 [l0, l1, l2, l3] [] h Q = zWp d zi_2 none 40 [l0, l1, l2, l3] [.int 0] h Q) ∧
    (∀ (d : Nat) (l0 : Value) (l1 : Value) (l2 : Value) (l3 : Value) (x0 : Int32) (h : zMm) (Q : Option Value → zMm → Prop), x0 = 0 ∨ x0 = 1 → zWp d zi_2 none 40 [l0, l1, l2, l3] [.int x0] h Q = Q (some (.int x0)) h) :=
  ⟨(fun d l0 l1 l2 l3  h Q => zr_iload_n rfl rfl),
   (fun d l0 l1 l2 l3 x0 h Q => zr_istore_n (n := 2) rfl (Nat.le_of_ble_eq_true rfl) rfl),
   (fun d l0 l1 l2 l3  h Q => zr_iconst rfl (by decide)),
   (fun d l0 l1 l2 l3 x0 h Q => zr_istore_n (n := 3) rfl (Nat.le_of_ble_eq_true rfl) rfl),
   (fun d l0 l1 l2 l3 x0 h Q => zr_bipush rfl (by decide)),
   (fun d l0 l1 l2 l3 x1 x0 h Q => zr_ic_ge rfl (by decide)),
   (fun d l0 l1 l2 l3  h Q => zr_iload_n rfl rfl),
   (fun d l0 l1 l2 l3 x0 h Q => zr_if_lt rfl (by decide)),
   (fun d l0 l1 l2 l3  h Q => zr_iload_n rfl rfl),
   (fun d l0 l1 l2 l3 x0 h Q => zr_bipush rfl (by decide)),
   (fun d l0 l1 l2 l3 x1 x0 h Q => zr_ic_ge rfl (by decide)),
   (fun d l0 l1 l2 l3  h Q => zr_iload_n rfl rfl),
   (fun d l0 l1 l2 l3 x0 h Q => zr_iload_n rfl rfl),
   (fun d l0 l1 l2 l3 x1 x0 h Q => zr_ic_ne rfl (by decide)),
   (fun d l0 l1 l2 l3  h Q => zr_iconst rfl (by decide)),
   (fun d l0 l1 l2 l3 x0 h Q p0 => zr_zret rfl rfl p0),
   (fun d l0 l1 l2 l3  h Q => zr_gsta rfl lg_0_20),
   (fun d l0 l1 l2 l3 x0 h Q => zr_iload_n rfl rfl),
   (fun d l0 l1 l2 l3 x1 x0 I L P Q p0 => zr_ald rfl p0),
   (fun d l0 l1 l2 l3 x0 h Q => zr_istore_n (n := 2) rfl (Nat.le_of_ble_eq_true rfl) rfl),
   (fun d l0 l1 l2 l3  h Q => zr_iinc (n := 3) (kc := 1) rfl rfl (Nat.le_of_ble_eq_true rfl) rfl (by decide)),
   (fun d l0 l1 l2 l3  h Q => zr_goto rfl (by decide)),
   (fun d l0 l1 l2 l3  h Q => zr_iconst rfl (by decide)),
   (fun d l0 l1 l2 l3 x0 h Q p0 => zr_zret rfl rfl p0)⟩
theorem H_X0_isUnder_4 : ∀ (d : Nat) (l0 : Value) (l1 : Value) (l2 : Value) (l3 : Int32)  (h : zMm) (Q : Option Value → zMm → Prop), zWp d zi_2 none 4 [l0, l1, l2, .int l3] [] h Q = zWp d zi_2 none 5 [l0, l1, l2, .int l3] [.int l3] h Q := fun d l0 l1 l2 l3  h Q => zr_iload_n rfl rfl
theorem E_X0_perform : ∀ (d : Nat) (a0 : Nat) (a1 : Int32) (a2 : Int32) (a3 : Int32) (h : zMm) (Q : Option Value → zMm → Prop), zWM (d + 1) 3 [.ref a0, .int a1, .int a2, .int a3] h Q = zWp d zi_3 none 0 [.ref a0, .int a1, .int a2, .int a3] [] h Q := fun d a0 a1 a2 a3 h Q => zW_M m_3 (Nat.le_of_ble_eq_true rfl) rfl
set_option maxRecDepth 100000 in
theorem R_X0_perform :
    (∀ (d : Nat) (l0 : Nat) (l1 : Value) (l2 : Value) (l3 : Value)  (h : zMm) (Q : Option Value → zMm → Prop), zWp d zi_3 none 0 [.ref l0, l1, l2, l3] [] h Q = zWp d zi_3 none 1 [.ref l0, l1, l2, l3] [.ref l0] h Q) ∧
    (∀ (d : Nat) (l0 : Value) (l1 : Int32) (l2 : Value) (l3 : Value) (x0 : Nat) (h : zMm) (Q : Option Value → zMm → Prop), zWp d zi_3 none 1 [l0, .int l1, l2, l3] [.ref x0] h Q = zWp d zi_3 none 2 [l0, .int l1, l2, l3] [.int l1, .ref x0] h Q) ∧
    (∀ (d : Nat) (l0 : Value) (l1 : Value) (l2 : Value) (l3 : Value) (x1 : Int32) (x0 : Nat) (I : Nat → Nat → Int32) (L : Nat → Nat → Int64) (P : Nat → Nat → Option Nat) (Q : Option Value → zMm → Prop), zSH[x0]? = some (.inl 0) → zWp d zi_3 none 2 [l0, l1, l2, l3] [.int x1, .ref x0] (zSH, I, L, P) Q = zWp d zi_3 none 5 [l0, l1, l2, l3] [] (zSH, zw I x0 (upd (I x0) 4 x1), L, P) Q) ∧
    (∀ (d : Nat) (l0 : Nat) (l1 : Value) (l2 : Value) (l3 : Value)  (h : zMm) (Q : Option Value → zMm → Prop), zWp d zi_3 none 5 [.ref l0, l1, l2, l3] [] h Q = zWp d zi_3 none 6 [.ref l0, l1, l2, l3] [.ref l0] h Q) ∧
    (∀ (d : Nat) (l0 : Nat) (l1 : Value) (l2 : Value) (l3 : Value) (x0 : Nat) (h : zMm) (Q : Option Value → zMm → Prop), zWp d zi_3 none 6 [.ref l0, l1, l2, l3] [.ref x0] h Q = zWp d zi_3 none 7 [.ref l0, l1, l2, l3] [.ref l0, .ref x0] h Q) ∧
    (∀ (d : Nat) (l0 : Value) (l1 : Value) (l2 : Value) (l3 : Value) (x1 : Nat) (x0 : Nat) (I : Nat → Nat → Int32) (L : Nat → Nat → Int64) (P : Nat → Nat → Option Nat) (Q : Option Value → zMm → Prop), zSH[x1]? = some (.inl 0) → zWp d zi_3 none 7 [l0, l1, l2, l3] [.ref x1, .ref x0] (zSH, I, L, P) Q = zWp d zi_3 none 10 [l0, l1, l2, l3] [va_rf (P x1 0), .ref x0] (zSH, I, L, P) Q) ∧
    (∀ (d : Nat) (l0 : Value) (l1 : Int32) (l2 : Value) (l3 : Value) (x1 : Nat) (x0 : Nat) (h : zMm) (Q : Option Value → zMm → Prop), zWp d zi_3 none 10 [l0, .int l1, l2, l3] [.ref x1, .ref x0] h Q = zWp d zi_3 none 11 [l0, .int l1, l2, l3] [.int l1, .ref x1, .ref x0] h Q) ∧
    (∀ (d : Nat) (l0 : Value) (l1 : Value) (l2 : Value) (l3 : Value) (x2 : Int32) (x1 : Nat) (x0 : Nat) (I : Nat → Nat → Int32) (L : Nat → Nat → Int64) (P : Nat → Nat → Option Nat) (Q : Option Value → zMm → Prop), zAk zSH x1 = some .int → zWp d zi_3 none 11 [l0, l1, l2, l3] [.int x2, .ref x1, .ref x0] (zSH, I, L, P) Q = (vp_in x2 (zAn zSH x1) ∧ zWp d zi_3 none 12 [l0, l1, l2, l3] [.int (I x1 x2.toNatClampNeg), .ref x0] (zSH, I, L, P) Q)) ∧
    (∀ (d : Nat) (l0 : Value) (l1 : Value) (l2 : Value) (l3 : Value) (x1 : Int32) (x0 : Nat) (I : Nat → Nat → Int32) (L : Nat → Nat → Int64) (P : Nat → Nat → Option Nat) (Q : Option Value → zMm → Prop), zSH[x0]? = some (.inl 0) → zWp d zi_3 none 12 [l0, l1, l2, l3] [.int x1, .ref x0] (zSH, I, L, P) Q = zWp d zi_3 none 15 [l0, l1, l2, l3] [] (zSH, zw I x0 (upd (I x0) 5 x1), L, P) Q) ∧
    (∀ (d : Nat) (l0 : Nat) (l1 : Value) (l2 : Value) (l3 : Value)  (h : zMm) (Q : Option Value → zMm → Prop), zWp d zi_3 none 15 [.ref l0, l1, l2, l3] [] h Q = zWp d zi_3 none 16 [.ref l0, l1, l2, l3] [.ref l0] h Q) ∧
    (∀ (d : Nat) (l0 : Nat) (l1 : Value) (l2 : Value) (l3 : Value) (x0 : Nat) (h : zMm) (Q : Option Value → zMm → Prop), zWp d zi_3 none 16 [.ref l0, l1, l2, l3] [.ref x0] h Q = zWp d zi_3 none 17 [.ref l0, l1, l2, l3] [.ref l0, .ref x0] h Q) ∧
    (∀ (d : Nat) (l0 : Value) (l1 : Value) (l2 : Value) (l3 : Value) (x1 : Nat) (x0 : Nat) (I : Nat → Nat → Int32) (L : Nat → Nat → Int64) (P : Nat → Nat → Option Nat) (Q : Option Value → zMm → Prop), zSH[x1]? = some (.inl 0) → zWp d zi_3 none 17 [l0, l1, l2, l3] [.ref x1, .ref x0] (zSH, I, L, P) Q = zWp d zi_3 none 20 [l0, l1, l2, l3] [.int (I x1 5), .ref x0] (zSH, I, L, P) Q) ∧
    (∀ (d : Nat) (l0 : Value) (l1 : Value) (l2 : Int32) (l3 : Value) (x1 : Int32) (x0 : Nat) (h : zMm) (Q : Option Value → zMm → Prop), zWp d zi_3 none 20 [l0, l1, .int l2, l3] [.int x1, .ref x0] h Q = zWp d zi_3 none 21 [l0, l1, .int l2, l3] [.int l2, .int x1, .ref x0] h Q) ∧
    (∀ (d : Nat) (l0 : Value) (l1 : Value) (l2 : Value) (l3 : Int32) (x2 : Int32) (x1 : Int32) (x0 : Nat) (h : zMm) (Q : Option Value → zMm → Prop), zWp d zi_3 none 21 [l0, l1, l2, .int l3] [.int x2, .int x1, .ref x0] h Q = zWp d zi_3 none 22 [l0, l1, l2, .int l3] [.int l3, .int x2, .int x1, .ref x0] h Q) ∧
    (∀ (d : Nat) (l0 : Value) (l1 : Value) (l2 : Value) (l3 : Value) (x3 : Int32) (x2 : Int32) (x1 : Int32) (x0 : Nat) (h : zMm) (Q : Option Value → zMm → Prop), zWp d zi_3 none 22 [l0, l1, l2, l3] [.int x3, .int x2, .int x1, .ref x0] h Q = zWp d zi_3 none 23 [l0, l1, l2, l3] [.int 0, .int x3, .int x2, .int x1, .ref x0] h Q) ∧
    (∀ (d : Nat) (l0 : Value) (l1 : Value) (l2 : Value) (l3 : Value) (x4 : Int32) (x3 : Int32) (x2 : Int32) (x1 : Int32) (x0 : Nat) (I : Nat → Nat → Int32) (L : Nat → Nat → Int64) (P : Nat → Nat → Option Nat) (Q : Option Value → zMm → Prop), zSH[x0]? = some (.inl 0) → zWp d zi_3 none 23 [l0, l1, l2, l3] [.int x4, .int x3, .int x2, .int x1, .ref x0] (zSH, I, L, P) Q = zWM d 4 [.ref x0, .int x1, .int x2, .int x3, .int x4] (zSH, I, L, P) (fun r h1 => zWp d zi_3 none 26 [l0, l1, l2, l3] (r.toList ++ []) h1 Q)) ∧
    (∀ (d : Nat) (l0 : Value) (l1 : Value) (l2 : Value) (l3 : Value) (x0 : Int32) (h : zMm) (Q : Option Value → zMm → Prop), zWp d zi_3 none 26 [l0, l1, l2, l3] [.int x0] h Q = Q (some (.int x0)) h) :=
  ⟨(fun d l0 l1 l2 l3  h Q => zr_aload_n rfl rfl),
   (fun d l0 l1 l2 l3 x0 h Q => zr_iload_n rfl rfl),
   (fun d l0 l1 l2 l3 x1 x0 I L P Q p0 => zr_putI rfl lf_0_23 (by decide) rfl p0),
   (fun d l0 l1 l2 l3  h Q => zr_aload_n rfl rfl),
   (fun d l0 l1 l2 l3 x0 h Q => zr_aload_n rfl rfl),
   (fun d l0 l1 l2 l3 x1 x0 I L P Q p0 => zr_getQ rfl lf_0_9 (fun _ _ _ => rfl) p0),
   (fun d l0 l1 l2 l3 x1 x0 h Q => zr_iload_n rfl rfl),
   (fun d l0 l1 l2 l3 x2 x1 x0 I L P Q p0 => zr_ald rfl p0),
   (fun d l0 l1 l2 l3 x1 x0 I L P Q p0 => zr_putI rfl lf_0_26 (by decide) rfl p0),
   (fun d l0 l1 l2 l3  h Q => zr_aload_n rfl rfl),
   (fun d l0 l1 l2 l3 x0 h Q => zr_aload_n rfl rfl),
   (fun d l0 l1 l2 l3 x1 x0 I L P Q p0 => zr_getI rfl lf_0_26 (fun _ _ _ => rfl) p0),
   (fun d l0 l1 l2 l3 x1 x0 h Q => zr_iload_n rfl rfl),
   (fun d l0 l1 l2 l3 x2 x1 x0 h Q => zr_iload_n rfl rfl),
   (fun d l0 l1 l2 l3 x3 x2 x1 x0 h Q => zr_iconst rfl (by decide)),
   (fun d l0 l1 l2 l3 x4 x3 x2 x1 x0 I L P Q p0 => zr_vir (as := [.int x4, .int x3, .int x2, .int x1]) (rest := []) rfl lm_0_29 m_4 kd_4 rfl (Nat.le_of_ble_eq_true rfl) p0),
   (fun d l0 l1 l2 l3 x0 h Q => zr_iret rfl rfl)⟩
theorem E_X0_run : ∀ (d : Nat) (a0 : Nat) (a1 : Int32) (a2 : Int32) (a3 : Int32) (a4 : Int32) (h : zMm) (Q : Option Value → zMm → Prop), zWM (d + 1) 4 [.ref a0, .int a1, .int a2, .int a3, .int a4] h Q = zWp d zi_4 none 0 [.ref a0, .int a1, .int a2, .int a3, .int a4, .retAddr 0, .retAddr 0] [] h Q := fun d a0 a1 a2 a3 a4 h Q => zW_M m_4 (Nat.le_of_ble_eq_true rfl) rfl
set_option maxRecDepth 100000 in
theorem R_X0_run :
    (∀ (d : Nat) (l0 : Value) (l1 : Int32) (l2 : Value) (l3 : Value) (l4 : Value) (l5 : Value) (l6 : Value)  (h : zMm) (Q : Option Value → zMm → Prop), zWp d zi_4 none 0 [l0, .int l1, l2, l3, l4, l5, l6] [] h Q = zWp d zi_4 none 1 [l0, .int l1, l2, l3, l4, l5, l6] [.int l1] h Q) ∧
    (∀ (d : Nat) (l0 : Value) (l1 : Value) (l2 : Value) (l3 : Value) (l4 : Int32) (l5 : Value) (l6 : Value) (x0 : Int32) (h : zMm) (Q : Option Value → zMm → Prop), zWp d zi_4 none 1 [l0, l1, l2, l3, .int l4, l5, l6] [.int x0] h Q = zWp d zi_4 none 3 [l0, l1, l2, l3, .int l4, .int x0, l6] [] h Q) ∧
    (∀ (d : Nat) (l0 : Value) (l1 : Value) (l2 : Value) (l3 : Value) (l4 : Value) (l5 : Value) (l6 : Value)  (h : zMm) (Q : Option Value → zMm → Prop), zWp d zi_4 none 3 [l0, l1, l2, l3, l4, l5, l6] [] h Q = zWp d zi_4 none 4 [l0, l1, l2, l3, l4, l5, l6] [.int 0] h Q) ∧
    (∀ (d : Nat) (l0 : Value) (l1 : Value) (l2 : Value) (l3 : Value) (l4 : Value) (l5 : Int32) (l6 : Value) (x0 : Int32) (h : zMm) (Q : Option Value → zMm → Prop), zWp d zi_4 none 4 [l0, l1, l2, l3, l4, .int l5, l6] [.int x0] h Q = zWp d zi_4 none 6 [l0, l1, l2, l3, l4, .int l5, .int x0] [] h Q) ∧
    (∀ (d : Nat) (l0 : Value) (l1 : Value) (l2 : Value) (l3 : Value) (l4 : Value) (l5 : Value) (l6 : Value) (x0 : Int32) (h : zMm) (Q : Option Value → zMm → Prop), zWp d zi_4 none 8 [l0, l1, l2, l3, l4, l5, l6] [.int x0] h Q = zWp d zi_4 none 10 [l0, l1, l2, l3, l4, l5, l6] [.int 8, .int x0] h Q) ∧
    (∀ (d : Nat) (l0 : Value) (l1 : Value) (l2 : Value) (l3 : Value) (l4 : Value) (l5 : Value) (l6 : Value) (x1 : Int32) (x0 : Int32) (h : zMm) (Q : Option Value → zMm → Prop), zWp d zi_4 none 10 [l0, l1, l2, l3, l4, l5, l6] [.int x1, .int x0] h Q = if x1 ≤ x0 then zWp d zi_4 none 45 [l0, l1, l2, l3, l4, l5, l6] [] h Q else zWp d zi_4 none 13 [l0, l1, l2, l3, l4, l5, l6] [] h Q) ∧
    (∀ (d : Nat) (l0 : Value) (l1 : Value) (l2 : Value) (l3 : Value) (l4 : Value) (l5 : Int32) (l6 : Value)  (h : zMm) (Q : Option Value → zMm → Prop), zWp d zi_4 none 13 [l0, l1, l2, l3, l4, .int l5, l6] [] h Q = zWp d zi_4 none 15 [l0, l1, l2, l3, l4, .int l5, l6] [.int l5] h Q) ∧
    (∀ (d : Nat) (l0 : Value) (l1 : Value) (l2 : Value) (l3 : Value) (l4 : Value) (l5 : Value) (l6 : Value) (x0 : Int32) (h : zMm) (Q : Option Value → zMm → Prop), zWp d zi_4 none 15 [l0, l1, l2, l3, l4, l5, l6] [.int x0] h Q = if x0 ≤ 0 then zWp d zi_4 none 45 [l0, l1, l2, l3, l4, l5, l6] [] h Q else zWp d zi_4 none 18 [l0, l1, l2, l3, l4, l5, l6] [] h Q) ∧
    (∀ (d : Nat) (l0 : Value) (l1 : Value) (l2 : Value) (l3 : Value) (l4 : Value) (l5 : Value) (l6 : Value)  (h : zMm) (Q : Option Value → zMm → Prop), zWp d zi_4 none 18 [l0, l1, l2, l3, l4, l5, l6] [] h Q = zWp d zi_4 none 21 [l0, l1, l2, l3, l4, l5, l6] [.ref 1000001] h Q) ∧
    (∀ (d : Nat) (l0 : Value) (l1 : Value) (l2 : Value) (l3 : Value) (l4 : Value) (l5 : Int32) (l6 : Value) (x0 : Nat) (h : zMm) (Q : Option Value → zMm → Prop), zWp d zi_4 none 21 [l0, l1, l2, l3, l4, .int l5, l6] [.ref x0] h Q = zWp d zi_4 none 23 [l0, l1, l2, l3, l4, .int l5, l6] [.int l5, .ref x0] h Q) ∧
    (∀ (d : Nat) (l0 : Value) (l1 : Value) (l2 : Value) (l3 : Value) (l4 : Value) (l5 : Value) (l6 : Value) (x1 : Int32) (x0 : Nat) (h : zMm) (Q : Option Value → zMm → Prop), zWp d zi_4 none 23 [l0, l1, l2, l3, l4, l5, l6] [.int x1, .ref x0] h Q = zWp d zi_4 none 24 [l0, l1, l2, l3, l4, l5, l6] [.int 4, .int x1, .ref x0] h Q) ∧
    (∀ (d : Nat) (l0 : Value) (l1 : Value) (l2 : Value) (l3 : Value) (l4 : Value) (l5 : Value) (l6 : Value) (x2 : Int32) (x1 : Int32) (x0 : Nat) (h : zMm) (Q : Option Value → zMm → Prop), zWp d zi_4 none 24 [l0, l1, l2, l3, l4, l5, l6] [.int x2, .int x1, .ref x0] h Q = zWp d zi_4 none 25 [l0, l1, l2, l3, l4, l5, l6] [.int (x1 * x2), .ref x0] h Q) ∧
    (∀ (d : Nat) (l0 : Value) (l1 : Value) (l2 : Int32) (l3 : Value) (l4 : Value) (l5 : Value) (l6 : Value) (x1 : Int32) (x0 : Nat) (h : zMm) (Q : Option Value → zMm → Prop), zWp d zi_4 none 25 [l0, l1, .int l2, l3, l4, l5, l6] [.int x1, .ref x0] h Q = zWp d zi_4 none 26 [l0, l1, .int l2, l3, l4, l5, l6] [.int l2, .int x1, .ref x0] h Q) ∧
    (∀ (d : Nat) (l0 : Value) (l1 : Value) (l2 : Value) (l3 : Value) (l4 : Value) (l5 : Value) (l6 : Value) (x2 : Int32) (x1 : Int32) (x0 : Nat) (h : zMm) (Q : Option Value → zMm → Prop), zWp d zi_4 none 26 [l0, l1, l2, l3, l4, l5, l6] [.int x2, .int x1, .ref x0] h Q = zWp d zi_4 none 27 [l0, l1, l2, l3, l4, l5, l6] [.int (x1 + x2), .ref x0] h Q) ∧
    (∀ (d : Nat) (l0 : Value) (l1 : Value) (l2 : Value) (l3 : Value) (l4 : Value) (l5 : Value) (l6 : Value) (x1 : Int32) (x0 : Nat) (I : Nat → Nat → Int32) (L : Nat → Nat → Int64) (P : Nat → Nat → Option Nat) (Q : Option Value → zMm → Prop), zAk zSH x0 = some .int → zWp d zi_4 none 27 [l0, l1, l2, l3, l4, l5, l6] [.int x1, .ref x0] (zSH, I, L, P) Q = (vp_in x1 (zAn zSH x0) ∧ zWp d zi_4 none 28 [l0, l1, l2, l3, l4, l5, l6] [.int (I x0 x1.toNatClampNeg)] (zSH, I, L, P) Q)) ∧
    (∀ (d : Nat) (l0 : Value) (l1 : Value) (l2 : Value) (l3 : Value) (l4 : Value) (l5 : Value) (l6 : Value) (x0 : Int32) (h : zMm) (Q : Option Value → zMm → Prop), zWp d zi_4 none 28 [l0, l1, l2, l3, l4, l5, l6] [.int x0] h Q = if x0 = 0 then zWp d zi_4 none 31 [l0, l1, l2, l3, l4, l5, l6] [] h Q else zWp d zi_4 none 45 [l0, l1, l2, l3, l4, l5, l6] [] h Q) ∧
    (∀ (d : Nat) (l0 : Value) (l1 : Value) (l2 : Value) (l3 : Value) (l4 : Value) (l5 : Value) (l6 : Value)  (h : zMm) (Q : Option Value → zMm → Prop), zWp d zi_4 none 31 [l0, l1, l2, l3, l4, l5, l6] [] h Q = zWp d zi_4 none 34 [l0, l1, l2, l3, l4, l5, l6] [.ref 1000002] h Q) ∧
    (∀ (d : Nat) (l0 : Value) (l1 : Value) (l2 : Value) (l3 : Value) (l4 : Value) (l5 : Int32) (l6 : Value) (x0 : Nat) (h : zMm) (Q : Option Value → zMm → Prop), zWp d zi_4 none 34 [l0, l1, l2, l3, l4, .int l5, l6] [.ref x0] h Q = zWp d zi_4 none 36 [l0, l1, l2, l3, l4, .int l5, l6] [.int l5, .ref x0] h Q) ∧
    (∀ (d : Nat) (l0 : Value) (l1 : Value) (l2 : Value) (l3 : Value) (l4 : Value) (l5 : Value) (l6 : Value) (x1 : Int32) (x0 : Nat) (I : Nat → Nat → Int32) (L : Nat → Nat → Int64) (P : Nat → Nat → Option Nat) (Q : Option Value → zMm → Prop), zAk zSH x0 = some .int → zWp d zi_4 none 36 [l0, l1, l2, l3, l4, l5, l6] [.int x1, .ref x0] (zSH, I, L, P) Q = (vp_in x1 (zAn zSH x0) ∧ zWp d zi_4 none 37 [l0, l1, l2, l3, l4, l5, l6] [.int (I x0 x1.toNatClampNeg)] (zSH, I, L, P) Q)) ∧
    (∀ (d : Nat) (l0 : Value) (l1 : Value) (l2 : Value) (l3 : Value) (l4 : Int32) (l5 : Value) (l6 : Value) (x0 : Int32) (h : zMm) (Q : Option Value → zMm → Prop), zWp d zi_4 none 37 [l0, l1, l2, l3, .int l4, l5, l6] [.int x0] h Q = zWp d zi_4 none 39 [l0, l1, l2, l3, .int l4, .int x0, l6] [] h Q) ∧
    (∀ (d : Nat) (l0 : Value) (l1 : Value) (l2 : Value) (l3 : Value) (l4 : Value) (l5 : Int32) (l6 : Int32)  (h : zMm) (Q : Option Value → zMm → Prop), zWp d zi_4 none 39 [l0, l1, l2, l3, l4, .int l5, .int l6] [] h Q = zWp d zi_4 none 42 [l0, l1, l2, l3, l4, .int l5, .int (l6 + 1)] [] h Q) ∧
    (∀ (d : Nat) (l0 : Value) (l1 : Value) (l2 : Value) (l3 : Value) (l4 : Value) (l5 : Value) (l6 : Value)  (h : zMm) (Q : Option Value → zMm → Prop), zWp d zi_4 none 42 [l0, l1, l2, l3, l4, l5, l6] [] h Q = zWp d zi_4 none 6 [l0, l1, l2, l3, l4, l5, l6] [] h Q) ∧
    (∀ (d : Nat) (l0 : Value) (l1 : Value) (l2 : Value) (l3 : Value) (l4 : Value) (l5 : Int32) (l6 : Value)  (h : zMm) (Q : Option Value → zMm → Prop), zWp d zi_4 none 45 [l0, l1, l2, l3, l4, .int l5, l6] [] h Q = zWp d zi_4 none 47 [l0, l1, l2, l3, l4, .int l5, l6] [.int l5] h Q) ∧
    (∀ (d : Nat) (l0 : Value) (l1 : Value) (l2 : Value) (l3 : Value) (l4 : Value) (l5 : Value) (l6 : Value) (x0 : Int32) (h : zMm) (Q : Option Value → zMm → Prop), zWp d zi_4 none 47 [l0, l1, l2, l3, l4, l5, l6] [.int x0] h Q = if x0 < 0 then zWp d zi_4 none 57 [l0, l1, l2, l3, l4, l5, l6] [] h Q else zWp d zi_4 none 50 [l0, l1, l2, l3, l4, l5, l6] [] h Q) ∧
    (∀ (d : Nat) (l0 : Value) (l1 : Value) (l2 : Value) (l3 : Value) (l4 : Int32) (l5 : Value) (l6 : Value)  (h : zMm) (Q : Option Value → zMm → Prop), zWp d zi_4 none 50 [l0, l1, l2, l3, .int l4, l5, l6] [] h Q = zWp d zi_4 none 52 [l0, l1, l2, l3, .int l4, l5, l6] [.int l4] h Q) ∧
    (∀ (d : Nat) (l0 : Value) (l1 : Value) (l2 : Value) (l3 : Value) (l4 : Value) (l5 : Value) (l6 : Value) (x0 : Int32) (h : zMm) (Q : Option Value → zMm → Prop), zWp d zi_4 none 52 [l0, l1, l2, l3, l4, l5, l6] [.int x0] h Q = zWp d zi_4 none 54 [l0, l1, l2, l3, l4, l5, l6] [.int 40, .int x0] h Q) ∧
    (∀ (d : Nat) (l0 : Value) (l1 : Value) (l2 : Value) (l3 : Value) (l4 : Value) (l5 : Value) (l6 : Value) (x1 : Int32) (x0 : Int32) (h : zMm) (Q : Option Value → zMm → Prop), zWp d zi_4 none 54 [l0, l1, l2, l3, l4, l5, l6] [.int x1, .int x0] h Q = if x0 ≤ x1 then zWp d zi_4 none 59 [l0, l1, l2, l3, l4, l5, l6] [] h Q else zWp d zi_4 none 57 [l0, l1, l2, l3, l4, l5, l6] [] h Q) ∧
    (∀ (d : Nat) (l0 : Value) (l1 : Value) (l2 : Value) (l3 : Value) (l4 : Value) (l5 : Value) (l6 : Value)  (h : zMm) (Q : Option Value → zMm → Prop), zWp d zi_4 none 57 [l0, l1, l2, l3, l4, l5, l6] [] h Q = zWp d zi_4 none 58 [l0, l1, l2, l3, l4, l5, l6] [.int 0] h Q) ∧
    (∀ (d : Nat) (l0 : Value) (l1 : Value) (l2 : Value) (l3 : Value) (l4 : Value) (l5 : Value) (l6 : Value) (x0 : Int32) (h : zMm) (Q : Option Value → zMm → Prop), zWp d zi_4 none 58 [l0, l1, l2, l3, l4, l5, l6] [.int x0] h Q = Q (some (.int x0)) h) ∧
    (∀ (d : Nat) (l0 : Value) (l1 : Value) (l2 : Value) (l3 : Value) (l4 : Value) (l5 : Value) (l6 : Value)  (h : zMm) (Q : Option Value → zMm → Prop), zWp d zi_4 none 59 [l0, l1, l2, l3, l4, l5, l6] [] h Q = zWp d zi_4 none 62 [l0, l1, l2, l3, l4, l5, l6] [.ref 1000001] h Q) ∧
    (∀ (d : Nat) (l0 : Value) (l1 : Value) (l2 : Value) (l3 : Value) (l4 : Value) (l5 : Int32) (l6 : Value) (x0 : Nat) (h : zMm) (Q : Option Value → zMm → Prop), zWp d zi_4 none 62 [l0, l1, l2, l3, l4, .int l5, l6] [.ref x0] h Q = zWp d zi_4 none 64 [l0, l1, l2, l3, l4, .int l5, l6] [.int l5, .ref x0] h Q) ∧
    (∀ (d : Nat) (l0 : Value) (l1 : Value) (l2 : Value) (l3 : Value) (l4 : Value) (l5 : Value) (l6 : Value) (x1 : Int32) (x0 : Nat) (h : zMm) (Q : Option Value → zMm → Prop), zWp d zi_4 none 64 [l0, l1, l2, l3, l4, l5, l6] [.int x1, .ref x0] h Q = zWp d zi_4 none 65 [l0, l1, l2, l3, l4, l5, l6] [.int 4, .int x1, .ref x0] h Q) ∧
    (∀ (d : Nat) (l0 : Value) (l1 : Value) (l2 : Value) (l3 : Value) (l4 : Value) (l5 : Value) (l6 : Value) (x2 : Int32) (x1 : Int32) (x0 : Nat) (h : zMm) (Q : Option Value → zMm → Prop), zWp d zi_4 none 65 [l0, l1, l2, l3, l4, l5, l6] [.int x2, .int x1, .ref x0] h Q = zWp d zi_4 none 66 [l0, l1, l2, l3, l4, l5, l6] [.int (x1 * x2), .ref x0] h Q) ∧
    (∀ (d : Nat) (l0 : Value) (l1 : Value) (l2 : Int32) (l3 : Value) (l4 : Value) (l5 : Value) (l6 : Value) (x1 : Int32) (x0 : Nat) (h : zMm) (Q : Option Value → zMm → Prop), zWp d zi_4 none 66 [l0, l1, .int l2, l3, l4, l5, l6] [.int x1, .ref x0] h Q = zWp d zi_4 none 67 [l0, l1, .int l2, l3, l4, l5, l6] [.int l2, .int x1, .ref x0] h Q) ∧
    (∀ (d : Nat) (l0 : Value) (l1 : Value) (l2 : Value) (l3 : Value) (l4 : Value) (l5 : Value) (l6 : Value) (x2 : Int32) (x1 : Int32) (x0 : Nat) (h : zMm) (Q : Option Value → zMm → Prop), zWp d zi_4 none 67 [l0, l1, l2, l3, l4, l5, l6] [.int x2, .int x1, .ref x0] h Q = zWp d zi_4 none 68 [l0, l1, l2, l3, l4, l5, l6] [.int (x1 + x2), .ref x0] h Q) ∧
    (∀ (d : Nat) (l0 : Value) (l1 : Value) (l2 : Value) (l3 : Value) (l4 : Value) (l5 : Value) (l6 : Value) (x1 : Int32) (x0 : Nat) (I : Nat → Nat → Int32) (L : Nat → Nat → Int64) (P : Nat → Nat → Option Nat) (Q : Option Value → zMm → Prop), zAk zSH x0 = some .int → zWp d zi_4 none 68 [l0, l1, l2, l3, l4, l5, l6] [.int x1, .ref x0] (zSH, I, L, P) Q = (vp_in x1 (zAn zSH x0) ∧ zWp d zi_4 none 69 [l0, l1, l2, l3, l4, l5, l6] [.int (I x0 x1.toNatClampNeg)] (zSH, I, L, P) Q)) ∧
    (∀ (d : Nat) (l0 : Value) (l1 : Value) (l2 : Value) (l3 : Value) (l4 : Value) (l5 : Int32) (l6 : Value) (x0 : Int32) (h : zMm) (Q : Option Value → zMm → Prop), zWp d zi_4 none 69 [l0, l1, l2, l3, l4, .int l5, l6] [.int x0] h Q = zWp d zi_4 none 71 [l0, l1, l2, l3, l4, .int l5, .int x0] [] h Q) ∧
    (∀ (d : Nat) (l0 : Nat) (l1 : Value) (l2 : Value) (l3 : Value) (l4 : Value) (l5 : Value) (l6 : Value)  (h : zMm) (Q : Option Value → zMm → Prop), zWp d zi_4 none 71 [.ref l0, l1, l2, l3, l4, l5, l6] [] h Q = zWp d zi_4 none 72 [.ref l0, l1, l2, l3, l4, l5, l6] [.ref l0] h Q) ∧
    (∀ (d : Nat) (l0 : Value) (l1 : Value) (l2 : Value) (l3 : Value) (l4 : Value) (l5 : Value) (l6 : Value) (x0 : Nat) (I : Nat → Nat → Int32) (L : Nat → Nat → Int64) (P : Nat → Nat → Option Nat) (Q : Option Value → zMm → Prop), zSH[x0]? = some (.inl 0) → zWp d zi_4 none 72 [l0, l1, l2, l3, l4, l5, l6] [.ref x0] (zSH, I, L, P) Q = zWp d zi_4 none 75 [l0, l1, l2, l3, l4, l5, l6] [.int (I x0 3)] (zSH, I, L, P) Q) ∧
    (∀ (d : Nat) (l0 : Value) (l1 : Value) (l2 : Value) (l3 : Value) (l4 : Value) (l5 : Value) (l6 : Value) (x0 : Int32) (h : zMm) (Q : Option Value → zMm → Prop), zWp d zi_4 none 75 [l0, l1, l2, l3, l4, l5, l6] [.int x0] h Q = zWp d zi_4 none 77 [l0, l1, l2, l3, l4, l5, l6] [.int 24, .int x0] h Q) ∧
    (∀ (d : Nat) (l0 : Value) (l1 : Value) (l2 : Value) (l3 : Value) (l4 : Value) (l5 : Value) (l6 : Value) (x1 : Int32) (x0 : Int32) (h : zMm) (Q : Option Value → zMm → Prop), zWp d zi_4 none 77 [l0, l1, l2, l3, l4, l5, l6] [.int x1, .int x0] h Q = if x1 ≤ x0 then zWp d zi_4 none 91 [l0, l1, l2, l3, l4, l5, l6] [] h Q else zWp d zi_4 none 80 [l0, l1, l2, l3, l4, l5, l6] [] h Q) ∧
    (∀ (d : Nat) (l0 : Nat) (l1 : Value) (l2 : Value) (l3 : Value) (l4 : Value) (l5 : Value) (l6 : Value)  (h : zMm) (Q : Option Value → zMm → Prop), zWp d zi_4 none 80 [.ref l0, l1, l2, l3, l4, l5, l6] [] h Q = zWp d zi_4 none 81 [.ref l0, l1, l2, l3, l4, l5, l6] [.ref l0] h Q) ∧
    (∀ (d : Nat) (l0 : Value) (l1 : Value) (l2 : Value) (l3 : Value) (l4 : Value) (l5 : Value) (l6 : Value) (x0 : Nat) (I : Nat → Nat → Int32) (L : Nat → Nat → Int64) (P : Nat → Nat → Option Nat) (Q : Option Value → zMm → Prop), zSH[x0]? = some (.inl 0) → zWp d zi_4 none 81 [l0, l1, l2, l3, l4, l5, l6] [.ref x0] (zSH, I, L, P) Q = zWp d zi_4 none 84 [l0, l1, l2, l3, l4, l5, l6] [va_rf (P x0 1)] (zSH, I, L, P) Q) ∧
    (∀ (d : Nat) (l0 : Nat) (l1 : Value) (l2 : Value) (l3 : Value) (l4 : Value) (l5 : Value) (l6 : Value) (x0 : Nat) (h : zMm) (Q : Option Value → zMm → Prop), zWp d zi_4 none 84 [.ref l0, l1, l2, l3, l4, l5, l6] [.ref x0] h Q = zWp d zi_4 none 85 [.ref l0, l1, l2, l3, l4, l5, l6] [.ref l0, .ref x0] h Q) ∧
    (∀ (d : Nat) (l0 : Value) (l1 : Value) (l2 : Value) (l3 : Value) (l4 : Value) (l5 : Value) (l6 : Value) (x1 : Nat) (x0 : Nat) (I : Nat → Nat → Int32) (L : Nat → Nat → Int64) (P : Nat → Nat → Option Nat) (Q : Option Value → zMm → Prop), zSH[x1]? = some (.inl 0) → zWp d zi_4 none 85 [l0, l1, l2, l3, l4, l5, l6] [.ref x1, .ref x0] (zSH, I, L, P) Q = zWp d zi_4 none 88 [l0, l1, l2, l3, l4, l5, l6] [.int (I x1 3), .ref x0] (zSH, I, L, P) Q) ∧
    (∀ (d : Nat) (l0 : Value) (l1 : Value) (l2 : Value) (l3 : Value) (l4 : Value) (l5 : Value) (l6 : Int32) (x1 : Int32) (x0 : Nat) (h : zMm) (Q : Option Value → zMm → Prop), zWp d zi_4 none 88 [l0, l1, l2, l3, l4, l5, .int l6] [.int x1, .ref x0] h Q = zWp d zi_4 none 90 [l0, l1, l2, l3, l4, l5, .int l6] [.int l6, .int x1, .ref x0] h Q) ∧
    (∀ (d : Nat) (l0 : Value) (l1 : Value) (l2 : Value) (l3 : Value) (l4 : Value) (l5 : Value) (l6 : Value) (x2 : Int32) (x1 : Int32) (x0 : Nat) (I : Nat → Nat → Int32) (L : Nat → Nat → Int64) (P : Nat → Nat → Option Nat) (Q : Option Value → zMm → Prop), zAk zSH x0 = some .int → zWp d zi_4 none 90 [l0, l1, l2, l3, l4, l5, l6] [.int x2, .int x1, .ref x0] (zSH, I, L, P) Q = (vp_in x1 (zAn zSH x0) ∧ zWp d zi_4 none 91 [l0, l1, l2, l3, l4, l5, l6] [] (zSH, zw I x0 (upd (I x0) x1.toNatClampNeg x2), L, P) Q)) ∧
    (∀ (d : Nat) (l0 : Nat) (l1 : Value) (l2 : Value) (l3 : Value) (l4 : Value) (l5 : Value) (l6 : Value)  (h : zMm) (Q : Option Value → zMm → Prop), zWp d zi_4 none 91 [.ref l0, l1, l2, l3, l4, l5, l6] [] h Q = zWp d zi_4 none 92 [.ref l0, l1, l2, l3, l4, l5, l6] [.ref l0] h Q) ∧
    (∀ (d : Nat) (l0 : Value) (l1 : Value) (l2 : Value) (l3 : Value) (l4 : Value) (l5 : Value) (l6 : Value) (x0 : Nat) (h : zMm) (Q : Option Value → zMm → Prop), zWp d zi_4 none 92 [l0, l1, l2, l3, l4, l5, l6] [.ref x0] h Q = zWp d zi_4 none 93 [l0, l1, l2, l3, l4, l5, l6] [.ref x0, .ref x0] h Q) ∧
    (∀ (d : Nat) (l0 : Value) (l1 : Value) (l2 : Value) (l3 : Value) (l4 : Value) (l5 : Value) (l6 : Value) (x1 : Nat) (x0 : Nat) (I : Nat → Nat → Int32) (L : Nat → Nat → Int64) (P : Nat → Nat → Option Nat) (Q : Option Value → zMm → Prop), zSH[x1]? = some (.inl 0) → zWp d zi_4 none 93 [l0, l1, l2, l3, l4, l5, l6] [.ref x1, .ref x0] (zSH, I, L, P) Q = zWp d zi_4 none 96 [l0, l1, l2, l3, l4, l5, l6] [.int (I x1 3), .ref x0] (zSH, I, L, P) Q) ∧
    (∀ (d : Nat) (l0 : Value) (l1 : Value) (l2 : Value) (l3 : Value) (l4 : Value) (l5 : Value) (l6 : Value) (x1 : Int32) (x0 : Nat) (h : zMm) (Q : Option Value → zMm → Prop), zWp d zi_4 none 96 [l0, l1, l2, l3, l4, l5, l6] [.int x1, .ref x0] h Q = zWp d zi_4 none 97 [l0, l1, l2, l3, l4, l5, l6] [.int 1, .int x1, .ref x0] h Q) ∧
    (∀ (d : Nat) (l0 : Value) (l1 : Value) (l2 : Value) (l3 : Value) (l4 : Value) (l5 : Value) (l6 : Value) (x2 : Int32) (x1 : Int32) (x0 : Nat) (h : zMm) (Q : Option Value → zMm → Prop), zWp d zi_4 none 97 [l0, l1, l2, l3, l4, l5, l6] [.int x2, .int x1, .ref x0] h Q = zWp d zi_4 none 98 [l0, l1, l2, l3, l4, l5, l6] [.int (x1 + x2), .ref x0] h Q) ∧
    (∀ (d : Nat) (l0 : Value) (l1 : Value) (l2 : Value) (l3 : Value) (l4 : Value) (l5 : Value) (l6 : Value) (x1 : Int32) (x0 : Nat) (I : Nat → Nat → Int32) (L : Nat → Nat → Int64) (P : Nat → Nat → Option Nat) (Q : Option Value → zMm → Prop), zSH[x0]? = some (.inl 0) → zWp d zi_4 none 98 [l0, l1, l2, l3, l4, l5, l6] [.int x1, .ref x0] (zSH, I, L, P) Q = zWp d zi_4 none 101 [l0, l1, l2, l3, l4, l5, l6] [] (zSH, zw I x0 (upd (I x0) 3 x1), L, P) Q) ∧
    (∀ (d : Nat) (l0 : Nat) (l1 : Value) (l2 : Value) (l3 : Value) (l4 : Value) (l5 : Value) (l6 : Value)  (h : zMm) (Q : Option Value → zMm → Prop), zWp d zi_4 none 101 [.ref l0, l1, l2, l3, l4, l5, l6] [] h Q = zWp d zi_4 none 102 [.ref l0, l1, l2, l3, l4, l5, l6] [.ref l0] h Q) ∧
    (∀ (d : Nat) (l0 : Value) (l1 : Value) (l2 : Value) (l3 : Value) (l4 : Value) (l5 : Value) (l6 : Int32) (x0 : Nat) (h : zMm) (Q : Option Value → zMm → Prop), zWp d zi_4 none 102 [l0, l1, l2, l3, l4, l5, .int l6] [.ref x0] h Q = zWp d zi_4 none 104 [l0, l1, l2, l3, l4, l5, .int l6] [.int l6, .ref x0] h Q) ∧
    (∀ (d : Nat) (l0 : Value) (l1 : Value) (l2 : Value) (l3 : Value) (l4 : Value) (l5 : Value) (l6 : Value) (x1 : Int32) (x0 : Nat) (h : zMm) (Q : Option Value → zMm → Prop), zWp d zi_4 none 104 [l0, l1, l2, l3, l4, l5, l6] [.int x1, .ref x0] h Q = zWp d zi_4 none 107 [l0, l1, l2, l3, l4, l5, l6] [.ref 1000002, .int x1, .ref x0] h Q) ∧
    (∀ (d : Nat) (l0 : Value) (l1 : Value) (l2 : Value) (l3 : Value) (l4 : Value) (l5 : Int32) (l6 : Value) (x2 : Nat) (x1 : Int32) (x0 : Nat) (h : zMm) (Q : Option Value → zMm → Prop), zWp d zi_4 none 107 [l0, l1, l2, l3, l4, .int l5, l6] [.ref x2, .int x1, .ref x0] h Q = zWp d zi_4 none 109 [l0, l1, l2, l3, l4, .int l5, l6] [.int l5, .ref x2, .int x1, .ref x0] h Q) ∧
    (∀ (d : Nat) (l0 : Value) (l1 : Value) (l2 : Value) (l3 : Value) (l4 : Value) (l5 : Value) (l6 : Value) (x3 : Int32) (x2 : Nat) (x1 : Int32) (x0 : Nat) (I : Nat → Nat → Int32) (L : Nat → Nat → Int64) (P : Nat → Nat → Option Nat) (Q : Option Value → zMm → Prop), zAk zSH x2 = some .int → zWp d zi_4 none 109 [l0, l1, l2, l3, l4, l5, l6] [.int x3, .ref x2, .int x1, .ref x0] (zSH, I, L, P) Q = (vp_in x3 (zAn zSH x2) ∧ zWp d zi_4 none 110 [l0, l1, l2, l3, l4, l5, l6] [.int (I x2 x3.toNatClampNeg), .int x1, .ref x0] (zSH, I, L, P) Q)) ∧
    (∀ (d : Nat) (l0 : Value) (l1 : Value) (l2 : Value) (l3 : Int32) (l4 : Value) (l5 : Value) (l6 : Value) (x2 : Int32) (x1 : Int32) (x0 : Nat) (h : zMm) (Q : Option Value → zMm → Prop), zWp d zi_4 none 110 [l0, l1, l2, .int l3, l4, l5, l6] [.int x2, .int x1, .ref x0] h Q = zWp d zi_4 none 111 [l0, l1, l2, .int l3, l4, l5, l6] [.int l3, .int x2, .int x1, .ref x0] h Q) ∧
    (∀ (d : Nat) (l0 : Value) (l1 : Value) (l2 : Value) (l3 : Value) (l4 : Int32) (l5 : Value) (l6 : Value) (x3 : Int32) (x2 : Int32) (x1 : Int32) (x0 : Nat) (h : zMm) (Q : Option Value → zMm → Prop), zWp d zi_4 none 111 [l0, l1, l2, l3, .int l4, l5, l6] [.int x3, .int x2, .int x1, .ref x0] h Q = zWp d zi_4 none 113 [l0, l1, l2, l3, .int l4, l5, l6] [.int l4, .int x3, .int x2, .int x1, .ref x0] h Q) ∧
    (∀ (d : Nat) (l0 : Value) (l1 : Value) (l2 : Value) (l3 : Value) (l4 : Value) (l5 : Value) (l6 : Value) (x4 : Int32) (x3 : Int32) (x2 : Int32) (x1 : Int32) (x0 : Nat) (h : zMm) (Q : Option Value → zMm → Prop), zWp d zi_4 none 113 [l0, l1, l2, l3, l4, l5, l6] [.int x4, .int x3, .int x2, .int x1, .ref x0] h Q = zWp d zi_4 none 114 [l0, l1, l2, l3, l4, l5, l6] [.int 1, .int x4, .int x3, .int x2, .int x1, .ref x0] h Q) ∧
    (∀ (d : Nat) (l0 : Value) (l1 : Value) (l2 : Value) (l3 : Value) (l4 : Value) (l5 : Value) (l6 : Value) (x5 : Int32) (x4 : Int32) (x3 : Int32) (x2 : Int32) (x1 : Int32) (x0 : Nat) (h : zMm) (Q : Option Value → zMm → Prop), zWp d zi_4 none 114 [l0, l1, l2, l3, l4, l5, l6] [.int x5, .int x4, .int x3, .int x2, .int x1, .ref x0] h Q = zWp d zi_4 none 115 [l0, l1, l2, l3, l4, l5, l6] [.int (x4 + x5), .int x3, .int x2, .int x1, .ref x0] h Q) ∧
    (∀ (d : Nat) (l0 : Value) (l1 : Value) (l2 : Value) (l3 : Value) (l4 : Value) (l5 : Value) (l6 : Value) (x4 : Int32) (x3 : Int32) (x2 : Int32) (x1 : Int32) (x0 : Nat) (I : Nat → Nat → Int32) (L : Nat → Nat → Int64) (P : Nat → Nat → Option Nat) (Q : Option Value → zMm → Prop), zSH[x0]? = some (.inl 0) → zWp d zi_4 none 115 [l0, l1, l2, l3, l4, l5, l6] [.int x4, .int x3, .int x2, .int x1, .ref x0] (zSH, I, L, P) Q = zWM d 5 [.ref x0, .int x1, .int x2, .int x3, .int x4] (zSH, I, L, P) (fun r h1 => zWp d zi_4 none 118 [l0, l1, l2, l3, l4, l5, l6] (r.toList ++ []) h1 Q)) ∧
    (∀ (d : Nat) (l0 : Value) (l1 : Value) (l2 : Value) (l3 : Value) (l4 : Value) (l5 : Value) (l6 : Value) (x0 : Int32) (h : zMm) (Q : Option Value → zMm → Prop), zWp d zi_4 none 118 [l0, l1, l2, l3, l4, l5, l6] [.int x0] h Q = Q (some (.int x0)) h) :=
  ⟨(fun d l0 l1 l2 l3 l4 l5 l6  h Q => zr_iload_n rfl rfl),
   (fun d l0 l1 l2 l3 l4 l5 l6 x0 h Q => zr_istore (n := 5) rfl (Nat.le_of_ble_eq_true rfl) rfl),
   (fun d l0 l1 l2 l3 l4 l5 l6  h Q => zr_iconst rfl (by decide)),
   (fun d l0 l1 l2 l3 l4 l5 l6 x0 h Q => zr_istore (n := 6) rfl (Nat.le_of_ble_eq_true rfl) rfl),
   (fun d l0 l1 l2 l3 l4 l5 l6 x0 h Q => zr_bipush rfl (by decide)),
   (fun d l0 l1 l2 l3 l4 l5 l6 x1 x0 h Q => zr_ic_ge rfl (by decide)),
   (fun d l0 l1 l2 l3 l4 l5 l6  h Q => zr_iload rfl rfl),
   (fun d l0 l1 l2 l3 l4 l5 l6 x0 h Q => zr_if_le rfl (by decide)),
   (fun d l0 l1 l2 l3 l4 l5 l6  h Q => zr_gsta rfl lg_0_33),
   (fun d l0 l1 l2 l3 l4 l5 l6 x0 h Q => zr_iload rfl rfl),
   (fun d l0 l1 l2 l3 l4 l5 l6 x1 x0 h Q => zr_iconst rfl (by decide)),
   (fun d l0 l1 l2 l3 l4 l5 l6 x2 x1 x0 h Q => zr_imul rfl),
   (fun d l0 l1 l2 l3 l4 l5 l6 x1 x0 h Q => zr_iload_n rfl rfl),
   (fun d l0 l1 l2 l3 l4 l5 l6 x2 x1 x0 h Q => zr_iadd rfl),
   (fun d l0 l1 l2 l3 l4 l5 l6 x1 x0 I L P Q p0 => zr_ald rfl p0),
   (fun d l0 l1 l2 l3 l4 l5 l6 x0 h Q => zr_if_ne rfl (by decide)),
   (fun d l0 l1 l2 l3 l4 l5 l6  h Q => zr_gsta rfl lg_0_20),
   (fun d l0 l1 l2 l3 l4 l5 l6 x0 h Q => zr_iload rfl rfl),
   (fun d l0 l1 l2 l3 l4 l5 l6 x1 x0 I L P Q p0 => zr_ald rfl p0),
   (fun d l0 l1 l2 l3 l4 l5 l6 x0 h Q => zr_istore (n := 5) rfl (Nat.le_of_ble_eq_true rfl) rfl),
   (fun d l0 l1 l2 l3 l4 l5 l6  h Q => zr_iinc (n := 6) (kc := 1) rfl rfl (Nat.le_of_ble_eq_true rfl) rfl (by decide)),
   (fun d l0 l1 l2 l3 l4 l5 l6  h Q => zr_goto rfl (by decide)),
   (fun d l0 l1 l2 l3 l4 l5 l6  h Q => zr_iload rfl rfl),
   (fun d l0 l1 l2 l3 l4 l5 l6 x0 h Q => zr_if_lt rfl (by decide)),
   (fun d l0 l1 l2 l3 l4 l5 l6  h Q => zr_iload rfl rfl),
   (fun d l0 l1 l2 l3 l4 l5 l6 x0 h Q => zr_bipush rfl (by decide)),
   (fun d l0 l1 l2 l3 l4 l5 l6 x1 x0 h Q => zr_ic_le rfl (by decide)),
   (fun d l0 l1 l2 l3 l4 l5 l6  h Q => zr_iconst rfl (by decide)),
   (fun d l0 l1 l2 l3 l4 l5 l6 x0 h Q => zr_iret rfl rfl),
   (fun d l0 l1 l2 l3 l4 l5 l6  h Q => zr_gsta rfl lg_0_33),
   (fun d l0 l1 l2 l3 l4 l5 l6 x0 h Q => zr_iload rfl rfl),
   (fun d l0 l1 l2 l3 l4 l5 l6 x1 x0 h Q => zr_iconst rfl (by decide)),
   (fun d l0 l1 l2 l3 l4 l5 l6 x2 x1 x0 h Q => zr_imul rfl),
   (fun d l0 l1 l2 l3 l4 l5 l6 x1 x0 h Q => zr_iload_n rfl rfl),
   (fun d l0 l1 l2 l3 l4 l5 l6 x2 x1 x0 h Q => zr_iadd rfl),
   (fun d l0 l1 l2 l3 l4 l5 l6 x1 x0 I L P Q p0 => zr_ald rfl p0),
   (fun d l0 l1 l2 l3 l4 l5 l6 x0 h Q => zr_istore (n := 6) rfl (Nat.le_of_ble_eq_true rfl) rfl),
   (fun d l0 l1 l2 l3 l4 l5 l6  h Q => zr_aload_n rfl rfl),
   (fun d l0 l1 l2 l3 l4 l5 l6 x0 I L P Q p0 => zr_getI rfl lf_0_36 (fun _ _ _ => rfl) p0),
   (fun d l0 l1 l2 l3 l4 l5 l6 x0 h Q => zr_bipush rfl (by decide)),
   (fun d l0 l1 l2 l3 l4 l5 l6 x1 x0 h Q => zr_ic_ge rfl (by decide)),
   (fun d l0 l1 l2 l3 l4 l5 l6  h Q => zr_aload_n rfl rfl),
   (fun d l0 l1 l2 l3 l4 l5 l6 x0 I L P Q p0 => zr_getQ rfl lf_0_13 (fun _ _ _ => rfl) p0),
   (fun d l0 l1 l2 l3 l4 l5 l6 x0 h Q => zr_aload_n rfl rfl),
   (fun d l0 l1 l2 l3 l4 l5 l6 x1 x0 I L P Q p0 => zr_getI rfl lf_0_36 (fun _ _ _ => rfl) p0),
   (fun d l0 l1 l2 l3 l4 l5 l6 x1 x0 h Q => zr_iload rfl rfl),
   (fun d l0 l1 l2 l3 l4 l5 l6 x2 x1 x0 I L P Q p0 => zr_ast rfl p0),
   (fun d l0 l1 l2 l3 l4 l5 l6  h Q => zr_aload_n rfl rfl),
   (fun d l0 l1 l2 l3 l4 l5 l6 x0 h Q => zr_dup rfl rfl),
   (fun d l0 l1 l2 l3 l4 l5 l6 x1 x0 I L P Q p0 => zr_getI rfl lf_0_36 (fun _ _ _ => rfl) p0),
   (fun d l0 l1 l2 l3 l4 l5 l6 x1 x0 h Q => zr_iconst rfl (by decide)),
   (fun d l0 l1 l2 l3 l4 l5 l6 x2 x1 x0 h Q => zr_iadd rfl),
   (fun d l0 l1 l2 l3 l4 l5 l6 x1 x0 I L P Q p0 => zr_putI rfl lf_0_36 (by decide) rfl p0),
   (fun d l0 l1 l2 l3 l4 l5 l6  h Q => zr_aload_n rfl rfl),
   (fun d l0 l1 l2 l3 l4 l5 l6 x0 h Q => zr_iload rfl rfl),
   (fun d l0 l1 l2 l3 l4 l5 l6 x1 x0 h Q => zr_gsta rfl lg_0_20),
   (fun d l0 l1 l2 l3 l4 l5 l6 x2 x1 x0 h Q => zr_iload rfl rfl),
   (fun d l0 l1 l2 l3 l4 l5 l6 x3 x2 x1 x0 I L P Q p0 => zr_ald rfl p0),
   (fun d l0 l1 l2 l3 l4 l5 l6 x2 x1 x0 h Q => zr_iload_n rfl rfl),
   (fun d l0 l1 l2 l3 l4 l5 l6 x3 x2 x1 x0 h Q => zr_iload rfl rfl),
   (fun d l0 l1 l2 l3 l4 l5 l6 x4 x3 x2 x1 x0 h Q => zr_iconst rfl (by decide)),
   (fun d l0 l1 l2 l3 l4 l5 l6 x5 x4 x3 x2 x1 x0 h Q => zr_iadd rfl),
   (fun d l0 l1 l2 l3 l4 l5 l6 x4 x3 x2 x1 x0 I L P Q p0 => zr_vir (as := [.int x4, .int x3, .int x2, .int x1]) (rest := []) rfl lm_0_39 m_5 kd_5 rfl (Nat.le_of_ble_eq_true rfl) p0),
   (fun d l0 l1 l2 l3 l4 l5 l6 x0 h Q => zr_iret rfl rfl)⟩
theorem H_X0_run_6 : ∀ (d : Nat) (l0 : Value) (l1 : Value) (l2 : Value) (l3 : Value) (l4 : Value) (l5 : Value) (l6 : Int32)  (h : zMm) (Q : Option Value → zMm → Prop), zWp d zi_4 none 6 [l0, l1, l2, l3, l4, l5, .int l6] [] h Q = zWp d zi_4 none 8 [l0, l1, l2, l3, l4, l5, .int l6] [.int l6] h Q := fun d l0 l1 l2 l3 l4 l5 l6  h Q => zr_iload rfl rfl
theorem E_X0_result : ∀ (d : Nat) (a0 : Nat) (a1 : Int32) (a2 : Int32) (a3 : Int32) (a4 : Int32) (h : zMm) (Q : Option Value → zMm → Prop), zWM (d + 1) 5 [.ref a0, .int a1, .int a2, .int a3, .int a4] h Q = zWp d zi_5 none 0 [.ref a0, .int a1, .int a2, .int a3, .int a4] [] h Q := fun d a0 a1 a2 a3 a4 h Q => zW_M m_5 (Nat.le_of_ble_eq_true rfl) rfl
set_option maxRecDepth 100000 in
theorem R_X0_result :
    (∀ (d : Nat) (l0 : Value) (l1 : Int32) (l2 : Value) (l3 : Value) (l4 : Value)  (h : zMm) (Q : Option Value → zMm → Prop), zWp d zi_5 none 0 [l0, .int l1, l2, l3, l4] [] h Q = zWp d zi_5 none 1 [l0, .int l1, l2, l3, l4] [.int l1] h Q) ∧
    (∀ (d : Nat) (l0 : Value) (l1 : Value) (l2 : Value) (l3 : Value) (l4 : Value) (x0 : Int32) (h : zMm) (Q : Option Value → zMm → Prop), zWp d zi_5 none 1 [l0, l1, l2, l3, l4] [.int x0] h Q = if x0 = 1 then zWp d zi_5 none 116 [l0, l1, l2, l3, l4] [] h Q else if x0 = 2 then zWp d zi_5 none 123 [l0, l1, l2, l3, l4] [] h Q else if x0 = 10 then zWp d zi_5 none 149 [l0, l1, l2, l3, l4] [] h Q else if x0 = 11 then zWp d zi_5 none 164 [l0, l1, l2, l3, l4] [] h Q else if x0 = 20 then zWp d zi_5 none 171 [l0, l1, l2, l3, l4] [] h Q else if x0 = 30 then zWp d zi_5 none 183 [l0, l1, l2, l3, l4] [] h Q else if x0 = 40 then zWp d zi_5 none 194 [l0, l1, l2, l3, l4] [] h Q else if x0 = 41 then zWp d zi_5 none 206 [l0, l1, l2, l3, l4] [] h Q else if x0 = 50 then zWp d zi_5 none 218 [l0, l1, l2, l3, l4] [] h Q else if x0 = 60 then zWp d zi_5 none 241 [l0, l1, l2, l3, l4] [] h Q else if x0 = 70 then zWp d zi_5 none 253 [l0, l1, l2, l3, l4] [] h Q else if x0 = 80 then zWp d zi_5 none 265 [l0, l1, l2, l3, l4] [] h Q else if x0 = 81 then zWp d zi_5 none 288 [l0, l1, l2, l3, l4] [] h Q else zWp d zi_5 none 300 [l0, l1, l2, l3, l4] [] h Q) ∧
    (∀ (d : Nat) (l0 : Value) (l1 : Value) (l2 : Value) (l3 : Int32) (l4 : Value)  (h : zMm) (Q : Option Value → zMm → Prop), zWp d zi_5 none 116 [l0, l1, l2, .int l3, l4] [] h Q = zWp d zi_5 none 117 [l0, l1, l2, .int l3, l4] [.int l3] h Q) ∧
    (∀ (d : Nat) (l0 : Nat) (l1 : Value) (l2 : Value) (l3 : Value) (l4 : Value) (x0 : Int32) (h : zMm) (Q : Option Value → zMm → Prop), zWp d zi_5 none 117 [.ref l0, l1, l2, l3, l4] [.int x0] h Q = zWp d zi_5 none 118 [.ref l0, l1, l2, l3, l4] [.ref l0, .int x0] h Q) ∧
    (∀ (d : Nat) (l0 : Value) (l1 : Value) (l2 : Value) (l3 : Value) (l4 : Value) (x1 : Nat) (x0 : Int32) (I : Nat → Nat → Int32) (L : Nat → Nat → Int64) (P : Nat → Nat → Option Nat) (Q : Option Value → zMm → Prop), zSH[x1]? = some (.inl 0) → zWp d zi_5 none 118 [l0, l1, l2, l3, l4] [.ref x1, .int x0] (zSH, I, L, P) Q = zWp d zi_5 none 121 [l0, l1, l2, l3, l4] [.int (I x1 4), .int x0] (zSH, I, L, P) Q) ∧
    (∀ (d : Nat) (l0 : Value) (l1 : Value) (l2 : Value) (l3 : Value) (l4 : Value) (x1 : Int32) (x0 : Int32) (h : zMm) (Q : Option Value → zMm → Prop), zWp d zi_5 none 121 [l0, l1, l2, l3, l4] [.int x1, .int x0] h Q = zWp d zi_5 none 122 [l0, l1, l2, l3, l4] [.int (x0 + x1)] h Q) ∧
    (∀ (d : Nat) (l0 : Value) (l1 : Value) (l2 : Value) (l3 : Value) (l4 : Value) (x0 : Int32) (h : zMm) (Q : Option Value → zMm → Prop), zWp d zi_5 none 122 [l0, l1, l2, l3, l4] [.int x0] h Q = Q (some (.int x0)) h) ∧
    (∀ (d : Nat) (l0 : Nat) (l1 : Value) (l2 : Value) (l3 : Value) (l4 : Value)  (h : zMm) (Q : Option Value → zMm → Prop), zWp d zi_5 none 123 [.ref l0, l1, l2, l3, l4] [] h Q = zWp d zi_5 none 124 [.ref l0, l1, l2, l3, l4] [.ref l0] h Q) ∧
    (∀ (d : Nat) (l0 : Nat) (l1 : Value) (l2 : Value) (l3 : Value) (l4 : Value) (x0 : Nat) (h : zMm) (Q : Option Value → zMm → Prop), zWp d zi_5 none 124 [.ref l0, l1, l2, l3, l4] [.ref x0] h Q = zWp d zi_5 none 125 [.ref l0, l1, l2, l3, l4] [.ref l0, .ref x0] h Q) ∧
    (∀ (d : Nat) (l0 : Value) (l1 : Value) (l2 : Value) (l3 : Value) (l4 : Value) (x1 : Nat) (x0 : Nat) (I : Nat → Nat → Int32) (L : Nat → Nat → Int64) (P : Nat → Nat → Option Nat) (Q : Option Value → zMm → Prop), zSH[x1]? = some (.inl 0) → zWp d zi_5 none 125 [l0, l1, l2, l3, l4] [.ref x1, .ref x0] (zSH, I, L, P) Q = zWp d zi_5 none 128 [l0, l1, l2, l3, l4] [.int (I x1 5), .ref x0] (zSH, I, L, P) Q) ∧
    (∀ (d : Nat) (l0 : Value) (l1 : Value) (l2 : Value) (l3 : Value) (l4 : Value) (x1 : Int32) (x0 : Nat) (h : zMm) (Q : Option Value → zMm → Prop), zWp d zi_5 none 128 [l0, l1, l2, l3, l4] [.int x1, .ref x0] h Q = zWp d zi_5 none 129 [l0, l1, l2, l3, l4] [.int 1, .int x1, .ref x0] h Q) ∧
    (∀ (d : Nat) (l0 : Value) (l1 : Value) (l2 : Value) (l3 : Int32) (l4 : Value) (x2 : Int32) (x1 : Int32) (x0 : Nat) (h : zMm) (Q : Option Value → zMm → Prop), zWp d zi_5 none 129 [l0, l1, l2, .int l3, l4] [.int x2, .int x1, .ref x0] h Q = zWp d zi_5 none 130 [l0, l1, l2, .int l3, l4] [.int l3, .int x2, .int x1, .ref x0] h Q) ∧
    (∀ (d : Nat) (l0 : Value) (l1 : Value) (l2 : Value) (l3 : Value) (l4 : Int32) (x3 : Int32) (x2 : Int32) (x1 : Int32) (x0 : Nat) (h : zMm) (Q : Option Value → zMm → Prop), zWp d zi_5 none 130 [l0, l1, l2, l3, .int l4] [.int x3, .int x2, .int x1, .ref x0] h Q = zWp d zi_5 none 132 [l0, l1, l2, l3, .int l4] [.int l4, .int x3, .int x2, .int x1, .ref x0] h Q) ∧
    (∀ (d : Nat) (l0 : Value) (l1 : Value) (l2 : Value) (l3 : Value) (l4 : Value) (x4 : Int32) (x3 : Int32) (x2 : Int32) (x1 : Int32) (x0 : Nat) (I : Nat → Nat → Int32) (L : Nat → Nat → Int64) (P : Nat → Nat → Option Nat) (Q : Option Value → zMm → Prop), zSH[x0]? = some (.inl 0) → zWp d zi_5 none 132 [l0, l1, l2, l3, l4] [.int x4, .int x3, .int x2, .int x1, .ref x0] (zSH, I, L, P) Q = zWM d 4 [.ref x0, .int x1, .int x2, .int x3, .int x4] (zSH, I, L, P) (fun r h1 => zWp d zi_5 none 135 [l0, l1, l2, l3, l4] (r.toList ++ []) h1 Q)) ∧
    (∀ (d : Nat) (l0 : Nat) (l1 : Value) (l2 : Value) (l3 : Value) (l4 : Value) (x0 : Int32) (h : zMm) (Q : Option Value → zMm → Prop), zWp d zi_5 none 135 [.ref l0, l1, l2, l3, l4] [.int x0] h Q = zWp d zi_5 none 136 [.ref l0, l1, l2, l3, l4] [.ref l0, .int x0] h Q) ∧
    (∀ (d : Nat) (l0 : Nat) (l1 : Value) (l2 : Value) (l3 : Value) (l4 : Value) (x1 : Nat) (x0 : Int32) (h : zMm) (Q : Option Value → zMm → Prop), zWp d zi_5 none 136 [.ref l0, l1, l2, l3, l4] [.ref x1, .int x0] h Q = zWp d zi_5 none 137 [.ref l0, l1, l2, l3, l4] [.ref l0, .ref x1, .int x0] h Q) ∧
    (∀ (d : Nat) (l0 : Value) (l1 : Value) (l2 : Value) (l3 : Value) (l4 : Value) (x2 : Nat) (x1 : Nat) (x0 : Int32) (I : Nat → Nat → Int32) (L : Nat → Nat → Int64) (P : Nat → Nat → Option Nat) (Q : Option Value → zMm → Prop), zSH[x2]? = some (.inl 0) → zWp d zi_5 none 137 [l0, l1, l2, l3, l4] [.ref x2, .ref x1, .int x0] (zSH, I, L, P) Q = zWp d zi_5 none 140 [l0, l1, l2, l3, l4] [.int (I x2 5), .ref x1, .int x0] (zSH, I, L, P) Q) ∧
    (∀ (d : Nat) (l0 : Value) (l1 : Value) (l2 : Value) (l3 : Value) (l4 : Value) (x2 : Int32) (x1 : Nat) (x0 : Int32) (h : zMm) (Q : Option Value → zMm → Prop), zWp d zi_5 none 140 [l0, l1, l2, l3, l4] [.int x2, .ref x1, .int x0] h Q = zWp d zi_5 none 141 [l0, l1, l2, l3, l4] [.int 2, .int x2, .ref x1, .int x0] h Q) ∧
    (∀ (d : Nat) (l0 : Value) (l1 : Value) (l2 : Value) (l3 : Value) (l4 : Value) (x3 : Int32) (x2 : Int32) (x1 : Nat) (x0 : Int32) (h : zMm) (Q : Option Value → zMm → Prop), zWp d zi_5 none 141 [l0, l1, l2, l3, l4] [.int x3, .int x2, .ref x1, .int x0] h Q = zWp d zi_5 none 142 [l0, l1, l2, l3, l4] [.int 1, .int x3, .int x2, .ref x1, .int x0] h Q) ∧
    (∀ (d : Nat) (l0 : Value) (l1 : Value) (l2 : Value) (l3 : Value) (l4 : Int32) (x4 : Int32) (x3 : Int32) (x2 : Int32) (x1 : Nat) (x0 : Int32) (h : zMm) (Q : Option Value → zMm → Prop), zWp d zi_5 none 142 [l0, l1, l2, l3, .int l4] [.int x4, .int x3, .int x2, .ref x1, .int x0] h Q = zWp d zi_5 none 144 [l0, l1, l2, l3, .int l4] [.int l4, .int x4, .int x3, .int x2, .ref x1, .int x0] h Q) ∧
    (∀ (d : Nat) (l0 : Value) (l1 : Value) (l2 : Value) (l3 : Value) (l4 : Value) (x5 : Int32) (x4 : Int32) (x3 : Int32) (x2 : Int32) (x1 : Nat) (x0 : Int32) (I : Nat → Nat → Int32) (L : Nat → Nat → Int64) (P : Nat → Nat → Option Nat) (Q : Option Value → zMm → Prop), zSH[x1]? = some (.inl 0) → zWp d zi_5 none 144 [l0, l1, l2, l3, l4] [.int x5, .int x4, .int x3, .int x2, .ref x1, .int x0] (zSH, I, L, P) Q = zWM d 4 [.ref x1, .int x2, .int x3, .int x4, .int x5] (zSH, I, L, P) (fun r h1 => zWp d zi_5 none 147 [l0, l1, l2, l3, l4] (r.toList ++ [.int x0]) h1 Q)) ∧
    (∀ (d : Nat) (l0 : Value) (l1 : Value) (l2 : Value) (l3 : Value) (l4 : Value) (x1 : Int32) (x0 : Int32) (h : zMm) (Q : Option Value → zMm → Prop), zWp d zi_5 none 147 [l0, l1, l2, l3, l4] [.int x1, .int x0] h Q = zWp d zi_5 none 148 [l0, l1, l2, l3, l4] [.int (x0 - x1)] h Q) ∧
    (∀ (d : Nat) (l0 : Value) (l1 : Value) (l2 : Value) (l3 : Value) (l4 : Value) (x0 : Int32) (h : zMm) (Q : Option Value → zMm → Prop), zWp d zi_5 none 148 [l0, l1, l2, l3, l4] [.int x0] h Q = Q (some (.int x0)) h) ∧
    (∀ (d : Nat) (l0 : Nat) (l1 : Value) (l2 : Value) (l3 : Value) (l4 : Value)  (h : zMm) (Q : Option Value → zMm → Prop), zWp d zi_5 none 149 [.ref l0, l1, l2, l3, l4] [] h Q = zWp d zi_5 none 150 [.ref l0, l1, l2, l3, l4] [.ref l0] h Q) ∧
    (∀ (d : Nat) (l0 : Nat) (l1 : Value) (l2 : Value) (l3 : Value) (l4 : Value) (x0 : Nat) (h : zMm) (Q : Option Value → zMm → Prop), zWp d zi_5 none 150 [.ref l0, l1, l2, l3, l4] [.ref x0] h Q = zWp d zi_5 none 151 [.ref l0, l1, l2, l3, l4] [.ref l0, .ref x0] h Q) ∧
    (∀ (d : Nat) (l0 : Value) (l1 : Value) (l2 : Value) (l3 : Value) (l4 : Value) (x1 : Nat) (x0 : Nat) (I : Nat → Nat → Int32) (L : Nat → Nat → Int64) (P : Nat → Nat → Option Nat) (Q : Option Value → zMm → Prop), zSH[x1]? = some (.inl 0) → zWp d zi_5 none 151 [l0, l1, l2, l3, l4] [.ref x1, .ref x0] (zSH, I, L, P) Q = zWp d zi_5 none 154 [l0, l1, l2, l3, l4] [.int (I x1 5), .ref x0] (zSH, I, L, P) Q) ∧
    (∀ (d : Nat) (l0 : Value) (l1 : Value) (l2 : Value) (l3 : Value) (l4 : Value) (x1 : Int32) (x0 : Nat) (h : zMm) (Q : Option Value → zMm → Prop), zWp d zi_5 none 154 [l0, l1, l2, l3, l4] [.int x1, .ref x0] h Q = zWp d zi_5 none 155 [l0, l1, l2, l3, l4] [.int 0, .int x1, .ref x0] h Q) ∧
    (∀ (d : Nat) (l0 : Value) (l1 : Value) (l2 : Value) (l3 : Int32) (l4 : Value) (x2 : Int32) (x1 : Int32) (x0 : Nat) (h : zMm) (Q : Option Value → zMm → Prop), zWp d zi_5 none 155 [l0, l1, l2, .int l3, l4] [.int x2, .int x1, .ref x0] h Q = zWp d zi_5 none 156 [l0, l1, l2, .int l3, l4] [.int l3, .int x2, .int x1, .ref x0] h Q) ∧
    (∀ (d : Nat) (l0 : Value) (l1 : Value) (l2 : Value) (l3 : Value) (l4 : Int32) (x3 : Int32) (x2 : Int32) (x1 : Int32) (x0 : Nat) (h : zMm) (Q : Option Value → zMm → Prop), zWp d zi_5 none 156 [l0, l1, l2, l3, .int l4] [.int x3, .int x2, .int x1, .ref x0] h Q = zWp d zi_5 none 158 [l0, l1, l2, l3, .int l4] [.int l4, .int x3, .int x2, .int x1, .ref x0] h Q) ∧
    (∀ (d : Nat) (l0 : Value) (l1 : Value) (l2 : Value) (l3 : Value) (l4 : Value) (x4 : Int32) (x3 : Int32) (x2 : Int32) (x1 : Int32) (x0 : Nat) (I : Nat → Nat → Int32) (L : Nat → Nat → Int64) (P : Nat → Nat → Option Nat) (Q : Option Value → zMm → Prop), zSH[x0]? = some (.inl 0) → zWp d zi_5 none 158 [l0, l1, l2, l3, l4] [.int x4, .int x3, .int x2, .int x1, .ref x0] (zSH, I, L, P) Q = zWM d 4 [.ref x0, .int x1, .int x2, .int x3, .int x4] (zSH, I, L, P) (fun r h1 => zWp d zi_5 none 161 [l0, l1, l2, l3, l4] (r.toList ++ []) h1 Q)) ∧
    (∀ (d : Nat) (l0 : Value) (l1 : Value) (l2 : Value) (l3 : Value) (l4 : Value) (x0 : Int32) (h : zMm) (Q : Option Value → zMm → Prop), zWp d zi_5 none 161 [l0, l1, l2, l3, l4] [.int x0] h Q = zWp d zi_5 none 162 [l0, l1, l2, l3, l4] [.int 2, .int x0] h Q) ∧
    (∀ (d : Nat) (l0 : Value) (l1 : Value) (l2 : Value) (l3 : Value) (l4 : Value) (x1 : Int32) (x0 : Int32) (h : zMm) (Q : Option Value → zMm → Prop), zWp d zi_5 none 162 [l0, l1, l2, l3, l4] [.int x1, .int x0] h Q = zWp d zi_5 none 163 [l0, l1, l2, l3, l4] [.int (x0 * x1)] h Q) ∧
    (∀ (d : Nat) (l0 : Value) (l1 : Value) (l2 : Value) (l3 : Value) (l4 : Value) (x0 : Int32) (h : zMm) (Q : Option Value → zMm → Prop), zWp d zi_5 none 163 [l0, l1, l2, l3, l4] [.int x0] h Q = Q (some (.int x0)) h) ∧
    (∀ (d : Nat) (l0 : Value) (l1 : Value) (l2 : Value) (l3 : Int32) (l4 : Value)  (h : zMm) (Q : Option Value → zMm → Prop), zWp d zi_5 none 164 [l0, l1, l2, .int l3, l4] [] h Q = zWp d zi_5 none 165 [l0, l1, l2, .int l3, l4] [.int l3] h Q) ∧
    (∀ (d : Nat) (l0 : Nat) (l1 : Value) (l2 : Value) (l3 : Value) (l4 : Value) (x0 : Int32) (h : zMm) (Q : Option Value → zMm → Prop), zWp d zi_5 none 165 [.ref l0, l1, l2, l3, l4] [.int x0] h Q = zWp d zi_5 none 166 [.ref l0, l1, l2, l3, l4] [.ref l0, .int x0] h Q) ∧
    (∀ (d : Nat) (l0 : Value) (l1 : Value) (l2 : Value) (l3 : Value) (l4 : Value) (x1 : Nat) (x0 : Int32) (I : Nat → Nat → Int32) (L : Nat → Nat → Int64) (P : Nat → Nat → Option Nat) (Q : Option Value → zMm → Prop), zSH[x1]? = some (.inl 0) → zWp d zi_5 none 166 [l0, l1, l2, l3, l4] [.ref x1, .int x0] (zSH, I, L, P) Q = zWp d zi_5 none 169 [l0, l1, l2, l3, l4] [.int (I x1 4), .int x0] (zSH, I, L, P) Q) ∧
    (∀ (d : Nat) (l0 : Value) (l1 : Value) (l2 : Value) (l3 : Value) (l4 : Value) (x1 : Int32) (x0 : Int32) (h : zMm) (Q : Option Value → zMm → Prop), zWp d zi_5 none 169 [l0, l1, l2, l3, l4] [.int x1, .int x0] h Q = zWp d zi_5 none 170 [l0, l1, l2, l3, l4] [.int (x0 ^^^ x1)] h Q) ∧
    (∀ (d : Nat) (l0 : Value) (l1 : Value) (l2 : Value) (l3 : Value) (l4 : Value) (x0 : Int32) (h : zMm) (Q : Option Value → zMm → Prop), zWp d zi_5 none 170 [l0, l1, l2, l3, l4] [.int x0] h Q = Q (some (.int x0)) h) ∧
    (∀ (d : Nat) (l0 : Nat) (l1 : Value) (l2 : Value) (l3 : Value) (l4 : Value)  (h : zMm) (Q : Option Value → zMm → Prop), zWp d zi_5 none 171 [.ref l0, l1, l2, l3, l4] [] h Q = zWp d zi_5 none 172 [.ref l0, l1, l2, l3, l4] [.ref l0] h Q) ∧
    (∀ (d : Nat) (l0 : Value) (l1 : Value) (l2 : Int32) (l3 : Value) (l4 : Value) (x0 : Nat) (h : zMm) (Q : Option Value → zMm → Prop), zWp d zi_5 none 172 [l0, l1, .int l2, l3, l4] [.ref x0] h Q = zWp d zi_5 none 173 [l0, l1, .int l2, l3, l4] [.int l2, .ref x0] h Q) ∧
    (∀ (d : Nat) (l0 : Value) (l1 : Value) (l2 : Value) (l3 : Value) (l4 : Value) (x1 : Int32) (x0 : Nat) (h : zMm) (Q : Option Value → zMm → Prop), zWp d zi_5 none 173 [l0, l1, l2, l3, l4] [.int x1, .ref x0] h Q = zWp d zi_5 none 174 [l0, l1, l2, l3, l4] [.int 0, .int x1, .ref x0] h Q) ∧
    (∀ (d : Nat) (l0 : Value) (l1 : Value) (l2 : Value) (l3 : Int32) (l4 : Value) (x2 : Int32) (x1 : Int32) (x0 : Nat) (h : zMm) (Q : Option Value → zMm → Prop), zWp d zi_5 none 174 [l0, l1, l2, .int l3, l4] [.int x2, .int x1, .ref x0] h Q = zWp d zi_5 none 175 [l0, l1, l2, .int l3, l4] [.int l3, .int x2, .int x1, .ref x0] h Q) ∧
    (∀ (d : Nat) (l0 : Value) (l1 : Value) (l2 : Value) (l3 : Value) (l4 : Int32) (x3 : Int32) (x2 : Int32) (x1 : Int32) (x0 : Nat) (h : zMm) (Q : Option Value → zMm → Prop), zWp d zi_5 none 175 [l0, l1, l2, l3, .int l4] [.int x3, .int x2, .int x1, .ref x0] h Q = zWp d zi_5 none 177 [l0, l1, l2, l3, .int l4] [.int l4, .int x3, .int x2, .int x1, .ref x0] h Q) ∧
    (∀ (d : Nat) (l0 : Value) (l1 : Value) (l2 : Value) (l3 : Value) (l4 : Value) (x4 : Int32) (x3 : Int32) (x2 : Int32) (x1 : Int32) (x0 : Nat) (I : Nat → Nat → Int32) (L : Nat → Nat → Int64) (P : Nat → Nat → Option Nat) (Q : Option Value → zMm → Prop), zSH[x0]? = some (.inl 0) → zWp d zi_5 none 177 [l0, l1, l2, l3, l4] [.int x4, .int x3, .int x2, .int x1, .ref x0] (zSH, I, L, P) Q = zWM d 4 [.ref x0, .int x1, .int x2, .int x3, .int x4] (zSH, I, L, P) (fun r h1 => zWp d zi_5 none 180 [l0, l1, l2, l3, l4] (r.toList ++ []) h1 Q)) ∧
    (∀ (d : Nat) (l0 : Value) (l1 : Value) (l2 : Value) (l3 : Value) (l4 : Value) (x0 : Int32) (h : zMm) (Q : Option Value → zMm → Prop), zWp d zi_5 none 180 [l0, l1, l2, l3, l4] [.int x0] h Q = zWp d zi_5 none 181 [l0, l1, l2, l3, l4] [.int 3, .int x0] h Q) ∧
    (∀ (d : Nat) (l0 : Value) (l1 : Value) (l2 : Value) (l3 : Value) (l4 : Value) (x1 : Int32) (x0 : Int32) (h : zMm) (Q : Option Value → zMm → Prop), zWp d zi_5 none 181 [l0, l1, l2, l3, l4] [.int x1, .int x0] h Q = zWp d zi_5 none 182 [l0, l1, l2, l3, l4] [.int (x0 + x1)] h Q) ∧
    (∀ (d : Nat) (l0 : Value) (l1 : Value) (l2 : Value) (l3 : Value) (l4 : Value) (x0 : Int32) (h : zMm) (Q : Option Value → zMm → Prop), zWp d zi_5 none 182 [l0, l1, l2, l3, l4] [.int x0] h Q = Q (some (.int x0)) h) ∧
    (∀ (d : Nat) (l0 : Nat) (l1 : Value) (l2 : Value) (l3 : Value) (l4 : Value)  (h : zMm) (Q : Option Value → zMm → Prop), zWp d zi_5 none 183 [.ref l0, l1, l2, l3, l4] [] h Q = zWp d zi_5 none 184 [.ref l0, l1, l2, l3, l4] [.ref l0] h Q) ∧
    (∀ (d : Nat) (l0 : Value) (l1 : Value) (l2 : Int32) (l3 : Value) (l4 : Value) (x0 : Nat) (h : zMm) (Q : Option Value → zMm → Prop), zWp d zi_5 none 184 [l0, l1, .int l2, l3, l4] [.ref x0] h Q = zWp d zi_5 none 185 [l0, l1, .int l2, l3, l4] [.int l2, .ref x0] h Q) ∧
    (∀ (d : Nat) (l0 : Value) (l1 : Value) (l2 : Value) (l3 : Value) (l4 : Value) (x1 : Int32) (x0 : Nat) (h : zMm) (Q : Option Value → zMm → Prop), zWp d zi_5 none 185 [l0, l1, l2, l3, l4] [.int x1, .ref x0] h Q = zWp d zi_5 none 186 [l0, l1, l2, l3, l4] [.int 1, .int x1, .ref x0] h Q) ∧
    (∀ (d : Nat) (l0 : Value) (l1 : Value) (l2 : Value) (l3 : Int32) (l4 : Value) (x2 : Int32) (x1 : Int32) (x0 : Nat) (h : zMm) (Q : Option Value → zMm → Prop), zWp d zi_5 none 186 [l0, l1, l2, .int l3, l4] [.int x2, .int x1, .ref x0] h Q = zWp d zi_5 none 187 [l0, l1, l2, .int l3, l4] [.int l3, .int x2, .int x1, .ref x0] h Q) ∧
    (∀ (d : Nat) (l0 : Value) (l1 : Value) (l2 : Value) (l3 : Value) (l4 : Int32) (x3 : Int32) (x2 : Int32) (x1 : Int32) (x0 : Nat) (h : zMm) (Q : Option Value → zMm → Prop), zWp d zi_5 none 187 [l0, l1, l2, l3, .int l4] [.int x3, .int x2, .int x1, .ref x0] h Q = zWp d zi_5 none 189 [l0, l1, l2, l3, .int l4] [.int l4, .int x3, .int x2, .int x1, .ref x0] h Q) ∧
    (∀ (d : Nat) (l0 : Value) (l1 : Value) (l2 : Value) (l3 : Value) (l4 : Value) (x4 : Int32) (x3 : Int32) (x2 : Int32) (x1 : Int32) (x0 : Nat) (I : Nat → Nat → Int32) (L : Nat → Nat → Int64) (P : Nat → Nat → Option Nat) (Q : Option Value → zMm → Prop), zSH[x0]? = some (.inl 0) → zWp d zi_5 none 189 [l0, l1, l2, l3, l4] [.int x4, .int x3, .int x2, .int x1, .ref x0] (zSH, I, L, P) Q = zWM d 4 [.ref x0, .int x1, .int x2, .int x3, .int x4] (zSH, I, L, P) (fun r h1 => zWp d zi_5 none 192 [l0, l1, l2, l3, l4] (r.toList ++ []) h1 Q)) ∧
    (∀ (d : Nat) (l0 : Value) (l1 : Value) (l2 : Value) (l3 : Value) (l4 : Value) (x0 : Int32) (h : zMm) (Q : Option Value → zMm → Prop), zWp d zi_5 none 192 [l0, l1, l2, l3, l4] [.int x0] h Q = zWp d zi_5 none 193 [l0, l1, l2, l3, l4] [.int (-x0)] h Q) ∧
    (∀ (d : Nat) (l0 : Value) (l1 : Value) (l2 : Value) (l3 : Value) (l4 : Value) (x0 : Int32) (h : zMm) (Q : Option Value → zMm → Prop), zWp d zi_5 none 193 [l0, l1, l2, l3, l4] [.int x0] h Q = Q (some (.int x0)) h) ∧
    (∀ (d : Nat) (l0 : Nat) (l1 : Value) (l2 : Value) (l3 : Value) (l4 : Value)  (h : zMm) (Q : Option Value → zMm → Prop), zWp d zi_5 none 194 [.ref l0, l1, l2, l3, l4] [] h Q = zWp d zi_5 none 195 [.ref l0, l1, l2, l3, l4] [.ref l0] h Q) ∧
    (∀ (d : Nat) (l0 : Value) (l1 : Value) (l2 : Int32) (l3 : Value) (l4 : Value) (x0 : Nat) (h : zMm) (Q : Option Value → zMm → Prop), zWp d zi_5 none 195 [l0, l1, .int l2, l3, l4] [.ref x0] h Q = zWp d zi_5 none 196 [l0, l1, .int l2, l3, l4] [.int l2, .ref x0] h Q) ∧
    (∀ (d : Nat) (l0 : Value) (l1 : Value) (l2 : Value) (l3 : Value) (l4 : Value) (x1 : Int32) (x0 : Nat) (h : zMm) (Q : Option Value → zMm → Prop), zWp d zi_5 none 196 [l0, l1, l2, l3, l4] [.int x1, .ref x0] h Q = zWp d zi_5 none 197 [l0, l1, l2, l3, l4] [.int 2, .int x1, .ref x0] h Q) ∧
    (∀ (d : Nat) (l0 : Value) (l1 : Value) (l2 : Value) (l3 : Int32) (l4 : Value) (x2 : Int32) (x1 : Int32) (x0 : Nat) (h : zMm) (Q : Option Value → zMm → Prop), zWp d zi_5 none 197 [l0, l1, l2, .int l3, l4] [.int x2, .int x1, .ref x0] h Q = zWp d zi_5 none 198 [l0, l1, l2, .int l3, l4] [.int l3, .int x2, .int x1, .ref x0] h Q) ∧
    (∀ (d : Nat) (l0 : Value) (l1 : Value) (l2 : Value) (l3 : Value) (l4 : Int32) (x3 : Int32) (x2 : Int32) (x1 : Int32) (x0 : Nat) (h : zMm) (Q : Option Value → zMm → Prop), zWp d zi_5 none 198 [l0, l1, l2, l3, .int l4] [.int x3, .int x2, .int x1, .ref x0] h Q = zWp d zi_5 none 200 [l0, l1, l2, l3, .int l4] [.int l4, .int x3, .int x2, .int x1, .ref x0] h Q) ∧
    (∀ (d : Nat) (l0 : Value) (l1 : Value) (l2 : Value) (l3 : Value) (l4 : Value) (x4 : Int32) (x3 : Int32) (x2 : Int32) (x1 : Int32) (x0 : Nat) (I : Nat → Nat → Int32) (L : Nat → Nat → Int64) (P : Nat → Nat → Option Nat) (Q : Option Value → zMm → Prop), zSH[x0]? = some (.inl 0) → zWp d zi_5 none 200 [l0, l1, l2, l3, l4] [.int x4, .int x3, .int x2, .int x1, .ref x0] (zSH, I, L, P) Q = zWM d 4 [.ref x0, .int x1, .int x2, .int x3, .int x4] (zSH, I, L, P) (fun r h1 => zWp d zi_5 none 203 [l0, l1, l2, l3, l4] (r.toList ++ []) h1 Q)) ∧
    (∀ (d : Nat) (l0 : Value) (l1 : Value) (l2 : Value) (l3 : Value) (l4 : Value) (x0 : Int32) (h : zMm) (Q : Option Value → zMm → Prop), zWp d zi_5 none 203 [l0, l1, l2, l3, l4] [.int x0] h Q = zWp d zi_5 none 204 [l0, l1, l2, l3, l4] [.int 3, .int x0] h Q) ∧
    (∀ (d : Nat) (l0 : Value) (l1 : Value) (l2 : Value) (l3 : Value) (l4 : Value) (x1 : Int32) (x0 : Int32) (h : zMm) (Q : Option Value → zMm → Prop), zWp d zi_5 none 204 [l0, l1, l2, l3, l4] [.int x1, .int x0] h Q = zWp d zi_5 none 205 [l0, l1, l2, l3, l4] [.int (x0 * x1)] h Q) ∧
    (∀ (d : Nat) (l0 : Value) (l1 : Value) (l2 : Value) (l3 : Value) (l4 : Value) (x0 : Int32) (h : zMm) (Q : Option Value → zMm → Prop), zWp d zi_5 none 205 [l0, l1, l2, l3, l4] [.int x0] h Q = Q (some (.int x0)) h) ∧
    (∀ (d : Nat) (l0 : Nat) (l1 : Value) (l2 : Value) (l3 : Value) (l4 : Value)  (h : zMm) (Q : Option Value → zMm → Prop), zWp d zi_5 none 206 [.ref l0, l1, l2, l3, l4] [] h Q = zWp d zi_5 none 207 [.ref l0, l1, l2, l3, l4] [.ref l0] h Q) ∧
    (∀ (d : Nat) (l0 : Value) (l1 : Value) (l2 : Int32) (l3 : Value) (l4 : Value) (x0 : Nat) (h : zMm) (Q : Option Value → zMm → Prop), zWp d zi_5 none 207 [l0, l1, .int l2, l3, l4] [.ref x0] h Q = zWp d zi_5 none 208 [l0, l1, .int l2, l3, l4] [.int l2, .ref x0] h Q) ∧
    (∀ (d : Nat) (l0 : Value) (l1 : Value) (l2 : Value) (l3 : Value) (l4 : Value) (x1 : Int32) (x0 : Nat) (h : zMm) (Q : Option Value → zMm → Prop), zWp d zi_5 none 208 [l0, l1, l2, l3, l4] [.int x1, .ref x0] h Q = zWp d zi_5 none 209 [l0, l1, l2, l3, l4] [.int 1, .int x1, .ref x0] h Q) ∧
    (∀ (d : Nat) (l0 : Value) (l1 : Value) (l2 : Value) (l3 : Int32) (l4 : Value) (x2 : Int32) (x1 : Int32) (x0 : Nat) (h : zMm) (Q : Option Value → zMm → Prop), zWp d zi_5 none 209 [l0, l1, l2, .int l3, l4] [.int x2, .int x1, .ref x0] h Q = zWp d zi_5 none 210 [l0, l1, l2, .int l3, l4] [.int l3, .int x2, .int x1, .ref x0] h Q) ∧
    (∀ (d : Nat) (l0 : Value) (l1 : Value) (l2 : Value) (l3 : Value) (l4 : Value) (x3 : Int32) (x2 : Int32) (x1 : Int32) (x0 : Nat) (h : zMm) (Q : Option Value → zMm → Prop), zWp d zi_5 none 210 [l0, l1, l2, l3, l4] [.int x3, .int x2, .int x1, .ref x0] h Q = zWp d zi_5 none 211 [l0, l1, l2, l3, l4] [.int 1, .int x3, .int x2, .int x1, .ref x0] h Q) ∧
    (∀ (d : Nat) (l0 : Value) (l1 : Value) (l2 : Value) (l3 : Value) (l4 : Value) (x4 : Int32) (x3 : Int32) (x2 : Int32) (x1 : Int32) (x0 : Nat) (h : zMm) (Q : Option Value → zMm → Prop), zWp d zi_5 none 211 [l0, l1, l2, l3, l4] [.int x4, .int x3, .int x2, .int x1, .ref x0] h Q = zWp d zi_5 none 212 [l0, l1, l2, l3, l4] [.int (x3 + x4), .int x2, .int x1, .ref x0] h Q) ∧
    (∀ (d : Nat) (l0 : Value) (l1 : Value) (l2 : Value) (l3 : Value) (l4 : Int32) (x3 : Int32) (x2 : Int32) (x1 : Int32) (x0 : Nat) (h : zMm) (Q : Option Value → zMm → Prop), zWp d zi_5 none 212 [l0, l1, l2, l3, .int l4] [.int x3, .int x2, .int x1, .ref x0] h Q = zWp d zi_5 none 214 [l0, l1, l2, l3, .int l4] [.int l4, .int x3, .int x2, .int x1, .ref x0] h Q) ∧
    (∀ (d : Nat) (l0 : Value) (l1 : Value) (l2 : Value) (l3 : Value) (l4 : Value) (x4 : Int32) (x3 : Int32) (x2 : Int32) (x1 : Int32) (x0 : Nat) (I : Nat → Nat → Int32) (L : Nat → Nat → Int64) (P : Nat → Nat → Option Nat) (Q : Option Value → zMm → Prop), zSH[x0]? = some (.inl 0) → zWp d zi_5 none 214 [l0, l1, l2, l3, l4] [.int x4, .int x3, .int x2, .int x1, .ref x0] (zSH, I, L, P) Q = zWM d 4 [.ref x0, .int x1, .int x2, .int x3, .int x4] (zSH, I, L, P) (fun r h1 => zWp d zi_5 none 217 [l0, l1, l2, l3, l4] (r.toList ++ []) h1 Q)) ∧
    (∀ (d : Nat) (l0 : Value) (l1 : Value) (l2 : Value) (l3 : Value) (l4 : Value) (x0 : Int32) (h : zMm) (Q : Option Value → zMm → Prop), zWp d zi_5 none 217 [l0, l1, l2, l3, l4] [.int x0] h Q = Q (some (.int x0)) h) ∧
    (∀ (d : Nat) (l0 : Nat) (l1 : Value) (l2 : Value) (l3 : Value) (l4 : Value)  (h : zMm) (Q : Option Value → zMm → Prop), zWp d zi_5 none 218 [.ref l0, l1, l2, l3, l4] [] h Q = zWp d zi_5 none 219 [.ref l0, l1, l2, l3, l4] [.ref l0] h Q) ∧
    (∀ (d : Nat) (l0 : Value) (l1 : Value) (l2 : Int32) (l3 : Value) (l4 : Value) (x0 : Nat) (h : zMm) (Q : Option Value → zMm → Prop), zWp d zi_5 none 219 [l0, l1, .int l2, l3, l4] [.ref x0] h Q = zWp d zi_5 none 220 [l0, l1, .int l2, l3, l4] [.int l2, .ref x0] h Q) ∧
    (∀ (d : Nat) (l0 : Value) (l1 : Value) (l2 : Value) (l3 : Value) (l4 : Value) (x1 : Int32) (x0 : Nat) (h : zMm) (Q : Option Value → zMm → Prop), zWp d zi_5 none 220 [l0, l1, l2, l3, l4] [.int x1, .ref x0] h Q = zWp d zi_5 none 221 [l0, l1, l2, l3, l4] [.int 2, .int x1, .ref x0] h Q) ∧
    (∀ (d : Nat) (l0 : Value) (l1 : Value) (l2 : Value) (l3 : Int32) (l4 : Value) (x2 : Int32) (x1 : Int32) (x0 : Nat) (h : zMm) (Q : Option Value → zMm → Prop), zWp d zi_5 none 221 [l0, l1, l2, .int l3, l4] [.int x2, .int x1, .ref x0] h Q = zWp d zi_5 none 222 [l0, l1, l2, .int l3, l4] [.int l3, .int x2, .int x1, .ref x0] h Q) ∧
    (∀ (d : Nat) (l0 : Value) (l1 : Value) (l2 : Value) (l3 : Value) (l4 : Int32) (x3 : Int32) (x2 : Int32) (x1 : Int32) (x0 : Nat) (h : zMm) (Q : Option Value → zMm → Prop), zWp d zi_5 none 222 [l0, l1, l2, l3, .int l4] [.int x3, .int x2, .int x1, .ref x0] h Q = zWp d zi_5 none 224 [l0, l1, l2, l3, .int l4] [.int l4, .int x3, .int x2, .int x1, .ref x0] h Q) ∧
    (∀ (d : Nat) (l0 : Value) (l1 : Value) (l2 : Value) (l3 : Value) (l4 : Value) (x4 : Int32) (x3 : Int32) (x2 : Int32) (x1 : Int32) (x0 : Nat) (I : Nat → Nat → Int32) (L : Nat → Nat → Int64) (P : Nat → Nat → Option Nat) (Q : Option Value → zMm → Prop), zSH[x0]? = some (.inl 0) → zWp d zi_5 none 224 [l0, l1, l2, l3, l4] [.int x4, .int x3, .int x2, .int x1, .ref x0] (zSH, I, L, P) Q = zWM d 4 [.ref x0, .int x1, .int x2, .int x3, .int x4] (zSH, I, L, P) (fun r h1 => zWp d zi_5 none 227 [l0, l1, l2, l3, l4] (r.toList ++ []) h1 Q)) ∧
    (∀ (d : Nat) (l0 : Nat) (l1 : Value) (l2 : Value) (l3 : Value) (l4 : Value) (x0 : Int32) (h : zMm) (Q : Option Value → zMm → Prop), zWp d zi_5 none 227 [.ref l0, l1, l2, l3, l4] [.int x0] h Q = zWp d zi_5 none 228 [.ref l0, l1, l2, l3, l4] [.ref l0, .int x0] h Q) ∧
    (∀ (d : Nat) (l0 : Nat) (l1 : Value) (l2 : Value) (l3 : Value) (l4 : Value) (x1 : Nat) (x0 : Int32) (h : zMm) (Q : Option Value → zMm → Prop), zWp d zi_5 none 228 [.ref l0, l1, l2, l3, l4] [.ref x1, .int x0] h Q = zWp d zi_5 none 229 [.ref l0, l1, l2, l3, l4] [.ref l0, .ref x1, .int x0] h Q) ∧
    (∀ (d : Nat) (l0 : Value) (l1 : Value) (l2 : Value) (l3 : Value) (l4 : Value) (x2 : Nat) (x1 : Nat) (x0 : Int32) (I : Nat → Nat → Int32) (L : Nat → Nat → Int64) (P : Nat → Nat → Option Nat) (Q : Option Value → zMm → Prop), zSH[x2]? = some (.inl 0) → zWp d zi_5 none 229 [l0, l1, l2, l3, l4] [.ref x2, .ref x1, .int x0] (zSH, I, L, P) Q = zWp d zi_5 none 232 [l0, l1, l2, l3, l4] [.int (I x2 5), .ref x1, .int x0] (zSH, I, L, P) Q) ∧
    (∀ (d : Nat) (l0 : Value) (l1 : Value) (l2 : Value) (l3 : Value) (l4 : Value) (x2 : Int32) (x1 : Nat) (x0 : Int32) (h : zMm) (Q : Option Value → zMm → Prop), zWp d zi_5 none 232 [l0, l1, l2, l3, l4] [.int x2, .ref x1, .int x0] h Q = zWp d zi_5 none 233 [l0, l1, l2, l3, l4] [.int 0, .int x2, .ref x1, .int x0] h Q) ∧
    (∀ (d : Nat) (l0 : Value) (l1 : Value) (l2 : Value) (l3 : Value) (l4 : Value) (x3 : Int32) (x2 : Int32) (x1 : Nat) (x0 : Int32) (h : zMm) (Q : Option Value → zMm → Prop), zWp d zi_5 none 233 [l0, l1, l2, l3, l4] [.int x3, .int x2, .ref x1, .int x0] h Q = zWp d zi_5 none 234 [l0, l1, l2, l3, l4] [.int 2, .int x3, .int x2, .ref x1, .int x0] h Q) ∧
    (∀ (d : Nat) (l0 : Value) (l1 : Value) (l2 : Value) (l3 : Value) (l4 : Int32) (x4 : Int32) (x3 : Int32) (x2 : Int32) (x1 : Nat) (x0 : Int32) (h : zMm) (Q : Option Value → zMm → Prop), zWp d zi_5 none 234 [l0, l1, l2, l3, .int l4] [.int x4, .int x3, .int x2, .ref x1, .int x0] h Q = zWp d zi_5 none 236 [l0, l1, l2, l3, .int l4] [.int l4, .int x4, .int x3, .int x2, .ref x1, .int x0] h Q) ∧
    (∀ (d : Nat) (l0 : Value) (l1 : Value) (l2 : Value) (l3 : Value) (l4 : Value) (x5 : Int32) (x4 : Int32) (x3 : Int32) (x2 : Int32) (x1 : Nat) (x0 : Int32) (I : Nat → Nat → Int32) (L : Nat → Nat → Int64) (P : Nat → Nat → Option Nat) (Q : Option Value → zMm → Prop), zSH[x1]? = some (.inl 0) → zWp d zi_5 none 236 [l0, l1, l2, l3, l4] [.int x5, .int x4, .int x3, .int x2, .ref x1, .int x0] (zSH, I, L, P) Q = zWM d 4 [.ref x1, .int x2, .int x3, .int x4, .int x5] (zSH, I, L, P) (fun r h1 => zWp d zi_5 none 239 [l0, l1, l2, l3, l4] (r.toList ++ [.int x0]) h1 Q)) ∧
    (∀ (d : Nat) (l0 : Value) (l1 : Value) (l2 : Value) (l3 : Value) (l4 : Value) (x1 : Int32) (x0 : Int32) (h : zMm) (Q : Option Value → zMm → Prop), zWp d zi_5 none 239 [l0, l1, l2, l3, l4] [.int x1, .int x0] h Q = zWp d zi_5 none 240 [l0, l1, l2, l3, l4] [.int (x0 - x1)] h Q) ∧
    (∀ (d : Nat) (l0 : Value) (l1 : Value) (l2 : Value) (l3 : Value) (l4 : Value) (x0 : Int32) (h : zMm) (Q : Option Value → zMm → Prop), zWp d zi_5 none 240 [l0, l1, l2, l3, l4] [.int x0] h Q = Q (some (.int x0)) h) ∧
    (∀ (d : Nat) (l0 : Nat) (l1 : Value) (l2 : Value) (l3 : Value) (l4 : Value)  (h : zMm) (Q : Option Value → zMm → Prop), zWp d zi_5 none 241 [.ref l0, l1, l2, l3, l4] [] h Q = zWp d zi_5 none 242 [.ref l0, l1, l2, l3, l4] [.ref l0] h Q) ∧
    (∀ (d : Nat) (l0 : Value) (l1 : Value) (l2 : Int32) (l3 : Value) (l4 : Value) (x0 : Nat) (h : zMm) (Q : Option Value → zMm → Prop), zWp d zi_5 none 242 [l0, l1, .int l2, l3, l4] [.ref x0] h Q = zWp d zi_5 none 243 [l0, l1, .int l2, l3, l4] [.int l2, .ref x0] h Q) ∧
    (∀ (d : Nat) (l0 : Value) (l1 : Value) (l2 : Value) (l3 : Value) (l4 : Value) (x1 : Int32) (x0 : Nat) (h : zMm) (Q : Option Value → zMm → Prop), zWp d zi_5 none 243 [l0, l1, l2, l3, l4] [.int x1, .ref x0] h Q = zWp d zi_5 none 244 [l0, l1, l2, l3, l4] [.int 3, .int x1, .ref x0] h Q) ∧
    (∀ (d : Nat) (l0 : Value) (l1 : Value) (l2 : Value) (l3 : Int32) (l4 : Value) (x2 : Int32) (x1 : Int32) (x0 : Nat) (h : zMm) (Q : Option Value → zMm → Prop), zWp d zi_5 none 244 [l0, l1, l2, .int l3, l4] [.int x2, .int x1, .ref x0] h Q = zWp d zi_5 none 245 [l0, l1, l2, .int l3, l4] [.int l3, .int x2, .int x1, .ref x0] h Q) ∧
    (∀ (d : Nat) (l0 : Value) (l1 : Value) (l2 : Value) (l3 : Value) (l4 : Int32) (x3 : Int32) (x2 : Int32) (x1 : Int32) (x0 : Nat) (h : zMm) (Q : Option Value → zMm → Prop), zWp d zi_5 none 245 [l0, l1, l2, l3, .int l4] [.int x3, .int x2, .int x1, .ref x0] h Q = zWp d zi_5 none 247 [l0, l1, l2, l3, .int l4] [.int l4, .int x3, .int x2, .int x1, .ref x0] h Q) ∧
    (∀ (d : Nat) (l0 : Value) (l1 : Value) (l2 : Value) (l3 : Value) (l4 : Value) (x4 : Int32) (x3 : Int32) (x2 : Int32) (x1 : Int32) (x0 : Nat) (I : Nat → Nat → Int32) (L : Nat → Nat → Int64) (P : Nat → Nat → Option Nat) (Q : Option Value → zMm → Prop), zSH[x0]? = some (.inl 0) → zWp d zi_5 none 247 [l0, l1, l2, l3, l4] [.int x4, .int x3, .int x2, .int x1, .ref x0] (zSH, I, L, P) Q = zWM d 4 [.ref x0, .int x1, .int x2, .int x3, .int x4] (zSH, I, L, P) (fun r h1 => zWp d zi_5 none 250 [l0, l1, l2, l3, l4] (r.toList ++ []) h1 Q)) ∧
    (∀ (d : Nat) (l0 : Value) (l1 : Value) (l2 : Value) (l3 : Value) (l4 : Value) (x0 : Int32) (h : zMm) (Q : Option Value → zMm → Prop), zWp d zi_5 none 250 [l0, l1, l2, l3, l4] [.int x0] h Q = zWp d zi_5 none 251 [l0, l1, l2, l3, l4] [.int 5, .int x0] h Q) ∧
    (∀ (d : Nat) (l0 : Value) (l1 : Value) (l2 : Value) (l3 : Value) (l4 : Value) (x1 : Int32) (x0 : Int32) (h : zMm) (Q : Option Value → zMm → Prop), zWp d zi_5 none 251 [l0, l1, l2, l3, l4] [.int x1, .int x0] h Q = zWp d zi_5 none 252 [l0, l1, l2, l3, l4] [.int (x0 ^^^ x1)] h Q) ∧
    (∀ (d : Nat) (l0 : Value) (l1 : Value) (l2 : Value) (l3 : Value) (l4 : Value) (x0 : Int32) (h : zMm) (Q : Option Value → zMm → Prop), zWp d zi_5 none 252 [l0, l1, l2, l3, l4] [.int x0] h Q = Q (some (.int x0)) h) ∧
    (∀ (d : Nat) (l0 : Nat) (l1 : Value) (l2 : Value) (l3 : Value) (l4 : Value)  (h : zMm) (Q : Option Value → zMm → Prop), zWp d zi_5 none 253 [.ref l0, l1, l2, l3, l4] [] h Q = zWp d zi_5 none 254 [.ref l0, l1, l2, l3, l4] [.ref l0] h Q) ∧
    (∀ (d : Nat) (l0 : Value) (l1 : Value) (l2 : Int32) (l3 : Value) (l4 : Value) (x0 : Nat) (h : zMm) (Q : Option Value → zMm → Prop), zWp d zi_5 none 254 [l0, l1, .int l2, l3, l4] [.ref x0] h Q = zWp d zi_5 none 255 [l0, l1, .int l2, l3, l4] [.int l2, .ref x0] h Q) ∧
    (∀ (d : Nat) (l0 : Value) (l1 : Value) (l2 : Value) (l3 : Value) (l4 : Value) (x1 : Int32) (x0 : Nat) (h : zMm) (Q : Option Value → zMm → Prop), zWp d zi_5 none 255 [l0, l1, l2, l3, l4] [.int x1, .ref x0] h Q = zWp d zi_5 none 256 [l0, l1, l2, l3, l4] [.int 0, .int x1, .ref x0] h Q) ∧
    (∀ (d : Nat) (l0 : Value) (l1 : Value) (l2 : Value) (l3 : Int32) (l4 : Value) (x2 : Int32) (x1 : Int32) (x0 : Nat) (h : zMm) (Q : Option Value → zMm → Prop), zWp d zi_5 none 256 [l0, l1, l2, .int l3, l4] [.int x2, .int x1, .ref x0] h Q = zWp d zi_5 none 257 [l0, l1, l2, .int l3, l4] [.int l3, .int x2, .int x1, .ref x0] h Q) ∧
    (∀ (d : Nat) (l0 : Value) (l1 : Value) (l2 : Value) (l3 : Value) (l4 : Int32) (x3 : Int32) (x2 : Int32) (x1 : Int32) (x0 : Nat) (h : zMm) (Q : Option Value → zMm → Prop), zWp d zi_5 none 257 [l0, l1, l2, l3, .int l4] [.int x3, .int x2, .int x1, .ref x0] h Q = zWp d zi_5 none 259 [l0, l1, l2, l3, .int l4] [.int l4, .int x3, .int x2, .int x1, .ref x0] h Q) ∧
    (∀ (d : Nat) (l0 : Value) (l1 : Value) (l2 : Value) (l3 : Value) (l4 : Value) (x4 : Int32) (x3 : Int32) (x2 : Int32) (x1 : Int32) (x0 : Nat) (I : Nat → Nat → Int32) (L : Nat → Nat → Int64) (P : Nat → Nat → Option Nat) (Q : Option Value → zMm → Prop), zSH[x0]? = some (.inl 0) → zWp d zi_5 none 259 [l0, l1, l2, l3, l4] [.int x4, .int x3, .int x2, .int x1, .ref x0] (zSH, I, L, P) Q = zWM d 4 [.ref x0, .int x1, .int x2, .int x3, .int x4] (zSH, I, L, P) (fun r h1 => zWp d zi_5 none 262 [l0, l1, l2, l3, l4] (r.toList ++ []) h1 Q)) ∧
    (∀ (d : Nat) (l0 : Value) (l1 : Value) (l2 : Value) (l3 : Value) (l4 : Value) (x0 : Int32) (h : zMm) (Q : Option Value → zMm → Prop), zWp d zi_5 none 262 [l0, l1, l2, l3, l4] [.int x0] h Q = zWp d zi_5 none 263 [l0, l1, l2, l3, l4] [.int 2, .int x0] h Q) ∧
    (∀ (d : Nat) (l0 : Value) (l1 : Value) (l2 : Value) (l3 : Value) (l4 : Value) (x1 : Int32) (x0 : Int32) (h : zMm) (Q : Option Value → zMm → Prop), zWp d zi_5 none 263 [l0, l1, l2, l3, l4] [.int x1, .int x0] h Q = zWp d zi_5 none 264 [l0, l1, l2, l3, l4] [.int (x0 * x1)] h Q) ∧
    (∀ (d : Nat) (l0 : Value) (l1 : Value) (l2 : Value) (l3 : Value) (l4 : Value) (x0 : Int32) (h : zMm) (Q : Option Value → zMm → Prop), zWp d zi_5 none 264 [l0, l1, l2, l3, l4] [.int x0] h Q = Q (some (.int x0)) h) ∧
    (∀ (d : Nat) (l0 : Nat) (l1 : Value) (l2 : Value) (l3 : Value) (l4 : Value)  (h : zMm) (Q : Option Value → zMm → Prop), zWp d zi_5 none 265 [.ref l0, l1, l2, l3, l4] [] h Q = zWp d zi_5 none 266 [.ref l0, l1, l2, l3, l4] [.ref l0] h Q) ∧
    (∀ (d : Nat) (l0 : Value) (l1 : Value) (l2 : Int32) (l3 : Value) (l4 : Value) (x0 : Nat) (h : zMm) (Q : Option Value → zMm → Prop), zWp d zi_5 none 266 [l0, l1, .int l2, l3, l4] [.ref x0] h Q = zWp d zi_5 none 267 [l0, l1, .int l2, l3, l4] [.int l2, .ref x0] h Q) ∧
    (∀ (d : Nat) (l0 : Value) (l1 : Value) (l2 : Value) (l3 : Value) (l4 : Value) (x1 : Int32) (x0 : Nat) (h : zMm) (Q : Option Value → zMm → Prop), zWp d zi_5 none 267 [l0, l1, l2, l3, l4] [.int x1, .ref x0] h Q = zWp d zi_5 none 268 [l0, l1, l2, l3, l4] [.int 1, .int x1, .ref x0] h Q) ∧
    (∀ (d : Nat) (l0 : Value) (l1 : Value) (l2 : Value) (l3 : Int32) (l4 : Value) (x2 : Int32) (x1 : Int32) (x0 : Nat) (h : zMm) (Q : Option Value → zMm → Prop), zWp d zi_5 none 268 [l0, l1, l2, .int l3, l4] [.int x2, .int x1, .ref x0] h Q = zWp d zi_5 none 269 [l0, l1, l2, .int l3, l4] [.int l3, .int x2, .int x1, .ref x0] h Q) ∧
    (∀ (d : Nat) (l0 : Value) (l1 : Value) (l2 : Value) (l3 : Value) (l4 : Int32) (x3 : Int32) (x2 : Int32) (x1 : Int32) (x0 : Nat) (h : zMm) (Q : Option Value → zMm → Prop), zWp d zi_5 none 269 [l0, l1, l2, l3, .int l4] [.int x3, .int x2, .int x1, .ref x0] h Q = zWp d zi_5 none 271 [l0, l1, l2, l3, .int l4] [.int l4, .int x3, .int x2, .int x1, .ref x0] h Q) ∧
    (∀ (d : Nat) (l0 : Value) (l1 : Value) (l2 : Value) (l3 : Value) (l4 : Value) (x4 : Int32) (x3 : Int32) (x2 : Int32) (x1 : Int32) (x0 : Nat) (I : Nat → Nat → Int32) (L : Nat → Nat → Int64) (P : Nat → Nat → Option Nat) (Q : Option Value → zMm → Prop), zSH[x0]? = some (.inl 0) → zWp d zi_5 none 271 [l0, l1, l2, l3, l4] [.int x4, .int x3, .int x2, .int x1, .ref x0] (zSH, I, L, P) Q = zWM d 4 [.ref x0, .int x1, .int x2, .int x3, .int x4] (zSH, I, L, P) (fun r h1 => zWp d zi_5 none 274 [l0, l1, l2, l3, l4] (r.toList ++ []) h1 Q)) ∧
    (∀ (d : Nat) (l0 : Nat) (l1 : Value) (l2 : Value) (l3 : Value) (l4 : Value) (x0 : Int32) (h : zMm) (Q : Option Value → zMm → Prop), zWp d zi_5 none 274 [.ref l0, l1, l2, l3, l4] [.int x0] h Q = zWp d zi_5 none 275 [.ref l0, l1, l2, l3, l4] [.ref l0, .int x0] h Q) ∧
    (∀ (d : Nat) (l0 : Nat) (l1 : Value) (l2 : Value) (l3 : Value) (l4 : Value) (x1 : Nat) (x0 : Int32) (h : zMm) (Q : Option Value → zMm → Prop), zWp d zi_5 none 275 [.ref l0, l1, l2, l3, l4] [.ref x1, .int x0] h Q = zWp d zi_5 none 276 [.ref l0, l1, l2, l3, l4] [.ref l0, .ref x1, .int x0] h Q) ∧
    (∀ (d : Nat) (l0 : Value) (l1 : Value) (l2 : Value) (l3 : Value) (l4 : Value) (x2 : Nat) (x1 : Nat) (x0 : Int32) (I : Nat → Nat → Int32) (L : Nat → Nat → Int64) (P : Nat → Nat → Option Nat) (Q : Option Value → zMm → Prop), zSH[x2]? = some (.inl 0) → zWp d zi_5 none 276 [l0, l1, l2, l3, l4] [.ref x2, .ref x1, .int x0] (zSH, I, L, P) Q = zWp d zi_5 none 279 [l0, l1, l2, l3, l4] [.int (I x2 5), .ref x1, .int x0] (zSH, I, L, P) Q) ∧
    (∀ (d : Nat) (l0 : Value) (l1 : Value) (l2 : Value) (l3 : Value) (l4 : Value) (x2 : Int32) (x1 : Nat) (x0 : Int32) (h : zMm) (Q : Option Value → zMm → Prop), zWp d zi_5 none 279 [l0, l1, l2, l3, l4] [.int x2, .ref x1, .int x0] h Q = zWp d zi_5 none 280 [l0, l1, l2, l3, l4] [.int 2, .int x2, .ref x1, .int x0] h Q) ∧
    (∀ (d : Nat) (l0 : Value) (l1 : Value) (l2 : Value) (l3 : Value) (l4 : Value) (x3 : Int32) (x2 : Int32) (x1 : Nat) (x0 : Int32) (h : zMm) (Q : Option Value → zMm → Prop), zWp d zi_5 none 280 [l0, l1, l2, l3, l4] [.int x3, .int x2, .ref x1, .int x0] h Q = zWp d zi_5 none 281 [l0, l1, l2, l3, l4] [.int 2, .int x3, .int x2, .ref x1, .int x0] h Q) ∧
    (∀ (d : Nat) (l0 : Value) (l1 : Value) (l2 : Value) (l3 : Value) (l4 : Int32) (x4 : Int32) (x3 : Int32) (x2 : Int32) (x1 : Nat) (x0 : Int32) (h : zMm) (Q : Option Value → zMm → Prop), zWp d zi_5 none 281 [l0, l1, l2, l3, .int l4] [.int x4, .int x3, .int x2, .ref x1, .int x0] h Q = zWp d zi_5 none 283 [l0, l1, l2, l3, .int l4] [.int l4, .int x4, .int x3, .int x2, .ref x1, .int x0] h Q) ∧
    (∀ (d : Nat) (l0 : Value) (l1 : Value) (l2 : Value) (l3 : Value) (l4 : Value) (x5 : Int32) (x4 : Int32) (x3 : Int32) (x2 : Int32) (x1 : Nat) (x0 : Int32) (I : Nat → Nat → Int32) (L : Nat → Nat → Int64) (P : Nat → Nat → Option Nat) (Q : Option Value → zMm → Prop), zSH[x1]? = some (.inl 0) → zWp d zi_5 none 283 [l0, l1, l2, l3, l4] [.int x5, .int x4, .int x3, .int x2, .ref x1, .int x0] (zSH, I, L, P) Q = zWM d 4 [.ref x1, .int x2, .int x3, .int x4, .int x5] (zSH, I, L, P) (fun r h1 => zWp d zi_5 none 286 [l0, l1, l2, l3, l4] (r.toList ++ [.int x0]) h1 Q)) ∧
    (∀ (d : Nat) (l0 : Value) (l1 : Value) (l2 : Value) (l3 : Value) (l4 : Value) (x1 : Int32) (x0 : Int32) (h : zMm) (Q : Option Value → zMm → Prop), zWp d zi_5 none 286 [l0, l1, l2, l3, l4] [.int x1, .int x0] h Q = zWp d zi_5 none 287 [l0, l1, l2, l3, l4] [.int (x0 + x1)] h Q) ∧
    (∀ (d : Nat) (l0 : Value) (l1 : Value) (l2 : Value) (l3 : Value) (l4 : Value) (x0 : Int32) (h : zMm) (Q : Option Value → zMm → Prop), zWp d zi_5 none 287 [l0, l1, l2, l3, l4] [.int x0] h Q = Q (some (.int x0)) h) ∧
    (∀ (d : Nat) (l0 : Nat) (l1 : Value) (l2 : Value) (l3 : Value) (l4 : Value)  (h : zMm) (Q : Option Value → zMm → Prop), zWp d zi_5 none 288 [.ref l0, l1, l2, l3, l4] [] h Q = zWp d zi_5 none 289 [.ref l0, l1, l2, l3, l4] [.ref l0] h Q) ∧
    (∀ (d : Nat) (l0 : Value) (l1 : Value) (l2 : Int32) (l3 : Value) (l4 : Value) (x0 : Nat) (h : zMm) (Q : Option Value → zMm → Prop), zWp d zi_5 none 289 [l0, l1, .int l2, l3, l4] [.ref x0] h Q = zWp d zi_5 none 290 [l0, l1, .int l2, l3, l4] [.int l2, .ref x0] h Q) ∧
    (∀ (d : Nat) (l0 : Value) (l1 : Value) (l2 : Value) (l3 : Value) (l4 : Value) (x1 : Int32) (x0 : Nat) (h : zMm) (Q : Option Value → zMm → Prop), zWp d zi_5 none 290 [l0, l1, l2, l3, l4] [.int x1, .ref x0] h Q = zWp d zi_5 none 291 [l0, l1, l2, l3, l4] [.int 3, .int x1, .ref x0] h Q) ∧
    (∀ (d : Nat) (l0 : Value) (l1 : Value) (l2 : Value) (l3 : Int32) (l4 : Value) (x2 : Int32) (x1 : Int32) (x0 : Nat) (h : zMm) (Q : Option Value → zMm → Prop), zWp d zi_5 none 291 [l0, l1, l2, .int l3, l4] [.int x2, .int x1, .ref x0] h Q = zWp d zi_5 none 292 [l0, l1, l2, .int l3, l4] [.int l3, .int x2, .int x1, .ref x0] h Q) ∧
    (∀ (d : Nat) (l0 : Value) (l1 : Value) (l2 : Value) (l3 : Value) (l4 : Int32) (x3 : Int32) (x2 : Int32) (x1 : Int32) (x0 : Nat) (h : zMm) (Q : Option Value → zMm → Prop), zWp d zi_5 none 292 [l0, l1, l2, l3, .int l4] [.int x3, .int x2, .int x1, .ref x0] h Q = zWp d zi_5 none 294 [l0, l1, l2, l3, .int l4] [.int l4, .int x3, .int x2, .int x1, .ref x0] h Q) ∧
    (∀ (d : Nat) (l0 : Value) (l1 : Value) (l2 : Value) (l3 : Value) (l4 : Value) (x4 : Int32) (x3 : Int32) (x2 : Int32) (x1 : Int32) (x0 : Nat) (I : Nat → Nat → Int32) (L : Nat → Nat → Int64) (P : Nat → Nat → Option Nat) (Q : Option Value → zMm → Prop), zSH[x0]? = some (.inl 0) → zWp d zi_5 none 294 [l0, l1, l2, l3, l4] [.int x4, .int x3, .int x2, .int x1, .ref x0] (zSH, I, L, P) Q = zWM d 4 [.ref x0, .int x1, .int x2, .int x3, .int x4] (zSH, I, L, P) (fun r h1 => zWp d zi_5 none 297 [l0, l1, l2, l3, l4] (r.toList ++ []) h1 Q)) ∧
    (∀ (d : Nat) (l0 : Value) (l1 : Value) (l2 : Value) (l3 : Value) (l4 : Value) (x0 : Int32) (h : zMm) (Q : Option Value → zMm → Prop), zWp d zi_5 none 297 [l0, l1, l2, l3, l4] [.int x0] h Q = zWp d zi_5 none 298 [l0, l1, l2, l3, l4] [.int 1, .int x0] h Q) ∧
    (∀ (d : Nat) (l0 : Value) (l1 : Value) (l2 : Value) (l3 : Value) (l4 : Value) (x1 : Int32) (x0 : Int32) (h : zMm) (Q : Option Value → zMm → Prop), zWp d zi_5 none 298 [l0, l1, l2, l3, l4] [.int x1, .int x0] h Q = zWp d zi_5 none 299 [l0, l1, l2, l3, l4] [.int (x0 - x1)] h Q) ∧
    (∀ (d : Nat) (l0 : Value) (l1 : Value) (l2 : Value) (l3 : Value) (l4 : Value) (x0 : Int32) (h : zMm) (Q : Option Value → zMm → Prop), zWp d zi_5 none 299 [l0, l1, l2, l3, l4] [.int x0] h Q = Q (some (.int x0)) h) ∧
    (∀ (d : Nat) (l0 : Value) (l1 : Value) (l2 : Value) (l3 : Value) (l4 : Value)  (h : zMm) (Q : Option Value → zMm → Prop), zWp d zi_5 none 300 [l0, l1, l2, l3, l4] [] h Q = zWp d zi_5 none 301 [l0, l1, l2, l3, l4] [.int 0] h Q) ∧
    (∀ (d : Nat) (l0 : Value) (l1 : Value) (l2 : Value) (l3 : Value) (l4 : Value) (x0 : Int32) (h : zMm) (Q : Option Value → zMm → Prop), zWp d zi_5 none 301 [l0, l1, l2, l3, l4] [.int x0] h Q = Q (some (.int x0)) h) :=
  ⟨(fun d l0 l1 l2 l3 l4  h Q => zr_iload_n rfl rfl),
   (fun d l0 l1 l2 l3 l4 x0 h Q => by
      by_cases e0 : x0 = 1
      · subst e0; rw [if_pos rfl]; exact zr_look (off := 115) rfl (by decide) (by decide) (by decide)
      rw [if_neg e0]
      by_cases e1 : x0 = 2
      · subst e1; rw [if_pos rfl]; exact zr_look (off := 122) rfl (by decide) (by decide) (by decide)
      rw [if_neg e1]
      by_cases e2 : x0 = 10
      · subst e2; rw [if_pos rfl]; exact zr_look (off := 148) rfl (by decide) (by decide) (by decide)
      rw [if_neg e2]
      by_cases e3 : x0 = 11
      · subst e3; rw [if_pos rfl]; exact zr_look (off := 163) rfl (by decide) (by decide) (by decide)
      rw [if_neg e3]
      by_cases e4 : x0 = 20
      · subst e4; rw [if_pos rfl]; exact zr_look (off := 170) rfl (by decide) (by decide) (by decide)
      rw [if_neg e4]
      by_cases e5 : x0 = 30
      · subst e5; rw [if_pos rfl]; exact zr_look (off := 182) rfl (by decide) (by decide) (by decide)
      rw [if_neg e5]
      by_cases e6 : x0 = 40
      · subst e6; rw [if_pos rfl]; exact zr_look (off := 193) rfl (by decide) (by decide) (by decide)
      rw [if_neg e6]
      by_cases e7 : x0 = 41
      · subst e7; rw [if_pos rfl]; exact zr_look (off := 205) rfl (by decide) (by decide) (by decide)
      rw [if_neg e7]
      by_cases e8 : x0 = 50
      · subst e8; rw [if_pos rfl]; exact zr_look (off := 217) rfl (by decide) (by decide) (by decide)
      rw [if_neg e8]
      by_cases e9 : x0 = 60
      · subst e9; rw [if_pos rfl]; exact zr_look (off := 240) rfl (by decide) (by decide) (by decide)
      rw [if_neg e9]
      by_cases e10 : x0 = 70
      · subst e10; rw [if_pos rfl]; exact zr_look (off := 252) rfl (by decide) (by decide) (by decide)
      rw [if_neg e10]
      by_cases e11 : x0 = 80
      · subst e11; rw [if_pos rfl]; exact zr_look (off := 264) rfl (by decide) (by decide) (by decide)
      rw [if_neg e11]
      by_cases e12 : x0 = 81
      · subst e12; rw [if_pos rfl]; exact zr_look (off := 287) rfl (by decide) (by decide) (by decide)
      rw [if_neg e12]
      exact zr_look (off := 299) rfl (by decide) (by show Op.lookupswitch.offset [(1, 115), (2, 122), (10, 148), (11, 163), (20, 170), (30, 182), (40, 193), (41, 205), (50, 217), (60, 240), (70, 252), (80, 264), (81, 287)] _ _ = _; rw [lv_osw e0 (by decide), lv_osw e1 (by decide), lv_osw e2 (by decide), lv_osw e3 (by decide), lv_osw e4 (by decide), lv_osw e5 (by decide), lv_osw e6 (by decide), lv_osw e7 (by decide), lv_osw e8 (by decide), lv_osw e9 (by decide), lv_osw e10 (by decide), lv_osw e11 (by decide), lv_osw e12 (by decide)]; rfl) (by decide)),
   (fun d l0 l1 l2 l3 l4  h Q => zr_iload_n rfl rfl),
   (fun d l0 l1 l2 l3 l4 x0 h Q => zr_aload_n rfl rfl),
   (fun d l0 l1 l2 l3 l4 x1 x0 I L P Q p0 => zr_getI rfl lf_0_23 (fun _ _ _ => rfl) p0),
   (fun d l0 l1 l2 l3 l4 x1 x0 h Q => zr_iadd rfl),
   (fun d l0 l1 l2 l3 l4 x0 h Q => zr_iret rfl rfl),
   (fun d l0 l1 l2 l3 l4  h Q => zr_aload_n rfl rfl),
   (fun d l0 l1 l2 l3 l4 x0 h Q => zr_aload_n rfl rfl),
   (fun d l0 l1 l2 l3 l4 x1 x0 I L P Q p0 => zr_getI rfl lf_0_26 (fun _ _ _ => rfl) p0),
   (fun d l0 l1 l2 l3 l4 x1 x0 h Q => zr_iconst rfl (by decide)),
   (fun d l0 l1 l2 l3 l4 x2 x1 x0 h Q => zr_iload_n rfl rfl),
   (fun d l0 l1 l2 l3 l4 x3 x2 x1 x0 h Q => zr_iload rfl rfl),
   (fun d l0 l1 l2 l3 l4 x4 x3 x2 x1 x0 I L P Q p0 => zr_vir (as := [.int x4, .int x3, .int x2, .int x1]) (rest := []) rfl lm_0_29 m_4 kd_4 rfl (Nat.le_of_ble_eq_true rfl) p0),
   (fun d l0 l1 l2 l3 l4 x0 h Q => zr_aload_n rfl rfl),
   (fun d l0 l1 l2 l3 l4 x1 x0 h Q => zr_aload_n rfl rfl),
   (fun d l0 l1 l2 l3 l4 x2 x1 x0 I L P Q p0 => zr_getI rfl lf_0_26 (fun _ _ _ => rfl) p0),
   (fun d l0 l1 l2 l3 l4 x2 x1 x0 h Q => zr_iconst rfl (by decide)),
   (fun d l0 l1 l2 l3 l4 x3 x2 x1 x0 h Q => zr_iconst rfl (by decide)),
   (fun d l0 l1 l2 l3 l4 x4 x3 x2 x1 x0 h Q => zr_iload rfl rfl),
   (fun d l0 l1 l2 l3 l4 x5 x4 x3 x2 x1 x0 I L P Q p0 => zr_vir (as := [.int x5, .int x4, .int x3, .int x2]) (rest := [.int x0]) rfl lm_0_29 m_4 kd_4 rfl (Nat.le_of_ble_eq_true rfl) p0),
   (fun d l0 l1 l2 l3 l4 x1 x0 h Q => zr_isub rfl),
   (fun d l0 l1 l2 l3 l4 x0 h Q => zr_iret rfl rfl),
   (fun d l0 l1 l2 l3 l4  h Q => zr_aload_n rfl rfl),
   (fun d l0 l1 l2 l3 l4 x0 h Q => zr_aload_n rfl rfl),
   (fun d l0 l1 l2 l3 l4 x1 x0 I L P Q p0 => zr_getI rfl lf_0_26 (fun _ _ _ => rfl) p0),
   (fun d l0 l1 l2 l3 l4 x1 x0 h Q => zr_iconst rfl (by decide)),
   (fun d l0 l1 l2 l3 l4 x2 x1 x0 h Q => zr_iload_n rfl rfl),
   (fun d l0 l1 l2 l3 l4 x3 x2 x1 x0 h Q => zr_iload rfl rfl),
   (fun d l0 l1 l2 l3 l4 x4 x3 x2 x1 x0 I L P Q p0 => zr_vir (as := [.int x4, .int x3, .int x2, .int x1]) (rest := []) rfl lm_0_29 m_4 kd_4 rfl (Nat.le_of_ble_eq_true rfl) p0),
   (fun d l0 l1 l2 l3 l4 x0 h Q => zr_iconst rfl (by decide)),
   (fun d l0 l1 l2 l3 l4 x1 x0 h Q => zr_imul rfl),
   (fun d l0 l1 l2 l3 l4 x0 h Q => zr_iret rfl rfl),
   (fun d l0 l1 l2 l3 l4  h Q => zr_iload_n rfl rfl),
   (fun d l0 l1 l2 l3 l4 x0 h Q => zr_aload_n rfl rfl),
   (fun d l0 l1 l2 l3 l4 x1 x0 I L P Q p0 => zr_getI rfl lf_0_23 (fun _ _ _ => rfl) p0),
   (fun d l0 l1 l2 l3 l4 x1 x0 h Q => zr_ixor rfl),
   (fun d l0 l1 l2 l3 l4 x0 h Q => zr_iret rfl rfl),
   (fun d l0 l1 l2 l3 l4  h Q => zr_aload_n rfl rfl),
   (fun d l0 l1 l2 l3 l4 x0 h Q => zr_iload_n rfl rfl),
   (fun d l0 l1 l2 l3 l4 x1 x0 h Q => zr_iconst rfl (by decide)),
   (fun d l0 l1 l2 l3 l4 x2 x1 x0 h Q => zr_iload_n rfl rfl),
   (fun d l0 l1 l2 l3 l4 x3 x2 x1 x0 h Q => zr_iload rfl rfl),
   (fun d l0 l1 l2 l3 l4 x4 x3 x2 x1 x0 I L P Q p0 => zr_vir (as := [.int x4, .int x3, .int x2, .int x1]) (rest := []) rfl lm_0_29 m_4 kd_4 rfl (Nat.le_of_ble_eq_true rfl) p0),
   (fun d l0 l1 l2 l3 l4 x0 h Q => zr_iconst rfl (by decide)),
   (fun d l0 l1 l2 l3 l4 x1 x0 h Q => zr_iadd rfl),
   (fun d l0 l1 l2 l3 l4 x0 h Q => zr_iret rfl rfl),
   (fun d l0 l1 l2 l3 l4  h Q => zr_aload_n rfl rfl),
   (fun d l0 l1 l2 l3 l4 x0 h Q => zr_iload_n rfl rfl),
   (fun d l0 l1 l2 l3 l4 x1 x0 h Q => zr_iconst rfl (by decide)),
   (fun d l0 l1 l2 l3 l4 x2 x1 x0 h Q => zr_iload_n rfl rfl),
   (fun d l0 l1 l2 l3 l4 x3 x2 x1 x0 h Q => zr_iload rfl rfl),
   (fun d l0 l1 l2 l3 l4 x4 x3 x2 x1 x0 I L P Q p0 => zr_vir (as := [.int x4, .int x3, .int x2, .int x1]) (rest := []) rfl lm_0_29 m_4 kd_4 rfl (Nat.le_of_ble_eq_true rfl) p0),
   (fun d l0 l1 l2 l3 l4 x0 h Q => zr_ineg rfl),
   (fun d l0 l1 l2 l3 l4 x0 h Q => zr_iret rfl rfl),
   (fun d l0 l1 l2 l3 l4  h Q => zr_aload_n rfl rfl),
   (fun d l0 l1 l2 l3 l4 x0 h Q => zr_iload_n rfl rfl),
   (fun d l0 l1 l2 l3 l4 x1 x0 h Q => zr_iconst rfl (by decide)),
   (fun d l0 l1 l2 l3 l4 x2 x1 x0 h Q => zr_iload_n rfl rfl),
   (fun d l0 l1 l2 l3 l4 x3 x2 x1 x0 h Q => zr_iload rfl rfl),
   (fun d l0 l1 l2 l3 l4 x4 x3 x2 x1 x0 I L P Q p0 => zr_vir (as := [.int x4, .int x3, .int x2, .int x1]) (rest := []) rfl lm_0_29 m_4 kd_4 rfl (Nat.le_of_ble_eq_true rfl) p0),
   (fun d l0 l1 l2 l3 l4 x0 h Q => zr_iconst rfl (by decide)),
   (fun d l0 l1 l2 l3 l4 x1 x0 h Q => zr_imul rfl),
   (fun d l0 l1 l2 l3 l4 x0 h Q => zr_iret rfl rfl),
   (fun d l0 l1 l2 l3 l4  h Q => zr_aload_n rfl rfl),
   (fun d l0 l1 l2 l3 l4 x0 h Q => zr_iload_n rfl rfl),
   (fun d l0 l1 l2 l3 l4 x1 x0 h Q => zr_iconst rfl (by decide)),
   (fun d l0 l1 l2 l3 l4 x2 x1 x0 h Q => zr_iload_n rfl rfl),
   (fun d l0 l1 l2 l3 l4 x3 x2 x1 x0 h Q => zr_iconst rfl (by decide)),
   (fun d l0 l1 l2 l3 l4 x4 x3 x2 x1 x0 h Q => zr_iadd rfl),
   (fun d l0 l1 l2 l3 l4 x3 x2 x1 x0 h Q => zr_iload rfl rfl),
   (fun d l0 l1 l2 l3 l4 x4 x3 x2 x1 x0 I L P Q p0 => zr_vir (as := [.int x4, .int x3, .int x2, .int x1]) (rest := []) rfl lm_0_29 m_4 kd_4 rfl (Nat.le_of_ble_eq_true rfl) p0),
   (fun d l0 l1 l2 l3 l4 x0 h Q => zr_iret rfl rfl),
   (fun d l0 l1 l2 l3 l4  h Q => zr_aload_n rfl rfl),
   (fun d l0 l1 l2 l3 l4 x0 h Q => zr_iload_n rfl rfl),
   (fun d l0 l1 l2 l3 l4 x1 x0 h Q => zr_iconst rfl (by decide)),
   (fun d l0 l1 l2 l3 l4 x2 x1 x0 h Q => zr_iload_n rfl rfl),
   (fun d l0 l1 l2 l3 l4 x3 x2 x1 x0 h Q => zr_iload rfl rfl),
   (fun d l0 l1 l2 l3 l4 x4 x3 x2 x1 x0 I L P Q p0 => zr_vir (as := [.int x4, .int x3, .int x2, .int x1]) (rest := []) rfl lm_0_29 m_4 kd_4 rfl (Nat.le_of_ble_eq_true rfl) p0),
   (fun d l0 l1 l2 l3 l4 x0 h Q => zr_aload_n rfl rfl),
   (fun d l0 l1 l2 l3 l4 x1 x0 h Q => zr_aload_n rfl rfl),
   (fun d l0 l1 l2 l3 l4 x2 x1 x0 I L P Q p0 => zr_getI rfl lf_0_26 (fun _ _ _ => rfl) p0),
   (fun d l0 l1 l2 l3 l4 x2 x1 x0 h Q => zr_iconst rfl (by decide)),
   (fun d l0 l1 l2 l3 l4 x3 x2 x1 x0 h Q => zr_iconst rfl (by decide)),
   (fun d l0 l1 l2 l3 l4 x4 x3 x2 x1 x0 h Q => zr_iload rfl rfl),
   (fun d l0 l1 l2 l3 l4 x5 x4 x3 x2 x1 x0 I L P Q p0 => zr_vir (as := [.int x5, .int x4, .int x3, .int x2]) (rest := [.int x0]) rfl lm_0_29 m_4 kd_4 rfl (Nat.le_of_ble_eq_true rfl) p0),
   (fun d l0 l1 l2 l3 l4 x1 x0 h Q => zr_isub rfl),
   (fun d l0 l1 l2 l3 l4 x0 h Q => zr_iret rfl rfl),
   (fun d l0 l1 l2 l3 l4  h Q => zr_aload_n rfl rfl),
   (fun d l0 l1 l2 l3 l4 x0 h Q => zr_iload_n rfl rfl),
   (fun d l0 l1 l2 l3 l4 x1 x0 h Q => zr_iconst rfl (by decide)),
   (fun d l0 l1 l2 l3 l4 x2 x1 x0 h Q => zr_iload_n rfl rfl),
   (fun d l0 l1 l2 l3 l4 x3 x2 x1 x0 h Q => zr_iload rfl rfl),
   (fun d l0 l1 l2 l3 l4 x4 x3 x2 x1 x0 I L P Q p0 => zr_vir (as := [.int x4, .int x3, .int x2, .int x1]) (rest := []) rfl lm_0_29 m_4 kd_4 rfl (Nat.le_of_ble_eq_true rfl) p0),
   (fun d l0 l1 l2 l3 l4 x0 h Q => zr_iconst rfl (by decide)),
   (fun d l0 l1 l2 l3 l4 x1 x0 h Q => zr_ixor rfl),
   (fun d l0 l1 l2 l3 l4 x0 h Q => zr_iret rfl rfl),
   (fun d l0 l1 l2 l3 l4  h Q => zr_aload_n rfl rfl),
   (fun d l0 l1 l2 l3 l4 x0 h Q => zr_iload_n rfl rfl),
   (fun d l0 l1 l2 l3 l4 x1 x0 h Q => zr_iconst rfl (by decide)),
   (fun d l0 l1 l2 l3 l4 x2 x1 x0 h Q => zr_iload_n rfl rfl),
   (fun d l0 l1 l2 l3 l4 x3 x2 x1 x0 h Q => zr_iload rfl rfl),
   (fun d l0 l1 l2 l3 l4 x4 x3 x2 x1 x0 I L P Q p0 => zr_vir (as := [.int x4, .int x3, .int x2, .int x1]) (rest := []) rfl lm_0_29 m_4 kd_4 rfl (Nat.le_of_ble_eq_true rfl) p0),
   (fun d l0 l1 l2 l3 l4 x0 h Q => zr_iconst rfl (by decide)),
   (fun d l0 l1 l2 l3 l4 x1 x0 h Q => zr_imul rfl),
   (fun d l0 l1 l2 l3 l4 x0 h Q => zr_iret rfl rfl),
   (fun d l0 l1 l2 l3 l4  h Q => zr_aload_n rfl rfl),
   (fun d l0 l1 l2 l3 l4 x0 h Q => zr_iload_n rfl rfl),
   (fun d l0 l1 l2 l3 l4 x1 x0 h Q => zr_iconst rfl (by decide)),
   (fun d l0 l1 l2 l3 l4 x2 x1 x0 h Q => zr_iload_n rfl rfl),
   (fun d l0 l1 l2 l3 l4 x3 x2 x1 x0 h Q => zr_iload rfl rfl),
   (fun d l0 l1 l2 l3 l4 x4 x3 x2 x1 x0 I L P Q p0 => zr_vir (as := [.int x4, .int x3, .int x2, .int x1]) (rest := []) rfl lm_0_29 m_4 kd_4 rfl (Nat.le_of_ble_eq_true rfl) p0),
   (fun d l0 l1 l2 l3 l4 x0 h Q => zr_aload_n rfl rfl),
   (fun d l0 l1 l2 l3 l4 x1 x0 h Q => zr_aload_n rfl rfl),
   (fun d l0 l1 l2 l3 l4 x2 x1 x0 I L P Q p0 => zr_getI rfl lf_0_26 (fun _ _ _ => rfl) p0),
   (fun d l0 l1 l2 l3 l4 x2 x1 x0 h Q => zr_iconst rfl (by decide)),
   (fun d l0 l1 l2 l3 l4 x3 x2 x1 x0 h Q => zr_iconst rfl (by decide)),
   (fun d l0 l1 l2 l3 l4 x4 x3 x2 x1 x0 h Q => zr_iload rfl rfl),
   (fun d l0 l1 l2 l3 l4 x5 x4 x3 x2 x1 x0 I L P Q p0 => zr_vir (as := [.int x5, .int x4, .int x3, .int x2]) (rest := [.int x0]) rfl lm_0_29 m_4 kd_4 rfl (Nat.le_of_ble_eq_true rfl) p0),
   (fun d l0 l1 l2 l3 l4 x1 x0 h Q => zr_iadd rfl),
   (fun d l0 l1 l2 l3 l4 x0 h Q => zr_iret rfl rfl),
   (fun d l0 l1 l2 l3 l4  h Q => zr_aload_n rfl rfl),
   (fun d l0 l1 l2 l3 l4 x0 h Q => zr_iload_n rfl rfl),
   (fun d l0 l1 l2 l3 l4 x1 x0 h Q => zr_iconst rfl (by decide)),
   (fun d l0 l1 l2 l3 l4 x2 x1 x0 h Q => zr_iload_n rfl rfl),
   (fun d l0 l1 l2 l3 l4 x3 x2 x1 x0 h Q => zr_iload rfl rfl),
   (fun d l0 l1 l2 l3 l4 x4 x3 x2 x1 x0 I L P Q p0 => zr_vir (as := [.int x4, .int x3, .int x2, .int x1]) (rest := []) rfl lm_0_29 m_4 kd_4 rfl (Nat.le_of_ble_eq_true rfl) p0),
   (fun d l0 l1 l2 l3 l4 x0 h Q => zr_iconst rfl (by decide)),
   (fun d l0 l1 l2 l3 l4 x1 x0 h Q => zr_isub rfl),
   (fun d l0 l1 l2 l3 l4 x0 h Q => zr_iret rfl rfl),
   (fun d l0 l1 l2 l3 l4  h Q => zr_iconst rfl (by decide)),
   (fun d l0 l1 l2 l3 l4 x0 h Q => zr_iret rfl rfl)⟩
theorem E_X1_add : ∀ (d : Nat) (a0 : Nat) (a1 : Int32) (a2 : Int32) (a3 : Int32) (a4 : Int32) (h : zMm) (Q : Option Value → zMm → Prop), zWM (d + 1) 7 [.ref a0, .int a1, .int a2, .int a3, .int a4] h Q = zWp d zi_7 none 0 [.ref a0, .int a1, .int a2, .int a3, .int a4, .retAddr 0] [] h Q := fun d a0 a1 a2 a3 a4 h Q => zW_M m_7 (Nat.le_of_ble_eq_true rfl) rfl
set_option maxRecDepth 100000 in
theorem R_X1_add :
    (∀ (d : Nat) (l0 : Nat) (l1 : Value) (l2 : Value) (l3 : Value) (l4 : Value) (l5 : Value)  (h : zMm) (Q : Option Value → zMm → Prop), zWp d zi_7 none 0 [.ref l0, l1, l2, l3, l4, l5] [] h Q = zWp d zi_7 none 1 [.ref l0, l1, l2, l3, l4, l5] [.ref l0] h Q) ∧
    (∀ (d : Nat) (l0 : Value) (l1 : Value) (l2 : Value) (l3 : Value) (l4 : Value) (l5 : Value) (x0 : Nat) (I : Nat → Nat → Int32) (L : Nat → Nat → Int64) (P : Nat → Nat → Option Nat) (Q : Option Value → zMm → Prop), zSH[x0]? = some (.inl 1) → zWp d zi_7 none 1 [l0, l1, l2, l3, l4, l5] [.ref x0] (zSH, I, L, P) Q = zWp d zi_7 none 4 [l0, l1, l2, l3, l4, l5] [.int (I x0 1)] (zSH, I, L, P) Q) ∧
    (∀ (d : Nat) (l0 : Value) (l1 : Value) (l2 : Value) (l3 : Value) (l4 : Value) (l5 : Value) (x0 : Int32) (h : zMm) (Q : Option Value → zMm → Prop), zWp d zi_7 none 4 [l0, l1, l2, l3, l4, l5] [.int x0] h Q = zWp d zi_7 none 6 [l0, l1, l2, l3, l4, l5] [.int 40, .int x0] h Q) ∧
    (∀ (d : Nat) (l0 : Value) (l1 : Value) (l2 : Value) (l3 : Value) (l4 : Value) (l5 : Value) (x1 : Int32) (x0 : Int32) (h : zMm) (Q : Option Value → zMm → Prop), zWp d zi_7 none 6 [l0, l1, l2, l3, l4, l5] [.int x1, .int x0] h Q = if x0 < x1 then zWp d zi_7 none 31 [l0, l1, l2, l3, l4, l5] [] h Q else zWp d zi_7 none 9 [l0, l1, l2, l3, l4, l5] [] h Q) ∧
    (∀ (d : Nat) (l0 : Nat) (l1 : Value) (l2 : Value) (l3 : Value) (l4 : Value) (l5 : Value)  (h : zMm) (Q : Option Value → zMm → Prop), zWp d zi_7 none 9 [.ref l0, l1, l2, l3, l4, l5] [] h Q = zWp d zi_7 none 10 [.ref l0, l1, l2, l3, l4, l5] [.ref l0] h Q) ∧
    (∀ (d : Nat) (l0 : Value) (l1 : Value) (l2 : Value) (l3 : Value) (l4 : Value) (l5 : Value) (x0 : Nat) (I : Nat → Nat → Int32) (L : Nat → Nat → Int64) (P : Nat → Nat → Option Nat) (Q : Option Value → zMm → Prop), zSH[x0]? = some (.inl 1) → zWp d zi_7 none 10 [l0, l1, l2, l3, l4, l5] [.ref x0] (zSH, I, L, P) Q = zWp d zi_7 none 13 [l0, l1, l2, l3, l4, l5] [va_rf (P x0 0)] (zSH, I, L, P) Q) ∧
    (∀ (d : Nat) (l0 : Value) (l1 : Value) (l2 : Value) (l3 : Value) (l4 : Value) (l5 : Value) (x0 : Nat) (h : zMm) (Q : Option Value → zMm → Prop), zWp d zi_7 none 13 [l0, l1, l2, l3, l4, l5] [.ref x0] h Q = zWp d zi_7 none 14 [l0, l1, l2, l3, l4, l5] [.int 4, .ref x0] h Q) ∧
    (∀ (d : Nat) (l0 : Nat) (l1 : Value) (l2 : Value) (l3 : Value) (l4 : Value) (l5 : Value) (x1 : Int32) (x0 : Nat) (h : zMm) (Q : Option Value → zMm → Prop), zWp d zi_7 none 14 [.ref l0, l1, l2, l3, l4, l5] [.int x1, .ref x0] h Q = zWp d zi_7 none 15 [.ref l0, l1, l2, l3, l4, l5] [.ref l0, .int x1, .ref x0] h Q) ∧
    (∀ (d : Nat) (l0 : Value) (l1 : Value) (l2 : Value) (l3 : Value) (l4 : Value) (l5 : Value) (x2 : Nat) (x1 : Int32) (x0 : Nat) (I : Nat → Nat → Int32) (L : Nat → Nat → Int64) (P : Nat → Nat → Option Nat) (Q : Option Value → zMm → Prop), zSH[x2]? = some (.inl 1) → zWp d zi_7 none 15 [l0, l1, l2, l3, l4, l5] [.ref x2, .int x1, .ref x0] (zSH, I, L, P) Q = zWp d zi_7 none 18 [l0, l1, l2, l3, l4, l5] [va_rf (P x2 0), .int x1, .ref x0] (zSH, I, L, P) Q) ∧
    (∀ (d : Nat) (l0 : Value) (l1 : Value) (l2 : Value) (l3 : Value) (l4 : Value) (l5 : Value) (x2 : Nat) (x1 : Int32) (x0 : Nat) (h : zMm) (Q : Option Value → zMm → Prop), zWp d zi_7 none 18 [l0, l1, l2, l3, l4, l5] [.ref x2, .int x1, .ref x0] h Q = zWp d zi_7 none 19 [l0, l1, l2, l3, l4, l5] [.int 0, .ref x2, .int x1, .ref x0] h Q) ∧
    (∀ (d : Nat) (l0 : Value) (l1 : Value) (l2 : Value) (l3 : Value) (l4 : Value) (l5 : Value) (x3 : Int32) (x2 : Nat) (x1 : Int32) (x0 : Nat) (h : zMm) (Q : Option Value → zMm → Prop), zWp d zi_7 none 19 [l0, l1, l2, l3, l4, l5] [.int x3, .ref x2, .int x1, .ref x0] h Q = zWp d zi_7 none 22 [l0, l1, l2, l3, l4, l5] [.int 156, .int x3, .ref x2, .int x1, .ref x0] h Q) ∧
    (∀ (d : Nat) (l0 : Value) (l1 : Value) (l2 : Value) (l3 : Value) (l4 : Value) (l5 : Value) (x4 : Int32) (x3 : Int32) (x2 : Nat) (x1 : Int32) (x0 : Nat) (I : Nat → Nat → Int32) (L : Nat → Nat → Int64) (P : Nat → Nat → Option Nat) (Q : Option Value → zMm → Prop), zAk zSH x0 = some .int → zAk zSH x2 = some .int → 0 ≤ x1 → 0 ≤ x3 → 0 ≤ x4 → x1.toNatClampNeg + x4.toNatClampNeg ≤ zAn zSH x0 → x3.toNatClampNeg + x4.toNatClampNeg ≤ zAn zSH x2 → zWp d zi_7 none 22 [l0, l1, l2, l3, l4, l5] [.int x4, .int x3, .ref x2, .int x1, .ref x0] (zSH, I, L, P) Q = zWp d zi_7 none 25 [l0, l1, l2, l3, l4, l5] [] (zSH, zw I x2 (va_cpy (I x0) (I x2) x1.toNatClampNeg x3.toNatClampNeg x4.toNatClampNeg), L, P) Q) ∧
    (∀ (d : Nat) (l0 : Nat) (l1 : Value) (l2 : Value) (l3 : Value) (l4 : Value) (l5 : Value)  (h : zMm) (Q : Option Value → zMm → Prop), zWp d zi_7 none 25 [.ref l0, l1, l2, l3, l4, l5] [] h Q = zWp d zi_7 none 26 [.ref l0, l1, l2, l3, l4, l5] [.ref l0] h Q) ∧
    (∀ (d : Nat) (l0 : Value) (l1 : Value) (l2 : Value) (l3 : Value) (l4 : Value) (l5 : Value) (x0 : Nat) (h : zMm) (Q : Option Value → zMm → Prop), zWp d zi_7 none 26 [l0, l1, l2, l3, l4, l5] [.ref x0] h Q = zWp d zi_7 none 28 [l0, l1, l2, l3, l4, l5] [.int 39, .ref x0] h Q) ∧
    (∀ (d : Nat) (l0 : Value) (l1 : Value) (l2 : Value) (l3 : Value) (l4 : Value) (l5 : Value) (x1 : Int32) (x0 : Nat) (I : Nat → Nat → Int32) (L : Nat → Nat → Int64) (P : Nat → Nat → Option Nat) (Q : Option Value → zMm → Prop), zSH[x0]? = some (.inl 1) → zWp d zi_7 none 28 [l0, l1, l2, l3, l4, l5] [.int x1, .ref x0] (zSH, I, L, P) Q = zWp d zi_7 none 31 [l0, l1, l2, l3, l4, l5] [] (zSH, zw I x0 (upd (I x0) 1 x1), L, P) Q) ∧
    (∀ (d : Nat) (l0 : Nat) (l1 : Value) (l2 : Value) (l3 : Value) (l4 : Value) (l5 : Value)  (h : zMm) (Q : Option Value → zMm → Prop), zWp d zi_7 none 31 [.ref l0, l1, l2, l3, l4, l5] [] h Q = zWp d zi_7 none 32 [.ref l0, l1, l2, l3, l4, l5] [.ref l0] h Q) ∧
    (∀ (d : Nat) (l0 : Value) (l1 : Value) (l2 : Value) (l3 : Value) (l4 : Value) (l5 : Value) (x0 : Nat) (I : Nat → Nat → Int32) (L : Nat → Nat → Int64) (P : Nat → Nat → Option Nat) (Q : Option Value → zMm → Prop), zSH[x0]? = some (.inl 1) → zWp d zi_7 none 32 [l0, l1, l2, l3, l4, l5] [.ref x0] (zSH, I, L, P) Q = zWp d zi_7 none 35 [l0, l1, l2, l3, l4, l5] [.int (I x0 1)] (zSH, I, L, P) Q) ∧
    (∀ (d : Nat) (l0 : Value) (l1 : Value) (l2 : Value) (l3 : Value) (l4 : Value) (l5 : Value) (x0 : Int32) (h : zMm) (Q : Option Value → zMm → Prop), zWp d zi_7 none 35 [l0, l1, l2, l3, l4, l5] [.int x0] h Q = zWp d zi_7 none 36 [l0, l1, l2, l3, l4, l5] [.int 4, .int x0] h Q) ∧
    (∀ (d : Nat) (l0 : Value) (l1 : Value) (l2 : Value) (l3 : Value) (l4 : Value) (l5 : Value) (x1 : Int32) (x0 : Int32) (h : zMm) (Q : Option Value → zMm → Prop), zWp d zi_7 none 36 [l0, l1, l2, l3, l4, l5] [.int x1, .int x0] h Q = zWp d zi_7 none 37 [l0, l1, l2, l3, l4, l5] [.int (x0 * x1)] h Q) ∧
    (∀ (d : Nat) (l0 : Value) (l1 : Value) (l2 : Value) (l3 : Value) (l4 : Int32) (l5 : Value) (x0 : Int32) (h : zMm) (Q : Option Value → zMm → Prop), zWp d zi_7 none 37 [l0, l1, l2, l3, .int l4, l5] [.int x0] h Q = zWp d zi_7 none 39 [l0, l1, l2, l3, .int l4, .int x0] [] h Q) ∧
    (∀ (d : Nat) (l0 : Nat) (l1 : Value) (l2 : Value) (l3 : Value) (l4 : Value) (l5 : Value)  (h : zMm) (Q : Option Value → zMm → Prop), zWp d zi_7 none 39 [.ref l0, l1, l2, l3, l4, l5] [] h Q = zWp d zi_7 none 40 [.ref l0, l1, l2, l3, l4, l5] [.ref l0] h Q) ∧
    (∀ (d : Nat) (l0 : Value) (l1 : Value) (l2 : Value) (l3 : Value) (l4 : Value) (l5 : Value) (x0 : Nat) (I : Nat → Nat → Int32) (L : Nat → Nat → Int64) (P : Nat → Nat → Option Nat) (Q : Option Value → zMm → Prop), zSH[x0]? = some (.inl 1) → zWp d zi_7 none 40 [l0, l1, l2, l3, l4, l5] [.ref x0] (zSH, I, L, P) Q = zWp d zi_7 none 43 [l0, l1, l2, l3, l4, l5] [va_rf (P x0 0)] (zSH, I, L, P) Q) ∧
    (∀ (d : Nat) (l0 : Value) (l1 : Value) (l2 : Value) (l3 : Value) (l4 : Value) (l5 : Int32) (x0 : Nat) (h : zMm) (Q : Option Value → zMm → Prop), zWp d zi_7 none 43 [l0, l1, l2, l3, l4, .int l5] [.ref x0] h Q = zWp d zi_7 none 45 [l0, l1, l2, l3, l4, .int l5] [.int l5, .ref x0] h Q) ∧
    (∀ (d : Nat) (l0 : Value) (l1 : Int32) (l2 : Value) (l3 : Value) (l4 : Value) (l5 : Value) (x1 : Int32) (x0 : Nat) (h : zMm) (Q : Option Value → zMm → Prop), zWp d zi_7 none 45 [l0, .int l1, l2, l3, l4, l5] [.int x1, .ref x0] h Q = zWp d zi_7 none 46 [l0, .int l1, l2, l3, l4, l5] [.int l1, .int x1, .ref x0] h Q) ∧
    (∀ (d : Nat) (l0 : Value) (l1 : Value) (l2 : Value) (l3 : Value) (l4 : Value) (l5 : Value) (x2 : Int32) (x1 : Int32) (x0 : Nat) (I : Nat → Nat → Int32) (L : Nat → Nat → Int64) (P : Nat → Nat → Option Nat) (Q : Option Value → zMm → Prop), zAk zSH x0 = some .int → zWp d zi_7 none 46 [l0, l1, l2, l3, l4, l5] [.int x2, .int x1, .ref x0] (zSH, I, L, P) Q = (vp_in x1 (zAn zSH x0) ∧ zWp d zi_7 none 47 [l0, l1, l2, l3, l4, l5] [] (zSH, zw I x0 (upd (I x0) x1.toNatClampNeg x2), L, P) Q)) ∧
    (∀ (d : Nat) (l0 : Nat) (l1 : Value) (l2 : Value) (l3 : Value) (l4 : Value) (l5 : Value)  (h : zMm) (Q : Option Value → zMm → Prop), zWp d zi_7 none 47 [.ref l0, l1, l2, l3, l4, l5] [] h Q = zWp d zi_7 none 48 [.ref l0, l1, l2, l3, l4, l5] [.ref l0] h Q) ∧
    (∀ (d : Nat) (l0 : Value) (l1 : Value) (l2 : Value) (l3 : Value) (l4 : Value) (l5 : Value) (x0 : Nat) (I : Nat → Nat → Int32) (L : Nat → Nat → Int64) (P : Nat → Nat → Option Nat) (Q : Option Value → zMm → Prop), zSH[x0]? = some (.inl 1) → zWp d zi_7 none 48 [l0, l1, l2, l3, l4, l5] [.ref x0] (zSH, I, L, P) Q = zWp d zi_7 none 51 [l0, l1, l2, l3, l4, l5] [va_rf (P x0 0)] (zSH, I, L, P) Q) ∧
    (∀ (d : Nat) (l0 : Value) (l1 : Value) (l2 : Value) (l3 : Value) (l4 : Value) (l5 : Int32) (x0 : Nat) (h : zMm) (Q : Option Value → zMm → Prop), zWp d zi_7 none 51 [l0, l1, l2, l3, l4, .int l5] [.ref x0] h Q = zWp d zi_7 none 53 [l0, l1, l2, l3, l4, .int l5] [.int l5, .ref x0] h Q) ∧
    (∀ (d : Nat) (l0 : Value) (l1 : Value) (l2 : Value) (l3 : Value) (l4 : Value) (l5 : Value) (x1 : Int32) (x0 : Nat) (h : zMm) (Q : Option Value → zMm → Prop), zWp d zi_7 none 53 [l0, l1, l2, l3, l4, l5] [.int x1, .ref x0] h Q = zWp d zi_7 none 54 [l0, l1, l2, l3, l4, l5] [.int 1, .int x1, .ref x0] h Q) ∧
    (∀ (d : Nat) (l0 : Value) (l1 : Value) (l2 : Value) (l3 : Value) (l4 : Value) (l5 : Value) (x2 : Int32) (x1 : Int32) (x0 : Nat) (h : zMm) (Q : Option Value → zMm → Prop), zWp d zi_7 none 54 [l0, l1, l2, l3, l4, l5] [.int x2, .int x1, .ref x0] h Q = zWp d zi_7 none 55 [l0, l1, l2, l3, l4, l5] [.int (x1 + x2), .ref x0] h Q) ∧
    (∀ (d : Nat) (l0 : Value) (l1 : Value) (l2 : Int32) (l3 : Value) (l4 : Value) (l5 : Value) (x1 : Int32) (x0 : Nat) (h : zMm) (Q : Option Value → zMm → Prop), zWp d zi_7 none 55 [l0, l1, .int l2, l3, l4, l5] [.int x1, .ref x0] h Q = zWp d zi_7 none 56 [l0, l1, .int l2, l3, l4, l5] [.int l2, .int x1, .ref x0] h Q) ∧
    (∀ (d : Nat) (l0 : Value) (l1 : Value) (l2 : Value) (l3 : Value) (l4 : Value) (l5 : Value) (x2 : Int32) (x1 : Int32) (x0 : Nat) (I : Nat → Nat → Int32) (L : Nat → Nat → Int64) (P : Nat → Nat → Option Nat) (Q : Option Value → zMm → Prop), zAk zSH x0 = some .int → zWp d zi_7 none 56 [l0, l1, l2, l3, l4, l5] [.int x2, .int x1, .ref x0] (zSH, I, L, P) Q = (vp_in x1 (zAn zSH x0) ∧ zWp d zi_7 none 57 [l0, l1, l2, l3, l4, l5] [] (zSH, zw I x0 (upd (I x0) x1.toNatClampNeg x2), L, P) Q)) ∧
    (∀ (d : Nat) (l0 : Nat) (l1 : Value) (l2 : Value) (l3 : Value) (l4 : Value) (l5 : Value)  (h : zMm) (Q : Option Value → zMm → Prop), zWp d zi_7 none 57 [.ref l0, l1, l2, l3, l4, l5] [] h Q = zWp d zi_7 none 58 [.ref l0, l1, l2, l3, l4, l5] [.ref l0] h Q) ∧
    (∀ (d : Nat) (l0 : Value) (l1 : Value) (l2 : Value) (l3 : Value) (l4 : Value) (l5 : Value) (x0 : Nat) (I : Nat → Nat → Int32) (L : Nat → Nat → Int64) (P : Nat → Nat → Option Nat) (Q : Option Value → zMm → Prop), zSH[x0]? = some (.inl 1) → zWp d zi_7 none 58 [l0, l1, l2, l3, l4, l5] [.ref x0] (zSH, I, L, P) Q = zWp d zi_7 none 61 [l0, l1, l2, l3, l4, l5] [va_rf (P x0 0)] (zSH, I, L, P) Q) ∧
    (∀ (d : Nat) (l0 : Value) (l1 : Value) (l2 : Value) (l3 : Value) (l4 : Value) (l5 : Int32) (x0 : Nat) (h : zMm) (Q : Option Value → zMm → Prop), zWp d zi_7 none 61 [l0, l1, l2, l3, l4, .int l5] [.ref x0] h Q = zWp d zi_7 none 63 [l0, l1, l2, l3, l4, .int l5] [.int l5, .ref x0] h Q) ∧
    (∀ (d : Nat) (l0 : Value) (l1 : Value) (l2 : Value) (l3 : Value) (l4 : Value) (l5 : Value) (x1 : Int32) (x0 : Nat) (h : zMm) (Q : Option Value → zMm → Prop), zWp d zi_7 none 63 [l0, l1, l2, l3, l4, l5] [.int x1, .ref x0] h Q = zWp d zi_7 none 64 [l0, l1, l2, l3, l4, l5] [.int 2, .int x1, .ref x0] h Q) ∧
    (∀ (d : Nat) (l0 : Value) (l1 : Value) (l2 : Value) (l3 : Value) (l4 : Value) (l5 : Value) (x2 : Int32) (x1 : Int32) (x0 : Nat) (h : zMm) (Q : Option Value → zMm → Prop), zWp d zi_7 none 64 [l0, l1, l2, l3, l4, l5] [.int x2, .int x1, .ref x0] h Q = zWp d zi_7 none 65 [l0, l1, l2, l3, l4, l5] [.int (x1 + x2), .ref x0] h Q) ∧
    (∀ (d : Nat) (l0 : Value) (l1 : Value) (l2 : Value) (l3 : Int32) (l4 : Value) (l5 : Value) (x1 : Int32) (x0 : Nat) (h : zMm) (Q : Option Value → zMm → Prop), zWp d zi_7 none 65 [l0, l1, l2, .int l3, l4, l5] [.int x1, .ref x0] h Q = zWp d zi_7 none 66 [l0, l1, l2, .int l3, l4, l5] [.int l3, .int x1, .ref x0] h Q) ∧
    (∀ (d : Nat) (l0 : Value) (l1 : Value) (l2 : Value) (l3 : Value) (l4 : Value) (l5 : Value) (x2 : Int32) (x1 : Int32) (x0 : Nat) (I : Nat → Nat → Int32) (L : Nat → Nat → Int64) (P : Nat → Nat → Option Nat) (Q : Option Value → zMm → Prop), zAk zSH x0 = some .int → zWp d zi_7 none 66 [l0, l1, l2, l3, l4, l5] [.int x2, .int x1, .ref x0] (zSH, I, L, P) Q = (vp_in x1 (zAn zSH x0) ∧ zWp d zi_7 none 67 [l0, l1, l2, l3, l4, l5] [] (zSH, zw I x0 (upd (I x0) x1.toNatClampNeg x2), L, P) Q)) ∧
    (∀ (d : Nat) (l0 : Nat) (l1 : Value) (l2 : Value) (l3 : Value) (l4 : Value) (l5 : Value)  (h : zMm) (Q : Option Value → zMm → Prop), zWp d zi_7 none 67 [.ref l0, l1, l2, l3, l4, l5] [] h Q = zWp d zi_7 none 68 [.ref l0, l1, l2, l3, l4, l5] [.ref l0] h Q) ∧
    (∀ (d : Nat) (l0 : Value) (l1 : Value) (l2 : Value) (l3 : Value) (l4 : Value) (l5 : Value) (x0 : Nat) (I : Nat → Nat → Int32) (L : Nat → Nat → Int64) (P : Nat → Nat → Option Nat) (Q : Option Value → zMm → Prop), zSH[x0]? = some (.inl 1) → zWp d zi_7 none 68 [l0, l1, l2, l3, l4, l5] [.ref x0] (zSH, I, L, P) Q = zWp d zi_7 none 71 [l0, l1, l2, l3, l4, l5] [va_rf (P x0 0)] (zSH, I, L, P) Q) ∧
    (∀ (d : Nat) (l0 : Value) (l1 : Value) (l2 : Value) (l3 : Value) (l4 : Value) (l5 : Int32) (x0 : Nat) (h : zMm) (Q : Option Value → zMm → Prop), zWp d zi_7 none 71 [l0, l1, l2, l3, l4, .int l5] [.ref x0] h Q = zWp d zi_7 none 73 [l0, l1, l2, l3, l4, .int l5] [.int l5, .ref x0] h Q) ∧
    (∀ (d : Nat) (l0 : Value) (l1 : Value) (l2 : Value) (l3 : Value) (l4 : Value) (l5 : Value) (x1 : Int32) (x0 : Nat) (h : zMm) (Q : Option Value → zMm → Prop), zWp d zi_7 none 73 [l0, l1, l2, l3, l4, l5] [.int x1, .ref x0] h Q = zWp d zi_7 none 74 [l0, l1, l2, l3, l4, l5] [.int 3, .int x1, .ref x0] h Q) ∧
    (∀ (d : Nat) (l0 : Value) (l1 : Value) (l2 : Value) (l3 : Value) (l4 : Value) (l5 : Value) (x2 : Int32) (x1 : Int32) (x0 : Nat) (h : zMm) (Q : Option Value → zMm → Prop), zWp d zi_7 none 74 [l0, l1, l2, l3, l4, l5] [.int x2, .int x1, .ref x0] h Q = zWp d zi_7 none 75 [l0, l1, l2, l3, l4, l5] [.int (x1 + x2), .ref x0] h Q) ∧
    (∀ (d : Nat) (l0 : Value) (l1 : Value) (l2 : Value) (l3 : Value) (l4 : Int32) (l5 : Value) (x1 : Int32) (x0 : Nat) (h : zMm) (Q : Option Value → zMm → Prop), zWp d zi_7 none 75 [l0, l1, l2, l3, .int l4, l5] [.int x1, .ref x0] h Q = zWp d zi_7 none 77 [l0, l1, l2, l3, .int l4, l5] [.int l4, .int x1, .ref x0] h Q) ∧
    (∀ (d : Nat) (l0 : Value) (l1 : Value) (l2 : Value) (l3 : Value) (l4 : Value) (l5 : Value) (x2 : Int32) (x1 : Int32) (x0 : Nat) (I : Nat → Nat → Int32) (L : Nat → Nat → Int64) (P : Nat → Nat → Option Nat) (Q : Option Value → zMm → Prop), zAk zSH x0 = some .int → zWp d zi_7 none 77 [l0, l1, l2, l3, l4, l5] [.int x2, .int x1, .ref x0] (zSH, I, L, P) Q = (vp_in x1 (zAn zSH x0) ∧ zWp d zi_7 none 78 [l0, l1, l2, l3, l4, l5] [] (zSH, zw I x0 (upd (I x0) x1.toNatClampNeg x2), L, P) Q)) ∧
    (∀ (d : Nat) (l0 : Nat) (l1 : Value) (l2 : Value) (l3 : Value) (l4 : Value) (l5 : Value)  (h : zMm) (Q : Option Value → zMm → Prop), zWp d zi_7 none 78 [.ref l0, l1, l2, l3, l4, l5] [] h Q = zWp d zi_7 none 79 [.ref l0, l1, l2, l3, l4, l5] [.ref l0] h Q) ∧
    (∀ (d : Nat) (l0 : Value) (l1 : Value) (l2 : Value) (l3 : Value) (l4 : Value) (l5 : Value) (x0 : Nat) (h : zMm) (Q : Option Value → zMm → Prop), zWp d zi_7 none 79 [l0, l1, l2, l3, l4, l5] [.ref x0] h Q = zWp d zi_7 none 80 [l0, l1, l2, l3, l4, l5] [.ref x0, .ref x0] h Q) ∧
    (∀ (d : Nat) (l0 : Value) (l1 : Value) (l2 : Value) (l3 : Value) (l4 : Value) (l5 : Value) (x1 : Nat) (x0 : Nat) (I : Nat → Nat → Int32) (L : Nat → Nat → Int64) (P : Nat → Nat → Option Nat) (Q : Option Value → zMm → Prop), zSH[x1]? = some (.inl 1) → zWp d zi_7 none 80 [l0, l1, l2, l3, l4, l5] [.ref x1, .ref x0] (zSH, I, L, P) Q = zWp d zi_7 none 83 [l0, l1, l2, l3, l4, l5] [.int (I x1 1), .ref x0] (zSH, I, L, P) Q) ∧
    (∀ (d : Nat) (l0 : Value) (l1 : Value) (l2 : Value) (l3 : Value) (l4 : Value) (l5 : Value) (x1 : Int32) (x0 : Nat) (h : zMm) (Q : Option Value → zMm → Prop), zWp d zi_7 none 83 [l0, l1, l2, l3, l4, l5] [.int x1, .ref x0] h Q = zWp d zi_7 none 84 [l0, l1, l2, l3, l4, l5] [.int 1, .int x1, .ref x0] h Q) ∧
    (∀ (d : Nat) (l0 : Value) (l1 : Value) (l2 : Value) (l3 : Value) (l4 : Value) (l5 : Value) (x2 : Int32) (x1 : Int32) (x0 : Nat) (h : zMm) (Q : Option Value → zMm → Prop), zWp d zi_7 none 84 [l0, l1, l2, l3, l4, l5] [.int x2, .int x1, .ref x0] h Q = zWp d zi_7 none 85 [l0, l1, l2, l3, l4, l5] [.int (x1 + x2), .ref x0] h Q) ∧
    (∀ (d : Nat) (l0 : Value) (l1 : Value) (l2 : Value) (l3 : Value) (l4 : Value) (l5 : Value) (x1 : Int32) (x0 : Nat) (I : Nat → Nat → Int32) (L : Nat → Nat → Int64) (P : Nat → Nat → Option Nat) (Q : Option Value → zMm → Prop), zSH[x0]? = some (.inl 1) → zWp d zi_7 none 85 [l0, l1, l2, l3, l4, l5] [.int x1, .ref x0] (zSH, I, L, P) Q = zWp d zi_7 none 88 [l0, l1, l2, l3, l4, l5] [] (zSH, zw I x0 (upd (I x0) 1 x1), L, P) Q) ∧
    (∀ (d : Nat) (l0 : Nat) (l1 : Value) (l2 : Value) (l3 : Value) (l4 : Value) (l5 : Value)  (h : zMm) (Q : Option Value → zMm → Prop), zWp d zi_7 none 88 [.ref l0, l1, l2, l3, l4, l5] [] h Q = zWp d zi_7 none 89 [.ref l0, l1, l2, l3, l4, l5] [.ref l0] h Q) ∧
    (∀ (d : Nat) (l0 : Nat) (l1 : Value) (l2 : Value) (l3 : Value) (l4 : Value) (l5 : Value) (x0 : Nat) (h : zMm) (Q : Option Value → zMm → Prop), zWp d zi_7 none 89 [.ref l0, l1, l2, l3, l4, l5] [.ref x0] h Q = zWp d zi_7 none 90 [.ref l0, l1, l2, l3, l4, l5] [.ref l0, .ref x0] h Q) ∧
    (∀ (d : Nat) (l0 : Value) (l1 : Value) (l2 : Value) (l3 : Value) (l4 : Value) (l5 : Value) (x1 : Nat) (x0 : Nat) (I : Nat → Nat → Int32) (L : Nat → Nat → Int64) (P : Nat → Nat → Option Nat) (Q : Option Value → zMm → Prop), zSH[x1]? = some (.inl 1) → zWp d zi_7 none 90 [l0, l1, l2, l3, l4, l5] [.ref x1, .ref x0] (zSH, I, L, P) Q = zWp d zi_7 none 93 [l0, l1, l2, l3, l4, l5] [.int (I x1 1), .ref x0] (zSH, I, L, P) Q) ∧
    (∀ (d : Nat) (l0 : Value) (l1 : Value) (l2 : Value) (l3 : Value) (l4 : Value) (l5 : Value) (x1 : Int32) (x0 : Nat) (I : Nat → Nat → Int32) (L : Nat → Nat → Int64) (P : Nat → Nat → Option Nat) (Q : Option Value → zMm → Prop), zSH[x0]? = some (.inl 1) → zWp d zi_7 none 93 [l0, l1, l2, l3, l4, l5] [.int x1, .ref x0] (zSH, I, L, P) Q = zWp d zi_7 none 96 [l0, l1, l2, l3, l4, l5] [] (zSH, zw I x0 (upd (I x0) 2 x1), L, P) Q) ∧
    (∀ (d : Nat) (l0 : Value) (l1 : Value) (l2 : Value) (l3 : Value) (l4 : Value) (l5 : Value)  (h : zMm) (Q : Option Value → zMm → Prop), zWp d zi_7 none 96 [l0, l1, l2, l3, l4, l5] [] h Q = Q none h) :=
  ⟨(fun d l0 l1 l2 l3 l4 l5  h Q => zr_aload_n rfl rfl),
   (fun d l0 l1 l2 l3 l4 l5 x0 I L P Q p0 => zr_getI rfl lf_1_13 (fun _ _ _ => rfl) p0),
   (fun d l0 l1 l2 l3 l4 l5 x0 h Q => zr_bipush rfl (by decide)),
   (fun d l0 l1 l2 l3 l4 l5 x1 x0 h Q => zr_ic_lt rfl (by decide)),
   (fun d l0 l1 l2 l3 l4 l5  h Q => zr_aload_n rfl rfl),
   (fun d l0 l1 l2 l3 l4 l5 x0 I L P Q p0 => zr_getQ rfl lf_1_9 (fun _ _ _ => rfl) p0),
   (fun d l0 l1 l2 l3 l4 l5 x0 h Q => zr_iconst rfl (by decide)),
   (fun d l0 l1 l2 l3 l4 l5 x1 x0 h Q => zr_aload_n rfl rfl),
   (fun d l0 l1 l2 l3 l4 l5 x2 x1 x0 I L P Q p0 => zr_getQ rfl lf_1_9 (fun _ _ _ => rfl) p0),
   (fun d l0 l1 l2 l3 l4 l5 x2 x1 x0 h Q => zr_iconst rfl (by decide)),
   (fun d l0 l1 l2 l3 l4 l5 x3 x2 x1 x0 h Q => zr_sipush rfl (by decide)),
   (fun d l0 l1 l2 l3 l4 l5 x4 x3 x2 x1 x0 I L P Q p0 p1 p2 p3 p4 p5 p6 => zr_cpyI rfl lm_1_17 (Nat.le_of_ble_eq_true rfl) p0 p1 p2 p3 p4 p5 p6),
   (fun d l0 l1 l2 l3 l4 l5  h Q => zr_aload_n rfl rfl),
   (fun d l0 l1 l2 l3 l4 l5 x0 h Q => zr_bipush rfl (by decide)),
   (fun d l0 l1 l2 l3 l4 l5 x1 x0 I L P Q p0 => zr_putI rfl lf_1_13 (by decide) rfl p0),
   (fun d l0 l1 l2 l3 l4 l5  h Q => zr_aload_n rfl rfl),
   (fun d l0 l1 l2 l3 l4 l5 x0 I L P Q p0 => zr_getI rfl lf_1_13 (fun _ _ _ => rfl) p0),
   (fun d l0 l1 l2 l3 l4 l5 x0 h Q => zr_iconst rfl (by decide)),
   (fun d l0 l1 l2 l3 l4 l5 x1 x0 h Q => zr_imul rfl),
   (fun d l0 l1 l2 l3 l4 l5 x0 h Q => zr_istore (n := 5) rfl (Nat.le_of_ble_eq_true rfl) rfl),
   (fun d l0 l1 l2 l3 l4 l5  h Q => zr_aload_n rfl rfl),
   (fun d l0 l1 l2 l3 l4 l5 x0 I L P Q p0 => zr_getQ rfl lf_1_9 (fun _ _ _ => rfl) p0),
   (fun d l0 l1 l2 l3 l4 l5 x0 h Q => zr_iload rfl rfl),
   (fun d l0 l1 l2 l3 l4 l5 x1 x0 h Q => zr_iload_n rfl rfl),
   (fun d l0 l1 l2 l3 l4 l5 x2 x1 x0 I L P Q p0 => zr_ast rfl p0),
   (fun d l0 l1 l2 l3 l4 l5  h Q => zr_aload_n rfl rfl),
   (fun d l0 l1 l2 l3 l4 l5 x0 I L P Q p0 => zr_getQ rfl lf_1_9 (fun _ _ _ => rfl) p0),
   (fun d l0 l1 l2 l3 l4 l5 x0 h Q => zr_iload rfl rfl),
   (fun d l0 l1 l2 l3 l4 l5 x1 x0 h Q => zr_iconst rfl (by decide)),
   (fun d l0 l1 l2 l3 l4 l5 x2 x1 x0 h Q => zr_iadd rfl),
   (fun d l0 l1 l2 l3 l4 l5 x1 x0 h Q => zr_iload_n rfl rfl),
   (fun d l0 l1 l2 l3 l4 l5 x2 x1 x0 I L P Q p0 => zr_ast rfl p0),
   (fun d l0 l1 l2 l3 l4 l5  h Q => zr_aload_n rfl rfl),
   (fun d l0 l1 l2 l3 l4 l5 x0 I L P Q p0 => zr_getQ rfl lf_1_9 (fun _ _ _ => rfl) p0),
   (fun d l0 l1 l2 l3 l4 l5 x0 h Q => zr_iload rfl rfl),
   (fun d l0 l1 l2 l3 l4 l5 x1 x0 h Q => zr_iconst rfl (by decide)),
   (fun d l0 l1 l2 l3 l4 l5 x2 x1 x0 h Q => zr_iadd rfl),
   (fun d l0 l1 l2 l3 l4 l5 x1 x0 h Q => zr_iload_n rfl rfl),
   (fun d l0 l1 l2 l3 l4 l5 x2 x1 x0 I L P Q p0 => zr_ast rfl p0),
   (fun d l0 l1 l2 l3 l4 l5  h Q => zr_aload_n rfl rfl),
   (fun d l0 l1 l2 l3 l4 l5 x0 I L P Q p0 => zr_getQ rfl lf_1_9 (fun _ _ _ => rfl) p0),
   (fun d l0 l1 l2 l3 l4 l5 x0 h Q => zr_iload rfl rfl),
   (fun d l0 l1 l2 l3 l4 l5 x1 x0 h Q => zr_iconst rfl (by decide)),
   (fun d l0 l1 l2 l3 l4 l5 x2 x1 x0 h Q => zr_iadd rfl),
   (fun d l0 l1 l2 l3 l4 l5 x1 x0 h Q => zr_iload rfl rfl),
   (fun d l0 l1 l2 l3 l4 l5 x2 x1 x0 I L P Q p0 => zr_ast rfl p0),
   (fun d l0 l1 l2 l3 l4 l5  h Q => zr_aload_n rfl rfl),
   (fun d l0 l1 l2 l3 l4 l5 x0 h Q => zr_dup rfl rfl),
   (fun d l0 l1 l2 l3 l4 l5 x1 x0 I L P Q p0 => zr_getI rfl lf_1_13 (fun _ _ _ => rfl) p0),
   (fun d l0 l1 l2 l3 l4 l5 x1 x0 h Q => zr_iconst rfl (by decide)),
   (fun d l0 l1 l2 l3 l4 l5 x2 x1 x0 h Q => zr_iadd rfl),
   (fun d l0 l1 l2 l3 l4 l5 x1 x0 I L P Q p0 => zr_putI rfl lf_1_13 (by decide) rfl p0),
   (fun d l0 l1 l2 l3 l4 l5  h Q => zr_aload_n rfl rfl),
   (fun d l0 l1 l2 l3 l4 l5 x0 h Q => zr_aload_n rfl rfl),
   (fun d l0 l1 l2 l3 l4 l5 x1 x0 I L P Q p0 => zr_getI rfl lf_1_13 (fun _ _ _ => rfl) p0),
   (fun d l0 l1 l2 l3 l4 l5 x1 x0 I L P Q p0 => zr_putI rfl lf_1_23 (by decide) rfl p0),
   (fun d l0 l1 l2 l3 l4 l5  h Q => zr_vret rfl rfl)⟩
theorem E_X1_number : ∀ (d : Nat) (a0 : Nat) (a1 : Int32) (h : zMm) (Q : Option Value → zMm → Prop), zWM (d + 1) 8 [.ref a0, .int a1] h Q = zWp d zi_8 none 0 [.ref a0, .int a1] [] h Q := fun d a0 a1 h Q => zW_M m_8 (Nat.le_of_ble_eq_true rfl) rfl
set_option maxRecDepth 100000 in
theorem R_X1_number :
    (∀ (d : Nat) (l0 : Nat) (l1 : Value)  (h : zMm) (Q : Option Value → zMm → Prop), zWp d zi_8 none 0 [.ref l0, l1] [] h Q = zWp d zi_8 none 1 [.ref l0, l1] [.ref l0] h Q) ∧
    (∀ (d : Nat) (l0 : Value) (l1 : Value) (x0 : Nat) (I : Nat → Nat → Int32) (L : Nat → Nat → Int64) (P : Nat → Nat → Option Nat) (Q : Option Value → zMm → Prop), zSH[x0]? = some (.inl 1) → zWp d zi_8 none 1 [l0, l1] [.ref x0] (zSH, I, L, P) Q = zWp d zi_8 none 4 [l0, l1] [va_rf (P x0 0)] (zSH, I, L, P) Q) ∧
    (∀ (d : Nat) (l0 : Value) (l1 : Int32) (x0 : Nat) (h : zMm) (Q : Option Value → zMm → Prop), zWp d zi_8 none 4 [l0, .int l1] [.ref x0] h Q = zWp d zi_8 none 5 [l0, .int l1] [.int l1, .ref x0] h Q) ∧
    (∀ (d : Nat) (l0 : Value) (l1 : Value) (x1 : Int32) (x0 : Nat) (h : zMm) (Q : Option Value → zMm → Prop), zWp d zi_8 none 5 [l0, l1] [.int x1, .ref x0] h Q = zWp d zi_8 none 6 [l0, l1] [.int 4, .int x1, .ref x0] h Q) ∧
    (∀ (d : Nat) (l0 : Value) (l1 : Value) (x2 : Int32) (x1 : Int32) (x0 : Nat) (h : zMm) (Q : Option Value → zMm → Prop), zWp d zi_8 none 6 [l0, l1] [.int x2, .int x1, .ref x0] h Q = zWp d zi_8 none 7 [l0, l1] [.int (x1 * x2), .ref x0] h Q) ∧
    (∀ (d : Nat) (l0 : Value) (l1 : Value) (x1 : Int32) (x0 : Nat) (I : Nat → Nat → Int32) (L : Nat → Nat → Int64) (P : Nat → Nat → Option Nat) (Q : Option Value → zMm → Prop), zAk zSH x0 = some .int → zWp d zi_8 none 7 [l0, l1] [.int x1, .ref x0] (zSH, I, L, P) Q = (vp_in x1 (zAn zSH x0) ∧ zWp d zi_8 none 8 [l0, l1] [.int (I x0 x1.toNatClampNeg)] (zSH, I, L, P) Q)) ∧
    (∀ (d : Nat) (l0 : Value) (l1 : Value) (x0 : Int32) (h : zMm) (Q : Option Value → zMm → Prop), zWp d zi_8 none 8 [l0, l1] [.int x0] h Q = Q (some (.int x0)) h) :=
  ⟨(fun d l0 l1  h Q => zr_aload_n rfl rfl),
   (fun d l0 l1 x0 I L P Q p0 => zr_getQ rfl lf_1_9 (fun _ _ _ => rfl) p0),
   (fun d l0 l1 x0 h Q => zr_iload_n rfl rfl),
   (fun d l0 l1 x1 x0 h Q => zr_iconst rfl (by decide)),
   (fun d l0 l1 x2 x1 x0 h Q => zr_imul rfl),
   (fun d l0 l1 x1 x0 I L P Q p0 => zr_ald rfl p0),
   (fun d l0 l1 x0 h Q => zr_iret rfl rfl)⟩
theorem E_X1_what : ∀ (d : Nat) (a0 : Nat) (a1 : Int32) (h : zMm) (Q : Option Value → zMm → Prop), zWM (d + 1) 9 [.ref a0, .int a1] h Q = zWp d zi_9 none 0 [.ref a0, .int a1] [] h Q := fun d a0 a1 h Q => zW_M m_9 (Nat.le_of_ble_eq_true rfl) rfl
set_option maxRecDepth 100000 in
theorem R_X1_what :
    (∀ (d : Nat) (l0 : Nat) (l1 : Value)  (h : zMm) (Q : Option Value → zMm → Prop), zWp d zi_9 none 0 [.ref l0, l1] [] h Q = zWp d zi_9 none 1 [.ref l0, l1] [.ref l0] h Q) ∧
    (∀ (d : Nat) (l0 : Value) (l1 : Value) (x0 : Nat) (I : Nat → Nat → Int32) (L : Nat → Nat → Int64) (P : Nat → Nat → Option Nat) (Q : Option Value → zMm → Prop), zSH[x0]? = some (.inl 1) → zWp d zi_9 none 1 [l0, l1] [.ref x0] (zSH, I, L, P) Q = zWp d zi_9 none 4 [l0, l1] [va_rf (P x0 0)] (zSH, I, L, P) Q) ∧
    (∀ (d : Nat) (l0 : Value) (l1 : Int32) (x0 : Nat) (h : zMm) (Q : Option Value → zMm → Prop), zWp d zi_9 none 4 [l0, .int l1] [.ref x0] h Q = zWp d zi_9 none 5 [l0, .int l1] [.int l1, .ref x0] h Q) ∧
    (∀ (d : Nat) (l0 : Value) (l1 : Value) (x1 : Int32) (x0 : Nat) (h : zMm) (Q : Option Value → zMm → Prop), zWp d zi_9 none 5 [l0, l1] [.int x1, .ref x0] h Q = zWp d zi_9 none 6 [l0, l1] [.int 4, .int x1, .ref x0] h Q) ∧
    (∀ (d : Nat) (l0 : Value) (l1 : Value) (x2 : Int32) (x1 : Int32) (x0 : Nat) (h : zMm) (Q : Option Value → zMm → Prop), zWp d zi_9 none 6 [l0, l1] [.int x2, .int x1, .ref x0] h Q = zWp d zi_9 none 7 [l0, l1] [.int (x1 * x2), .ref x0] h Q) ∧
    (∀ (d : Nat) (l0 : Value) (l1 : Value) (x1 : Int32) (x0 : Nat) (h : zMm) (Q : Option Value → zMm → Prop), zWp d zi_9 none 7 [l0, l1] [.int x1, .ref x0] h Q = zWp d zi_9 none 8 [l0, l1] [.int 1, .int x1, .ref x0] h Q) ∧
    (∀ (d : Nat) (l0 : Value) (l1 : Value) (x2 : Int32) (x1 : Int32) (x0 : Nat) (h : zMm) (Q : Option Value → zMm → Prop), zWp d zi_9 none 8 [l0, l1] [.int x2, .int x1, .ref x0] h Q = zWp d zi_9 none 9 [l0, l1] [.int (x1 + x2), .ref x0] h Q) ∧
    (∀ (d : Nat) (l0 : Value) (l1 : Value) (x1 : Int32) (x0 : Nat) (I : Nat → Nat → Int32) (L : Nat → Nat → Int64) (P : Nat → Nat → Option Nat) (Q : Option Value → zMm → Prop), zAk zSH x0 = some .int → zWp d zi_9 none 9 [l0, l1] [.int x1, .ref x0] (zSH, I, L, P) Q = (vp_in x1 (zAn zSH x0) ∧ zWp d zi_9 none 10 [l0, l1] [.int (I x0 x1.toNatClampNeg)] (zSH, I, L, P) Q)) ∧
    (∀ (d : Nat) (l0 : Value) (l1 : Value) (x0 : Int32) (h : zMm) (Q : Option Value → zMm → Prop), zWp d zi_9 none 10 [l0, l1] [.int x0] h Q = Q (some (.int x0)) h) :=
  ⟨(fun d l0 l1  h Q => zr_aload_n rfl rfl),
   (fun d l0 l1 x0 I L P Q p0 => zr_getQ rfl lf_1_9 (fun _ _ _ => rfl) p0),
   (fun d l0 l1 x0 h Q => zr_iload_n rfl rfl),
   (fun d l0 l1 x1 x0 h Q => zr_iconst rfl (by decide)),
   (fun d l0 l1 x2 x1 x0 h Q => zr_imul rfl),
   (fun d l0 l1 x1 x0 h Q => zr_iconst rfl (by decide)),
   (fun d l0 l1 x2 x1 x0 h Q => zr_iadd rfl),
   (fun d l0 l1 x1 x0 I L P Q p0 => zr_ald rfl p0),
   (fun d l0 l1 x0 h Q => zr_iret rfl rfl)⟩
theorem E_X1_before : ∀ (d : Nat) (a0 : Nat) (a1 : Int32) (h : zMm) (Q : Option Value → zMm → Prop), zWM (d + 1) 10 [.ref a0, .int a1] h Q = zWp d zi_10 none 0 [.ref a0, .int a1] [] h Q := fun d a0 a1 h Q => zW_M m_10 (Nat.le_of_ble_eq_true rfl) rfl
set_option maxRecDepth 100000 in
theorem R_X1_before :
    (∀ (d : Nat) (l0 : Nat) (l1 : Value)  (h : zMm) (Q : Option Value → zMm → Prop), zWp d zi_10 none 0 [.ref l0, l1] [] h Q = zWp d zi_10 none 1 [.ref l0, l1] [.ref l0] h Q) ∧
    (∀ (d : Nat) (l0 : Value) (l1 : Value) (x0 : Nat) (I : Nat → Nat → Int32) (L : Nat → Nat → Int64) (P : Nat → Nat → Option Nat) (Q : Option Value → zMm → Prop), zSH[x0]? = some (.inl 1) → zWp d zi_10 none 1 [l0, l1] [.ref x0] (zSH, I, L, P) Q = zWp d zi_10 none 4 [l0, l1] [va_rf (P x0 0)] (zSH, I, L, P) Q) ∧
    (∀ (d : Nat) (l0 : Value) (l1 : Int32) (x0 : Nat) (h : zMm) (Q : Option Value → zMm → Prop), zWp d zi_10 none 4 [l0, .int l1] [.ref x0] h Q = zWp d zi_10 none 5 [l0, .int l1] [.int l1, .ref x0] h Q) ∧
    (∀ (d : Nat) (l0 : Value) (l1 : Value) (x1 : Int32) (x0 : Nat) (h : zMm) (Q : Option Value → zMm → Prop), zWp d zi_10 none 5 [l0, l1] [.int x1, .ref x0] h Q = zWp d zi_10 none 6 [l0, l1] [.int 4, .int x1, .ref x0] h Q) ∧
    (∀ (d : Nat) (l0 : Value) (l1 : Value) (x2 : Int32) (x1 : Int32) (x0 : Nat) (h : zMm) (Q : Option Value → zMm → Prop), zWp d zi_10 none 6 [l0, l1] [.int x2, .int x1, .ref x0] h Q = zWp d zi_10 none 7 [l0, l1] [.int (x1 * x2), .ref x0] h Q) ∧
    (∀ (d : Nat) (l0 : Value) (l1 : Value) (x1 : Int32) (x0 : Nat) (h : zMm) (Q : Option Value → zMm → Prop), zWp d zi_10 none 7 [l0, l1] [.int x1, .ref x0] h Q = zWp d zi_10 none 8 [l0, l1] [.int 2, .int x1, .ref x0] h Q) ∧
    (∀ (d : Nat) (l0 : Value) (l1 : Value) (x2 : Int32) (x1 : Int32) (x0 : Nat) (h : zMm) (Q : Option Value → zMm → Prop), zWp d zi_10 none 8 [l0, l1] [.int x2, .int x1, .ref x0] h Q = zWp d zi_10 none 9 [l0, l1] [.int (x1 + x2), .ref x0] h Q) ∧
    (∀ (d : Nat) (l0 : Value) (l1 : Value) (x1 : Int32) (x0 : Nat) (I : Nat → Nat → Int32) (L : Nat → Nat → Int64) (P : Nat → Nat → Option Nat) (Q : Option Value → zMm → Prop), zAk zSH x0 = some .int → zWp d zi_10 none 9 [l0, l1] [.int x1, .ref x0] (zSH, I, L, P) Q = (vp_in x1 (zAn zSH x0) ∧ zWp d zi_10 none 10 [l0, l1] [.int (I x0 x1.toNatClampNeg)] (zSH, I, L, P) Q)) ∧
    (∀ (d : Nat) (l0 : Value) (l1 : Value) (x0 : Int32) (h : zMm) (Q : Option Value → zMm → Prop), zWp d zi_10 none 10 [l0, l1] [.int x0] h Q = Q (some (.int x0)) h) :=
  ⟨(fun d l0 l1  h Q => zr_aload_n rfl rfl),
   (fun d l0 l1 x0 I L P Q p0 => zr_getQ rfl lf_1_9 (fun _ _ _ => rfl) p0),
   (fun d l0 l1 x0 h Q => zr_iload_n rfl rfl),
   (fun d l0 l1 x1 x0 h Q => zr_iconst rfl (by decide)),
   (fun d l0 l1 x2 x1 x0 h Q => zr_imul rfl),
   (fun d l0 l1 x1 x0 h Q => zr_iconst rfl (by decide)),
   (fun d l0 l1 x2 x1 x0 h Q => zr_iadd rfl),
   (fun d l0 l1 x1 x0 I L P Q p0 => zr_ald rfl p0),
   (fun d l0 l1 x0 h Q => zr_iret rfl rfl)⟩
theorem E_X1_after : ∀ (d : Nat) (a0 : Nat) (a1 : Int32) (h : zMm) (Q : Option Value → zMm → Prop), zWM (d + 1) 11 [.ref a0, .int a1] h Q = zWp d zi_11 none 0 [.ref a0, .int a1] [] h Q := fun d a0 a1 h Q => zW_M m_11 (Nat.le_of_ble_eq_true rfl) rfl
set_option maxRecDepth 100000 in
theorem R_X1_after :
    (∀ (d : Nat) (l0 : Nat) (l1 : Value)  (h : zMm) (Q : Option Value → zMm → Prop), zWp d zi_11 none 0 [.ref l0, l1] [] h Q = zWp d zi_11 none 1 [.ref l0, l1] [.ref l0] h Q) ∧
    (∀ (d : Nat) (l0 : Value) (l1 : Value) (x0 : Nat) (I : Nat → Nat → Int32) (L : Nat → Nat → Int64) (P : Nat → Nat → Option Nat) (Q : Option Value → zMm → Prop), zSH[x0]? = some (.inl 1) → zWp d zi_11 none 1 [l0, l1] [.ref x0] (zSH, I, L, P) Q = zWp d zi_11 none 4 [l0, l1] [va_rf (P x0 0)] (zSH, I, L, P) Q) ∧
    (∀ (d : Nat) (l0 : Value) (l1 : Int32) (x0 : Nat) (h : zMm) (Q : Option Value → zMm → Prop), zWp d zi_11 none 4 [l0, .int l1] [.ref x0] h Q = zWp d zi_11 none 5 [l0, .int l1] [.int l1, .ref x0] h Q) ∧
    (∀ (d : Nat) (l0 : Value) (l1 : Value) (x1 : Int32) (x0 : Nat) (h : zMm) (Q : Option Value → zMm → Prop), zWp d zi_11 none 5 [l0, l1] [.int x1, .ref x0] h Q = zWp d zi_11 none 6 [l0, l1] [.int 4, .int x1, .ref x0] h Q) ∧
    (∀ (d : Nat) (l0 : Value) (l1 : Value) (x2 : Int32) (x1 : Int32) (x0 : Nat) (h : zMm) (Q : Option Value → zMm → Prop), zWp d zi_11 none 6 [l0, l1] [.int x2, .int x1, .ref x0] h Q = zWp d zi_11 none 7 [l0, l1] [.int (x1 * x2), .ref x0] h Q) ∧
    (∀ (d : Nat) (l0 : Value) (l1 : Value) (x1 : Int32) (x0 : Nat) (h : zMm) (Q : Option Value → zMm → Prop), zWp d zi_11 none 7 [l0, l1] [.int x1, .ref x0] h Q = zWp d zi_11 none 8 [l0, l1] [.int 3, .int x1, .ref x0] h Q) ∧
    (∀ (d : Nat) (l0 : Value) (l1 : Value) (x2 : Int32) (x1 : Int32) (x0 : Nat) (h : zMm) (Q : Option Value → zMm → Prop), zWp d zi_11 none 8 [l0, l1] [.int x2, .int x1, .ref x0] h Q = zWp d zi_11 none 9 [l0, l1] [.int (x1 + x2), .ref x0] h Q) ∧
    (∀ (d : Nat) (l0 : Value) (l1 : Value) (x1 : Int32) (x0 : Nat) (I : Nat → Nat → Int32) (L : Nat → Nat → Int64) (P : Nat → Nat → Option Nat) (Q : Option Value → zMm → Prop), zAk zSH x0 = some .int → zWp d zi_11 none 9 [l0, l1] [.int x1, .ref x0] (zSH, I, L, P) Q = (vp_in x1 (zAn zSH x0) ∧ zWp d zi_11 none 10 [l0, l1] [.int (I x0 x1.toNatClampNeg)] (zSH, I, L, P) Q)) ∧
    (∀ (d : Nat) (l0 : Value) (l1 : Value) (x0 : Int32) (h : zMm) (Q : Option Value → zMm → Prop), zWp d zi_11 none 10 [l0, l1] [.int x0] h Q = Q (some (.int x0)) h) :=
  ⟨(fun d l0 l1  h Q => zr_aload_n rfl rfl),
   (fun d l0 l1 x0 I L P Q p0 => zr_getQ rfl lf_1_9 (fun _ _ _ => rfl) p0),
   (fun d l0 l1 x0 h Q => zr_iload_n rfl rfl),
   (fun d l0 l1 x1 x0 h Q => zr_iconst rfl (by decide)),
   (fun d l0 l1 x2 x1 x0 h Q => zr_imul rfl),
   (fun d l0 l1 x1 x0 h Q => zr_iconst rfl (by decide)),
   (fun d l0 l1 x2 x1 x0 h Q => zr_iadd rfl),
   (fun d l0 l1 x1 x0 I L P Q p0 => zr_ald rfl p0),
   (fun d l0 l1 x0 h Q => zr_iret rfl rfl)⟩
theorem E_X2_isMinute : ∀ (d : Nat) (a0 : Int32) (h : zMm) (Q : Option Value → zMm → Prop), zWM (d + 1) 13 [.int a0] h Q = zWp d zi_13 none 0 [.int a0] [] h Q := fun d a0 h Q => zW_M m_13 (Nat.le_of_ble_eq_true rfl) rfl
set_option maxRecDepth 100000 in
theorem R_X2_isMinute :
    (∀ (d : Nat) (l0 : Int32)  (h : zMm) (Q : Option Value → zMm → Prop), zWp d zi_13 none 0 [.int l0] [] h Q = zWp d zi_13 none 1 [.int l0] [.int l0] h Q) ∧
    (∀ (d : Nat) (l0 : Value) (x0 : Int32) (h : zMm) (Q : Option Value → zMm → Prop), zWp d zi_13 none 1 [l0] [.int x0] h Q = if x0 < 0 then zWp d zi_13 none 14 [l0] [] h Q else zWp d zi_13 none 4 [l0] [] h Q) ∧
    (∀ (d : Nat) (l0 : Int32)  (h : zMm) (Q : Option Value → zMm → Prop), zWp d zi_13 none 4 [.int l0] [] h Q = zWp d zi_13 none 5 [.int l0] [.int l0] h Q) ∧
    (∀ (d : Nat) (l0 : Value) (x0 : Int32) (h : zMm) (Q : Option Value → zMm → Prop), zWp d zi_13 none 5 [l0] [.int x0] h Q = zWp d zi_13 none 7 [l0] [.int 61, .int x0] h Q) ∧
    (∀ (d : Nat) (l0 : Value) (x1 : Int32) (x0 : Int32) (h : zMm) (Q : Option Value → zMm → Prop), zWp d zi_13 none 7 [l0] [.int x1, .int x0] h Q = if x1 ≤ x0 then zWp d zi_13 none 14 [l0] [] h Q else zWp d zi_13 none 10 [l0] [] h Q) ∧
    (∀ (d : Nat) (l0 : Value)  (h : zMm) (Q : Option Value → zMm → Prop), zWp d zi_13 none 10 [l0] [] h Q = zWp d zi_13 none 11 [l0] [.int 1] h Q) ∧
    (∀ (d : Nat) (l0 : Value) (x0 : Int32) (h : zMm) (Q : Option Value → zMm → Prop), zWp d zi_13 none 11 [l0] [.int x0] h Q = zWp d zi_13 none 15 [l0] [.int x0] h Q) ∧
    (∀ (d : Nat) (l0 : Value)  (h : zMm) (Q : Option Value → zMm → Prop), zWp d zi_13 none 14 [l0] [] h Q = zWp d zi_13 none 15 [l0] [.int 0] h Q) ∧
    (∀ (d : Nat) (l0 : Value) (x0 : Int32) (h : zMm) (Q : Option Value → zMm → Prop), x0 = 0 ∨ x0 = 1 → zWp d zi_13 none 15 [l0] [.int x0] h Q = Q (some (.int x0)) h) :=
  ⟨(fun d l0  h Q => zr_iload_n rfl rfl),
   (fun d l0 x0 h Q => zr_if_lt rfl (by decide)),
   (fun d l0  h Q => zr_iload_n rfl rfl),
   (fun d l0 x0 h Q => zr_bipush rfl (by decide)),
   (fun d l0 x1 x0 h Q => zr_ic_ge rfl (by decide)),
   (fun d l0  h Q => zr_iconst rfl (by decide)),
   (fun d l0 x0 h Q => zr_goto rfl (by decide)),
   (fun d l0  h Q => zr_iconst rfl (by decide)),
   (fun d l0 x0 h Q p0 => zr_zret rfl rfl p0)⟩
theorem E_X2_burn : ∀ (d : Nat) (a0 : Nat) (a1 : Nat) (a2 : Nat) (a3 : Int32) (a4 : Int32) (h : zMm) (Q : Option Value → zMm → Prop), zWM (d + 1) 14 [.ref a0, .ref a1, .ref a2, .int a3, .int a4] h Q = zWp d zi_14 none 0 [.ref a0, .ref a1, .ref a2, .int a3, .int a4, .retAddr 0, .retAddr 0, .retAddr 0] [] h Q := fun d a0 a1 a2 a3 a4 h Q => zW_M m_14 (Nat.le_of_ble_eq_true rfl) rfl
set_option maxRecDepth 100000 in
theorem R_X2_burn :
    (∀ (d : Nat) (l0 : Nat) (l1 : Value) (l2 : Value) (l3 : Value) (l4 : Value) (l5 : Value) (l6 : Value) (l7 : Value)  (h : zMm) (Q : Option Value → zMm → Prop), zWp d zi_14 none 0 [.ref l0, l1, l2, l3, l4, l5, l6, l7] [] h Q = zWp d zi_14 none 1 [.ref l0, l1, l2, l3, l4, l5, l6, l7] [.ref l0] h Q) ∧
    (∀ (d : Nat) (l0 : Value) (l1 : Nat) (l2 : Value) (l3 : Value) (l4 : Value) (l5 : Value) (l6 : Value) (l7 : Value) (x0 : Nat) (h : zMm) (Q : Option Value → zMm → Prop), zWp d zi_14 none 1 [l0, .ref l1, l2, l3, l4, l5, l6, l7] [.ref x0] h Q = zWp d zi_14 none 2 [l0, .ref l1, l2, l3, l4, l5, l6, l7] [.ref l1, .ref x0] h Q) ∧
    (∀ (d : Nat) (l0 : Value) (l1 : Value) (l2 : Value) (l3 : Value) (l4 : Value) (l5 : Value) (l6 : Value) (l7 : Value) (x1 : Nat) (x0 : Nat) (I : Nat → Nat → Int32) (L : Nat → Nat → Int64) (P : Nat → Nat → Option Nat) (Q : Option Value → zMm → Prop), zSH[x0]? = some (.inl 2) → zWp d zi_14 none 2 [l0, l1, l2, l3, l4, l5, l6, l7] [.ref x1, .ref x0] (zSH, I, L, P) Q = zWM d 16 [.ref x0, .ref x1] (zSH, I, L, P) (fun r h1 => zWp d zi_14 none 5 [l0, l1, l2, l3, l4, l5, l6, l7] (r.toList ++ []) h1 Q)) ∧
    (∀ (d : Nat) (l0 : Nat) (l1 : Value) (l2 : Value) (l3 : Value) (l4 : Value) (l5 : Value) (l6 : Value) (l7 : Value)  (h : zMm) (Q : Option Value → zMm → Prop), zWp d zi_14 none 5 [.ref l0, l1, l2, l3, l4, l5, l6, l7] [] h Q = zWp d zi_14 none 6 [.ref l0, l1, l2, l3, l4, l5, l6, l7] [.ref l0] h Q) ∧
    (∀ (d : Nat) (l0 : Value) (l1 : Value) (l2 : Value) (l3 : Value) (l4 : Value) (l5 : Value) (l6 : Value) (l7 : Value) (x0 : Nat) (I : Nat → Nat → Int32) (L : Nat → Nat → Int64) (P : Nat → Nat → Option Nat) (Q : Option Value → zMm → Prop), zSH[x0]? = some (.inl 2) → zWp d zi_14 none 6 [l0, l1, l2, l3, l4, l5, l6, l7] [.ref x0] (zSH, I, L, P) Q = zWp d zi_14 none 9 [l0, l1, l2, l3, l4, l5, l6, l7] [va_rf (P x0 3)] (zSH, I, L, P) Q) ∧
    (∀ (d : Nat) (l0 : Value) (l1 : Value) (l2 : Value) (l3 : Value) (l4 : Value) (l5 : Value) (l6 : Value) (l7 : Value) (x0 : Nat) (h : zMm) (Q : Option Value → zMm → Prop), zWp d zi_14 none 9 [l0, l1, l2, l3, l4, l5, l6, l7] [.ref x0] h Q = zWp d zi_14 none 10 [l0, l1, l2, l3, l4, l5, l6, l7] [.int 5, .ref x0] h Q) ∧
    (∀ (d : Nat) (l0 : Value) (l1 : Value) (l2 : Value) (l3 : Int32) (l4 : Value) (l5 : Value) (l6 : Value) (l7 : Value) (x1 : Int32) (x0 : Nat) (h : zMm) (Q : Option Value → zMm → Prop), zWp d zi_14 none 10 [l0, l1, l2, .int l3, l4, l5, l6, l7] [.int x1, .ref x0] h Q = zWp d zi_14 none 11 [l0, l1, l2, .int l3, l4, l5, l6, l7] [.int l3, .int x1, .ref x0] h Q) ∧
    (∀ (d : Nat) (l0 : Value) (l1 : Value) (l2 : Value) (l3 : Value) (l4 : Value) (l5 : Value) (l6 : Value) (l7 : Value) (x2 : Int32) (x1 : Int32) (x0 : Nat) (h : zMm) (Q : Option Value → zMm → Prop), zWp d zi_14 none 11 [l0, l1, l2, l3, l4, l5, l6, l7] [.int x2, .int x1, .ref x0] h Q = zWp d zi_14 none 14 [l0, l1, l2, l3, l4, l5, l6, l7] [.int (if 0 ≤ x2 then x2 else 0 - x2), .int x1, .ref x0] h Q) ∧
    (∀ (d : Nat) (l0 : Value) (l1 : Value) (l2 : Value) (l3 : Value) (l4 : Int32) (l5 : Value) (l6 : Value) (l7 : Value) (x2 : Int32) (x1 : Int32) (x0 : Nat) (h : zMm) (Q : Option Value → zMm → Prop), zWp d zi_14 none 14 [l0, l1, l2, l3, .int l4, l5, l6, l7] [.int x2, .int x1, .ref x0] h Q = zWp d zi_14 none 16 [l0, l1, l2, l3, .int l4, l5, l6, l7] [.int l4, .int x2, .int x1, .ref x0] h Q) ∧
    (∀ (d : Nat) (l0 : Value) (l1 : Value) (l2 : Value) (l3 : Value) (l4 : Value) (l5 : Value) (l6 : Value) (l7 : Value) (x3 : Int32) (x2 : Int32) (x1 : Int32) (x0 : Nat) (h : zMm) (Q : Option Value → zMm → Prop), zWp d zi_14 none 16 [l0, l1, l2, l3, l4, l5, l6, l7] [.int x3, .int x2, .int x1, .ref x0] h Q = zWp d zi_14 none 19 [l0, l1, l2, l3, l4, l5, l6, l7] [.int (if 0 ≤ x3 then x3 else 0 - x3), .int x2, .int x1, .ref x0] h Q) ∧
    (∀ (d : Nat) (l0 : Value) (l1 : Value) (l2 : Value) (l3 : Value) (l4 : Value) (l5 : Value) (l6 : Value) (l7 : Value) (x3 : Int32) (x2 : Int32) (x1 : Int32) (x0 : Nat) (h : zMm) (Q : Option Value → zMm → Prop), zWp d zi_14 none 19 [l0, l1, l2, l3, l4, l5, l6, l7] [.int x3, .int x2, .int x1, .ref x0] h Q = zWp d zi_14 none 20 [l0, l1, l2, l3, l4, l5, l6, l7] [.int (x2 + x3), .int x1, .ref x0] h Q) ∧
    (∀ (d : Nat) (l0 : Value) (l1 : Value) (l2 : Value) (l3 : Value) (l4 : Value) (l5 : Value) (l6 : Value) (l7 : Value) (x2 : Int32) (x1 : Int32) (x0 : Nat) (I : Nat → Nat → Int32) (L : Nat → Nat → Int64) (P : Nat → Nat → Option Nat) (Q : Option Value → zMm → Prop), zAk zSH x0 = some .int → zWp d zi_14 none 20 [l0, l1, l2, l3, l4, l5, l6, l7] [.int x2, .int x1, .ref x0] (zSH, I, L, P) Q = (vp_in x1 (zAn zSH x0) ∧ zWp d zi_14 none 21 [l0, l1, l2, l3, l4, l5, l6, l7] [] (zSH, zw I x0 (upd (I x0) x1.toNatClampNeg x2), L, P) Q)) ∧
    (∀ (d : Nat) (l0 : Nat) (l1 : Value) (l2 : Value) (l3 : Value) (l4 : Value) (l5 : Value) (l6 : Value) (l7 : Value)  (h : zMm) (Q : Option Value → zMm → Prop), zWp d zi_14 none 21 [.ref l0, l1, l2, l3, l4, l5, l6, l7] [] h Q = zWp d zi_14 none 22 [.ref l0, l1, l2, l3, l4, l5, l6, l7] [.ref l0] h Q) ∧
    (∀ (d : Nat) (l0 : Nat) (l1 : Value) (l2 : Value) (l3 : Value) (l4 : Value) (l5 : Value) (l6 : Value) (l7 : Value) (x0 : Nat) (h : zMm) (Q : Option Value → zMm → Prop), zWp d zi_14 none 22 [.ref l0, l1, l2, l3, l4, l5, l6, l7] [.ref x0] h Q = zWp d zi_14 none 23 [.ref l0, l1, l2, l3, l4, l5, l6, l7] [.ref l0, .ref x0] h Q) ∧
    (∀ (d : Nat) (l0 : Nat) (l1 : Value) (l2 : Value) (l3 : Value) (l4 : Value) (l5 : Value) (l6 : Value) (l7 : Value) (x1 : Nat) (x0 : Nat) (h : zMm) (Q : Option Value → zMm → Prop), zWp d zi_14 none 23 [.ref l0, l1, l2, l3, l4, l5, l6, l7] [.ref x1, .ref x0] h Q = zWp d zi_14 none 24 [.ref l0, l1, l2, l3, l4, l5, l6, l7] [.ref l0, .ref x1, .ref x0] h Q) ∧
    (∀ (d : Nat) (l0 : Nat) (l1 : Value) (l2 : Value) (l3 : Value) (l4 : Value) (l5 : Value) (l6 : Value) (l7 : Value) (x2 : Nat) (x1 : Nat) (x0 : Nat) (h : zMm) (Q : Option Value → zMm → Prop), zWp d zi_14 none 24 [.ref l0, l1, l2, l3, l4, l5, l6, l7] [.ref x2, .ref x1, .ref x0] h Q = zWp d zi_14 none 25 [.ref l0, l1, l2, l3, l4, l5, l6, l7] [.ref l0, .ref x2, .ref x1, .ref x0] h Q) ∧
    (∀ (d : Nat) (l0 : Value) (l1 : Value) (l2 : Value) (l3 : Value) (l4 : Value) (l5 : Value) (l6 : Value) (l7 : Value) (x3 : Nat) (x2 : Nat) (x1 : Nat) (x0 : Nat) (h : zMm) (Q : Option Value → zMm → Prop), zWp d zi_14 none 25 [l0, l1, l2, l3, l4, l5, l6, l7] [.ref x3, .ref x2, .ref x1, .ref x0] h Q = zWp d zi_14 none 27 [l0, l1, l2, l3, l4, l5, l6, l7] [.int (-2), .ref x3, .ref x2, .ref x1, .ref x0] h Q) ∧
    (∀ (d : Nat) (l0 : Value) (l1 : Value) (l2 : Value) (l3 : Value) (l4 : Value) (l5 : Value) (l6 : Value) (l7 : Value) (x4 : Int32) (x3 : Nat) (x2 : Nat) (x1 : Nat) (x0 : Nat) (h : zMm) (Q : Option Value → zMm → Prop), zWp d zi_14 none 27 [l0, l1, l2, l3, l4, l5, l6, l7] [.int x4, .ref x3, .ref x2, .ref x1, .ref x0] h Q = zWp d zi_14 none 28 [l0, l1, l2, l3, l4, l5, l6, l7] [.int x4, .ref x3, .int x4, .ref x2, .ref x1, .ref x0] h Q) ∧
    (∀ (d : Nat) (l0 : Value) (l1 : Value) (l2 : Value) (l3 : Value) (l4 : Value) (l5 : Value) (l6 : Value) (l7 : Value) (x5 : Int32) (x4 : Nat) (x3 : Int32) (x2 : Nat) (x1 : Nat) (x0 : Nat) (I : Nat → Nat → Int32) (L : Nat → Nat → Int64) (P : Nat → Nat → Option Nat) (Q : Option Value → zMm → Prop), zSH[x4]? = some (.inl 2) → zWp d zi_14 none 28 [l0, l1, l2, l3, l4, l5, l6, l7] [.int x5, .ref x4, .int x3, .ref x2, .ref x1, .ref x0] (zSH, I, L, P) Q = zWp d zi_14 none 31 [l0, l1, l2, l3, l4, l5, l6, l7] [.int x3, .ref x2, .ref x1, .ref x0] (zSH, zw I x4 (upd (I x4) 10 x5), L, P) Q) ∧
    (∀ (d : Nat) (l0 : Value) (l1 : Value) (l2 : Value) (l3 : Value) (l4 : Value) (l5 : Value) (l6 : Value) (l7 : Value) (x3 : Int32) (x2 : Nat) (x1 : Nat) (x0 : Nat) (h : zMm) (Q : Option Value → zMm → Prop), zWp d zi_14 none 31 [l0, l1, l2, l3, l4, l5, l6, l7] [.int x3, .ref x2, .ref x1, .ref x0] h Q = zWp d zi_14 none 32 [l0, l1, l2, l3, l4, l5, l6, l7] [.int x3, .ref x2, .int x3, .ref x1, .ref x0] h Q) ∧
    (∀ (d : Nat) (l0 : Value) (l1 : Value) (l2 : Value) (l3 : Value) (l4 : Value) (l5 : Value) (l6 : Value) (l7 : Value) (x4 : Int32) (x3 : Nat) (x2 : Int32) (x1 : Nat) (x0 : Nat) (I : Nat → Nat → Int32) (L : Nat → Nat → Int64) (P : Nat → Nat → Option Nat) (Q : Option Value → zMm → Prop), zSH[x3]? = some (.inl 2) → zWp d zi_14 none 32 [l0, l1, l2, l3, l4, l5, l6, l7] [.int x4, .ref x3, .int x2, .ref x1, .ref x0] (zSH, I, L, P) Q = zWp d zi_14 none 35 [l0, l1, l2, l3, l4, l5, l6, l7] [.int x2, .ref x1, .ref x0] (zSH, zw I x3 (upd (I x3) 9 x4), L, P) Q) ∧
    (∀ (d : Nat) (l0 : Value) (l1 : Value) (l2 : Value) (l3 : Value) (l4 : Value) (l5 : Value) (l6 : Value) (l7 : Value) (x2 : Int32) (x1 : Nat) (x0 : Nat) (h : zMm) (Q : Option Value → zMm → Prop), zWp d zi_14 none 35 [l0, l1, l2, l3, l4, l5, l6, l7] [.int x2, .ref x1, .ref x0] h Q = zWp d zi_14 none 36 [l0, l1, l2, l3, l4, l5, l6, l7] [.int x2, .ref x1, .int x2, .ref x0] h Q) ∧
    (∀ (d : Nat) (l0 : Value) (l1 : Value) (l2 : Value) (l3 : Value) (l4 : Value) (l5 : Value) (l6 : Value) (l7 : Value) (x3 : Int32) (x2 : Nat) (x1 : Int32) (x0 : Nat) (I : Nat → Nat → Int32) (L : Nat → Nat → Int64) (P : Nat → Nat → Option Nat) (Q : Option Value → zMm → Prop), zSH[x2]? = some (.inl 2) → zWp d zi_14 none 36 [l0, l1, l2, l3, l4, l5, l6, l7] [.int x3, .ref x2, .int x1, .ref x0] (zSH, I, L, P) Q = zWp d zi_14 none 39 [l0, l1, l2, l3, l4, l5, l6, l7] [.int x1, .ref x0] (zSH, zw I x2 (upd (I x2) 8 x3), L, P) Q) ∧
    (∀ (d : Nat) (l0 : Value) (l1 : Value) (l2 : Value) (l3 : Value) (l4 : Value) (l5 : Value) (l6 : Value) (l7 : Value) (x1 : Int32) (x0 : Nat) (I : Nat → Nat → Int32) (L : Nat → Nat → Int64) (P : Nat → Nat → Option Nat) (Q : Option Value → zMm → Prop), zSH[x0]? = some (.inl 2) → zWp d zi_14 none 39 [l0, l1, l2, l3, l4, l5, l6, l7] [.int x1, .ref x0] (zSH, I, L, P) Q = zWp d zi_14 none 42 [l0, l1, l2, l3, l4, l5, l6, l7] [] (zSH, zw I x0 (upd (I x0) 7 x1), L, P) Q) ∧
    (∀ (d : Nat) (l0 : Value) (l1 : Value) (l2 : Value) (l3 : Value) (l4 : Value) (l5 : Value) (l6 : Value) (l7 : Value)  (h : zMm) (Q : Option Value → zMm → Prop), zWp d zi_14 none 42 [l0, l1, l2, l3, l4, l5, l6, l7] [] h Q = zWp d zi_14 none 43 [l0, l1, l2, l3, l4, l5, l6, l7] [.int 0] h Q) ∧
    (∀ (d : Nat) (l0 : Value) (l1 : Value) (l2 : Value) (l3 : Value) (l4 : Int32) (l5 : Value) (l6 : Value) (l7 : Value) (x0 : Int32) (h : zMm) (Q : Option Value → zMm → Prop), zWp d zi_14 none 43 [l0, l1, l2, l3, .int l4, l5, l6, l7] [.int x0] h Q = zWp d zi_14 none 45 [l0, l1, l2, l3, .int l4, .int x0, l6, l7] [] h Q) ∧
    (∀ (d : Nat) (l0 : Value) (l1 : Value) (l2 : Value) (l3 : Value) (l4 : Value) (l5 : Value) (l6 : Value) (l7 : Value) (x0 : Int32) (h : zMm) (Q : Option Value → zMm → Prop), zWp d zi_14 none 47 [l0, l1, l2, l3, l4, l5, l6, l7] [.int x0] h Q = zWp d zi_14 none 49 [l0, l1, l2, l3, l4, l5, l6, l7] [.int 61, .int x0] h Q) ∧
    (∀ (d : Nat) (l0 : Value) (l1 : Value) (l2 : Value) (l3 : Value) (l4 : Value) (l5 : Value) (l6 : Value) (l7 : Value) (x1 : Int32) (x0 : Int32) (h : zMm) (Q : Option Value → zMm → Prop), zWp d zi_14 none 49 [l0, l1, l2, l3, l4, l5, l6, l7] [.int x1, .int x0] h Q = if x1 ≤ x0 then zWp d zi_14 none 149 [l0, l1, l2, l3, l4, l5, l6, l7] [] h Q else zWp d zi_14 none 52 [l0, l1, l2, l3, l4, l5, l6, l7] [] h Q) ∧
    (∀ (d : Nat) (l0 : Nat) (l1 : Value) (l2 : Value) (l3 : Value) (l4 : Value) (l5 : Value) (l6 : Value) (l7 : Value)  (h : zMm) (Q : Option Value → zMm → Prop), zWp d zi_14 none 52 [.ref l0, l1, l2, l3, l4, l5, l6, l7] [] h Q = zWp d zi_14 none 53 [.ref l0, l1, l2, l3, l4, l5, l6, l7] [.ref l0] h Q) ∧
    (∀ (d : Nat) (l0 : Value) (l1 : Nat) (l2 : Value) (l3 : Value) (l4 : Value) (l5 : Value) (l6 : Value) (l7 : Value) (x0 : Nat) (h : zMm) (Q : Option Value → zMm → Prop), zWp d zi_14 none 53 [l0, .ref l1, l2, l3, l4, l5, l6, l7] [.ref x0] h Q = zWp d zi_14 none 54 [l0, .ref l1, l2, l3, l4, l5, l6, l7] [.ref l1, .ref x0] h Q) ∧
    (∀ (d : Nat) (l0 : Value) (l1 : Value) (l2 : Nat) (l3 : Value) (l4 : Value) (l5 : Value) (l6 : Value) (l7 : Value) (x1 : Nat) (x0 : Nat) (h : zMm) (Q : Option Value → zMm → Prop), zWp d zi_14 none 54 [l0, l1, .ref l2, l3, l4, l5, l6, l7] [.ref x1, .ref x0] h Q = zWp d zi_14 none 55 [l0, l1, .ref l2, l3, l4, l5, l6, l7] [.ref l2, .ref x1, .ref x0] h Q) ∧
    (∀ (d : Nat) (l0 : Value) (l1 : Value) (l2 : Value) (l3 : Value) (l4 : Value) (l5 : Int32) (l6 : Value) (l7 : Value) (x2 : Nat) (x1 : Nat) (x0 : Nat) (h : zMm) (Q : Option Value → zMm → Prop), zWp d zi_14 none 55 [l0, l1, l2, l3, l4, .int l5, l6, l7] [.ref x2, .ref x1, .ref x0] h Q = zWp d zi_14 none 57 [l0, l1, l2, l3, l4, .int l5, l6, l7] [.int l5, .ref x2, .ref x1, .ref x0] h Q) ∧
    (∀ (d : Nat) (l0 : Value) (l1 : Value) (l2 : Value) (l3 : Value) (l4 : Value) (l5 : Value) (l6 : Value) (l7 : Value) (x3 : Int32) (x2 : Nat) (x1 : Nat) (x0 : Nat) (I : Nat → Nat → Int32) (L : Nat → Nat → Int64) (P : Nat → Nat → Option Nat) (Q : Option Value → zMm → Prop), zSH[x0]? = some (.inl 2) → zWp d zi_14 none 57 [l0, l1, l2, l3, l4, l5, l6, l7] [.int x3, .ref x2, .ref x1, .ref x0] (zSH, I, L, P) Q = zWM d 15 [.ref x0, .ref x1, .ref x2, .int x3] (zSH, I, L, P) (fun r h1 => zWp d zi_14 none 60 [l0, l1, l2, l3, l4, l5, l6, l7] (r.toList ++ []) h1 Q)) ∧
    (∀ (d : Nat) (l0 : Value) (l1 : Value) (l2 : Value) (l3 : Value) (l4 : Value) (l5 : Int32) (l6 : Value) (l7 : Value) (x0 : Int32) (h : zMm) (Q : Option Value → zMm → Prop), zWp d zi_14 none 60 [l0, l1, l2, l3, l4, .int l5, l6, l7] [.int x0] h Q = zWp d zi_14 none 62 [l0, l1, l2, l3, l4, .int l5, .int x0, l7] [] h Q) ∧
    (∀ (d : Nat) (l0 : Value) (l1 : Value) (l2 : Value) (l3 : Value) (l4 : Value) (l5 : Value) (l6 : Int32) (l7 : Value)  (h : zMm) (Q : Option Value → zMm → Prop), zWp d zi_14 none 62 [l0, l1, l2, l3, l4, l5, .int l6, l7] [] h Q = zWp d zi_14 none 64 [l0, l1, l2, l3, l4, l5, .int l6, l7] [.int l6] h Q) ∧
    (∀ (d : Nat) (l0 : Value) (l1 : Value) (l2 : Value) (l3 : Value) (l4 : Value) (l5 : Value) (l6 : Value) (l7 : Value) (x0 : Int32) (h : zMm) (Q : Option Value → zMm → Prop), zWp d zi_14 none 64 [l0, l1, l2, l3, l4, l5, l6, l7] [.int x0] h Q = if x0 = 0 then zWp d zi_14 none 82 [l0, l1, l2, l3, l4, l5, l6, l7] [] h Q else zWp d zi_14 none 67 [l0, l1, l2, l3, l4, l5, l6, l7] [] h Q) ∧
    (∀ (d : Nat) (l0 : Nat) (l1 : Value) (l2 : Value) (l3 : Value) (l4 : Value) (l5 : Value) (l6 : Value) (l7 : Value)  (h : zMm) (Q : Option Value → zMm → Prop), zWp d zi_14 none 67 [.ref l0, l1, l2, l3, l4, l5, l6, l7] [] h Q = zWp d zi_14 none 68 [.ref l0, l1, l2, l3, l4, l5, l6, l7] [.ref l0] h Q) ∧
    (∀ (d : Nat) (l0 : Value) (l1 : Value) (l2 : Value) (l3 : Value) (l4 : Value) (l5 : Value) (l6 : Value) (l7 : Value) (x0 : Nat) (I : Nat → Nat → Int32) (L : Nat → Nat → Int64) (P : Nat → Nat → Option Nat) (Q : Option Value → zMm → Prop), zSH[x0]? = some (.inl 2) → zWp d zi_14 none 68 [l0, l1, l2, l3, l4, l5, l6, l7] [.ref x0] (zSH, I, L, P) Q = zWp d zi_14 none 71 [l0, l1, l2, l3, l4, l5, l6, l7] [.int (I x0 10)] (zSH, I, L, P) Q) ∧
    (∀ (d : Nat) (l0 : Value) (l1 : Value) (l2 : Value) (l3 : Value) (l4 : Value) (l5 : Value) (l6 : Value) (l7 : Value) (x0 : Int32) (h : zMm) (Q : Option Value → zMm → Prop), zWp d zi_14 none 71 [l0, l1, l2, l3, l4, l5, l6, l7] [.int x0] h Q = zWp d zi_14 none 73 [l0, l1, l2, l3, l4, l5, l6, l7] [.int (-2), .int x0] h Q) ∧
    (∀ (d : Nat) (l0 : Value) (l1 : Value) (l2 : Value) (l3 : Value) (l4 : Value) (l5 : Value) (l6 : Value) (l7 : Value) (x1 : Int32) (x0 : Int32) (h : zMm) (Q : Option Value → zMm → Prop), zWp d zi_14 none 73 [l0, l1, l2, l3, l4, l5, l6, l7] [.int x1, .int x0] h Q = if x0 = x1 then zWp d zi_14 none 76 [l0, l1, l2, l3, l4, l5, l6, l7] [] h Q else zWp d zi_14 none 82 [l0, l1, l2, l3, l4, l5, l6, l7] [] h Q) ∧
    (∀ (d : Nat) (l0 : Nat) (l1 : Value) (l2 : Value) (l3 : Value) (l4 : Value) (l5 : Value) (l6 : Value) (l7 : Value)  (h : zMm) (Q : Option Value → zMm → Prop), zWp d zi_14 none 76 [.ref l0, l1, l2, l3, l4, l5, l6, l7] [] h Q = zWp d zi_14 none 77 [.ref l0, l1, l2, l3, l4, l5, l6, l7] [.ref l0] h Q) ∧
    (∀ (d : Nat) (l0 : Value) (l1 : Value) (l2 : Value) (l3 : Value) (l4 : Value) (l5 : Int32) (l6 : Value) (l7 : Value) (x0 : Nat) (h : zMm) (Q : Option Value → zMm → Prop), zWp d zi_14 none 77 [l0, l1, l2, l3, l4, .int l5, l6, l7] [.ref x0] h Q = zWp d zi_14 none 79 [l0, l1, l2, l3, l4, .int l5, l6, l7] [.int l5, .ref x0] h Q) ∧
    (∀ (d : Nat) (l0 : Value) (l1 : Value) (l2 : Value) (l3 : Value) (l4 : Value) (l5 : Value) (l6 : Value) (l7 : Value) (x1 : Int32) (x0 : Nat) (I : Nat → Nat → Int32) (L : Nat → Nat → Int64) (P : Nat → Nat → Option Nat) (Q : Option Value → zMm → Prop), zSH[x0]? = some (.inl 2) → zWp d zi_14 none 79 [l0, l1, l2, l3, l4, l5, l6, l7] [.int x1, .ref x0] (zSH, I, L, P) Q = zWp d zi_14 none 82 [l0, l1, l2, l3, l4, l5, l6, l7] [] (zSH, zw I x0 (upd (I x0) 10 x1), L, P) Q) ∧
    (∀ (d : Nat) (l0 : Nat) (l1 : Value) (l2 : Value) (l3 : Value) (l4 : Value) (l5 : Value) (l6 : Value) (l7 : Value)  (h : zMm) (Q : Option Value → zMm → Prop), zWp d zi_14 none 82 [.ref l0, l1, l2, l3, l4, l5, l6, l7] [] h Q = zWp d zi_14 none 83 [.ref l0, l1, l2, l3, l4, l5, l6, l7] [.ref l0] h Q) ∧
    (∀ (d : Nat) (l0 : Value) (l1 : Value) (l2 : Value) (l3 : Value) (l4 : Value) (l5 : Value) (l6 : Value) (l7 : Value) (x0 : Nat) (I : Nat → Nat → Int32) (L : Nat → Nat → Int64) (P : Nat → Nat → Option Nat) (Q : Option Value → zMm → Prop), zSH[x0]? = some (.inl 2) → zWp d zi_14 none 83 [l0, l1, l2, l3, l4, l5, l6, l7] [.ref x0] (zSH, I, L, P) Q = zWp d zi_14 none 86 [l0, l1, l2, l3, l4, l5, l6, l7] [.int (I x0 7)] (zSH, I, L, P) Q) ∧
    (∀ (d : Nat) (l0 : Value) (l1 : Value) (l2 : Value) (l3 : Value) (l4 : Value) (l5 : Value) (l6 : Value) (l7 : Value) (x0 : Int32) (h : zMm) (Q : Option Value → zMm → Prop), zWp d zi_14 none 86 [l0, l1, l2, l3, l4, l5, l6, l7] [.int x0] h Q = zWp d zi_14 none 88 [l0, l1, l2, l3, l4, l5, l6, l7] [.int (-2), .int x0] h Q) ∧
    (∀ (d : Nat) (l0 : Value) (l1 : Value) (l2 : Value) (l3 : Value) (l4 : Value) (l5 : Value) (l6 : Value) (l7 : Value) (x1 : Int32) (x0 : Int32) (h : zMm) (Q : Option Value → zMm → Prop), zWp d zi_14 none 88 [l0, l1, l2, l3, l4, l5, l6, l7] [.int x1, .int x0] h Q = if x0 = x1 then zWp d zi_14 none 91 [l0, l1, l2, l3, l4, l5, l6, l7] [] h Q else zWp d zi_14 none 104 [l0, l1, l2, l3, l4, l5, l6, l7] [] h Q) ∧
    (∀ (d : Nat) (l0 : Nat) (l1 : Value) (l2 : Value) (l3 : Value) (l4 : Value) (l5 : Value) (l6 : Value) (l7 : Value)  (h : zMm) (Q : Option Value → zMm → Prop), zWp d zi_14 none 91 [.ref l0, l1, l2, l3, l4, l5, l6, l7] [] h Q = zWp d zi_14 none 92 [.ref l0, l1, l2, l3, l4, l5, l6, l7] [.ref l0] h Q) ∧
    (∀ (d : Nat) (l0 : Value) (l1 : Value) (l2 : Value) (l3 : Value) (l4 : Value) (l5 : Value) (l6 : Value) (l7 : Value) (x0 : Nat) (I : Nat → Nat → Int32) (L : Nat → Nat → Int64) (P : Nat → Nat → Option Nat) (Q : Option Value → zMm → Prop), zSH[x0]? = some (.inl 2) → zWp d zi_14 none 92 [l0, l1, l2, l3, l4, l5, l6, l7] [.ref x0] (zSH, I, L, P) Q = zWp d zi_14 none 95 [l0, l1, l2, l3, l4, l5, l6, l7] [va_rf (P x0 4)] (zSH, I, L, P) Q) ∧
    (∀ (d : Nat) (l0 : Value) (l1 : Value) (l2 : Value) (l3 : Int32) (l4 : Value) (l5 : Value) (l6 : Value) (l7 : Value) (x0 : Nat) (h : zMm) (Q : Option Value → zMm → Prop), zWp d zi_14 none 95 [l0, l1, l2, .int l3, l4, l5, l6, l7] [.ref x0] h Q = zWp d zi_14 none 96 [l0, l1, l2, .int l3, l4, l5, l6, l7] [.int l3, .ref x0] h Q) ∧
    (∀ (d : Nat) (l0 : Value) (l1 : Value) (l2 : Value) (l3 : Value) (l4 : Int32) (l5 : Value) (l6 : Value) (l7 : Value) (x1 : Int32) (x0 : Nat) (h : zMm) (Q : Option Value → zMm → Prop), zWp d zi_14 none 96 [l0, l1, l2, l3, .int l4, l5, l6, l7] [.int x1, .ref x0] h Q = zWp d zi_14 none 98 [l0, l1, l2, l3, .int l4, l5, l6, l7] [.int l4, .int x1, .ref x0] h Q) ∧
    (∀ (d : Nat) (l0 : Value) (l1 : Value) (l2 : Value) (l3 : Value) (l4 : Value) (l5 : Value) (l6 : Value) (l7 : Value) (x2 : Int32) (x1 : Int32) (x0 : Nat) (I : Nat → Nat → Int32) (L : Nat → Nat → Int64) (P : Nat → Nat → Option Nat) (Q : Option Value → zMm → Prop), zSH[x0]? = some (.inl 8) → zWp d zi_14 none 98 [l0, l1, l2, l3, l4, l5, l6, l7] [.int x2, .int x1, .ref x0] (zSH, I, L, P) Q = zWM d 69 [.ref x0, .int x1, .int x2] (zSH, I, L, P) (fun r h1 => zWp d zi_14 none 101 [l0, l1, l2, l3, l4, l5, l6, l7] (r.toList ++ []) h1 Q)) ∧
    (∀ (d : Nat) (l0 : Value) (l1 : Value) (l2 : Value) (l3 : Value) (l4 : Value) (l5 : Value) (l6 : Value) (l7 : Value) (x0 : Int32) (h : zMm) (Q : Option Value → zMm → Prop), zWp d zi_14 none 101 [l0, l1, l2, l3, l4, l5, l6, l7] [.int x0] h Q = zWp d zi_14 none 106 [l0, l1, l2, l3, l4, l5, l6, l7] [.int x0] h Q) ∧
    (∀ (d : Nat) (l0 : Value) (l1 : Value) (l2 : Value) (l3 : Value) (l4 : Value) (l5 : Value) (l6 : Value) (l7 : Value)  (h : zMm) (Q : Option Value → zMm → Prop), zWp d zi_14 none 104 [l0, l1, l2, l3, l4, l5, l6, l7] [] h Q = zWp d zi_14 none 106 [l0, l1, l2, l3, l4, l5, l6, l7] [.int (-2)] h Q) ∧
    (∀ (d : Nat) (l0 : Value) (l1 : Value) (l2 : Value) (l3 : Value) (l4 : Value) (l5 : Value) (l6 : Int32) (l7 : Value) (x0 : Int32) (h : zMm) (Q : Option Value → zMm → Prop), zWp d zi_14 none 106 [l0, l1, l2, l3, l4, l5, .int l6, l7] [.int x0] h Q = zWp d zi_14 none 108 [l0, l1, l2, l3, l4, l5, .int l6, .int x0] [] h Q) ∧
    (∀ (d : Nat) (l0 : Value) (l1 : Value) (l2 : Value) (l3 : Value) (l4 : Value) (l5 : Value) (l6 : Value) (l7 : Int32)  (h : zMm) (Q : Option Value → zMm → Prop), zWp d zi_14 none 108 [l0, l1, l2, l3, l4, l5, l6, .int l7] [] h Q = zWp d zi_14 none 110 [l0, l1, l2, l3, l4, l5, l6, .int l7] [.int l7] h Q) ∧
    (∀ (d : Nat) (l0 : Value) (l1 : Value) (l2 : Value) (l3 : Value) (l4 : Value) (l5 : Value) (l6 : Value) (l7 : Value) (x0 : Int32) (h : zMm) (Q : Option Value → zMm → Prop), zWp d zi_14 none 110 [l0, l1, l2, l3, l4, l5, l6, l7] [.int x0] h Q = zWp d zi_14 none 112 [l0, l1, l2, l3, l4, l5, l6, l7] [.int (-2), .int x0] h Q) ∧
    (∀ (d : Nat) (l0 : Value) (l1 : Value) (l2 : Value) (l3 : Value) (l4 : Value) (l5 : Value) (l6 : Value) (l7 : Value) (x1 : Int32) (x0 : Int32) (h : zMm) (Q : Option Value → zMm → Prop), zWp d zi_14 none 112 [l0, l1, l2, l3, l4, l5, l6, l7] [.int x1, .int x0] h Q = if x0 = x1 then zWp d zi_14 none 143 [l0, l1, l2, l3, l4, l5, l6, l7] [] h Q else zWp d zi_14 none 115 [l0, l1, l2, l3, l4, l5, l6, l7] [] h Q) ∧
    (∀ (d : Nat) (l0 : Nat) (l1 : Value) (l2 : Value) (l3 : Value) (l4 : Value) (l5 : Value) (l6 : Value) (l7 : Value)  (h : zMm) (Q : Option Value → zMm → Prop), zWp d zi_14 none 115 [.ref l0, l1, l2, l3, l4, l5, l6, l7] [] h Q = zWp d zi_14 none 116 [.ref l0, l1, l2, l3, l4, l5, l6, l7] [.ref l0] h Q) ∧
    (∀ (d : Nat) (l0 : Value) (l1 : Value) (l2 : Value) (l3 : Value) (l4 : Value) (l5 : Int32) (l6 : Value) (l7 : Value) (x0 : Nat) (h : zMm) (Q : Option Value → zMm → Prop), zWp d zi_14 none 116 [l0, l1, l2, l3, l4, .int l5, l6, l7] [.ref x0] h Q = zWp d zi_14 none 118 [l0, l1, l2, l3, l4, .int l5, l6, l7] [.int l5, .ref x0] h Q) ∧
    (∀ (d : Nat) (l0 : Value) (l1 : Value) (l2 : Value) (l3 : Value) (l4 : Value) (l5 : Value) (l6 : Value) (l7 : Value) (x1 : Int32) (x0 : Nat) (I : Nat → Nat → Int32) (L : Nat → Nat → Int64) (P : Nat → Nat → Option Nat) (Q : Option Value → zMm → Prop), zSH[x0]? = some (.inl 2) → zWp d zi_14 none 118 [l0, l1, l2, l3, l4, l5, l6, l7] [.int x1, .ref x0] (zSH, I, L, P) Q = zWp d zi_14 none 121 [l0, l1, l2, l3, l4, l5, l6, l7] [] (zSH, zw I x0 (upd (I x0) 7 x1), L, P) Q) ∧
    (∀ (d : Nat) (l0 : Nat) (l1 : Value) (l2 : Value) (l3 : Value) (l4 : Value) (l5 : Value) (l6 : Value) (l7 : Value)  (h : zMm) (Q : Option Value → zMm → Prop), zWp d zi_14 none 121 [.ref l0, l1, l2, l3, l4, l5, l6, l7] [] h Q = zWp d zi_14 none 122 [.ref l0, l1, l2, l3, l4, l5, l6, l7] [.ref l0] h Q) ∧
    (∀ (d : Nat) (l0 : Value) (l1 : Value) (l2 : Value) (l3 : Value) (l4 : Value) (l5 : Value) (l6 : Value) (l7 : Int32) (x0 : Nat) (h : zMm) (Q : Option Value → zMm → Prop), zWp d zi_14 none 122 [l0, l1, l2, l3, l4, l5, l6, .int l7] [.ref x0] h Q = zWp d zi_14 none 124 [l0, l1, l2, l3, l4, l5, l6, .int l7] [.int l7, .ref x0] h Q) ∧
    (∀ (d : Nat) (l0 : Value) (l1 : Value) (l2 : Value) (l3 : Value) (l4 : Value) (l5 : Value) (l6 : Value) (l7 : Value) (x1 : Int32) (x0 : Nat) (I : Nat → Nat → Int32) (L : Nat → Nat → Int64) (P : Nat → Nat → Option Nat) (Q : Option Value → zMm → Prop), zSH[x0]? = some (.inl 2) → zWp d zi_14 none 124 [l0, l1, l2, l3, l4, l5, l6, l7] [.int x1, .ref x0] (zSH, I, L, P) Q = zWp d zi_14 none 127 [l0, l1, l2, l3, l4, l5, l6, l7] [] (zSH, zw I x0 (upd (I x0) 8 x1), L, P) Q) ∧
    (∀ (d : Nat) (l0 : Nat) (l1 : Value) (l2 : Value) (l3 : Value) (l4 : Value) (l5 : Value) (l6 : Value) (l7 : Value)  (h : zMm) (Q : Option Value → zMm → Prop), zWp d zi_14 none 127 [.ref l0, l1, l2, l3, l4, l5, l6, l7] [] h Q = zWp d zi_14 none 128 [.ref l0, l1, l2, l3, l4, l5, l6, l7] [.ref l0] h Q) ∧
    (∀ (d : Nat) (l0 : Nat) (l1 : Value) (l2 : Value) (l3 : Value) (l4 : Value) (l5 : Value) (l6 : Value) (l7 : Value) (x0 : Nat) (h : zMm) (Q : Option Value → zMm → Prop), zWp d zi_14 none 128 [.ref l0, l1, l2, l3, l4, l5, l6, l7] [.ref x0] h Q = zWp d zi_14 none 129 [.ref l0, l1, l2, l3, l4, l5, l6, l7] [.ref l0, .ref x0] h Q) ∧
    (∀ (d : Nat) (l0 : Value) (l1 : Value) (l2 : Value) (l3 : Value) (l4 : Value) (l5 : Value) (l6 : Value) (l7 : Value) (x1 : Nat) (x0 : Nat) (I : Nat → Nat → Int32) (L : Nat → Nat → Int64) (P : Nat → Nat → Option Nat) (Q : Option Value → zMm → Prop), zSH[x1]? = some (.inl 2) → zWp d zi_14 none 129 [l0, l1, l2, l3, l4, l5, l6, l7] [.ref x1, .ref x0] (zSH, I, L, P) Q = zWp d zi_14 none 132 [l0, l1, l2, l3, l4, l5, l6, l7] [va_rf (P x1 4), .ref x0] (zSH, I, L, P) Q) ∧
    (∀ (d : Nat) (l0 : Value) (l1 : Value) (l2 : Value) (l3 : Value) (l4 : Value) (l5 : Value) (l6 : Value) (l7 : Int32) (x1 : Nat) (x0 : Nat) (h : zMm) (Q : Option Value → zMm → Prop), zWp d zi_14 none 132 [l0, l1, l2, l3, l4, l5, l6, .int l7] [.ref x1, .ref x0] h Q = zWp d zi_14 none 134 [l0, l1, l2, l3, l4, l5, l6, .int l7] [.int l7, .ref x1, .ref x0] h Q) ∧
    (∀ (d : Nat) (l0 : Value) (l1 : Value) (l2 : Value) (l3 : Int32) (l4 : Value) (l5 : Value) (l6 : Value) (l7 : Value) (x2 : Int32) (x1 : Nat) (x0 : Nat) (h : zMm) (Q : Option Value → zMm → Prop), zWp d zi_14 none 134 [l0, l1, l2, .int l3, l4, l5, l6, l7] [.int x2, .ref x1, .ref x0] h Q = zWp d zi_14 none 135 [l0, l1, l2, .int l3, l4, l5, l6, l7] [.int l3, .int x2, .ref x1, .ref x0] h Q) ∧
    (∀ (d : Nat) (l0 : Value) (l1 : Value) (l2 : Value) (l3 : Value) (l4 : Int32) (l5 : Value) (l6 : Value) (l7 : Value) (x3 : Int32) (x2 : Int32) (x1 : Nat) (x0 : Nat) (h : zMm) (Q : Option Value → zMm → Prop), zWp d zi_14 none 135 [l0, l1, l2, l3, .int l4, l5, l6, l7] [.int x3, .int x2, .ref x1, .ref x0] h Q = zWp d zi_14 none 137 [l0, l1, l2, l3, .int l4, l5, l6, l7] [.int l4, .int x3, .int x2, .ref x1, .ref x0] h Q) ∧
    (∀ (d : Nat) (l0 : Value) (l1 : Value) (l2 : Value) (l3 : Value) (l4 : Value) (l5 : Value) (l6 : Value) (l7 : Value) (x4 : Int32) (x3 : Int32) (x2 : Int32) (x1 : Nat) (x0 : Nat) (I : Nat → Nat → Int32) (L : Nat → Nat → Int64) (P : Nat → Nat → Option Nat) (Q : Option Value → zMm → Prop), zSH[x1]? = some (.inl 8) → zWp d zi_14 none 137 [l0, l1, l2, l3, l4, l5, l6, l7] [.int x4, .int x3, .int x2, .ref x1, .ref x0] (zSH, I, L, P) Q = zWM d 70 [.ref x1, .int x2, .int x3, .int x4] (zSH, I, L, P) (fun r h1 => zWp d zi_14 none 140 [l0, l1, l2, l3, l4, l5, l6, l7] (r.toList ++ [.ref x0]) h1 Q)) ∧
    (∀ (d : Nat) (l0 : Value) (l1 : Value) (l2 : Value) (l3 : Value) (l4 : Value) (l5 : Value) (l6 : Value) (l7 : Value) (x1 : Int32) (x0 : Nat) (I : Nat → Nat → Int32) (L : Nat → Nat → Int64) (P : Nat → Nat → Option Nat) (Q : Option Value → zMm → Prop), zSH[x0]? = some (.inl 2) → zWp d zi_14 none 140 [l0, l1, l2, l3, l4, l5, l6, l7] [.int x1, .ref x0] (zSH, I, L, P) Q = zWp d zi_14 none 143 [l0, l1, l2, l3, l4, l5, l6, l7] [] (zSH, zw I x0 (upd (I x0) 9 x1), L, P) Q) ∧
    (∀ (d : Nat) (l0 : Value) (l1 : Value) (l2 : Value) (l3 : Value) (l4 : Int32) (l5 : Int32) (l6 : Value) (l7 : Value)  (h : zMm) (Q : Option Value → zMm → Prop), zWp d zi_14 none 143 [l0, l1, l2, l3, .int l4, .int l5, l6, l7] [] h Q = zWp d zi_14 none 146 [l0, l1, l2, l3, .int l4, .int (l5 + 1), l6, l7] [] h Q) ∧
    (∀ (d : Nat) (l0 : Value) (l1 : Value) (l2 : Value) (l3 : Value) (l4 : Value) (l5 : Value) (l6 : Value) (l7 : Value)  (h : zMm) (Q : Option Value → zMm → Prop), zWp d zi_14 none 146 [l0, l1, l2, l3, l4, l5, l6, l7] [] h Q = zWp d zi_14 none 45 [l0, l1, l2, l3, l4, l5, l6, l7] [] h Q) ∧
    (∀ (d : Nat) (l0 : Value) (l1 : Value) (l2 : Value) (l3 : Value) (l4 : Value) (l5 : Value) (l6 : Value) (l7 : Value)  (h : zMm) (Q : Option Value → zMm → Prop), zWp d zi_14 none 149 [l0, l1, l2, l3, l4, l5, l6, l7] [] h Q = Q none h) :=
  ⟨(fun d l0 l1 l2 l3 l4 l5 l6 l7  h Q => zr_aload_n rfl rfl),
   (fun d l0 l1 l2 l3 l4 l5 l6 l7 x0 h Q => zr_aload_n rfl rfl),
   (fun d l0 l1 l2 l3 l4 l5 l6 l7 x1 x0 I L P Q p0 => zr_vir (as := [.ref x1]) (rest := []) rfl lm_2_31 m_16 kd_16 rfl (Nat.le_of_ble_eq_true rfl) p0),
   (fun d l0 l1 l2 l3 l4 l5 l6 l7  h Q => zr_aload_n rfl rfl),
   (fun d l0 l1 l2 l3 l4 l5 l6 l7 x0 I L P Q p0 => zr_getQ rfl lf_2_23 (fun _ _ _ => rfl) p0),
   (fun d l0 l1 l2 l3 l4 l5 l6 l7 x0 h Q => zr_iconst rfl (by decide)),
   (fun d l0 l1 l2 l3 l4 l5 l6 l7 x1 x0 h Q => zr_iload_n rfl rfl),
   (fun d l0 l1 l2 l3 l4 l5 l6 l7 x2 x1 x0 h Q => zr_abs rfl lm_2_35 (Nat.le_of_ble_eq_true rfl)),
   (fun d l0 l1 l2 l3 l4 l5 l6 l7 x2 x1 x0 h Q => zr_iload rfl rfl),
   (fun d l0 l1 l2 l3 l4 l5 l6 l7 x3 x2 x1 x0 h Q => zr_abs rfl lm_2_35 (Nat.le_of_ble_eq_true rfl)),
   (fun d l0 l1 l2 l3 l4 l5 l6 l7 x3 x2 x1 x0 h Q => zr_iadd rfl),
   (fun d l0 l1 l2 l3 l4 l5 l6 l7 x2 x1 x0 I L P Q p0 => zr_ast rfl p0),
   (fun d l0 l1 l2 l3 l4 l5 l6 l7  h Q => zr_aload_n rfl rfl),
   (fun d l0 l1 l2 l3 l4 l5 l6 l7 x0 h Q => zr_aload_n rfl rfl),
   (fun d l0 l1 l2 l3 l4 l5 l6 l7 x1 x0 h Q => zr_aload_n rfl rfl),
   (fun d l0 l1 l2 l3 l4 l5 l6 l7 x2 x1 x0 h Q => zr_aload_n rfl rfl),
   (fun d l0 l1 l2 l3 l4 l5 l6 l7 x3 x2 x1 x0 h Q => zr_bipush rfl (by decide)),
   (fun d l0 l1 l2 l3 l4 l5 l6 l7 x4 x3 x2 x1 x0 h Q => zr_dup_x1 rfl rfl rfl),
   (fun d l0 l1 l2 l3 l4 l5 l6 l7 x5 x4 x3 x2 x1 x0 I L P Q p0 => zr_putI rfl lf_2_41 (by decide) rfl p0),
   (fun d l0 l1 l2 l3 l4 l5 l6 l7 x3 x2 x1 x0 h Q => zr_dup_x1 rfl rfl rfl),
   (fun d l0 l1 l2 l3 l4 l5 l6 l7 x4 x3 x2 x1 x0 I L P Q p0 => zr_putI rfl lf_2_45 (by decide) rfl p0),
   (fun d l0 l1 l2 l3 l4 l5 l6 l7 x2 x1 x0 h Q => zr_dup_x1 rfl rfl rfl),
   (fun d l0 l1 l2 l3 l4 l5 l6 l7 x3 x2 x1 x0 I L P Q p0 => zr_putI rfl lf_2_48 (by decide) rfl p0),
   (fun d l0 l1 l2 l3 l4 l5 l6 l7 x1 x0 I L P Q p0 => zr_putI rfl lf_2_51 (by decide) rfl p0),
   (fun d l0 l1 l2 l3 l4 l5 l6 l7  h Q => zr_iconst rfl (by decide)),
   (fun d l0 l1 l2 l3 l4 l5 l6 l7 x0 h Q => zr_istore (n := 5) rfl (Nat.le_of_ble_eq_true rfl) rfl),
   (fun d l0 l1 l2 l3 l4 l5 l6 l7 x0 h Q => zr_bipush rfl (by decide)),
   (fun d l0 l1 l2 l3 l4 l5 l6 l7 x1 x0 h Q => zr_ic_ge rfl (by decide)),
   (fun d l0 l1 l2 l3 l4 l5 l6 l7  h Q => zr_aload_n rfl rfl),
   (fun d l0 l1 l2 l3 l4 l5 l6 l7 x0 h Q => zr_aload_n rfl rfl),
   (fun d l0 l1 l2 l3 l4 l5 l6 l7 x1 x0 h Q => zr_aload_n rfl rfl),
   (fun d l0 l1 l2 l3 l4 l5 l6 l7 x2 x1 x0 h Q => zr_iload rfl rfl),
   (fun d l0 l1 l2 l3 l4 l5 l6 l7 x3 x2 x1 x0 I L P Q p0 => zr_vir (as := [.int x3, .ref x2, .ref x1]) (rest := []) rfl lm_2_54 m_15 kd_15 rfl (Nat.le_of_ble_eq_true rfl) p0),
   (fun d l0 l1 l2 l3 l4 l5 l6 l7 x0 h Q => zr_istore (n := 6) rfl (Nat.le_of_ble_eq_true rfl) rfl),
   (fun d l0 l1 l2 l3 l4 l5 l6 l7  h Q => zr_iload rfl rfl),
   (fun d l0 l1 l2 l3 l4 l5 l6 l7 x0 h Q => zr_if_eq rfl (by decide)),
   (fun d l0 l1 l2 l3 l4 l5 l6 l7  h Q => zr_aload_n rfl rfl),
   (fun d l0 l1 l2 l3 l4 l5 l6 l7 x0 I L P Q p0 => zr_getI rfl lf_2_41 (fun _ _ _ => rfl) p0),
   (fun d l0 l1 l2 l3 l4 l5 l6 l7 x0 h Q => zr_bipush rfl (by decide)),
   (fun d l0 l1 l2 l3 l4 l5 l6 l7 x1 x0 h Q => zr_ic_ne rfl (by decide)),
   (fun d l0 l1 l2 l3 l4 l5 l6 l7  h Q => zr_aload_n rfl rfl),
   (fun d l0 l1 l2 l3 l4 l5 l6 l7 x0 h Q => zr_iload rfl rfl),
   (fun d l0 l1 l2 l3 l4 l5 l6 l7 x1 x0 I L P Q p0 => zr_putI rfl lf_2_41 (by decide) rfl p0),
   (fun d l0 l1 l2 l3 l4 l5 l6 l7  h Q => zr_aload_n rfl rfl),
   (fun d l0 l1 l2 l3 l4 l5 l6 l7 x0 I L P Q p0 => zr_getI rfl lf_2_51 (fun _ _ _ => rfl) p0),
   (fun d l0 l1 l2 l3 l4 l5 l6 l7 x0 h Q => zr_bipush rfl (by decide)),
   (fun d l0 l1 l2 l3 l4 l5 l6 l7 x1 x0 h Q => zr_ic_ne rfl (by decide)),
   (fun d l0 l1 l2 l3 l4 l5 l6 l7  h Q => zr_aload_n rfl rfl),
   (fun d l0 l1 l2 l3 l4 l5 l6 l7 x0 I L P Q p0 => zr_getQ rfl lf_2_27 (fun _ _ _ => rfl) p0),
   (fun d l0 l1 l2 l3 l4 l5 l6 l7 x0 h Q => zr_iload_n rfl rfl),
   (fun d l0 l1 l2 l3 l4 l5 l6 l7 x1 x0 h Q => zr_iload rfl rfl),
   (fun d l0 l1 l2 l3 l4 l5 l6 l7 x2 x1 x0 I L P Q p0 => zr_vir (as := [.int x2, .int x1]) (rest := []) rfl lm_2_58 m_69 kd_69 rfl (Nat.le_of_ble_eq_true rfl) p0),
   (fun d l0 l1 l2 l3 l4 l5 l6 l7 x0 h Q => zr_goto rfl (by decide)),
   (fun d l0 l1 l2 l3 l4 l5 l6 l7  h Q => zr_bipush rfl (by decide)),
   (fun d l0 l1 l2 l3 l4 l5 l6 l7 x0 h Q => zr_istore (n := 7) rfl (Nat.le_of_ble_eq_true rfl) rfl),
   (fun d l0 l1 l2 l3 l4 l5 l6 l7  h Q => zr_iload rfl rfl),
   (fun d l0 l1 l2 l3 l4 l5 l6 l7 x0 h Q => zr_bipush rfl (by decide)),
   (fun d l0 l1 l2 l3 l4 l5 l6 l7 x1 x0 h Q => zr_ic_eq rfl (by decide)),
   (fun d l0 l1 l2 l3 l4 l5 l6 l7  h Q => zr_aload_n rfl rfl),
   (fun d l0 l1 l2 l3 l4 l5 l6 l7 x0 h Q => zr_iload rfl rfl),
   (fun d l0 l1 l2 l3 l4 l5 l6 l7 x1 x0 I L P Q p0 => zr_putI rfl lf_2_51 (by decide) rfl p0),
   (fun d l0 l1 l2 l3 l4 l5 l6 l7  h Q => zr_aload_n rfl rfl),
   (fun d l0 l1 l2 l3 l4 l5 l6 l7 x0 h Q => zr_iload rfl rfl),
   (fun d l0 l1 l2 l3 l4 l5 l6 l7 x1 x0 I L P Q p0 => zr_putI rfl lf_2_48 (by decide) rfl p0),
   (fun d l0 l1 l2 l3 l4 l5 l6 l7  h Q => zr_aload_n rfl rfl),
   (fun d l0 l1 l2 l3 l4 l5 l6 l7 x0 h Q => zr_aload_n rfl rfl),
   (fun d l0 l1 l2 l3 l4 l5 l6 l7 x1 x0 I L P Q p0 => zr_getQ rfl lf_2_27 (fun _ _ _ => rfl) p0),
   (fun d l0 l1 l2 l3 l4 l5 l6 l7 x1 x0 h Q => zr_iload rfl rfl),
   (fun d l0 l1 l2 l3 l4 l5 l6 l7 x2 x1 x0 h Q => zr_iload_n rfl rfl),
   (fun d l0 l1 l2 l3 l4 l5 l6 l7 x3 x2 x1 x0 h Q => zr_iload rfl rfl),
   (fun d l0 l1 l2 l3 l4 l5 l6 l7 x4 x3 x2 x1 x0 I L P Q p0 => zr_vir (as := [.int x4, .int x3, .int x2]) (rest := [.ref x0]) rfl lm_2_62 m_70 kd_70 rfl (Nat.le_of_ble_eq_true rfl) p0),
   (fun d l0 l1 l2 l3 l4 l5 l6 l7 x1 x0 I L P Q p0 => zr_putI rfl lf_2_45 (by decide) rfl p0),
   (fun d l0 l1 l2 l3 l4 l5 l6 l7  h Q => zr_iinc (n := 5) (kc := 1) rfl rfl (Nat.le_of_ble_eq_true rfl) rfl (by decide)),
   (fun d l0 l1 l2 l3 l4 l5 l6 l7  h Q => zr_goto rfl (by decide)),
   (fun d l0 l1 l2 l3 l4 l5 l6 l7  h Q => zr_vret rfl rfl)⟩
theorem H_X2_burn_45 : ∀ (d : Nat) (l0 : Value) (l1 : Value) (l2 : Value) (l3 : Value) (l4 : Value) (l5 : Int32) (l6 : Value) (l7 : Value)  (h : zMm) (Q : Option Value → zMm → Prop), zWp d zi_14 none 45 [l0, l1, l2, l3, l4, .int l5, l6, l7] [] h Q = zWp d zi_14 none 47 [l0, l1, l2, l3, l4, .int l5, l6, l7] [.int l5] h Q := fun d l0 l1 l2 l3 l4 l5 l6 l7  h Q => zr_iload rfl rfl
theorem E_X2_smoulder : ∀ (d : Nat) (a0 : Nat) (a1 : Nat) (a2 : Nat) (a3 : Int32) (h : zMm) (Q : Option Value → zMm → Prop), zWM (d + 1) 15 [.ref a0, .ref a1, .ref a2, .int a3] h Q = zWp d zi_15 none 0 [.ref a0, .ref a1, .ref a2, .int a3, .retAddr 0, .retAddr 0, .retAddr 0, .retAddr 0] [] h Q := fun d a0 a1 a2 a3 h Q => zW_M m_15 (Nat.le_of_ble_eq_true rfl) rfl
set_option maxRecDepth 100000 in
theorem R_X2_smoulder :
    (∀ (d : Nat) (l0 : Value) (l1 : Value) (l2 : Value) (l3 : Value) (l4 : Value) (l5 : Value) (l6 : Value) (l7 : Value)  (h : zMm) (Q : Option Value → zMm → Prop), zWp d zi_15 none 0 [l0, l1, l2, l3, l4, l5, l6, l7] [] h Q = zWp d zi_15 none 1 [l0, l1, l2, l3, l4, l5, l6, l7] [.int 1] h Q) ∧
    (∀ (d : Nat) (l0 : Value) (l1 : Value) (l2 : Value) (l3 : Int32) (l4 : Value) (l5 : Value) (l6 : Value) (l7 : Value) (x0 : Int32) (h : zMm) (Q : Option Value → zMm → Prop), zWp d zi_15 none 1 [l0, l1, l2, .int l3, l4, l5, l6, l7] [.int x0] h Q = zWp d zi_15 none 3 [l0, l1, l2, .int l3, .int x0, l5, l6, l7] [] h Q) ∧
    (∀ (d : Nat) (l0 : Value) (l1 : Value) (l2 : Value) (l3 : Value) (l4 : Value) (l5 : Value) (l6 : Value) (l7 : Value)  (h : zMm) (Q : Option Value → zMm → Prop), zWp d zi_15 none 3 [l0, l1, l2, l3, l4, l5, l6, l7] [] h Q = zWp d zi_15 none 4 [l0, l1, l2, l3, l4, l5, l6, l7] [.int 0] h Q) ∧
    (∀ (d : Nat) (l0 : Value) (l1 : Value) (l2 : Value) (l3 : Value) (l4 : Int32) (l5 : Value) (l6 : Value) (l7 : Value) (x0 : Int32) (h : zMm) (Q : Option Value → zMm → Prop), zWp d zi_15 none 4 [l0, l1, l2, l3, .int l4, l5, l6, l7] [.int x0] h Q = zWp d zi_15 none 6 [l0, l1, l2, l3, .int l4, .int x0, l6, l7] [] h Q) ∧
    (∀ (d : Nat) (l0 : Nat) (l1 : Value) (l2 : Value) (l3 : Value) (l4 : Value) (l5 : Value) (l6 : Value) (l7 : Value) (x0 : Int32) (h : zMm) (Q : Option Value → zMm → Prop), zWp d zi_15 none 8 [.ref l0, l1, l2, l3, l4, l5, l6, l7] [.int x0] h Q = zWp d zi_15 none 9 [.ref l0, l1, l2, l3, l4, l5, l6, l7] [.ref l0, .int x0] h Q) ∧
    (∀ (d : Nat) (l0 : Value) (l1 : Value) (l2 : Value) (l3 : Value) (l4 : Value) (l5 : Value) (l6 : Value) (l7 : Value) (x1 : Nat) (x0 : Int32) (I : Nat → Nat → Int32) (L : Nat → Nat → Int64) (P : Nat → Nat → Option Nat) (Q : Option Value → zMm → Prop), zSH[x1]? = some (.inl 2) → zWp d zi_15 none 9 [l0, l1, l2, l3, l4, l5, l6, l7] [.ref x1, .int x0] (zSH, I, L, P) Q = zWp d zi_15 none 12 [l0, l1, l2, l3, l4, l5, l6, l7] [.int (I x1 5), .int x0] (zSH, I, L, P) Q) ∧
    (∀ (d : Nat) (l0 : Value) (l1 : Value) (l2 : Value) (l3 : Value) (l4 : Value) (l5 : Value) (l6 : Value) (l7 : Value) (x1 : Int32) (x0 : Int32) (h : zMm) (Q : Option Value → zMm → Prop), zWp d zi_15 none 12 [l0, l1, l2, l3, l4, l5, l6, l7] [.int x1, .int x0] h Q = if x1 ≤ x0 then zWp d zi_15 none 124 [l0, l1, l2, l3, l4, l5, l6, l7] [] h Q else zWp d zi_15 none 15 [l0, l1, l2, l3, l4, l5, l6, l7] [] h Q) ∧
    (∀ (d : Nat) (l0 : Nat) (l1 : Value) (l2 : Value) (l3 : Value) (l4 : Value) (l5 : Value) (l6 : Value) (l7 : Value)  (h : zMm) (Q : Option Value → zMm → Prop), zWp d zi_15 none 15 [.ref l0, l1, l2, l3, l4, l5, l6, l7] [] h Q = zWp d zi_15 none 16 [.ref l0, l1, l2, l3, l4, l5, l6, l7] [.ref l0] h Q) ∧
    (∀ (d : Nat) (l0 : Value) (l1 : Value) (l2 : Value) (l3 : Int32) (l4 : Value) (l5 : Value) (l6 : Value) (l7 : Value) (x0 : Nat) (h : zMm) (Q : Option Value → zMm → Prop), zWp d zi_15 none 16 [l0, l1, l2, .int l3, l4, l5, l6, l7] [.ref x0] h Q = zWp d zi_15 none 17 [l0, l1, l2, .int l3, l4, l5, l6, l7] [.int l3, .ref x0] h Q) ∧
    (∀ (d : Nat) (l0 : Value) (l1 : Value) (l2 : Value) (l3 : Value) (l4 : Value) (l5 : Value) (l6 : Value) (l7 : Value) (x1 : Int32) (x0 : Nat) (h : zMm) (Q : Option Value → zMm → Prop), zWp d zi_15 none 17 [l0, l1, l2, l3, l4, l5, l6, l7] [.int x1, .ref x0] h Q = zWp d zi_15 none 18 [l0, l1, l2, l3, l4, l5, l6, l7] [.int 1, .int x1, .ref x0] h Q) ∧
    (∀ (d : Nat) (l0 : Value) (l1 : Value) (l2 : Value) (l3 : Value) (l4 : Value) (l5 : Value) (l6 : Value) (l7 : Value) (x2 : Int32) (x1 : Int32) (x0 : Nat) (h : zMm) (Q : Option Value → zMm → Prop), zWp d zi_15 none 18 [l0, l1, l2, l3, l4, l5, l6, l7] [.int x2, .int x1, .ref x0] h Q = zWp d zi_15 none 19 [l0, l1, l2, l3, l4, l5, l6, l7] [.int (x1 - x2), .ref x0] h Q) ∧
    (∀ (d : Nat) (l0 : Value) (l1 : Value) (l2 : Value) (l3 : Value) (l4 : Value) (l5 : Int32) (l6 : Value) (l7 : Value) (x1 : Int32) (x0 : Nat) (h : zMm) (Q : Option Value → zMm → Prop), zWp d zi_15 none 19 [l0, l1, l2, l3, l4, .int l5, l6, l7] [.int x1, .ref x0] h Q = zWp d zi_15 none 21 [l0, l1, l2, l3, l4, .int l5, l6, l7] [.int l5, .int x1, .ref x0] h Q) ∧
    (∀ (d : Nat) (l0 : Value) (l1 : Value) (l2 : Value) (l3 : Value) (l4 : Value) (l5 : Value) (l6 : Value) (l7 : Value) (x2 : Int32) (x1 : Int32) (x0 : Nat) (I : Nat → Nat → Int32) (L : Nat → Nat → Int64) (P : Nat → Nat → Option Nat) (Q : Option Value → zMm → Prop), zSH[x0]? = some (.inl 2) → zWp d zi_15 none 21 [l0, l1, l2, l3, l4, l5, l6, l7] [.int x2, .int x1, .ref x0] (zSH, I, L, P) Q = zWM d 19 [.ref x0, .int x1, .int x2] (zSH, I, L, P) (fun r h1 => zWp d zi_15 none 24 [l0, l1, l2, l3, l4, l5, l6, l7] (r.toList ++ []) h1 Q)) ∧
    (∀ (d : Nat) (l0 : Value) (l1 : Value) (l2 : Value) (l3 : Value) (l4 : Value) (l5 : Int32) (l6 : Value) (l7 : Value) (x0 : Int32) (h : zMm) (Q : Option Value → zMm → Prop), zWp d zi_15 none 24 [l0, l1, l2, l3, l4, .int l5, l6, l7] [.int x0] h Q = zWp d zi_15 none 26 [l0, l1, l2, l3, l4, .int l5, .int x0, l7] [] h Q) ∧
    (∀ (d : Nat) (l0 : Nat) (l1 : Value) (l2 : Value) (l3 : Value) (l4 : Value) (l5 : Value) (l6 : Value) (l7 : Value)  (h : zMm) (Q : Option Value → zMm → Prop), zWp d zi_15 none 26 [.ref l0, l1, l2, l3, l4, l5, l6, l7] [] h Q = zWp d zi_15 none 27 [.ref l0, l1, l2, l3, l4, l5, l6, l7] [.ref l0] h Q) ∧
    (∀ (d : Nat) (l0 : Value) (l1 : Value) (l2 : Value) (l3 : Value) (l4 : Value) (l5 : Value) (l6 : Value) (l7 : Value) (x0 : Nat) (I : Nat → Nat → Int32) (L : Nat → Nat → Int64) (P : Nat → Nat → Option Nat) (Q : Option Value → zMm → Prop), zSH[x0]? = some (.inl 2) → zWp d zi_15 none 27 [l0, l1, l2, l3, l4, l5, l6, l7] [.ref x0] (zSH, I, L, P) Q = zWp d zi_15 none 30 [l0, l1, l2, l3, l4, l5, l6, l7] [va_rf (P x0 1)] (zSH, I, L, P) Q) ∧
    (∀ (d : Nat) (l0 : Value) (l1 : Value) (l2 : Value) (l3 : Value) (l4 : Value) (l5 : Int32) (l6 : Value) (l7 : Value) (x0 : Nat) (h : zMm) (Q : Option Value → zMm → Prop), zWp d zi_15 none 30 [l0, l1, l2, l3, l4, .int l5, l6, l7] [.ref x0] h Q = zWp d zi_15 none 32 [l0, l1, l2, l3, l4, .int l5, l6, l7] [.int l5, .ref x0] h Q) ∧
    (∀ (d : Nat) (l0 : Value) (l1 : Value) (l2 : Value) (l3 : Value) (l4 : Value) (l5 : Value) (l6 : Value) (l7 : Value) (x1 : Int32) (x0 : Nat) (I : Nat → Nat → Int32) (L : Nat → Nat → Int64) (P : Nat → Nat → Option Nat) (Q : Option Value → zMm → Prop), zAk zSH x0 = some .int → zWp d zi_15 none 32 [l0, l1, l2, l3, l4, l5, l6, l7] [.int x1, .ref x0] (zSH, I, L, P) Q = (vp_in x1 (zAn zSH x0) ∧ zWp d zi_15 none 33 [l0, l1, l2, l3, l4, l5, l6, l7] [.int (I x0 x1.toNatClampNeg)] (zSH, I, L, P) Q)) ∧
    (∀ (d : Nat) (l0 : Value) (l1 : Value) (l2 : Value) (l3 : Int32) (l4 : Value) (l5 : Value) (l6 : Value) (l7 : Value) (x0 : Int32) (h : zMm) (Q : Option Value → zMm → Prop), zWp d zi_15 none 33 [l0, l1, l2, .int l3, l4, l5, l6, l7] [.int x0] h Q = zWp d zi_15 none 34 [l0, l1, l2, .int l3, l4, l5, l6, l7] [.int l3, .int x0] h Q) ∧
    (∀ (d : Nat) (l0 : Value) (l1 : Value) (l2 : Value) (l3 : Value) (l4 : Value) (l5 : Value) (l6 : Value) (l7 : Value) (x1 : Int32) (x0 : Int32) (h : zMm) (Q : Option Value → zMm → Prop), zWp d zi_15 none 34 [l0, l1, l2, l3, l4, l5, l6, l7] [.int x1, .int x0] h Q = if x0 ≤ x1 then zWp d zi_15 none 42 [l0, l1, l2, l3, l4, l5, l6, l7] [] h Q else zWp d zi_15 none 37 [l0, l1, l2, l3, l4, l5, l6, l7] [] h Q) ∧
    (∀ (d : Nat) (l0 : Value) (l1 : Value) (l2 : Value) (l3 : Value) (l4 : Value) (l5 : Value) (l6 : Int32) (l7 : Value)  (h : zMm) (Q : Option Value → zMm → Prop), zWp d zi_15 none 37 [l0, l1, l2, l3, l4, l5, .int l6, l7] [] h Q = zWp d zi_15 none 39 [l0, l1, l2, l3, l4, l5, .int l6, l7] [.int l6] h Q) ∧
    (∀ (d : Nat) (l0 : Value) (l1 : Value) (l2 : Value) (l3 : Value) (l4 : Value) (l5 : Value) (l6 : Value) (l7 : Value) (x0 : Int32) (h : zMm) (Q : Option Value → zMm → Prop), zWp d zi_15 none 39 [l0, l1, l2, l3, l4, l5, l6, l7] [.int x0] h Q = zWp d zi_15 none 56 [l0, l1, l2, l3, l4, l5, l6, l7] [.int x0] h Q) ∧
    (∀ (d : Nat) (l0 : Value) (l1 : Value) (l2 : Value) (l3 : Value) (l4 : Value) (l5 : Value) (l6 : Int32) (l7 : Value)  (h : zMm) (Q : Option Value → zMm → Prop), zWp d zi_15 none 42 [l0, l1, l2, l3, l4, l5, .int l6, l7] [] h Q = zWp d zi_15 none 44 [l0, l1, l2, l3, l4, l5, .int l6, l7] [.int l6] h Q) ∧
    (∀ (d : Nat) (l0 : Nat) (l1 : Value) (l2 : Value) (l3 : Value) (l4 : Value) (l5 : Value) (l6 : Value) (l7 : Value) (x0 : Int32) (h : zMm) (Q : Option Value → zMm → Prop), zWp d zi_15 none 44 [.ref l0, l1, l2, l3, l4, l5, l6, l7] [.int x0] h Q = zWp d zi_15 none 45 [.ref l0, l1, l2, l3, l4, l5, l6, l7] [.ref l0, .int x0] h Q) ∧
    (∀ (d : Nat) (l0 : Value) (l1 : Nat) (l2 : Value) (l3 : Value) (l4 : Value) (l5 : Value) (l6 : Value) (l7 : Value) (x1 : Nat) (x0 : Int32) (h : zMm) (Q : Option Value → zMm → Prop), zWp d zi_15 none 45 [l0, .ref l1, l2, l3, l4, l5, l6, l7] [.ref x1, .int x0] h Q = zWp d zi_15 none 46 [l0, .ref l1, l2, l3, l4, l5, l6, l7] [.ref l1, .ref x1, .int x0] h Q) ∧
    (∀ (d : Nat) (l0 : Value) (l1 : Value) (l2 : Nat) (l3 : Value) (l4 : Value) (l5 : Value) (l6 : Value) (l7 : Value) (x2 : Nat) (x1 : Nat) (x0 : Int32) (h : zMm) (Q : Option Value → zMm → Prop), zWp d zi_15 none 46 [l0, l1, .ref l2, l3, l4, l5, l6, l7] [.ref x2, .ref x1, .int x0] h Q = zWp d zi_15 none 47 [l0, l1, .ref l2, l3, l4, l5, l6, l7] [.ref l2, .ref x2, .ref x1, .int x0] h Q) ∧
    (∀ (d : Nat) (l0 : Value) (l1 : Value) (l2 : Value) (l3 : Value) (l4 : Value) (l5 : Int32) (l6 : Value) (l7 : Value) (x3 : Nat) (x2 : Nat) (x1 : Nat) (x0 : Int32) (h : zMm) (Q : Option Value → zMm → Prop), zWp d zi_15 none 47 [l0, l1, l2, l3, l4, .int l5, l6, l7] [.ref x3, .ref x2, .ref x1, .int x0] h Q = zWp d zi_15 none 49 [l0, l1, l2, l3, l4, .int l5, l6, l7] [.int l5, .ref x3, .ref x2, .ref x1, .int x0] h Q) ∧
    (∀ (d : Nat) (l0 : Value) (l1 : Value) (l2 : Value) (l3 : Int32) (l4 : Value) (l5 : Value) (l6 : Value) (l7 : Value) (x4 : Int32) (x3 : Nat) (x2 : Nat) (x1 : Nat) (x0 : Int32) (h : zMm) (Q : Option Value → zMm → Prop), zWp d zi_15 none 49 [l0, l1, l2, .int l3, l4, l5, l6, l7] [.int x4, .ref x3, .ref x2, .ref x1, .int x0] h Q = zWp d zi_15 none 50 [l0, l1, l2, .int l3, l4, l5, l6, l7] [.int l3, .int x4, .ref x3, .ref x2, .ref x1, .int x0] h Q) ∧
    (∀ (d : Nat) (l0 : Value) (l1 : Value) (l2 : Value) (l3 : Value) (l4 : Value) (l5 : Value) (l6 : Int32) (l7 : Value) (x5 : Int32) (x4 : Int32) (x3 : Nat) (x2 : Nat) (x1 : Nat) (x0 : Int32) (h : zMm) (Q : Option Value → zMm → Prop), zWp d zi_15 none 50 [l0, l1, l2, l3, l4, l5, .int l6, l7] [.int x5, .int x4, .ref x3, .ref x2, .ref x1, .int x0] h Q = zWp d zi_15 none 52 [l0, l1, l2, l3, l4, l5, .int l6, l7] [.int l6, .int x5, .int x4, .ref x3, .ref x2, .ref x1, .int x0] h Q) ∧
    (∀ (d : Nat) (l0 : Value) (l1 : Value) (l2 : Value) (l3 : Value) (l4 : Value) (l5 : Value) (l6 : Value) (l7 : Value) (x6 : Int32) (x5 : Int32) (x4 : Int32) (x3 : Nat) (x2 : Nat) (x1 : Nat) (x0 : Int32) (I : Nat → Nat → Int32) (L : Nat → Nat → Int64) (P : Nat → Nat → Option Nat) (Q : Option Value → zMm → Prop), zSH[x1]? = some (.inl 2) → zWp d zi_15 none 52 [l0, l1, l2, l3, l4, l5, l6, l7] [.int x6, .int x5, .int x4, .ref x3, .ref x2, .ref x1, .int x0] (zSH, I, L, P) Q = zWM d 17 [.ref x1, .ref x2, .ref x3, .int x4, .int x5, .int x6] (zSH, I, L, P) (fun r h1 => zWp d zi_15 none 55 [l0, l1, l2, l3, l4, l5, l6, l7] (r.toList ++ [.int x0]) h1 Q)) ∧
    (∀ (d : Nat) (l0 : Value) (l1 : Value) (l2 : Value) (l3 : Value) (l4 : Value) (l5 : Value) (l6 : Value) (l7 : Value) (x1 : Int32) (x0 : Int32) (h : zMm) (Q : Option Value → zMm → Prop), zWp d zi_15 none 55 [l0, l1, l2, l3, l4, l5, l6, l7] [.int x1, .int x0] h Q = zWp d zi_15 none 56 [l0, l1, l2, l3, l4, l5, l6, l7] [.int (x0 - x1)] h Q) ∧
    (∀ (d : Nat) (l0 : Value) (l1 : Value) (l2 : Value) (l3 : Value) (l4 : Value) (l5 : Value) (l6 : Int32) (l7 : Value) (x0 : Int32) (h : zMm) (Q : Option Value → zMm → Prop), zWp d zi_15 none 56 [l0, l1, l2, l3, l4, l5, .int l6, l7] [.int x0] h Q = zWp d zi_15 none 58 [l0, l1, l2, l3, l4, l5, .int l6, .int x0] [] h Q) ∧
    (∀ (d : Nat) (l0 : Nat) (l1 : Value) (l2 : Value) (l3 : Value) (l4 : Value) (l5 : Value) (l6 : Value) (l7 : Value)  (h : zMm) (Q : Option Value → zMm → Prop), zWp d zi_15 none 58 [.ref l0, l1, l2, l3, l4, l5, l6, l7] [] h Q = zWp d zi_15 none 59 [.ref l0, l1, l2, l3, l4, l5, l6, l7] [.ref l0] h Q) ∧
    (∀ (d : Nat) (l0 : Value) (l1 : Value) (l2 : Value) (l3 : Value) (l4 : Value) (l5 : Value) (l6 : Value) (l7 : Value) (x0 : Nat) (I : Nat → Nat → Int32) (L : Nat → Nat → Int64) (P : Nat → Nat → Option Nat) (Q : Option Value → zMm → Prop), zSH[x0]? = some (.inl 2) → zWp d zi_15 none 59 [l0, l1, l2, l3, l4, l5, l6, l7] [.ref x0] (zSH, I, L, P) Q = zWp d zi_15 none 62 [l0, l1, l2, l3, l4, l5, l6, l7] [va_rf (P x0 2)] (zSH, I, L, P) Q) ∧
    (∀ (d : Nat) (l0 : Value) (l1 : Value) (l2 : Value) (l3 : Int32) (l4 : Value) (l5 : Value) (l6 : Value) (l7 : Value) (x0 : Nat) (h : zMm) (Q : Option Value → zMm → Prop), zWp d zi_15 none 62 [l0, l1, l2, .int l3, l4, l5, l6, l7] [.ref x0] h Q = zWp d zi_15 none 63 [l0, l1, l2, .int l3, l4, l5, l6, l7] [.int l3, .ref x0] h Q) ∧
    (∀ (d : Nat) (l0 : Value) (l1 : Value) (l2 : Value) (l3 : Value) (l4 : Value) (l5 : Value) (l6 : Value) (l7 : Value) (x1 : Int32) (x0 : Nat) (h : zMm) (Q : Option Value → zMm → Prop), zWp d zi_15 none 63 [l0, l1, l2, l3, l4, l5, l6, l7] [.int x1, .ref x0] h Q = zWp d zi_15 none 65 [l0, l1, l2, l3, l4, l5, l6, l7] [.int 24, .int x1, .ref x0] h Q) ∧
    (∀ (d : Nat) (l0 : Value) (l1 : Value) (l2 : Value) (l3 : Value) (l4 : Value) (l5 : Value) (l6 : Value) (l7 : Value) (x2 : Int32) (x1 : Int32) (x0 : Nat) (h : zMm) (Q : Option Value → zMm → Prop), zWp d zi_15 none 65 [l0, l1, l2, l3, l4, l5, l6, l7] [.int x2, .int x1, .ref x0] h Q = zWp d zi_15 none 66 [l0, l1, l2, l3, l4, l5, l6, l7] [.int (x1 * x2), .ref x0] h Q) ∧
    (∀ (d : Nat) (l0 : Value) (l1 : Value) (l2 : Value) (l3 : Value) (l4 : Value) (l5 : Int32) (l6 : Value) (l7 : Value) (x1 : Int32) (x0 : Nat) (h : zMm) (Q : Option Value → zMm → Prop), zWp d zi_15 none 66 [l0, l1, l2, l3, l4, .int l5, l6, l7] [.int x1, .ref x0] h Q = zWp d zi_15 none 68 [l0, l1, l2, l3, l4, .int l5, l6, l7] [.int l5, .int x1, .ref x0] h Q) ∧
    (∀ (d : Nat) (l0 : Value) (l1 : Value) (l2 : Value) (l3 : Value) (l4 : Value) (l5 : Value) (l6 : Value) (l7 : Value) (x2 : Int32) (x1 : Int32) (x0 : Nat) (h : zMm) (Q : Option Value → zMm → Prop), zWp d zi_15 none 68 [l0, l1, l2, l3, l4, l5, l6, l7] [.int x2, .int x1, .ref x0] h Q = zWp d zi_15 none 69 [l0, l1, l2, l3, l4, l5, l6, l7] [.int (x1 + x2), .ref x0] h Q) ∧
    (∀ (d : Nat) (l0 : Value) (l1 : Value) (l2 : Value) (l3 : Value) (l4 : Value) (l5 : Value) (l6 : Value) (l7 : Int32) (x1 : Int32) (x0 : Nat) (h : zMm) (Q : Option Value → zMm → Prop), zWp d zi_15 none 69 [l0, l1, l2, l3, l4, l5, l6, .int l7] [.int x1, .ref x0] h Q = zWp d zi_15 none 71 [l0, l1, l2, l3, l4, l5, l6, .int l7] [.int l7, .int x1, .ref x0] h Q) ∧
    (∀ (d : Nat) (l0 : Value) (l1 : Value) (l2 : Value) (l3 : Value) (l4 : Value) (l5 : Value) (l6 : Value) (l7 : Value) (x2 : Int32) (x1 : Int32) (x0 : Nat) (I : Nat → Nat → Int32) (L : Nat → Nat → Int64) (P : Nat → Nat → Option Nat) (Q : Option Value → zMm → Prop), zAk zSH x0 = some .int → zWp d zi_15 none 71 [l0, l1, l2, l3, l4, l5, l6, l7] [.int x2, .int x1, .ref x0] (zSH, I, L, P) Q = (vp_in x1 (zAn zSH x0) ∧ zWp d zi_15 none 72 [l0, l1, l2, l3, l4, l5, l6, l7] [] (zSH, zw I x0 (upd (I x0) x1.toNatClampNeg x2), L, P) Q)) ∧
    (∀ (d : Nat) (l0 : Nat) (l1 : Value) (l2 : Value) (l3 : Value) (l4 : Value) (l5 : Value) (l6 : Value) (l7 : Value)  (h : zMm) (Q : Option Value → zMm → Prop), zWp d zi_15 none 72 [.ref l0, l1, l2, l3, l4, l5, l6, l7] [] h Q = zWp d zi_15 none 73 [.ref l0, l1, l2, l3, l4, l5, l6, l7] [.ref l0] h Q) ∧
    (∀ (d : Nat) (l0 : Value) (l1 : Value) (l2 : Value) (l3 : Value) (l4 : Value) (l5 : Value) (l6 : Value) (l7 : Value) (x0 : Nat) (I : Nat → Nat → Int32) (L : Nat → Nat → Int64) (P : Nat → Nat → Option Nat) (Q : Option Value → zMm → Prop), zSH[x0]? = some (.inl 2) → zWp d zi_15 none 73 [l0, l1, l2, l3, l4, l5, l6, l7] [.ref x0] (zSH, I, L, P) Q = zWp d zi_15 none 76 [l0, l1, l2, l3, l4, l5, l6, l7] [va_rf (P x0 4)] (zSH, I, L, P) Q) ∧
    (∀ (d : Nat) (l0 : Value) (l1 : Value) (l2 : Value) (l3 : Value) (l4 : Value) (l5 : Value) (l6 : Value) (l7 : Value) (x0 : Nat) (I : Nat → Nat → Int32) (L : Nat → Nat → Int64) (P : Nat → Nat → Option Nat) (Q : Option Value → zMm → Prop), zSH[x0]? = some (.inl 8) → zWp d zi_15 none 76 [l0, l1, l2, l3, l4, l5, l6, l7] [.ref x0] (zSH, I, L, P) Q = zWp d zi_15 none 79 [l0, l1, l2, l3, l4, l5, l6, l7] [va_rf (P x0 0)] (zSH, I, L, P) Q) ∧
    (∀ (d : Nat) (l0 : Value) (l1 : Value) (l2 : Value) (l3 : Value) (l4 : Value) (l5 : Int32) (l6 : Value) (l7 : Value) (x0 : Nat) (h : zMm) (Q : Option Value → zMm → Prop), zWp d zi_15 none 79 [l0, l1, l2, l3, l4, .int l5, l6, l7] [.ref x0] h Q = zWp d zi_15 none 81 [l0, l1, l2, l3, l4, .int l5, l6, l7] [.int l5, .ref x0] h Q) ∧
    (∀ (d : Nat) (l0 : Value) (l1 : Nat) (l2 : Value) (l3 : Value) (l4 : Value) (l5 : Value) (l6 : Value) (l7 : Value) (x1 : Int32) (x0 : Nat) (h : zMm) (Q : Option Value → zMm → Prop), zWp d zi_15 none 81 [l0, .ref l1, l2, l3, l4, l5, l6, l7] [.int x1, .ref x0] h Q = zWp d zi_15 none 82 [l0, .ref l1, l2, l3, l4, l5, l6, l7] [.ref l1, .int x1, .ref x0] h Q) ∧
    (∀ (d : Nat) (l0 : Value) (l1 : Value) (l2 : Value) (l3 : Value) (l4 : Value) (l5 : Value) (l6 : Value) (l7 : Value) (x2 : Nat) (x1 : Int32) (x0 : Nat) (I : Nat → Nat → Int32) (L : Nat → Nat → Int64) (P : Nat → Nat → Option Nat) (Q : Option Value → zMm → Prop), zSH[x2]? = some (.inl 8) → zWp d zi_15 none 82 [l0, l1, l2, l3, l4, l5, l6, l7] [.ref x2, .int x1, .ref x0] (zSH, I, L, P) Q = zWp d zi_15 none 85 [l0, l1, l2, l3, l4, l5, l6, l7] [va_rf (P x2 0), .int x1, .ref x0] (zSH, I, L, P) Q) ∧
    (∀ (d : Nat) (l0 : Value) (l1 : Value) (l2 : Value) (l3 : Value) (l4 : Value) (l5 : Int32) (l6 : Value) (l7 : Value) (x2 : Nat) (x1 : Int32) (x0 : Nat) (h : zMm) (Q : Option Value → zMm → Prop), zWp d zi_15 none 85 [l0, l1, l2, l3, l4, .int l5, l6, l7] [.ref x2, .int x1, .ref x0] h Q = zWp d zi_15 none 87 [l0, l1, l2, l3, l4, .int l5, l6, l7] [.int l5, .ref x2, .int x1, .ref x0] h Q) ∧
    (∀ (d : Nat) (l0 : Value) (l1 : Value) (l2 : Value) (l3 : Value) (l4 : Value) (l5 : Value) (l6 : Value) (l7 : Value) (x3 : Int32) (x2 : Nat) (x1 : Int32) (x0 : Nat) (I : Nat → Nat → Int32) (L : Nat → Nat → Int64) (P : Nat → Nat → Option Nat) (Q : Option Value → zMm → Prop), zAk zSH x2 = some .int → zWp d zi_15 none 87 [l0, l1, l2, l3, l4, l5, l6, l7] [.int x3, .ref x2, .int x1, .ref x0] (zSH, I, L, P) Q = (vp_in x3 (zAn zSH x2) ∧ zWp d zi_15 none 88 [l0, l1, l2, l3, l4, l5, l6, l7] [.int (I x2 x3.toNatClampNeg), .int x1, .ref x0] (zSH, I, L, P) Q)) ∧
    (∀ (d : Nat) (l0 : Value) (l1 : Value) (l2 : Value) (l3 : Value) (l4 : Value) (l5 : Value) (l6 : Value) (l7 : Int32) (x2 : Int32) (x1 : Int32) (x0 : Nat) (h : zMm) (Q : Option Value → zMm → Prop), zWp d zi_15 none 88 [l0, l1, l2, l3, l4, l5, l6, .int l7] [.int x2, .int x1, .ref x0] h Q = zWp d zi_15 none 90 [l0, l1, l2, l3, l4, l5, l6, .int l7] [.int l7, .int x2, .int x1, .ref x0] h Q) ∧
    (∀ (d : Nat) (l0 : Nat) (l1 : Value) (l2 : Value) (l3 : Value) (l4 : Value) (l5 : Value) (l6 : Value) (l7 : Value) (x3 : Int32) (x2 : Int32) (x1 : Int32) (x0 : Nat) (h : zMm) (Q : Option Value → zMm → Prop), zWp d zi_15 none 90 [.ref l0, l1, l2, l3, l4, l5, l6, l7] [.int x3, .int x2, .int x1, .ref x0] h Q = zWp d zi_15 none 91 [.ref l0, l1, l2, l3, l4, l5, l6, l7] [.ref l0, .int x3, .int x2, .int x1, .ref x0] h Q) ∧
    (∀ (d : Nat) (l0 : Value) (l1 : Value) (l2 : Value) (l3 : Value) (l4 : Value) (l5 : Value) (l6 : Value) (l7 : Value) (x4 : Nat) (x3 : Int32) (x2 : Int32) (x1 : Int32) (x0 : Nat) (I : Nat → Nat → Int32) (L : Nat → Nat → Int64) (P : Nat → Nat → Option Nat) (Q : Option Value → zMm → Prop), zSH[x4]? = some (.inl 2) → zWp d zi_15 none 91 [l0, l1, l2, l3, l4, l5, l6, l7] [.ref x4, .int x3, .int x2, .int x1, .ref x0] (zSH, I, L, P) Q = zWp d zi_15 none 94 [l0, l1, l2, l3, l4, l5, l6, l7] [va_rf (P x4 0), .int x3, .int x2, .int x1, .ref x0] (zSH, I, L, P) Q) ∧
    (∀ (d : Nat) (l0 : Value) (l1 : Value) (l2 : Value) (l3 : Value) (l4 : Value) (l5 : Int32) (l6 : Value) (l7 : Value) (x4 : Nat) (x3 : Int32) (x2 : Int32) (x1 : Int32) (x0 : Nat) (h : zMm) (Q : Option Value → zMm → Prop), zWp d zi_15 none 94 [l0, l1, l2, l3, l4, .int l5, l6, l7] [.ref x4, .int x3, .int x2, .int x1, .ref x0] h Q = zWp d zi_15 none 96 [l0, l1, l2, l3, l4, .int l5, l6, l7] [.int l5, .ref x4, .int x3, .int x2, .int x1, .ref x0] h Q) ∧
    (∀ (d : Nat) (l0 : Value) (l1 : Value) (l2 : Value) (l3 : Value) (l4 : Value) (l5 : Value) (l6 : Value) (l7 : Value) (x5 : Int32) (x4 : Nat) (x3 : Int32) (x2 : Int32) (x1 : Int32) (x0 : Nat) (I : Nat → Nat → Int32) (L : Nat → Nat → Int64) (P : Nat → Nat → Option Nat) (Q : Option Value → zMm → Prop), zAk zSH x4 = some .int → zWp d zi_15 none 96 [l0, l1, l2, l3, l4, l5, l6, l7] [.int x5, .ref x4, .int x3, .int x2, .int x1, .ref x0] (zSH, I, L, P) Q = (vp_in x5 (zAn zSH x4) ∧ zWp d zi_15 none 97 [l0, l1, l2, l3, l4, l5, l6, l7] [.int (I x4 x5.toNatClampNeg), .int x3, .int x2, .int x1, .ref x0] (zSH, I, L, P) Q)) ∧
    (∀ (d : Nat) (l0 : Value) (l1 : Value) (l2 : Value) (l3 : Value) (l4 : Value) (l5 : Value) (l6 : Value) (l7 : Value) (x4 : Int32) (x3 : Int32) (x2 : Int32) (x1 : Int32) (x0 : Nat) (h : zMm) (Q : Option Value → zMm → Prop), zWp d zi_15 none 97 [l0, l1, l2, l3, l4, l5, l6, l7] [.int x4, .int x3, .int x2, .int x1, .ref x0] h Q = zWM d 18 [.int x2, .int x3, .int x4] h (fun r h1 => zWp d zi_15 none 100 [l0, l1, l2, l3, l4, l5, l6, l7] (r.toList ++ [.int x1, .ref x0]) h1 Q)) ∧
    (∀ (d : Nat) (l0 : Value) (l1 : Value) (l2 : Value) (l3 : Value) (l4 : Value) (l5 : Value) (l6 : Value) (l7 : Value) (x2 : Int32) (x1 : Int32) (x0 : Nat) (I : Nat → Nat → Int32) (L : Nat → Nat → Int64) (P : Nat → Nat → Option Nat) (Q : Option Value → zMm → Prop), zAk zSH x0 = some .int → zWp d zi_15 none 100 [l0, l1, l2, l3, l4, l5, l6, l7] [.int x2, .int x1, .ref x0] (zSH, I, L, P) Q = (vp_in x1 (zAn zSH x0) ∧ zWp d zi_15 none 101 [l0, l1, l2, l3, l4, l5, l6, l7] [] (zSH, zw I x0 (upd (I x0) x1.toNatClampNeg x2), L, P) Q)) ∧
    (∀ (d : Nat) (l0 : Value) (l1 : Value) (l2 : Value) (l3 : Value) (l4 : Int32) (l5 : Value) (l6 : Value) (l7 : Value)  (h : zMm) (Q : Option Value → zMm → Prop), zWp d zi_15 none 101 [l0, l1, l2, l3, .int l4, l5, l6, l7] [] h Q = zWp d zi_15 none 103 [l0, l1, l2, l3, .int l4, l5, l6, l7] [.int l4] h Q) ∧
    (∀ (d : Nat) (l0 : Value) (l1 : Value) (l2 : Value) (l3 : Value) (l4 : Value) (l5 : Value) (l6 : Value) (l7 : Value) (x0 : Int32) (h : zMm) (Q : Option Value → zMm → Prop), zWp d zi_15 none 103 [l0, l1, l2, l3, l4, l5, l6, l7] [.int x0] h Q = if x0 = 0 then zWp d zi_15 none 115 [l0, l1, l2, l3, l4, l5, l6, l7] [] h Q else zWp d zi_15 none 106 [l0, l1, l2, l3, l4, l5, l6, l7] [] h Q) ∧
    (∀ (d : Nat) (l0 : Value) (l1 : Value) (l2 : Value) (l3 : Value) (l4 : Value) (l5 : Value) (l6 : Value) (l7 : Int32)  (h : zMm) (Q : Option Value → zMm → Prop), zWp d zi_15 none 106 [l0, l1, l2, l3, l4, l5, l6, .int l7] [] h Q = zWp d zi_15 none 108 [l0, l1, l2, l3, l4, l5, l6, .int l7] [.int l7] h Q) ∧
    (∀ (d : Nat) (l0 : Value) (l1 : Value) (l2 : Value) (l3 : Value) (l4 : Value) (l5 : Value) (l6 : Value) (l7 : Value) (x0 : Int32) (h : zMm) (Q : Option Value → zMm → Prop), zWp d zi_15 none 108 [l0, l1, l2, l3, l4, l5, l6, l7] [.int x0] h Q = if x0 = 0 then zWp d zi_15 none 111 [l0, l1, l2, l3, l4, l5, l6, l7] [] h Q else zWp d zi_15 none 115 [l0, l1, l2, l3, l4, l5, l6, l7] [] h Q) ∧
    (∀ (d : Nat) (l0 : Value) (l1 : Value) (l2 : Value) (l3 : Value) (l4 : Value) (l5 : Value) (l6 : Value) (l7 : Value)  (h : zMm) (Q : Option Value → zMm → Prop), zWp d zi_15 none 111 [l0, l1, l2, l3, l4, l5, l6, l7] [] h Q = zWp d zi_15 none 112 [l0, l1, l2, l3, l4, l5, l6, l7] [.int 1] h Q) ∧
    (∀ (d : Nat) (l0 : Value) (l1 : Value) (l2 : Value) (l3 : Value) (l4 : Value) (l5 : Value) (l6 : Value) (l7 : Value) (x0 : Int32) (h : zMm) (Q : Option Value → zMm → Prop), zWp d zi_15 none 112 [l0, l1, l2, l3, l4, l5, l6, l7] [.int x0] h Q = zWp d zi_15 none 116 [l0, l1, l2, l3, l4, l5, l6, l7] [.int x0] h Q) ∧
    (∀ (d : Nat) (l0 : Value) (l1 : Value) (l2 : Value) (l3 : Value) (l4 : Value) (l5 : Value) (l6 : Value) (l7 : Value)  (h : zMm) (Q : Option Value → zMm → Prop), zWp d zi_15 none 115 [l0, l1, l2, l3, l4, l5, l6, l7] [] h Q = zWp d zi_15 none 116 [l0, l1, l2, l3, l4, l5, l6, l7] [.int 0] h Q) ∧
    (∀ (d : Nat) (l0 : Value) (l1 : Value) (l2 : Value) (l3 : Int32) (l4 : Value) (l5 : Value) (l6 : Value) (l7 : Value) (x0 : Int32) (h : zMm) (Q : Option Value → zMm → Prop), zWp d zi_15 none 116 [l0, l1, l2, .int l3, l4, l5, l6, l7] [.int x0] h Q = zWp d zi_15 none 118 [l0, l1, l2, .int l3, .int x0, l5, l6, l7] [] h Q) ∧
    (∀ (d : Nat) (l0 : Value) (l1 : Value) (l2 : Value) (l3 : Value) (l4 : Int32) (l5 : Int32) (l6 : Value) (l7 : Value)  (h : zMm) (Q : Option Value → zMm → Prop), zWp d zi_15 none 118 [l0, l1, l2, l3, .int l4, .int l5, l6, l7] [] h Q = zWp d zi_15 none 121 [l0, l1, l2, l3, .int l4, .int (l5 + 1), l6, l7] [] h Q) ∧
    (∀ (d : Nat) (l0 : Value) (l1 : Value) (l2 : Value) (l3 : Value) (l4 : Value) (l5 : Value) (l6 : Value) (l7 : Value)  (h : zMm) (Q : Option Value → zMm → Prop), zWp d zi_15 none 121 [l0, l1, l2, l3, l4, l5, l6, l7] [] h Q = zWp d zi_15 none 6 [l0, l1, l2, l3, l4, l5, l6, l7] [] h Q) ∧
    (∀ (d : Nat) (l0 : Nat) (l1 : Value) (l2 : Value) (l3 : Value) (l4 : Value) (l5 : Value) (l6 : Value) (l7 : Value)  (h : zMm) (Q : Option Value → zMm → Prop), zWp d zi_15 none 124 [.ref l0, l1, l2, l3, l4, l5, l6, l7] [] h Q = zWp d zi_15 none 125 [.ref l0, l1, l2, l3, l4, l5, l6, l7] [.ref l0] h Q) ∧
    (∀ (d : Nat) (l0 : Value) (l1 : Value) (l2 : Value) (l3 : Value) (l4 : Value) (l5 : Value) (l6 : Value) (l7 : Value) (x0 : Nat) (I : Nat → Nat → Int32) (L : Nat → Nat → Int64) (P : Nat → Nat → Option Nat) (Q : Option Value → zMm → Prop), zSH[x0]? = some (.inl 2) → zWp d zi_15 none 125 [l0, l1, l2, l3, l4, l5, l6, l7] [.ref x0] (zSH, I, L, P) Q = zWp d zi_15 none 128 [l0, l1, l2, l3, l4, l5, l6, l7] [va_rf (P x0 4)] (zSH, I, L, P) Q) ∧
    (∀ (d : Nat) (l0 : Value) (l1 : Value) (l2 : Value) (l3 : Value) (l4 : Value) (l5 : Value) (l6 : Value) (l7 : Value) (x0 : Nat) (I : Nat → Nat → Int32) (L : Nat → Nat → Int64) (P : Nat → Nat → Option Nat) (Q : Option Value → zMm → Prop), zSH[x0]? = some (.inl 8) → zWp d zi_15 none 128 [l0, l1, l2, l3, l4, l5, l6, l7] [.ref x0] (zSH, I, L, P) Q = zWM d 64 [.ref x0] (zSH, I, L, P) (fun r h1 => zWp d zi_15 none 131 [l0, l1, l2, l3, l4, l5, l6, l7] (r.toList ++ []) h1 Q)) ∧
    (∀ (d : Nat) (l0 : Value) (l1 : Value) (l2 : Value) (l3 : Value) (l4 : Int32) (l5 : Value) (l6 : Value) (l7 : Value)  (h : zMm) (Q : Option Value → zMm → Prop), zWp d zi_15 none 131 [l0, l1, l2, l3, .int l4, l5, l6, l7] [] h Q = zWp d zi_15 none 133 [l0, l1, l2, l3, .int l4, l5, l6, l7] [.int l4] h Q) ∧
    (∀ (d : Nat) (l0 : Value) (l1 : Value) (l2 : Value) (l3 : Value) (l4 : Value) (l5 : Value) (l6 : Value) (l7 : Value) (x0 : Int32) (h : zMm) (Q : Option Value → zMm → Prop), x0 = 0 ∨ x0 = 1 → zWp d zi_15 none 133 [l0, l1, l2, l3, l4, l5, l6, l7] [.int x0] h Q = Q (some (.int x0)) h) :=
  ⟨(fun d l0 l1 l2 l3 l4 l5 l6 l7  h Q => zr_iconst rfl (by decide)),
   (fun d l0 l1 l2 l3 l4 l5 l6 l7 x0 h Q => zr_istore (n := 4) rfl (Nat.le_of_ble_eq_true rfl) rfl),
   (fun d l0 l1 l2 l3 l4 l5 l6 l7  h Q => zr_iconst rfl (by decide)),
   (fun d l0 l1 l2 l3 l4 l5 l6 l7 x0 h Q => zr_istore (n := 5) rfl (Nat.le_of_ble_eq_true rfl) rfl),
   (fun d l0 l1 l2 l3 l4 l5 l6 l7 x0 h Q => zr_aload_n rfl rfl),
   (fun d l0 l1 l2 l3 l4 l5 l6 l7 x1 x0 I L P Q p0 => zr_getI rfl lf_2_66 (fun _ _ _ => rfl) p0),
   (fun d l0 l1 l2 l3 l4 l5 l6 l7 x1 x0 h Q => zr_ic_ge rfl (by decide)),
   (fun d l0 l1 l2 l3 l4 l5 l6 l7  h Q => zr_aload_n rfl rfl),
   (fun d l0 l1 l2 l3 l4 l5 l6 l7 x0 h Q => zr_iload_n rfl rfl),
   (fun d l0 l1 l2 l3 l4 l5 l6 l7 x1 x0 h Q => zr_iconst rfl (by decide)),
   (fun d l0 l1 l2 l3 l4 l5 l6 l7 x2 x1 x0 h Q => zr_isub rfl),
   (fun d l0 l1 l2 l3 l4 l5 l6 l7 x1 x0 h Q => zr_iload rfl rfl),
   (fun d l0 l1 l2 l3 l4 l5 l6 l7 x2 x1 x0 I L P Q p0 => zr_vir (as := [.int x2, .int x1]) (rest := []) rfl lm_2_69 m_19 kd_19 rfl (Nat.le_of_ble_eq_true rfl) p0),
   (fun d l0 l1 l2 l3 l4 l5 l6 l7 x0 h Q => zr_istore (n := 6) rfl (Nat.le_of_ble_eq_true rfl) rfl),
   (fun d l0 l1 l2 l3 l4 l5 l6 l7  h Q => zr_aload_n rfl rfl),
   (fun d l0 l1 l2 l3 l4 l5 l6 l7 x0 I L P Q p0 => zr_getQ rfl lf_2_17 (fun _ _ _ => rfl) p0),
   (fun d l0 l1 l2 l3 l4 l5 l6 l7 x0 h Q => zr_iload rfl rfl),
   (fun d l0 l1 l2 l3 l4 l5 l6 l7 x1 x0 I L P Q p0 => zr_ald rfl p0),
   (fun d l0 l1 l2 l3 l4 l5 l6 l7 x0 h Q => zr_iload_n rfl rfl),
   (fun d l0 l1 l2 l3 l4 l5 l6 l7 x1 x0 h Q => zr_ic_le rfl (by decide)),
   (fun d l0 l1 l2 l3 l4 l5 l6 l7  h Q => zr_iload rfl rfl),
   (fun d l0 l1 l2 l3 l4 l5 l6 l7 x0 h Q => zr_goto rfl (by decide)),
   (fun d l0 l1 l2 l3 l4 l5 l6 l7  h Q => zr_iload rfl rfl),
   (fun d l0 l1 l2 l3 l4 l5 l6 l7 x0 h Q => zr_aload_n rfl rfl),
   (fun d l0 l1 l2 l3 l4 l5 l6 l7 x1 x0 h Q => zr_aload_n rfl rfl),
   (fun d l0 l1 l2 l3 l4 l5 l6 l7 x2 x1 x0 h Q => zr_aload_n rfl rfl),
   (fun d l0 l1 l2 l3 l4 l5 l6 l7 x3 x2 x1 x0 h Q => zr_iload rfl rfl),
   (fun d l0 l1 l2 l3 l4 l5 l6 l7 x4 x3 x2 x1 x0 h Q => zr_iload_n rfl rfl),
   (fun d l0 l1 l2 l3 l4 l5 l6 l7 x5 x4 x3 x2 x1 x0 h Q => zr_iload rfl rfl),
   (fun d l0 l1 l2 l3 l4 l5 l6 l7 x6 x5 x4 x3 x2 x1 x0 I L P Q p0 => zr_vir (as := [.int x6, .int x5, .int x4, .ref x3, .ref x2]) (rest := [.int x0]) rfl lm_2_72 m_17 kd_17 rfl (Nat.le_of_ble_eq_true rfl) p0),
   (fun d l0 l1 l2 l3 l4 l5 l6 l7 x1 x0 h Q => zr_isub rfl),
   (fun d l0 l1 l2 l3 l4 l5 l6 l7 x0 h Q => zr_istore (n := 7) rfl (Nat.le_of_ble_eq_true rfl) rfl),
   (fun d l0 l1 l2 l3 l4 l5 l6 l7  h Q => zr_aload_n rfl rfl),
   (fun d l0 l1 l2 l3 l4 l5 l6 l7 x0 I L P Q p0 => zr_getQ rfl lf_2_20 (fun _ _ _ => rfl) p0),
   (fun d l0 l1 l2 l3 l4 l5 l6 l7 x0 h Q => zr_iload_n rfl rfl),
   (fun d l0 l1 l2 l3 l4 l5 l6 l7 x1 x0 h Q => zr_bipush rfl (by decide)),
   (fun d l0 l1 l2 l3 l4 l5 l6 l7 x2 x1 x0 h Q => zr_imul rfl),
   (fun d l0 l1 l2 l3 l4 l5 l6 l7 x1 x0 h Q => zr_iload rfl rfl),
   (fun d l0 l1 l2 l3 l4 l5 l6 l7 x2 x1 x0 h Q => zr_iadd rfl),
   (fun d l0 l1 l2 l3 l4 l5 l6 l7 x1 x0 h Q => zr_iload rfl rfl),
   (fun d l0 l1 l2 l3 l4 l5 l6 l7 x2 x1 x0 I L P Q p0 => zr_ast rfl p0),
   (fun d l0 l1 l2 l3 l4 l5 l6 l7  h Q => zr_aload_n rfl rfl),
   (fun d l0 l1 l2 l3 l4 l5 l6 l7 x0 I L P Q p0 => zr_getQ rfl lf_2_27 (fun _ _ _ => rfl) p0),
   (fun d l0 l1 l2 l3 l4 l5 l6 l7 x0 I L P Q p0 => zr_getQ rfl lf_2_76 (fun _ _ _ => rfl) p0),
   (fun d l0 l1 l2 l3 l4 l5 l6 l7 x0 h Q => zr_iload rfl rfl),
   (fun d l0 l1 l2 l3 l4 l5 l6 l7 x1 x0 h Q => zr_aload_n rfl rfl),
   (fun d l0 l1 l2 l3 l4 l5 l6 l7 x2 x1 x0 I L P Q p0 => zr_getQ rfl lf_2_76 (fun _ _ _ => rfl) p0),
   (fun d l0 l1 l2 l3 l4 l5 l6 l7 x2 x1 x0 h Q => zr_iload rfl rfl),
   (fun d l0 l1 l2 l3 l4 l5 l6 l7 x3 x2 x1 x0 I L P Q p0 => zr_ald rfl p0),
   (fun d l0 l1 l2 l3 l4 l5 l6 l7 x2 x1 x0 h Q => zr_iload rfl rfl),
   (fun d l0 l1 l2 l3 l4 l5 l6 l7 x3 x2 x1 x0 h Q => zr_aload_n rfl rfl),
   (fun d l0 l1 l2 l3 l4 l5 l6 l7 x4 x3 x2 x1 x0 I L P Q p0 => zr_getQ rfl lf_2_11 (fun _ _ _ => rfl) p0),
   (fun d l0 l1 l2 l3 l4 l5 l6 l7 x4 x3 x2 x1 x0 h Q => zr_iload rfl rfl),
   (fun d l0 l1 l2 l3 l4 l5 l6 l7 x5 x4 x3 x2 x1 x0 I L P Q p0 => zr_ald rfl p0),
   (fun d l0 l1 l2 l3 l4 l5 l6 l7 x4 x3 x2 x1 x0 h Q => zr_sta (as := [.int x4, .int x3, .int x2]) (rest := [.int x1, .ref x0]) rfl lm_2_79 (by decide) m_18 kd_18 rfl (Nat.le_of_ble_eq_true rfl)),
   (fun d l0 l1 l2 l3 l4 l5 l6 l7 x2 x1 x0 I L P Q p0 => zr_ast rfl p0),
   (fun d l0 l1 l2 l3 l4 l5 l6 l7  h Q => zr_iload rfl rfl),
   (fun d l0 l1 l2 l3 l4 l5 l6 l7 x0 h Q => zr_if_eq rfl (by decide)),
   (fun d l0 l1 l2 l3 l4 l5 l6 l7  h Q => zr_iload rfl rfl),
   (fun d l0 l1 l2 l3 l4 l5 l6 l7 x0 h Q => zr_if_ne rfl (by decide)),
   (fun d l0 l1 l2 l3 l4 l5 l6 l7  h Q => zr_iconst rfl (by decide)),
   (fun d l0 l1 l2 l3 l4 l5 l6 l7 x0 h Q => zr_goto rfl (by decide)),
   (fun d l0 l1 l2 l3 l4 l5 l6 l7  h Q => zr_iconst rfl (by decide)),
   (fun d l0 l1 l2 l3 l4 l5 l6 l7 x0 h Q => zr_istore (n := 4) rfl (Nat.le_of_ble_eq_true rfl) rfl),
   (fun d l0 l1 l2 l3 l4 l5 l6 l7  h Q => zr_iinc (n := 5) (kc := 1) rfl rfl (Nat.le_of_ble_eq_true rfl) rfl (by decide)),
   (fun d l0 l1 l2 l3 l4 l5 l6 l7  h Q => zr_goto rfl (by decide)),
   (fun d l0 l1 l2 l3 l4 l5 l6 l7  h Q => zr_aload_n rfl rfl),
   (fun d l0 l1 l2 l3 l4 l5 l6 l7 x0 I L P Q p0 => zr_getQ rfl lf_2_27 (fun _ _ _ => rfl) p0),
   (fun d l0 l1 l2 l3 l4 l5 l6 l7 x0 I L P Q p0 => zr_vir (as := []) (rest := []) rfl lm_2_82 m_64 kd_64 rfl (Nat.le_of_ble_eq_true rfl) p0),
   (fun d l0 l1 l2 l3 l4 l5 l6 l7  h Q => zr_iload rfl rfl),
   (fun d l0 l1 l2 l3 l4 l5 l6 l7 x0 h Q p0 => zr_zret rfl rfl p0)⟩
theorem H_X2_smoulder_6 : ∀ (d : Nat) (l0 : Value) (l1 : Value) (l2 : Value) (l3 : Value) (l4 : Value) (l5 : Int32) (l6 : Value) (l7 : Value)  (h : zMm) (Q : Option Value → zMm → Prop), zWp d zi_15 none 6 [l0, l1, l2, l3, l4, .int l5, l6, l7] [] h Q = zWp d zi_15 none 8 [l0, l1, l2, l3, l4, .int l5, l6, l7] [.int l5] h Q := fun d l0 l1 l2 l3 l4 l5 l6 l7  h Q => zr_iload rfl rfl
theorem E_X2_light : ∀ (d : Nat) (a0 : Nat) (a1 : Nat) (h : zMm) (Q : Option Value → zMm → Prop), zWM (d + 1) 16 [.ref a0, .ref a1] h Q = zWp d zi_16 none 0 [.ref a0, .ref a1, .retAddr 0, .retAddr 0, .retAddr 0] [] h Q := fun d a0 a1 h Q => zW_M m_16 (Nat.le_of_ble_eq_true rfl) rfl
set_option maxRecDepth 100000 in
theorem R_X2_light :
    (∀ (d : Nat) (l0 : Nat) (l1 : Value) (l2 : Value) (l3 : Value) (l4 : Value)  (h : zMm) (Q : Option Value → zMm → Prop), zWp d zi_16 none 0 [.ref l0, l1, l2, l3, l4] [] h Q = zWp d zi_16 none 1 [.ref l0, l1, l2, l3, l4] [.ref l0] h Q) ∧
    (∀ (d : Nat) (l0 : Value) (l1 : Value) (l2 : Value) (l3 : Value) (l4 : Value) (x0 : Nat) (I : Nat → Nat → Int32) (L : Nat → Nat → Int64) (P : Nat → Nat → Option Nat) (Q : Option Value → zMm → Prop), zSH[x0]? = some (.inl 2) → zWp d zi_16 none 1 [l0, l1, l2, l3, l4] [.ref x0] (zSH, I, L, P) Q = zWp d zi_16 none 4 [l0, l1, l2, l3, l4] [va_rf (P x0 4)] (zSH, I, L, P) Q) ∧
    (∀ (d : Nat) (l0 : Value) (l1 : Nat) (l2 : Value) (l3 : Value) (l4 : Value) (x0 : Nat) (h : zMm) (Q : Option Value → zMm → Prop), zWp d zi_16 none 4 [l0, .ref l1, l2, l3, l4] [.ref x0] h Q = zWp d zi_16 none 5 [l0, .ref l1, l2, l3, l4] [.ref l1, .ref x0] h Q) ∧
    (∀ (d : Nat) (l0 : Value) (l1 : Value) (l2 : Value) (l3 : Value) (l4 : Value) (x1 : Nat) (x0 : Nat) (I : Nat → Nat → Int32) (L : Nat → Nat → Int64) (P : Nat → Nat → Option Nat) (Q : Option Value → zMm → Prop), zSH[x0]? = some (.inl 8) → zWp d zi_16 none 5 [l0, l1, l2, l3, l4] [.ref x1, .ref x0] (zSH, I, L, P) Q = zWM d 63 [.ref x0, .ref x1] (zSH, I, L, P) (fun r h1 => zWp d zi_16 none 8 [l0, l1, l2, l3, l4] (r.toList ++ []) h1 Q)) ∧
    (∀ (d : Nat) (l0 : Nat) (l1 : Value) (l2 : Value) (l3 : Value) (l4 : Value)  (h : zMm) (Q : Option Value → zMm → Prop), zWp d zi_16 none 8 [.ref l0, l1, l2, l3, l4] [] h Q = zWp d zi_16 none 9 [.ref l0, l1, l2, l3, l4] [.ref l0] h Q) ∧
    (∀ (d : Nat) (l0 : Value) (l1 : Nat) (l2 : Value) (l3 : Value) (l4 : Value) (x0 : Nat) (h : zMm) (Q : Option Value → zMm → Prop), zWp d zi_16 none 9 [l0, .ref l1, l2, l3, l4] [.ref x0] h Q = zWp d zi_16 none 10 [l0, .ref l1, l2, l3, l4] [.ref l1, .ref x0] h Q) ∧
    (∀ (d : Nat) (l0 : Value) (l1 : Value) (l2 : Value) (l3 : Value) (l4 : Value) (x1 : Nat) (x0 : Nat) (I : Nat → Nat → Int32) (L : Nat → Nat → Int64) (P : Nat → Nat → Option Nat) (Q : Option Value → zMm → Prop), zSH[x1]? = some (.inl 8) → zWp d zi_16 none 10 [l0, l1, l2, l3, l4] [.ref x1, .ref x0] (zSH, I, L, P) Q = zWp d zi_16 none 13 [l0, l1, l2, l3, l4] [.int (I x1 6), .ref x0] (zSH, I, L, P) Q) ∧
    (∀ (d : Nat) (l0 : Value) (l1 : Value) (l2 : Value) (l3 : Value) (l4 : Value) (x1 : Int32) (x0 : Nat) (I : Nat → Nat → Int32) (L : Nat → Nat → Int64) (P : Nat → Nat → Option Nat) (Q : Option Value → zMm → Prop), zSH[x0]? = some (.inl 2) → zWp d zi_16 none 13 [l0, l1, l2, l3, l4] [.int x1, .ref x0] (zSH, I, L, P) Q = zWp d zi_16 none 16 [l0, l1, l2, l3, l4] [] (zSH, zw I x0 (upd (I x0) 5 x1), L, P) Q) ∧
    (∀ (d : Nat) (l0 : Value) (l1 : Value) (l2 : Value) (l3 : Value) (l4 : Value)  (h : zMm) (Q : Option Value → zMm → Prop), zWp d zi_16 none 16 [l0, l1, l2, l3, l4] [] h Q = zWp d zi_16 none 17 [l0, l1, l2, l3, l4] [.int 0] h Q) ∧
    (∀ (d : Nat) (l0 : Value) (l1 : Nat) (l2 : Value) (l3 : Value) (l4 : Value) (x0 : Int32) (h : zMm) (Q : Option Value → zMm → Prop), zWp d zi_16 none 17 [l0, .ref l1, l2, l3, l4] [.int x0] h Q = zWp d zi_16 none 18 [l0, .ref l1, .int x0, l3, l4] [] h Q) ∧
    (∀ (d : Nat) (l0 : Value) (l1 : Value) (l2 : Value) (l3 : Value) (l4 : Value)  (h : zMm) (Q : Option Value → zMm → Prop), zWp d zi_16 none 18 [l0, l1, l2, l3, l4] [] h Q = zWp d zi_16 none 19 [l0, l1, l2, l3, l4] [.int 0] h Q) ∧
    (∀ (d : Nat) (l0 : Value) (l1 : Value) (l2 : Int32) (l3 : Value) (l4 : Value) (x0 : Int32) (h : zMm) (Q : Option Value → zMm → Prop), zWp d zi_16 none 19 [l0, l1, .int l2, l3, l4] [.int x0] h Q = zWp d zi_16 none 20 [l0, l1, .int l2, .int x0, l4] [] h Q) ∧
    (∀ (d : Nat) (l0 : Nat) (l1 : Value) (l2 : Value) (l3 : Value) (l4 : Value) (x0 : Int32) (h : zMm) (Q : Option Value → zMm → Prop), zWp d zi_16 none 21 [.ref l0, l1, l2, l3, l4] [.int x0] h Q = zWp d zi_16 none 22 [.ref l0, l1, l2, l3, l4] [.ref l0, .int x0] h Q) ∧
    (∀ (d : Nat) (l0 : Value) (l1 : Value) (l2 : Value) (l3 : Value) (l4 : Value) (x1 : Nat) (x0 : Int32) (I : Nat → Nat → Int32) (L : Nat → Nat → Int64) (P : Nat → Nat → Option Nat) (Q : Option Value → zMm → Prop), zSH[x1]? = some (.inl 2) → zWp d zi_16 none 22 [l0, l1, l2, l3, l4] [.ref x1, .int x0] (zSH, I, L, P) Q = zWp d zi_16 none 25 [l0, l1, l2, l3, l4] [.int (I x1 5), .int x0] (zSH, I, L, P) Q) ∧
    (∀ (d : Nat) (l0 : Value) (l1 : Value) (l2 : Value) (l3 : Value) (l4 : Value) (x1 : Int32) (x0 : Int32) (h : zMm) (Q : Option Value → zMm → Prop), zWp d zi_16 none 25 [l0, l1, l2, l3, l4] [.int x1, .int x0] h Q = if x1 ≤ x0 then zWp d zi_16 none 100 [l0, l1, l2, l3, l4] [] h Q else zWp d zi_16 none 28 [l0, l1, l2, l3, l4] [] h Q) ∧
    (∀ (d : Nat) (l0 : Value) (l1 : Nat) (l2 : Value) (l3 : Value) (l4 : Value)  (h : zMm) (Q : Option Value → zMm → Prop), zWp d zi_16 none 28 [l0, .ref l1, l2, l3, l4] [] h Q = zWp d zi_16 none 29 [l0, .ref l1, l2, l3, l4] [.ref l1] h Q) ∧
    (∀ (d : Nat) (l0 : Value) (l1 : Value) (l2 : Value) (l3 : Value) (l4 : Value) (x0 : Nat) (I : Nat → Nat → Int32) (L : Nat → Nat → Int64) (P : Nat → Nat → Option Nat) (Q : Option Value → zMm → Prop), zSH[x0]? = some (.inl 8) → zWp d zi_16 none 29 [l0, l1, l2, l3, l4] [.ref x0] (zSH, I, L, P) Q = zWp d zi_16 none 32 [l0, l1, l2, l3, l4] [va_rf (P x0 0)] (zSH, I, L, P) Q) ∧
    (∀ (d : Nat) (l0 : Value) (l1 : Value) (l2 : Value) (l3 : Int32) (l4 : Value) (x0 : Nat) (h : zMm) (Q : Option Value → zMm → Prop), zWp d zi_16 none 32 [l0, l1, l2, .int l3, l4] [.ref x0] h Q = zWp d zi_16 none 33 [l0, l1, l2, .int l3, l4] [.int l3, .ref x0] h Q) ∧
    (∀ (d : Nat) (l0 : Value) (l1 : Value) (l2 : Value) (l3 : Value) (l4 : Value) (x1 : Int32) (x0 : Nat) (I : Nat → Nat → Int32) (L : Nat → Nat → Int64) (P : Nat → Nat → Option Nat) (Q : Option Value → zMm → Prop), zAk zSH x0 = some .int → zWp d zi_16 none 33 [l0, l1, l2, l3, l4] [.int x1, .ref x0] (zSH, I, L, P) Q = (vp_in x1 (zAn zSH x0) ∧ zWp d zi_16 none 34 [l0, l1, l2, l3, l4] [.int (I x0 x1.toNatClampNeg)] (zSH, I, L, P) Q)) ∧
    (∀ (d : Nat) (l0 : Value) (l1 : Nat) (l2 : Value) (l3 : Value) (l4 : Value) (x0 : Int32) (h : zMm) (Q : Option Value → zMm → Prop), zWp d zi_16 none 34 [l0, .ref l1, l2, l3, l4] [.int x0] h Q = zWp d zi_16 none 35 [l0, .ref l1, l2, l3, l4] [.ref l1, .int x0] h Q) ∧
    (∀ (d : Nat) (l0 : Value) (l1 : Value) (l2 : Value) (l3 : Value) (l4 : Value) (x1 : Nat) (x0 : Int32) (I : Nat → Nat → Int32) (L : Nat → Nat → Int64) (P : Nat → Nat → Option Nat) (Q : Option Value → zMm → Prop), zSH[x1]? = some (.inl 8) → zWp d zi_16 none 35 [l0, l1, l2, l3, l4] [.ref x1, .int x0] (zSH, I, L, P) Q = zWp d zi_16 none 38 [l0, l1, l2, l3, l4] [va_rf (P x1 1), .int x0] (zSH, I, L, P) Q) ∧
    (∀ (d : Nat) (l0 : Value) (l1 : Value) (l2 : Value) (l3 : Int32) (l4 : Value) (x1 : Nat) (x0 : Int32) (h : zMm) (Q : Option Value → zMm → Prop), zWp d zi_16 none 38 [l0, l1, l2, .int l3, l4] [.ref x1, .int x0] h Q = zWp d zi_16 none 39 [l0, l1, l2, .int l3, l4] [.int l3, .ref x1, .int x0] h Q) ∧
    (∀ (d : Nat) (l0 : Value) (l1 : Value) (l2 : Value) (l3 : Value) (l4 : Value) (x2 : Int32) (x1 : Nat) (x0 : Int32) (I : Nat → Nat → Int32) (L : Nat → Nat → Int64) (P : Nat → Nat → Option Nat) (Q : Option Value → zMm → Prop), zAk zSH x1 = some .int → zWp d zi_16 none 39 [l0, l1, l2, l3, l4] [.int x2, .ref x1, .int x0] (zSH, I, L, P) Q = (vp_in x2 (zAn zSH x1) ∧ zWp d zi_16 none 40 [l0, l1, l2, l3, l4] [.int (I x1 x2.toNatClampNeg), .int x0] (zSH, I, L, P) Q)) ∧
    (∀ (d : Nat) (l0 : Value) (l1 : Value) (l2 : Value) (l3 : Value) (l4 : Value) (x1 : Int32) (x0 : Int32) (h : zMm) (Q : Option Value → zMm → Prop), zWp d zi_16 none 40 [l0, l1, l2, l3, l4] [.int x1, .int x0] h Q = zWp d zi_16 none 41 [l0, l1, l2, l3, l4] [.int (x0 - x1)] h Q) ∧
    (∀ (d : Nat) (l0 : Value) (l1 : Value) (l2 : Value) (l3 : Int32) (l4 : Value) (x0 : Int32) (h : zMm) (Q : Option Value → zMm → Prop), zWp d zi_16 none 41 [l0, l1, l2, .int l3, l4] [.int x0] h Q = zWp d zi_16 none 43 [l0, l1, l2, .int l3, .int x0] [] h Q) ∧
    (∀ (d : Nat) (l0 : Nat) (l1 : Value) (l2 : Value) (l3 : Value) (l4 : Value)  (h : zMm) (Q : Option Value → zMm → Prop), zWp d zi_16 none 43 [.ref l0, l1, l2, l3, l4] [] h Q = zWp d zi_16 none 44 [.ref l0, l1, l2, l3, l4] [.ref l0] h Q) ∧
    (∀ (d : Nat) (l0 : Value) (l1 : Value) (l2 : Value) (l3 : Value) (l4 : Value) (x0 : Nat) (I : Nat → Nat → Int32) (L : Nat → Nat → Int64) (P : Nat → Nat → Option Nat) (Q : Option Value → zMm → Prop), zSH[x0]? = some (.inl 2) → zWp d zi_16 none 44 [l0, l1, l2, l3, l4] [.ref x0] (zSH, I, L, P) Q = zWp d zi_16 none 47 [l0, l1, l2, l3, l4] [va_rf (P x0 0)] (zSH, I, L, P) Q) ∧
    (∀ (d : Nat) (l0 : Value) (l1 : Value) (l2 : Value) (l3 : Int32) (l4 : Value) (x0 : Nat) (h : zMm) (Q : Option Value → zMm → Prop), zWp d zi_16 none 47 [l0, l1, l2, .int l3, l4] [.ref x0] h Q = zWp d zi_16 none 48 [l0, l1, l2, .int l3, l4] [.int l3, .ref x0] h Q) ∧
    (∀ (d : Nat) (l0 : Value) (l1 : Value) (l2 : Value) (l3 : Value) (l4 : Value) (x1 : Int32) (x0 : Nat) (h : zMm) (Q : Option Value → zMm → Prop), zWp d zi_16 none 48 [l0, l1, l2, l3, l4] [.int x1, .ref x0] h Q = zWp d zi_16 none 50 [l0, l1, l2, l3, l4] [.int 12, .int x1, .ref x0] h Q) ∧
    (∀ (d : Nat) (l0 : Value) (l1 : Value) (l2 : Value) (l3 : Value) (l4 : Int32) (x2 : Int32) (x1 : Int32) (x0 : Nat) (h : zMm) (Q : Option Value → zMm → Prop), zWp d zi_16 none 50 [l0, l1, l2, l3, .int l4] [.int x2, .int x1, .ref x0] h Q = zWp d zi_16 none 52 [l0, l1, l2, l3, .int l4] [.int l4, .int x2, .int x1, .ref x0] h Q) ∧
    (∀ (d : Nat) (l0 : Value) (l1 : Value) (l2 : Value) (l3 : Value) (l4 : Value) (x3 : Int32) (x2 : Int32) (x1 : Int32) (x0 : Nat) (h : zMm) (Q : Option Value → zMm → Prop), zWp d zi_16 none 52 [l0, l1, l2, l3, l4] [.int x3, .int x2, .int x1, .ref x0] h Q = zWp d zi_16 none 53 [l0, l1, l2, l3, l4] [.int (x2 * x3), .int x1, .ref x0] h Q) ∧
    (∀ (d : Nat) (l0 : Value) (l1 : Value) (l2 : Value) (l3 : Value) (l4 : Value) (x2 : Int32) (x1 : Int32) (x0 : Nat) (h : zMm) (Q : Option Value → zMm → Prop), zWp d zi_16 none 53 [l0, l1, l2, l3, l4] [.int x2, .int x1, .ref x0] h Q = zWp d zi_16 none 55 [l0, l1, l2, l3, l4] [.int 8, .int x2, .int x1, .ref x0] h Q) ∧
    (∀ (d : Nat) (l0 : Value) (l1 : Nat) (l2 : Value) (l3 : Value) (l4 : Value) (x3 : Int32) (x2 : Int32) (x1 : Int32) (x0 : Nat) (h : zMm) (Q : Option Value → zMm → Prop), zWp d zi_16 none 55 [l0, .ref l1, l2, l3, l4] [.int x3, .int x2, .int x1, .ref x0] h Q = zWp d zi_16 none 56 [l0, .ref l1, l2, l3, l4] [.ref l1, .int x3, .int x2, .int x1, .ref x0] h Q) ∧
    (∀ (d : Nat) (l0 : Value) (l1 : Value) (l2 : Value) (l3 : Value) (l4 : Value) (x4 : Nat) (x3 : Int32) (x2 : Int32) (x1 : Int32) (x0 : Nat) (I : Nat → Nat → Int32) (L : Nat → Nat → Int64) (P : Nat → Nat → Option Nat) (Q : Option Value → zMm → Prop), zSH[x4]? = some (.inl 8) → zWp d zi_16 none 56 [l0, l1, l2, l3, l4] [.ref x4, .int x3, .int x2, .int x1, .ref x0] (zSH, I, L, P) Q = zWp d zi_16 none 59 [l0, l1, l2, l3, l4] [va_rf (P x4 1), .int x3, .int x2, .int x1, .ref x0] (zSH, I, L, P) Q) ∧
    (∀ (d : Nat) (l0 : Value) (l1 : Value) (l2 : Value) (l3 : Int32) (l4 : Value) (x4 : Nat) (x3 : Int32) (x2 : Int32) (x1 : Int32) (x0 : Nat) (h : zMm) (Q : Option Value → zMm → Prop), zWp d zi_16 none 59 [l0, l1, l2, .int l3, l4] [.ref x4, .int x3, .int x2, .int x1, .ref x0] h Q = zWp d zi_16 none 60 [l0, l1, l2, .int l3, l4] [.int l3, .ref x4, .int x3, .int x2, .int x1, .ref x0] h Q) ∧
    (∀ (d : Nat) (l0 : Value) (l1 : Value) (l2 : Value) (l3 : Value) (l4 : Value) (x5 : Int32) (x4 : Nat) (x3 : Int32) (x2 : Int32) (x1 : Int32) (x0 : Nat) (I : Nat → Nat → Int32) (L : Nat → Nat → Int64) (P : Nat → Nat → Option Nat) (Q : Option Value → zMm → Prop), zAk zSH x4 = some .int → zWp d zi_16 none 60 [l0, l1, l2, l3, l4] [.int x5, .ref x4, .int x3, .int x2, .int x1, .ref x0] (zSH, I, L, P) Q = (vp_in x5 (zAn zSH x4) ∧ zWp d zi_16 none 61 [l0, l1, l2, l3, l4] [.int (I x4 x5.toNatClampNeg), .int x3, .int x2, .int x1, .ref x0] (zSH, I, L, P) Q)) ∧
    (∀ (d : Nat) (l0 : Value) (l1 : Value) (l2 : Value) (l3 : Value) (l4 : Value) (x4 : Int32) (x3 : Int32) (x2 : Int32) (x1 : Int32) (x0 : Nat) (h : zMm) (Q : Option Value → zMm → Prop), zWp d zi_16 none 61 [l0, l1, l2, l3, l4] [.int x4, .int x3, .int x2, .int x1, .ref x0] h Q = zWp d zi_16 none 62 [l0, l1, l2, l3, l4] [.int (x3 * x4), .int x2, .int x1, .ref x0] h Q) ∧
    (∀ (d : Nat) (l0 : Value) (l1 : Value) (l2 : Value) (l3 : Value) (l4 : Value) (x3 : Int32) (x2 : Int32) (x1 : Int32) (x0 : Nat) (h : zMm) (Q : Option Value → zMm → Prop), zWp d zi_16 none 62 [l0, l1, l2, l3, l4] [.int x3, .int x2, .int x1, .ref x0] h Q = zWp d zi_16 none 63 [l0, l1, l2, l3, l4] [.int (x2 + x3), .int x1, .ref x0] h Q) ∧
    (∀ (d : Nat) (l0 : Value) (l1 : Value) (l2 : Value) (l3 : Value) (l4 : Value) (x2 : Int32) (x1 : Int32) (x0 : Nat) (I : Nat → Nat → Int32) (L : Nat → Nat → Int64) (P : Nat → Nat → Option Nat) (Q : Option Value → zMm → Prop), zAk zSH x0 = some .int → zWp d zi_16 none 63 [l0, l1, l2, l3, l4] [.int x2, .int x1, .ref x0] (zSH, I, L, P) Q = (vp_in x1 (zAn zSH x0) ∧ zWp d zi_16 none 64 [l0, l1, l2, l3, l4] [] (zSH, zw I x0 (upd (I x0) x1.toNatClampNeg x2), L, P) Q)) ∧
    (∀ (d : Nat) (l0 : Value) (l1 : Value) (l2 : Value) (l3 : Int32) (l4 : Value)  (h : zMm) (Q : Option Value → zMm → Prop), zWp d zi_16 none 64 [l0, l1, l2, .int l3, l4] [] h Q = zWp d zi_16 none 65 [l0, l1, l2, .int l3, l4] [.int l3] h Q) ∧
    (∀ (d : Nat) (l0 : Value) (l1 : Value) (l2 : Value) (l3 : Value) (l4 : Value) (x0 : Int32) (h : zMm) (Q : Option Value → zMm → Prop), zWp d zi_16 none 65 [l0, l1, l2, l3, l4] [.int x0] h Q = if x0 ≤ 0 then zWp d zi_16 none 87 [l0, l1, l2, l3, l4] [] h Q else zWp d zi_16 none 68 [l0, l1, l2, l3, l4] [] h Q) ∧
    (∀ (d : Nat) (l0 : Value) (l1 : Value) (l2 : Int32) (l3 : Value) (l4 : Value)  (h : zMm) (Q : Option Value → zMm → Prop), zWp d zi_16 none 68 [l0, l1, .int l2, l3, l4] [] h Q = zWp d zi_16 none 69 [l0, l1, .int l2, l3, l4] [.int l2] h Q) ∧
    (∀ (d : Nat) (l0 : Value) (l1 : Nat) (l2 : Value) (l3 : Value) (l4 : Value) (x0 : Int32) (h : zMm) (Q : Option Value → zMm → Prop), zWp d zi_16 none 69 [l0, .ref l1, l2, l3, l4] [.int x0] h Q = zWp d zi_16 none 70 [l0, .ref l1, l2, l3, l4] [.ref l1, .int x0] h Q) ∧
    (∀ (d : Nat) (l0 : Value) (l1 : Value) (l2 : Value) (l3 : Value) (l4 : Value) (x1 : Nat) (x0 : Int32) (I : Nat → Nat → Int32) (L : Nat → Nat → Int64) (P : Nat → Nat → Option Nat) (Q : Option Value → zMm → Prop), zSH[x1]? = some (.inl 8) → zWp d zi_16 none 70 [l0, l1, l2, l3, l4] [.ref x1, .int x0] (zSH, I, L, P) Q = zWp d zi_16 none 73 [l0, l1, l2, l3, l4] [va_rf (P x1 1), .int x0] (zSH, I, L, P) Q) ∧
    (∀ (d : Nat) (l0 : Value) (l1 : Value) (l2 : Value) (l3 : Int32) (l4 : Value) (x1 : Nat) (x0 : Int32) (h : zMm) (Q : Option Value → zMm → Prop), zWp d zi_16 none 73 [l0, l1, l2, .int l3, l4] [.ref x1, .int x0] h Q = zWp d zi_16 none 74 [l0, l1, l2, .int l3, l4] [.int l3, .ref x1, .int x0] h Q) ∧
    (∀ (d : Nat) (l0 : Value) (l1 : Value) (l2 : Value) (l3 : Value) (l4 : Value) (x2 : Int32) (x1 : Nat) (x0 : Int32) (I : Nat → Nat → Int32) (L : Nat → Nat → Int64) (P : Nat → Nat → Option Nat) (Q : Option Value → zMm → Prop), zAk zSH x1 = some .int → zWp d zi_16 none 74 [l0, l1, l2, l3, l4] [.int x2, .ref x1, .int x0] (zSH, I, L, P) Q = (vp_in x2 (zAn zSH x1) ∧ zWp d zi_16 none 75 [l0, l1, l2, l3, l4] [.int (I x1 x2.toNatClampNeg), .int x0] (zSH, I, L, P) Q)) ∧
    (∀ (d : Nat) (l0 : Value) (l1 : Value) (l2 : Value) (l3 : Value) (l4 : Int32) (x1 : Int32) (x0 : Int32) (h : zMm) (Q : Option Value → zMm → Prop), zWp d zi_16 none 75 [l0, l1, l2, l3, .int l4] [.int x1, .int x0] h Q = zWp d zi_16 none 77 [l0, l1, l2, l3, .int l4] [.int l4, .int x1, .int x0] h Q) ∧
    (∀ (d : Nat) (l0 : Value) (l1 : Value) (l2 : Value) (l3 : Value) (l4 : Value) (x2 : Int32) (x1 : Int32) (x0 : Int32) (h : zMm) (Q : Option Value → zMm → Prop), zWp d zi_16 none 77 [l0, l1, l2, l3, l4] [.int x2, .int x1, .int x0] h Q = if x1 ≤ x2 then zWp d zi_16 none 84 [l0, l1, l2, l3, l4] [.int x0] h Q else zWp d zi_16 none 80 [l0, l1, l2, l3, l4] [.int x0] h Q) ∧
    (∀ (d : Nat) (l0 : Value) (l1 : Value) (l2 : Value) (l3 : Value) (l4 : Value) (x0 : Int32) (h : zMm) (Q : Option Value → zMm → Prop), zWp d zi_16 none 80 [l0, l1, l2, l3, l4] [.int x0] h Q = zWp d zi_16 none 81 [l0, l1, l2, l3, l4] [.int 4, .int x0] h Q) ∧
    (∀ (d : Nat) (l0 : Value) (l1 : Value) (l2 : Value) (l3 : Value) (l4 : Value) (x1 : Int32) (x0 : Int32) (h : zMm) (Q : Option Value → zMm → Prop), zWp d zi_16 none 81 [l0, l1, l2, l3, l4] [.int x1, .int x0] h Q = zWp d zi_16 none 85 [l0, l1, l2, l3, l4] [.int x1, .int x0] h Q) ∧
    (∀ (d : Nat) (l0 : Value) (l1 : Value) (l2 : Value) (l3 : Value) (l4 : Value) (x0 : Int32) (h : zMm) (Q : Option Value → zMm → Prop), zWp d zi_16 none 84 [l0, l1, l2, l3, l4] [.int x0] h Q = zWp d zi_16 none 85 [l0, l1, l2, l3, l4] [.int 2, .int x0] h Q) ∧
    (∀ (d : Nat) (l0 : Value) (l1 : Value) (l2 : Value) (l3 : Value) (l4 : Value) (x1 : Int32) (x0 : Int32) (h : zMm) (Q : Option Value → zMm → Prop), zWp d zi_16 none 85 [l0, l1, l2, l3, l4] [.int x1, .int x0] h Q = zWp d zi_16 none 86 [l0, l1, l2, l3, l4] [.int (x0 + x1)] h Q) ∧
    (∀ (d : Nat) (l0 : Value) (l1 : Nat) (l2 : Value) (l3 : Value) (l4 : Value) (x0 : Int32) (h : zMm) (Q : Option Value → zMm → Prop), zWp d zi_16 none 86 [l0, .ref l1, l2, l3, l4] [.int x0] h Q = zWp d zi_16 none 87 [l0, .ref l1, .int x0, l3, l4] [] h Q) ∧
    (∀ (d : Nat) (l0 : Nat) (l1 : Value) (l2 : Value) (l3 : Value) (l4 : Value)  (h : zMm) (Q : Option Value → zMm → Prop), zWp d zi_16 none 87 [.ref l0, l1, l2, l3, l4] [] h Q = zWp d zi_16 none 88 [.ref l0, l1, l2, l3, l4] [.ref l0] h Q) ∧
    (∀ (d : Nat) (l0 : Value) (l1 : Value) (l2 : Value) (l3 : Value) (l4 : Value) (x0 : Nat) (I : Nat → Nat → Int32) (L : Nat → Nat → Int64) (P : Nat → Nat → Option Nat) (Q : Option Value → zMm → Prop), zSH[x0]? = some (.inl 2) → zWp d zi_16 none 88 [l0, l1, l2, l3, l4] [.ref x0] (zSH, I, L, P) Q = zWp d zi_16 none 91 [l0, l1, l2, l3, l4] [va_rf (P x0 1)] (zSH, I, L, P) Q) ∧
    (∀ (d : Nat) (l0 : Value) (l1 : Value) (l2 : Value) (l3 : Int32) (l4 : Value) (x0 : Nat) (h : zMm) (Q : Option Value → zMm → Prop), zWp d zi_16 none 91 [l0, l1, l2, .int l3, l4] [.ref x0] h Q = zWp d zi_16 none 92 [l0, l1, l2, .int l3, l4] [.int l3, .ref x0] h Q) ∧
    (∀ (d : Nat) (l0 : Value) (l1 : Value) (l2 : Int32) (l3 : Value) (l4 : Value) (x1 : Int32) (x0 : Nat) (h : zMm) (Q : Option Value → zMm → Prop), zWp d zi_16 none 92 [l0, l1, .int l2, l3, l4] [.int x1, .ref x0] h Q = zWp d zi_16 none 93 [l0, l1, .int l2, l3, l4] [.int l2, .int x1, .ref x0] h Q) ∧
    (∀ (d : Nat) (l0 : Value) (l1 : Value) (l2 : Value) (l3 : Value) (l4 : Value) (x2 : Int32) (x1 : Int32) (x0 : Nat) (I : Nat → Nat → Int32) (L : Nat → Nat → Int64) (P : Nat → Nat → Option Nat) (Q : Option Value → zMm → Prop), zAk zSH x0 = some .int → zWp d zi_16 none 93 [l0, l1, l2, l3, l4] [.int x2, .int x1, .ref x0] (zSH, I, L, P) Q = (vp_in x1 (zAn zSH x0) ∧ zWp d zi_16 none 94 [l0, l1, l2, l3, l4] [] (zSH, zw I x0 (upd (I x0) x1.toNatClampNeg x2), L, P) Q)) ∧
    (∀ (d : Nat) (l0 : Value) (l1 : Value) (l2 : Int32) (l3 : Int32) (l4 : Value)  (h : zMm) (Q : Option Value → zMm → Prop), zWp d zi_16 none 94 [l0, l1, .int l2, .int l3, l4] [] h Q = zWp d zi_16 none 97 [l0, l1, .int l2, .int (l3 + 1), l4] [] h Q) ∧
    (∀ (d : Nat) (l0 : Value) (l1 : Value) (l2 : Value) (l3 : Value) (l4 : Value)  (h : zMm) (Q : Option Value → zMm → Prop), zWp d zi_16 none 97 [l0, l1, l2, l3, l4] [] h Q = zWp d zi_16 none 20 [l0, l1, l2, l3, l4] [] h Q) ∧
    (∀ (d : Nat) (l0 : Value) (l1 : Value) (l2 : Value) (l3 : Value) (l4 : Value)  (h : zMm) (Q : Option Value → zMm → Prop), zWp d zi_16 none 100 [l0, l1, l2, l3, l4] [] h Q = Q none h) :=
  ⟨(fun d l0 l1 l2 l3 l4  h Q => zr_aload_n rfl rfl),
   (fun d l0 l1 l2 l3 l4 x0 I L P Q p0 => zr_getQ rfl lf_2_27 (fun _ _ _ => rfl) p0),
   (fun d l0 l1 l2 l3 l4 x0 h Q => zr_aload_n rfl rfl),
   (fun d l0 l1 l2 l3 l4 x1 x0 I L P Q p0 => zr_vir (as := [.ref x1]) (rest := []) rfl lm_2_85 m_63 kd_63 rfl (Nat.le_of_ble_eq_true rfl) p0),
   (fun d l0 l1 l2 l3 l4  h Q => zr_aload_n rfl rfl),
   (fun d l0 l1 l2 l3 l4 x0 h Q => zr_aload_n rfl rfl),
   (fun d l0 l1 l2 l3 l4 x1 x0 I L P Q p0 => zr_getI rfl lf_2_88 (fun _ _ _ => rfl) p0),
   (fun d l0 l1 l2 l3 l4 x1 x0 I L P Q p0 => zr_putI rfl lf_2_66 (by decide) rfl p0),
   (fun d l0 l1 l2 l3 l4  h Q => zr_iconst rfl (by decide)),
   (fun d l0 l1 l2 l3 l4 x0 h Q => zr_istore_n (n := 2) rfl (Nat.le_of_ble_eq_true rfl) rfl),
   (fun d l0 l1 l2 l3 l4  h Q => zr_iconst rfl (by decide)),
   (fun d l0 l1 l2 l3 l4 x0 h Q => zr_istore_n (n := 3) rfl (Nat.le_of_ble_eq_true rfl) rfl),
   (fun d l0 l1 l2 l3 l4 x0 h Q => zr_aload_n rfl rfl),
   (fun d l0 l1 l2 l3 l4 x1 x0 I L P Q p0 => zr_getI rfl lf_2_66 (fun _ _ _ => rfl) p0),
   (fun d l0 l1 l2 l3 l4 x1 x0 h Q => zr_ic_ge rfl (by decide)),
   (fun d l0 l1 l2 l3 l4  h Q => zr_aload_n rfl rfl),
   (fun d l0 l1 l2 l3 l4 x0 I L P Q p0 => zr_getQ rfl lf_2_76 (fun _ _ _ => rfl) p0),
   (fun d l0 l1 l2 l3 l4 x0 h Q => zr_iload_n rfl rfl),
   (fun d l0 l1 l2 l3 l4 x1 x0 I L P Q p0 => zr_ald rfl p0),
   (fun d l0 l1 l2 l3 l4 x0 h Q => zr_aload_n rfl rfl),
   (fun d l0 l1 l2 l3 l4 x1 x0 I L P Q p0 => zr_getQ rfl lf_2_89 (fun _ _ _ => rfl) p0),
   (fun d l0 l1 l2 l3 l4 x1 x0 h Q => zr_iload_n rfl rfl),
   (fun d l0 l1 l2 l3 l4 x2 x1 x0 I L P Q p0 => zr_ald rfl p0),
   (fun d l0 l1 l2 l3 l4 x1 x0 h Q => zr_isub rfl),
   (fun d l0 l1 l2 l3 l4 x0 h Q => zr_istore (n := 4) rfl (Nat.le_of_ble_eq_true rfl) rfl),
   (fun d l0 l1 l2 l3 l4  h Q => zr_aload_n rfl rfl),
   (fun d l0 l1 l2 l3 l4 x0 I L P Q p0 => zr_getQ rfl lf_2_11 (fun _ _ _ => rfl) p0),
   (fun d l0 l1 l2 l3 l4 x0 h Q => zr_iload_n rfl rfl),
   (fun d l0 l1 l2 l3 l4 x1 x0 h Q => zr_bipush rfl (by decide)),
   (fun d l0 l1 l2 l3 l4 x2 x1 x0 h Q => zr_iload rfl rfl),
   (fun d l0 l1 l2 l3 l4 x3 x2 x1 x0 h Q => zr_imul rfl),
   (fun d l0 l1 l2 l3 l4 x2 x1 x0 h Q => zr_bipush rfl (by decide)),
   (fun d l0 l1 l2 l3 l4 x3 x2 x1 x0 h Q => zr_aload_n rfl rfl),
   (fun d l0 l1 l2 l3 l4 x4 x3 x2 x1 x0 I L P Q p0 => zr_getQ rfl lf_2_89 (fun _ _ _ => rfl) p0),
   (fun d l0 l1 l2 l3 l4 x4 x3 x2 x1 x0 h Q => zr_iload_n rfl rfl),
   (fun d l0 l1 l2 l3 l4 x5 x4 x3 x2 x1 x0 I L P Q p0 => zr_ald rfl p0),
   (fun d l0 l1 l2 l3 l4 x4 x3 x2 x1 x0 h Q => zr_imul rfl),
   (fun d l0 l1 l2 l3 l4 x3 x2 x1 x0 h Q => zr_iadd rfl),
   (fun d l0 l1 l2 l3 l4 x2 x1 x0 I L P Q p0 => zr_ast rfl p0),
   (fun d l0 l1 l2 l3 l4  h Q => zr_iload_n rfl rfl),
   (fun d l0 l1 l2 l3 l4 x0 h Q => zr_if_le rfl (by decide)),
   (fun d l0 l1 l2 l3 l4  h Q => zr_iload_n rfl rfl),
   (fun d l0 l1 l2 l3 l4 x0 h Q => zr_aload_n rfl rfl),
   (fun d l0 l1 l2 l3 l4 x1 x0 I L P Q p0 => zr_getQ rfl lf_2_89 (fun _ _ _ => rfl) p0),
   (fun d l0 l1 l2 l3 l4 x1 x0 h Q => zr_iload_n rfl rfl),
   (fun d l0 l1 l2 l3 l4 x2 x1 x0 I L P Q p0 => zr_ald rfl p0),
   (fun d l0 l1 l2 l3 l4 x1 x0 h Q => zr_iload rfl rfl),
   (fun d l0 l1 l2 l3 l4 x2 x1 x0 h Q => zr_ic_le rfl (by decide)),
   (fun d l0 l1 l2 l3 l4 x0 h Q => zr_iconst rfl (by decide)),
   (fun d l0 l1 l2 l3 l4 x1 x0 h Q => zr_goto rfl (by decide)),
   (fun d l0 l1 l2 l3 l4 x0 h Q => zr_iconst rfl (by decide)),
   (fun d l0 l1 l2 l3 l4 x1 x0 h Q => zr_iadd rfl),
   (fun d l0 l1 l2 l3 l4 x0 h Q => zr_istore_n (n := 2) rfl (Nat.le_of_ble_eq_true rfl) rfl),
   (fun d l0 l1 l2 l3 l4  h Q => zr_aload_n rfl rfl),
   (fun d l0 l1 l2 l3 l4 x0 I L P Q p0 => zr_getQ rfl lf_2_17 (fun _ _ _ => rfl) p0),
   (fun d l0 l1 l2 l3 l4 x0 h Q => zr_iload_n rfl rfl),
   (fun d l0 l1 l2 l3 l4 x1 x0 h Q => zr_iload_n rfl rfl),
   (fun d l0 l1 l2 l3 l4 x2 x1 x0 I L P Q p0 => zr_ast rfl p0),
   (fun d l0 l1 l2 l3 l4  h Q => zr_iinc (n := 3) (kc := 1) rfl rfl (Nat.le_of_ble_eq_true rfl) rfl (by decide)),
   (fun d l0 l1 l2 l3 l4  h Q => zr_goto rfl (by decide)),
   (fun d l0 l1 l2 l3 l4  h Q => zr_vret rfl rfl)⟩
theorem H_X2_light_20 : ∀ (d : Nat) (l0 : Value) (l1 : Value) (l2 : Value) (l3 : Int32) (l4 : Value)  (h : zMm) (Q : Option Value → zMm → Prop), zWp d zi_16 none 20 [l0, l1, l2, .int l3, l4] [] h Q = zWp d zi_16 none 21 [l0, l1, l2, .int l3, l4] [.int l3] h Q := fun d l0 l1 l2 l3 l4  h Q => zr_iload_n rfl rfl
theorem E_X2_loss : ∀ (d : Nat) (a0 : Nat) (a1 : Nat) (a2 : Nat) (a3 : Int32) (a4 : Int32) (a5 : Int32) (h : zMm) (Q : Option Value → zMm → Prop), zWM (d + 1) 17 [.ref a0, .ref a1, .ref a2, .int a3, .int a4, .int a5] h Q = zWp d zi_17 none 0 [.ref a0, .ref a1, .ref a2, .int a3, .int a4, .int a5, .retAddr 0] [] h Q := fun d a0 a1 a2 a3 a4 a5 h Q => zW_M m_17 (Nat.le_of_ble_eq_true rfl) rfl
set_option maxRecDepth 100000 in
theorem R_X2_loss :
    (∀ (d : Nat) (l0 : Value) (l1 : Value) (l2 : Nat) (l3 : Value) (l4 : Value) (l5 : Value) (l6 : Value)  (h : zMm) (Q : Option Value → zMm → Prop), zWp d zi_17 none 0 [l0, l1, .ref l2, l3, l4, l5, l6] [] h Q = zWp d zi_17 none 1 [l0, l1, .ref l2, l3, l4, l5, l6] [.ref l2] h Q) ∧
    (∀ (d : Nat) (l0 : Value) (l1 : Value) (l2 : Value) (l3 : Value) (l4 : Value) (l5 : Value) (l6 : Value) (x0 : Nat) (I : Nat → Nat → Int32) (L : Nat → Nat → Int64) (P : Nat → Nat → Option Nat) (Q : Option Value → zMm → Prop), zSH[x0]? = some (.inl 5) → zWp d zi_17 none 1 [l0, l1, l2, l3, l4, l5, l6] [.ref x0] (zSH, I, L, P) Q = zWp d zi_17 none 4 [l0, l1, l2, l3, l4, l5, l6] [.int (I x0 3)] (zSH, I, L, P) Q) ∧
    (∀ (d : Nat) (l0 : Value) (l1 : Value) (l2 : Value) (l3 : Value) (l4 : Value) (l5 : Value) (l6 : Value) (x0 : Int32) (h : zMm) (Q : Option Value → zMm → Prop), zWp d zi_17 none 4 [l0, l1, l2, l3, l4, l5, l6] [.int x0] h Q = if x0 = 0 then zWp d zi_17 none 7 [l0, l1, l2, l3, l4, l5, l6] [] h Q else zWp d zi_17 none 29 [l0, l1, l2, l3, l4, l5, l6] [] h Q) ∧
    (∀ (d : Nat) (l0 : Value) (l1 : Nat) (l2 : Value) (l3 : Value) (l4 : Value) (l5 : Value) (l6 : Value)  (h : zMm) (Q : Option Value → zMm → Prop), zWp d zi_17 none 7 [l0, .ref l1, l2, l3, l4, l5, l6] [] h Q = zWp d zi_17 none 8 [l0, .ref l1, l2, l3, l4, l5, l6] [.ref l1] h Q) ∧
    (∀ (d : Nat) (l0 : Value) (l1 : Value) (l2 : Value) (l3 : Value) (l4 : Value) (l5 : Value) (l6 : Value) (x0 : Nat) (I : Nat → Nat → Int32) (L : Nat → Nat → Int64) (P : Nat → Nat → Option Nat) (Q : Option Value → zMm → Prop), zSH[x0]? = some (.inl 8) → zWp d zi_17 none 8 [l0, l1, l2, l3, l4, l5, l6] [.ref x0] (zSH, I, L, P) Q = zWp d zi_17 none 11 [l0, l1, l2, l3, l4, l5, l6] [va_rf (P x0 0)] (zSH, I, L, P) Q) ∧
    (∀ (d : Nat) (l0 : Value) (l1 : Value) (l2 : Value) (l3 : Int32) (l4 : Value) (l5 : Value) (l6 : Value) (x0 : Nat) (h : zMm) (Q : Option Value → zMm → Prop), zWp d zi_17 none 11 [l0, l1, l2, .int l3, l4, l5, l6] [.ref x0] h Q = zWp d zi_17 none 12 [l0, l1, l2, .int l3, l4, l5, l6] [.int l3, .ref x0] h Q) ∧
    (∀ (d : Nat) (l0 : Value) (l1 : Value) (l2 : Value) (l3 : Value) (l4 : Value) (l5 : Value) (l6 : Value) (x1 : Int32) (x0 : Nat) (I : Nat → Nat → Int32) (L : Nat → Nat → Int64) (P : Nat → Nat → Option Nat) (Q : Option Value → zMm → Prop), zAk zSH x0 = some .int → zWp d zi_17 none 12 [l0, l1, l2, l3, l4, l5, l6] [.int x1, .ref x0] (zSH, I, L, P) Q = (vp_in x1 (zAn zSH x0) ∧ zWp d zi_17 none 13 [l0, l1, l2, l3, l4, l5, l6] [.int (I x0 x1.toNatClampNeg)] (zSH, I, L, P) Q)) ∧
    (∀ (d : Nat) (l0 : Nat) (l1 : Value) (l2 : Value) (l3 : Value) (l4 : Value) (l5 : Value) (l6 : Value) (x0 : Int32) (h : zMm) (Q : Option Value → zMm → Prop), zWp d zi_17 none 13 [.ref l0, l1, l2, l3, l4, l5, l6] [.int x0] h Q = zWp d zi_17 none 14 [.ref l0, l1, l2, l3, l4, l5, l6] [.ref l0, .int x0] h Q) ∧
    (∀ (d : Nat) (l0 : Value) (l1 : Value) (l2 : Value) (l3 : Value) (l4 : Value) (l5 : Value) (l6 : Value) (x1 : Nat) (x0 : Int32) (I : Nat → Nat → Int32) (L : Nat → Nat → Int64) (P : Nat → Nat → Option Nat) (Q : Option Value → zMm → Prop), zSH[x1]? = some (.inl 2) → zWp d zi_17 none 14 [l0, l1, l2, l3, l4, l5, l6] [.ref x1, .int x0] (zSH, I, L, P) Q = zWp d zi_17 none 17 [l0, l1, l2, l3, l4, l5, l6] [va_rf (P x1 3), .int x0] (zSH, I, L, P) Q) ∧
    (∀ (d : Nat) (l0 : Value) (l1 : Value) (l2 : Value) (l3 : Value) (l4 : Value) (l5 : Value) (l6 : Value) (x1 : Nat) (x0 : Int32) (h : zMm) (Q : Option Value → zMm → Prop), zWp d zi_17 none 17 [l0, l1, l2, l3, l4, l5, l6] [.ref x1, .int x0] h Q = zWp d zi_17 none 18 [l0, l1, l2, l3, l4, l5, l6] [.int 5, .ref x1, .int x0] h Q) ∧
    (∀ (d : Nat) (l0 : Value) (l1 : Value) (l2 : Value) (l3 : Value) (l4 : Value) (l5 : Value) (l6 : Value) (x2 : Int32) (x1 : Nat) (x0 : Int32) (I : Nat → Nat → Int32) (L : Nat → Nat → Int64) (P : Nat → Nat → Option Nat) (Q : Option Value → zMm → Prop), zAk zSH x1 = some .int → zWp d zi_17 none 18 [l0, l1, l2, l3, l4, l5, l6] [.int x2, .ref x1, .int x0] (zSH, I, L, P) Q = (vp_in x2 (zAn zSH x1) ∧ zWp d zi_17 none 19 [l0, l1, l2, l3, l4, l5, l6] [.int (I x1 x2.toNatClampNeg), .int x0] (zSH, I, L, P) Q)) ∧
    (∀ (d : Nat) (l0 : Value) (l1 : Value) (l2 : Value) (l3 : Value) (l4 : Value) (l5 : Value) (l6 : Value) (x1 : Int32) (x0 : Int32) (h : zMm) (Q : Option Value → zMm → Prop), zWp d zi_17 none 19 [l0, l1, l2, l3, l4, l5, l6] [.int x1, .int x0] h Q = zWp d zi_17 none 20 [l0, l1, l2, l3, l4, l5, l6] [.int (x0 + x1)] h Q) ∧
    (∀ (d : Nat) (l0 : Value) (l1 : Value) (l2 : Value) (l3 : Value) (l4 : Value) (l5 : Value) (l6 : Value) (x0 : Int32) (h : zMm) (Q : Option Value → zMm → Prop), zWp d zi_17 none 20 [l0, l1, l2, l3, l4, l5, l6] [.int x0] h Q = zWp d zi_17 none 21 [l0, l1, l2, l3, l4, l5, l6] [.int 2, .int x0] h Q) ∧
    (∀ (d : Nat) (l0 : Value) (l1 : Value) (l2 : Value) (l3 : Value) (l4 : Value) (l5 : Value) (l6 : Value) (x1 : Int32) (x0 : Int32) (h : zMm) (Q : Option Value → zMm → Prop), zWp d zi_17 none 21 [l0, l1, l2, l3, l4, l5, l6] [.int x1, .int x0] h Q = (¬ x1 = 0 ∧ zWp d zi_17 none 22 [l0, l1, l2, l3, l4, l5, l6] [.int (x0 / x1)] h Q)) ∧
    (∀ (d : Nat) (l0 : Value) (l1 : Value) (l2 : Value) (l3 : Value) (l4 : Value) (l5 : Value) (l6 : Value) (x0 : Int32) (h : zMm) (Q : Option Value → zMm → Prop), zWp d zi_17 none 22 [l0, l1, l2, l3, l4, l5, l6] [.int x0] h Q = zWp d zi_17 none 23 [l0, l1, l2, l3, l4, l5, l6] [.int 1, .int x0] h Q) ∧
    (∀ (d : Nat) (l0 : Value) (l1 : Value) (l2 : Value) (l3 : Value) (l4 : Value) (l5 : Value) (l6 : Value) (x1 : Int32) (x0 : Int32) (h : zMm) (Q : Option Value → zMm → Prop), zWp d zi_17 none 23 [l0, l1, l2, l3, l4, l5, l6] [.int x1, .int x0] h Q = zWp d zi_17 none 24 [l0, l1, l2, l3, l4, l5, l6] [.int (x0 + x1)] h Q) ∧
    (∀ (d : Nat) (l0 : Value) (l1 : Value) (l2 : Value) (l3 : Value) (l4 : Value) (l5 : Int32) (l6 : Value) (x0 : Int32) (h : zMm) (Q : Option Value → zMm → Prop), zWp d zi_17 none 24 [l0, l1, l2, l3, l4, .int l5, l6] [.int x0] h Q = zWp d zi_17 none 26 [l0, l1, l2, l3, l4, .int l5, .int x0] [] h Q) ∧
    (∀ (d : Nat) (l0 : Value) (l1 : Value) (l2 : Value) (l3 : Value) (l4 : Value) (l5 : Value) (l6 : Value)  (h : zMm) (Q : Option Value → zMm → Prop), zWp d zi_17 none 26 [l0, l1, l2, l3, l4, l5, l6] [] h Q = zWp d zi_17 none 86 [l0, l1, l2, l3, l4, l5, l6] [] h Q) ∧
    (∀ (d : Nat) (l0 : Nat) (l1 : Value) (l2 : Value) (l3 : Value) (l4 : Value) (l5 : Value) (l6 : Value)  (h : zMm) (Q : Option Value → zMm → Prop), zWp d zi_17 none 29 [.ref l0, l1, l2, l3, l4, l5, l6] [] h Q = zWp d zi_17 none 30 [.ref l0, l1, l2, l3, l4, l5, l6] [.ref l0] h Q) ∧
    (∀ (d : Nat) (l0 : Value) (l1 : Value) (l2 : Value) (l3 : Value) (l4 : Value) (l5 : Value) (l6 : Value) (x0 : Nat) (I : Nat → Nat → Int32) (L : Nat → Nat → Int64) (P : Nat → Nat → Option Nat) (Q : Option Value → zMm → Prop), zSH[x0]? = some (.inl 2) → zWp d zi_17 none 30 [l0, l1, l2, l3, l4, l5, l6] [.ref x0] (zSH, I, L, P) Q = zWp d zi_17 none 33 [l0, l1, l2, l3, l4, l5, l6] [va_rf (P x0 3)] (zSH, I, L, P) Q) ∧
    (∀ (d : Nat) (l0 : Value) (l1 : Value) (l2 : Value) (l3 : Value) (l4 : Value) (l5 : Value) (l6 : Value) (x0 : Nat) (h : zMm) (Q : Option Value → zMm → Prop), zWp d zi_17 none 33 [l0, l1, l2, l3, l4, l5, l6] [.ref x0] h Q = zWp d zi_17 none 34 [l0, l1, l2, l3, l4, l5, l6] [.int 0, .ref x0] h Q) ∧
    (∀ (d : Nat) (l0 : Value) (l1 : Value) (l2 : Value) (l3 : Value) (l4 : Value) (l5 : Int32) (l6 : Value) (x1 : Int32) (x0 : Nat) (h : zMm) (Q : Option Value → zMm → Prop), zWp d zi_17 none 34 [l0, l1, l2, l3, l4, .int l5, l6] [.int x1, .ref x0] h Q = zWp d zi_17 none 36 [l0, l1, l2, l3, l4, .int l5, l6] [.int l5, .int x1, .ref x0] h Q) ∧
    (∀ (d : Nat) (l0 : Value) (l1 : Value) (l2 : Value) (l3 : Value) (l4 : Value) (l5 : Value) (l6 : Value) (x2 : Int32) (x1 : Int32) (x0 : Nat) (I : Nat → Nat → Int32) (L : Nat → Nat → Int64) (P : Nat → Nat → Option Nat) (Q : Option Value → zMm → Prop), zAk zSH x0 = some .int → zWp d zi_17 none 36 [l0, l1, l2, l3, l4, l5, l6] [.int x2, .int x1, .ref x0] (zSH, I, L, P) Q = (vp_in x1 (zAn zSH x0) ∧ zWp d zi_17 none 37 [l0, l1, l2, l3, l4, l5, l6] [] (zSH, zw I x0 (upd (I x0) x1.toNatClampNeg x2), L, P) Q)) ∧
    (∀ (d : Nat) (l0 : Nat) (l1 : Value) (l2 : Value) (l3 : Value) (l4 : Value) (l5 : Value) (l6 : Value)  (h : zMm) (Q : Option Value → zMm → Prop), zWp d zi_17 none 37 [.ref l0, l1, l2, l3, l4, l5, l6] [] h Q = zWp d zi_17 none 38 [.ref l0, l1, l2, l3, l4, l5, l6] [.ref l0] h Q) ∧
    (∀ (d : Nat) (l0 : Value) (l1 : Value) (l2 : Value) (l3 : Value) (l4 : Value) (l5 : Value) (l6 : Value) (x0 : Nat) (I : Nat → Nat → Int32) (L : Nat → Nat → Int64) (P : Nat → Nat → Option Nat) (Q : Option Value → zMm → Prop), zSH[x0]? = some (.inl 2) → zWp d zi_17 none 38 [l0, l1, l2, l3, l4, l5, l6] [.ref x0] (zSH, I, L, P) Q = zWp d zi_17 none 41 [l0, l1, l2, l3, l4, l5, l6] [va_rf (P x0 3)] (zSH, I, L, P) Q) ∧
    (∀ (d : Nat) (l0 : Value) (l1 : Value) (l2 : Value) (l3 : Value) (l4 : Value) (l5 : Value) (l6 : Value) (x0 : Nat) (h : zMm) (Q : Option Value → zMm → Prop), zWp d zi_17 none 41 [l0, l1, l2, l3, l4, l5, l6] [.ref x0] h Q = zWp d zi_17 none 42 [l0, l1, l2, l3, l4, l5, l6] [.int 1, .ref x0] h Q) ∧
    (∀ (d : Nat) (l0 : Value) (l1 : Nat) (l2 : Value) (l3 : Value) (l4 : Value) (l5 : Value) (l6 : Value) (x1 : Int32) (x0 : Nat) (h : zMm) (Q : Option Value → zMm → Prop), zWp d zi_17 none 42 [l0, .ref l1, l2, l3, l4, l5, l6] [.int x1, .ref x0] h Q = zWp d zi_17 none 43 [l0, .ref l1, l2, l3, l4, l5, l6] [.ref l1, .int x1, .ref x0] h Q) ∧
    (∀ (d : Nat) (l0 : Value) (l1 : Value) (l2 : Value) (l3 : Value) (l4 : Value) (l5 : Value) (l6 : Value) (x2 : Nat) (x1 : Int32) (x0 : Nat) (I : Nat → Nat → Int32) (L : Nat → Nat → Int64) (P : Nat → Nat → Option Nat) (Q : Option Value → zMm → Prop), zSH[x2]? = some (.inl 8) → zWp d zi_17 none 43 [l0, l1, l2, l3, l4, l5, l6] [.ref x2, .int x1, .ref x0] (zSH, I, L, P) Q = zWp d zi_17 none 46 [l0, l1, l2, l3, l4, l5, l6] [va_rf (P x2 0), .int x1, .ref x0] (zSH, I, L, P) Q) ∧
    (∀ (d : Nat) (l0 : Value) (l1 : Value) (l2 : Value) (l3 : Int32) (l4 : Value) (l5 : Value) (l6 : Value) (x2 : Nat) (x1 : Int32) (x0 : Nat) (h : zMm) (Q : Option Value → zMm → Prop), zWp d zi_17 none 46 [l0, l1, l2, .int l3, l4, l5, l6] [.ref x2, .int x1, .ref x0] h Q = zWp d zi_17 none 47 [l0, l1, l2, .int l3, l4, l5, l6] [.int l3, .ref x2, .int x1, .ref x0] h Q) ∧
    (∀ (d : Nat) (l0 : Value) (l1 : Value) (l2 : Value) (l3 : Value) (l4 : Value) (l5 : Value) (l6 : Value) (x3 : Int32) (x2 : Nat) (x1 : Int32) (x0 : Nat) (I : Nat → Nat → Int32) (L : Nat → Nat → Int64) (P : Nat → Nat → Option Nat) (Q : Option Value → zMm → Prop), zAk zSH x2 = some .int → zWp d zi_17 none 47 [l0, l1, l2, l3, l4, l5, l6] [.int x3, .ref x2, .int x1, .ref x0] (zSH, I, L, P) Q = (vp_in x3 (zAn zSH x2) ∧ zWp d zi_17 none 48 [l0, l1, l2, l3, l4, l5, l6] [.int (I x2 x3.toNatClampNeg), .int x1, .ref x0] (zSH, I, L, P) Q)) ∧
    (∀ (d : Nat) (l0 : Value) (l1 : Value) (l2 : Value) (l3 : Value) (l4 : Value) (l5 : Value) (l6 : Value) (x2 : Int32) (x1 : Int32) (x0 : Nat) (I : Nat → Nat → Int32) (L : Nat → Nat → Int64) (P : Nat → Nat → Option Nat) (Q : Option Value → zMm → Prop), zAk zSH x0 = some .int → zWp d zi_17 none 48 [l0, l1, l2, l3, l4, l5, l6] [.int x2, .int x1, .ref x0] (zSH, I, L, P) Q = (vp_in x1 (zAn zSH x0) ∧ zWp d zi_17 none 49 [l0, l1, l2, l3, l4, l5, l6] [] (zSH, zw I x0 (upd (I x0) x1.toNatClampNeg x2), L, P) Q)) ∧
    (∀ (d : Nat) (l0 : Nat) (l1 : Value) (l2 : Value) (l3 : Value) (l4 : Value) (l5 : Value) (l6 : Value)  (h : zMm) (Q : Option Value → zMm → Prop), zWp d zi_17 none 49 [.ref l0, l1, l2, l3, l4, l5, l6] [] h Q = zWp d zi_17 none 50 [.ref l0, l1, l2, l3, l4, l5, l6] [.ref l0] h Q) ∧
    (∀ (d : Nat) (l0 : Value) (l1 : Value) (l2 : Value) (l3 : Value) (l4 : Value) (l5 : Value) (l6 : Value) (x0 : Nat) (I : Nat → Nat → Int32) (L : Nat → Nat → Int64) (P : Nat → Nat → Option Nat) (Q : Option Value → zMm → Prop), zSH[x0]? = some (.inl 2) → zWp d zi_17 none 50 [l0, l1, l2, l3, l4, l5, l6] [.ref x0] (zSH, I, L, P) Q = zWp d zi_17 none 53 [l0, l1, l2, l3, l4, l5, l6] [va_rf (P x0 3)] (zSH, I, L, P) Q) ∧
    (∀ (d : Nat) (l0 : Value) (l1 : Value) (l2 : Value) (l3 : Value) (l4 : Value) (l5 : Value) (l6 : Value) (x0 : Nat) (h : zMm) (Q : Option Value → zMm → Prop), zWp d zi_17 none 53 [l0, l1, l2, l3, l4, l5, l6] [.ref x0] h Q = zWp d zi_17 none 54 [l0, l1, l2, l3, l4, l5, l6] [.int 2, .ref x0] h Q) ∧
    (∀ (d : Nat) (l0 : Value) (l1 : Nat) (l2 : Value) (l3 : Value) (l4 : Value) (l5 : Value) (l6 : Value) (x1 : Int32) (x0 : Nat) (h : zMm) (Q : Option Value → zMm → Prop), zWp d zi_17 none 54 [l0, .ref l1, l2, l3, l4, l5, l6] [.int x1, .ref x0] h Q = zWp d zi_17 none 55 [l0, .ref l1, l2, l3, l4, l5, l6] [.ref l1, .int x1, .ref x0] h Q) ∧
    (∀ (d : Nat) (l0 : Value) (l1 : Value) (l2 : Value) (l3 : Value) (l4 : Value) (l5 : Value) (l6 : Value) (x2 : Nat) (x1 : Int32) (x0 : Nat) (I : Nat → Nat → Int32) (L : Nat → Nat → Int64) (P : Nat → Nat → Option Nat) (Q : Option Value → zMm → Prop), zSH[x2]? = some (.inl 8) → zWp d zi_17 none 55 [l0, l1, l2, l3, l4, l5, l6] [.ref x2, .int x1, .ref x0] (zSH, I, L, P) Q = zWp d zi_17 none 58 [l0, l1, l2, l3, l4, l5, l6] [va_rf (P x2 1), .int x1, .ref x0] (zSH, I, L, P) Q) ∧
    (∀ (d : Nat) (l0 : Value) (l1 : Value) (l2 : Value) (l3 : Int32) (l4 : Value) (l5 : Value) (l6 : Value) (x2 : Nat) (x1 : Int32) (x0 : Nat) (h : zMm) (Q : Option Value → zMm → Prop), zWp d zi_17 none 58 [l0, l1, l2, .int l3, l4, l5, l6] [.ref x2, .int x1, .ref x0] h Q = zWp d zi_17 none 59 [l0, l1, l2, .int l3, l4, l5, l6] [.int l3, .ref x2, .int x1, .ref x0] h Q) ∧
    (∀ (d : Nat) (l0 : Value) (l1 : Value) (l2 : Value) (l3 : Value) (l4 : Value) (l5 : Value) (l6 : Value) (x3 : Int32) (x2 : Nat) (x1 : Int32) (x0 : Nat) (I : Nat → Nat → Int32) (L : Nat → Nat → Int64) (P : Nat → Nat → Option Nat) (Q : Option Value → zMm → Prop), zAk zSH x2 = some .int → zWp d zi_17 none 59 [l0, l1, l2, l3, l4, l5, l6] [.int x3, .ref x2, .int x1, .ref x0] (zSH, I, L, P) Q = (vp_in x3 (zAn zSH x2) ∧ zWp d zi_17 none 60 [l0, l1, l2, l3, l4, l5, l6] [.int (I x2 x3.toNatClampNeg), .int x1, .ref x0] (zSH, I, L, P) Q)) ∧
    (∀ (d : Nat) (l0 : Value) (l1 : Value) (l2 : Value) (l3 : Value) (l4 : Value) (l5 : Value) (l6 : Value) (x2 : Int32) (x1 : Int32) (x0 : Nat) (I : Nat → Nat → Int32) (L : Nat → Nat → Int64) (P : Nat → Nat → Option Nat) (Q : Option Value → zMm → Prop), zAk zSH x0 = some .int → zWp d zi_17 none 60 [l0, l1, l2, l3, l4, l5, l6] [.int x2, .int x1, .ref x0] (zSH, I, L, P) Q = (vp_in x1 (zAn zSH x0) ∧ zWp d zi_17 none 61 [l0, l1, l2, l3, l4, l5, l6] [] (zSH, zw I x0 (upd (I x0) x1.toNatClampNeg x2), L, P) Q)) ∧
    (∀ (d : Nat) (l0 : Nat) (l1 : Value) (l2 : Value) (l3 : Value) (l4 : Value) (l5 : Value) (l6 : Value)  (h : zMm) (Q : Option Value → zMm → Prop), zWp d zi_17 none 61 [.ref l0, l1, l2, l3, l4, l5, l6] [] h Q = zWp d zi_17 none 62 [.ref l0, l1, l2, l3, l4, l5, l6] [.ref l0] h Q) ∧
    (∀ (d : Nat) (l0 : Value) (l1 : Value) (l2 : Value) (l3 : Value) (l4 : Value) (l5 : Value) (l6 : Value) (x0 : Nat) (I : Nat → Nat → Int32) (L : Nat → Nat → Int64) (P : Nat → Nat → Option Nat) (Q : Option Value → zMm → Prop), zSH[x0]? = some (.inl 2) → zWp d zi_17 none 62 [l0, l1, l2, l3, l4, l5, l6] [.ref x0] (zSH, I, L, P) Q = zWp d zi_17 none 65 [l0, l1, l2, l3, l4, l5, l6] [va_rf (P x0 3)] (zSH, I, L, P) Q) ∧
    (∀ (d : Nat) (l0 : Value) (l1 : Value) (l2 : Value) (l3 : Value) (l4 : Value) (l5 : Value) (l6 : Value) (x0 : Nat) (h : zMm) (Q : Option Value → zMm → Prop), zWp d zi_17 none 65 [l0, l1, l2, l3, l4, l5, l6] [.ref x0] h Q = zWp d zi_17 none 66 [l0, l1, l2, l3, l4, l5, l6] [.int 3, .ref x0] h Q) ∧
    (∀ (d : Nat) (l0 : Value) (l1 : Value) (l2 : Value) (l3 : Int32) (l4 : Value) (l5 : Value) (l6 : Value) (x1 : Int32) (x0 : Nat) (h : zMm) (Q : Option Value → zMm → Prop), zWp d zi_17 none 66 [l0, l1, l2, .int l3, l4, l5, l6] [.int x1, .ref x0] h Q = zWp d zi_17 none 67 [l0, l1, l2, .int l3, l4, l5, l6] [.int l3, .int x1, .ref x0] h Q) ∧
    (∀ (d : Nat) (l0 : Value) (l1 : Value) (l2 : Value) (l3 : Value) (l4 : Value) (l5 : Value) (l6 : Value) (x2 : Int32) (x1 : Int32) (x0 : Nat) (I : Nat → Nat → Int32) (L : Nat → Nat → Int64) (P : Nat → Nat → Option Nat) (Q : Option Value → zMm → Prop), zAk zSH x0 = some .int → zWp d zi_17 none 67 [l0, l1, l2, l3, l4, l5, l6] [.int x2, .int x1, .ref x0] (zSH, I, L, P) Q = (vp_in x1 (zAn zSH x0) ∧ zWp d zi_17 none 68 [l0, l1, l2, l3, l4, l5, l6] [] (zSH, zw I x0 (upd (I x0) x1.toNatClampNeg x2), L, P) Q)) ∧
    (∀ (d : Nat) (l0 : Nat) (l1 : Value) (l2 : Value) (l3 : Value) (l4 : Value) (l5 : Value) (l6 : Value)  (h : zMm) (Q : Option Value → zMm → Prop), zWp d zi_17 none 68 [.ref l0, l1, l2, l3, l4, l5, l6] [] h Q = zWp d zi_17 none 69 [.ref l0, l1, l2, l3, l4, l5, l6] [.ref l0] h Q) ∧
    (∀ (d : Nat) (l0 : Value) (l1 : Value) (l2 : Value) (l3 : Value) (l4 : Value) (l5 : Value) (l6 : Value) (x0 : Nat) (I : Nat → Nat → Int32) (L : Nat → Nat → Int64) (P : Nat → Nat → Option Nat) (Q : Option Value → zMm → Prop), zSH[x0]? = some (.inl 2) → zWp d zi_17 none 69 [l0, l1, l2, l3, l4, l5, l6] [.ref x0] (zSH, I, L, P) Q = zWp d zi_17 none 72 [l0, l1, l2, l3, l4, l5, l6] [va_rf (P x0 3)] (zSH, I, L, P) Q) ∧
    (∀ (d : Nat) (l0 : Value) (l1 : Value) (l2 : Value) (l3 : Value) (l4 : Value) (l5 : Value) (l6 : Value) (x0 : Nat) (h : zMm) (Q : Option Value → zMm → Prop), zWp d zi_17 none 72 [l0, l1, l2, l3, l4, l5, l6] [.ref x0] h Q = zWp d zi_17 none 73 [l0, l1, l2, l3, l4, l5, l6] [.int 4, .ref x0] h Q) ∧
    (∀ (d : Nat) (l0 : Value) (l1 : Value) (l2 : Value) (l3 : Value) (l4 : Int32) (l5 : Value) (l6 : Value) (x1 : Int32) (x0 : Nat) (h : zMm) (Q : Option Value → zMm → Prop), zWp d zi_17 none 73 [l0, l1, l2, l3, .int l4, l5, l6] [.int x1, .ref x0] h Q = zWp d zi_17 none 75 [l0, l1, l2, l3, .int l4, l5, l6] [.int l4, .int x1, .ref x0] h Q) ∧
    (∀ (d : Nat) (l0 : Value) (l1 : Value) (l2 : Value) (l3 : Value) (l4 : Value) (l5 : Value) (l6 : Value) (x2 : Int32) (x1 : Int32) (x0 : Nat) (I : Nat → Nat → Int32) (L : Nat → Nat → Int64) (P : Nat → Nat → Option Nat) (Q : Option Value → zMm → Prop), zAk zSH x0 = some .int → zWp d zi_17 none 75 [l0, l1, l2, l3, l4, l5, l6] [.int x2, .int x1, .ref x0] (zSH, I, L, P) Q = (vp_in x1 (zAn zSH x0) ∧ zWp d zi_17 none 76 [l0, l1, l2, l3, l4, l5, l6] [] (zSH, zw I x0 (upd (I x0) x1.toNatClampNeg x2), L, P) Q)) ∧
    (∀ (d : Nat) (l0 : Value) (l1 : Value) (l2 : Nat) (l3 : Value) (l4 : Value) (l5 : Value) (l6 : Value)  (h : zMm) (Q : Option Value → zMm → Prop), zWp d zi_17 none 76 [l0, l1, .ref l2, l3, l4, l5, l6] [] h Q = zWp d zi_17 none 77 [l0, l1, .ref l2, l3, l4, l5, l6] [.ref l2] h Q) ∧
    (∀ (d : Nat) (l0 : Nat) (l1 : Value) (l2 : Value) (l3 : Value) (l4 : Value) (l5 : Value) (l6 : Value) (x0 : Nat) (h : zMm) (Q : Option Value → zMm → Prop), zWp d zi_17 none 77 [.ref l0, l1, l2, l3, l4, l5, l6] [.ref x0] h Q = zWp d zi_17 none 78 [.ref l0, l1, l2, l3, l4, l5, l6] [.ref l0, .ref x0] h Q) ∧
    (∀ (d : Nat) (l0 : Value) (l1 : Value) (l2 : Value) (l3 : Value) (l4 : Value) (l5 : Value) (l6 : Value) (x1 : Nat) (x0 : Nat) (I : Nat → Nat → Int32) (L : Nat → Nat → Int64) (P : Nat → Nat → Option Nat) (Q : Option Value → zMm → Prop), zSH[x1]? = some (.inl 2) → zWp d zi_17 none 78 [l0, l1, l2, l3, l4, l5, l6] [.ref x1, .ref x0] (zSH, I, L, P) Q = zWp d zi_17 none 81 [l0, l1, l2, l3, l4, l5, l6] [va_rf (P x1 3), .ref x0] (zSH, I, L, P) Q) ∧
    (∀ (d : Nat) (l0 : Value) (l1 : Value) (l2 : Value) (l3 : Value) (l4 : Value) (l5 : Value) (l6 : Value) (x1 : Nat) (x0 : Nat) (I : Nat → Nat → Int32) (L : Nat → Nat → Int64) (P : Nat → Nat → Option Nat) (Q : Option Value → zMm → Prop), zSH[x0]? = some (.inl 5) → zWp d zi_17 none 81 [l0, l1, l2, l3, l4, l5, l6] [.ref x1, .ref x0] (zSH, I, L, P) Q = zWM d 44 [.ref x0, .ref x1] (zSH, I, L, P) (fun r h1 => zWp d zi_17 none 84 [l0, l1, l2, l3, l4, l5, l6] (r.toList ++ []) h1 Q)) ∧
    (∀ (d : Nat) (l0 : Value) (l1 : Value) (l2 : Value) (l3 : Value) (l4 : Value) (l5 : Int32) (l6 : Value) (x0 : Int32) (h : zMm) (Q : Option Value → zMm → Prop), zWp d zi_17 none 84 [l0, l1, l2, l3, l4, .int l5, l6] [.int x0] h Q = zWp d zi_17 none 86 [l0, l1, l2, l3, l4, .int l5, .int x0] [] h Q) ∧
    (∀ (d : Nat) (l0 : Value) (l1 : Value) (l2 : Value) (l3 : Value) (l4 : Value) (l5 : Value) (l6 : Value)  (h : zMm) (Q : Option Value → zMm → Prop), zWp d zi_17 none 86 [l0, l1, l2, l3, l4, l5, l6] [] h Q = zWp d zi_17 none 87 [l0, l1, l2, l3, l4, l5, l6] [.int 0] h Q) ∧
    (∀ (d : Nat) (l0 : Value) (l1 : Value) (l2 : Value) (l3 : Value) (l4 : Value) (l5 : Int32) (l6 : Value) (x0 : Int32) (h : zMm) (Q : Option Value → zMm → Prop), zWp d zi_17 none 87 [l0, l1, l2, l3, l4, .int l5, l6] [.int x0] h Q = zWp d zi_17 none 89 [l0, l1, l2, l3, l4, .int l5, l6] [.int l5, .int x0] h Q) ∧
    (∀ (d : Nat) (l0 : Value) (l1 : Value) (l2 : Value) (l3 : Value) (l4 : Value) (l5 : Value) (l6 : Int32) (x1 : Int32) (x0 : Int32) (h : zMm) (Q : Option Value → zMm → Prop), zWp d zi_17 none 89 [l0, l1, l2, l3, l4, l5, .int l6] [.int x1, .int x0] h Q = zWp d zi_17 none 91 [l0, l1, l2, l3, l4, l5, .int l6] [.int l6, .int x1, .int x0] h Q) ∧
    (∀ (d : Nat) (l0 : Value) (l1 : Value) (l2 : Value) (l3 : Value) (l4 : Value) (l5 : Value) (l6 : Value) (x2 : Int32) (x1 : Int32) (x0 : Int32) (h : zMm) (Q : Option Value → zMm → Prop), zWp d zi_17 none 91 [l0, l1, l2, l3, l4, l5, l6] [.int x2, .int x1, .int x0] h Q = zWp d zi_17 none 94 [l0, l1, l2, l3, l4, l5, l6] [.int (if x2 < x1 then x2 else x1), .int x0] h Q) ∧
    (∀ (d : Nat) (l0 : Value) (l1 : Value) (l2 : Value) (l3 : Value) (l4 : Value) (l5 : Value) (l6 : Value) (x1 : Int32) (x0 : Int32) (h : zMm) (Q : Option Value → zMm → Prop), zWp d zi_17 none 94 [l0, l1, l2, l3, l4, l5, l6] [.int x1, .int x0] h Q = zWp d zi_17 none 97 [l0, l1, l2, l3, l4, l5, l6] [.int (if x0 < x1 then x1 else x0)] h Q) ∧
    (∀ (d : Nat) (l0 : Value) (l1 : Value) (l2 : Value) (l3 : Value) (l4 : Value) (l5 : Value) (l6 : Value) (x0 : Int32) (h : zMm) (Q : Option Value → zMm → Prop), zWp d zi_17 none 97 [l0, l1, l2, l3, l4, l5, l6] [.int x0] h Q = Q (some (.int x0)) h) :=
  ⟨(fun d l0 l1 l2 l3 l4 l5 l6  h Q => zr_aload_n rfl rfl),
   (fun d l0 l1 l2 l3 l4 l5 l6 x0 I L P Q p0 => zr_getI rfl lf_2_92 (fun _ _ _ => rfl) p0),
   (fun d l0 l1 l2 l3 l4 l5 l6 x0 h Q => zr_if_ne rfl (by decide)),
   (fun d l0 l1 l2 l3 l4 l5 l6  h Q => zr_aload_n rfl rfl),
   (fun d l0 l1 l2 l3 l4 l5 l6 x0 I L P Q p0 => zr_getQ rfl lf_2_76 (fun _ _ _ => rfl) p0),
   (fun d l0 l1 l2 l3 l4 l5 l6 x0 h Q => zr_iload_n rfl rfl),
   (fun d l0 l1 l2 l3 l4 l5 l6 x1 x0 I L P Q p0 => zr_ald rfl p0),
   (fun d l0 l1 l2 l3 l4 l5 l6 x0 h Q => zr_aload_n rfl rfl),
   (fun d l0 l1 l2 l3 l4 l5 l6 x1 x0 I L P Q p0 => zr_getQ rfl lf_2_23 (fun _ _ _ => rfl) p0),
   (fun d l0 l1 l2 l3 l4 l5 l6 x1 x0 h Q => zr_iconst rfl (by decide)),
   (fun d l0 l1 l2 l3 l4 l5 l6 x2 x1 x0 I L P Q p0 => zr_ald rfl p0),
   (fun d l0 l1 l2 l3 l4 l5 l6 x1 x0 h Q => zr_iadd rfl),
   (fun d l0 l1 l2 l3 l4 l5 l6 x0 h Q => zr_iconst rfl (by decide)),
   (fun d l0 l1 l2 l3 l4 l5 l6 x1 x0 h Q => zr_idiv rfl),
   (fun d l0 l1 l2 l3 l4 l5 l6 x0 h Q => zr_iconst rfl (by decide)),
   (fun d l0 l1 l2 l3 l4 l5 l6 x1 x0 h Q => zr_iadd rfl),
   (fun d l0 l1 l2 l3 l4 l5 l6 x0 h Q => zr_istore (n := 6) rfl (Nat.le_of_ble_eq_true rfl) rfl),
   (fun d l0 l1 l2 l3 l4 l5 l6  h Q => zr_goto rfl (by decide)),
   (fun d l0 l1 l2 l3 l4 l5 l6  h Q => zr_aload_n rfl rfl),
   (fun d l0 l1 l2 l3 l4 l5 l6 x0 I L P Q p0 => zr_getQ rfl lf_2_23 (fun _ _ _ => rfl) p0),
   (fun d l0 l1 l2 l3 l4 l5 l6 x0 h Q => zr_iconst rfl (by decide)),
   (fun d l0 l1 l2 l3 l4 l5 l6 x1 x0 h Q => zr_iload rfl rfl),
   (fun d l0 l1 l2 l3 l4 l5 l6 x2 x1 x0 I L P Q p0 => zr_ast rfl p0),
   (fun d l0 l1 l2 l3 l4 l5 l6  h Q => zr_aload_n rfl rfl),
   (fun d l0 l1 l2 l3 l4 l5 l6 x0 I L P Q p0 => zr_getQ rfl lf_2_23 (fun _ _ _ => rfl) p0),
   (fun d l0 l1 l2 l3 l4 l5 l6 x0 h Q => zr_iconst rfl (by decide)),
   (fun d l0 l1 l2 l3 l4 l5 l6 x1 x0 h Q => zr_aload_n rfl rfl),
   (fun d l0 l1 l2 l3 l4 l5 l6 x2 x1 x0 I L P Q p0 => zr_getQ rfl lf_2_76 (fun _ _ _ => rfl) p0),
   (fun d l0 l1 l2 l3 l4 l5 l6 x2 x1 x0 h Q => zr_iload_n rfl rfl),
   (fun d l0 l1 l2 l3 l4 l5 l6 x3 x2 x1 x0 I L P Q p0 => zr_ald rfl p0),
   (fun d l0 l1 l2 l3 l4 l5 l6 x2 x1 x0 I L P Q p0 => zr_ast rfl p0),
   (fun d l0 l1 l2 l3 l4 l5 l6  h Q => zr_aload_n rfl rfl),
   (fun d l0 l1 l2 l3 l4 l5 l6 x0 I L P Q p0 => zr_getQ rfl lf_2_23 (fun _ _ _ => rfl) p0),
   (fun d l0 l1 l2 l3 l4 l5 l6 x0 h Q => zr_iconst rfl (by decide)),
   (fun d l0 l1 l2 l3 l4 l5 l6 x1 x0 h Q => zr_aload_n rfl rfl),
   (fun d l0 l1 l2 l3 l4 l5 l6 x2 x1 x0 I L P Q p0 => zr_getQ rfl lf_2_89 (fun _ _ _ => rfl) p0),
   (fun d l0 l1 l2 l3 l4 l5 l6 x2 x1 x0 h Q => zr_iload_n rfl rfl),
   (fun d l0 l1 l2 l3 l4 l5 l6 x3 x2 x1 x0 I L P Q p0 => zr_ald rfl p0),
   (fun d l0 l1 l2 l3 l4 l5 l6 x2 x1 x0 I L P Q p0 => zr_ast rfl p0),
   (fun d l0 l1 l2 l3 l4 l5 l6  h Q => zr_aload_n rfl rfl),
   (fun d l0 l1 l2 l3 l4 l5 l6 x0 I L P Q p0 => zr_getQ rfl lf_2_23 (fun _ _ _ => rfl) p0),
   (fun d l0 l1 l2 l3 l4 l5 l6 x0 h Q => zr_iconst rfl (by decide)),
   (fun d l0 l1 l2 l3 l4 l5 l6 x1 x0 h Q => zr_iload_n rfl rfl),
   (fun d l0 l1 l2 l3 l4 l5 l6 x2 x1 x0 I L P Q p0 => zr_ast rfl p0),
   (fun d l0 l1 l2 l3 l4 l5 l6  h Q => zr_aload_n rfl rfl),
   (fun d l0 l1 l2 l3 l4 l5 l6 x0 I L P Q p0 => zr_getQ rfl lf_2_23 (fun _ _ _ => rfl) p0),
   (fun d l0 l1 l2 l3 l4 l5 l6 x0 h Q => zr_iconst rfl (by decide)),
   (fun d l0 l1 l2 l3 l4 l5 l6 x1 x0 h Q => zr_iload rfl rfl),
   (fun d l0 l1 l2 l3 l4 l5 l6 x2 x1 x0 I L P Q p0 => zr_ast rfl p0),
   (fun d l0 l1 l2 l3 l4 l5 l6  h Q => zr_aload_n rfl rfl),
   (fun d l0 l1 l2 l3 l4 l5 l6 x0 h Q => zr_aload_n rfl rfl),
   (fun d l0 l1 l2 l3 l4 l5 l6 x1 x0 I L P Q p0 => zr_getQ rfl lf_2_23 (fun _ _ _ => rfl) p0),
   (fun d l0 l1 l2 l3 l4 l5 l6 x1 x0 I L P Q p0 => zr_vir (as := [.ref x1]) (rest := []) rfl lm_2_95 m_44 kd_44 rfl (Nat.le_of_ble_eq_true rfl) p0),
   (fun d l0 l1 l2 l3 l4 l5 l6 x0 h Q => zr_istore (n := 6) rfl (Nat.le_of_ble_eq_true rfl) rfl),
   (fun d l0 l1 l2 l3 l4 l5 l6  h Q => zr_iconst rfl (by decide)),
   (fun d l0 l1 l2 l3 l4 l5 l6 x0 h Q => zr_iload rfl rfl),
   (fun d l0 l1 l2 l3 l4 l5 l6 x1 x0 h Q => zr_iload rfl rfl),
   (fun d l0 l1 l2 l3 l4 l5 l6 x2 x1 x0 h Q => zr_min rfl lm_2_99 (Nat.le_of_ble_eq_true rfl)),
   (fun d l0 l1 l2 l3 l4 l5 l6 x1 x0 h Q => zr_max rfl lm_2_102 (Nat.le_of_ble_eq_true rfl)),
   (fun d l0 l1 l2 l3 l4 l5 l6 x0 h Q => zr_iret rfl rfl)⟩
theorem E_X2_counted : ∀ (d : Nat) (a0 : Int32) (a1 : Int32) (a2 : Int32) (h : zMm) (Q : Option Value → zMm → Prop), zWM (d + 1) 18 [.int a0, .int a1, .int a2] h Q = zWp d zi_18 none 0 [.int a0, .int a1, .int a2] [] h Q := fun d a0 a1 a2 h Q => zW_M m_18 (Nat.le_of_ble_eq_true rfl) rfl
set_option maxRecDepth 100000 in
theorem R_X2_counted :
    (∀ (d : Nat) (l0 : Value) (l1 : Int32) (l2 : Value)  (h : zMm) (Q : Option Value → zMm → Prop), zWp d zi_18 none 0 [l0, .int l1, l2] [] h Q = zWp d zi_18 none 1 [l0, .int l1, l2] [.int l1] h Q) ∧
    (∀ (d : Nat) (l0 : Value) (l1 : Value) (l2 : Value) (x0 : Int32) (h : zMm) (Q : Option Value → zMm → Prop), zWp d zi_18 none 1 [l0, l1, l2] [.int x0] h Q = if x0 = 0 then zWp d zi_18 none 4 [l0, l1, l2] [] h Q else zWp d zi_18 none 6 [l0, l1, l2] [] h Q) ∧
    (∀ (d : Nat) (l0 : Value) (l1 : Value) (l2 : Value)  (h : zMm) (Q : Option Value → zMm → Prop), zWp d zi_18 none 4 [l0, l1, l2] [] h Q = zWp d zi_18 none 5 [l0, l1, l2] [.int 0] h Q) ∧
    (∀ (d : Nat) (l0 : Value) (l1 : Value) (l2 : Value) (x0 : Int32) (h : zMm) (Q : Option Value → zMm → Prop), zWp d zi_18 none 5 [l0, l1, l2] [.int x0] h Q = Q (some (.int x0)) h) ∧
    (∀ (d : Nat) (l0 : Value) (l1 : Value) (l2 : Value)  (h : zMm) (Q : Option Value → zMm → Prop), zWp d zi_18 none 6 [l0, l1, l2] [] h Q = zWp d zi_18 none 7 [l0, l1, l2] [.int 2] h Q) ∧
    (∀ (d : Nat) (l0 : Value) (l1 : Int32) (l2 : Value) (x0 : Int32) (h : zMm) (Q : Option Value → zMm → Prop), zWp d zi_18 none 7 [l0, .int l1, l2] [.int x0] h Q = zWp d zi_18 none 8 [l0, .int l1, l2] [.int l1, .int x0] h Q) ∧
    (∀ (d : Nat) (l0 : Value) (l1 : Value) (l2 : Value) (x1 : Int32) (x0 : Int32) (h : zMm) (Q : Option Value → zMm → Prop), zWp d zi_18 none 8 [l0, l1, l2] [.int x1, .int x0] h Q = zWp d zi_18 none 9 [l0, l1, l2] [.int (x0 * x1)] h Q) ∧
    (∀ (d : Nat) (l0 : Value) (l1 : Value) (l2 : Int32) (x0 : Int32) (h : zMm) (Q : Option Value → zMm → Prop), zWp d zi_18 none 9 [l0, l1, .int l2] [.int x0] h Q = zWp d zi_18 none 10 [l0, l1, .int l2] [.int l2, .int x0] h Q) ∧
    (∀ (d : Nat) (l0 : Value) (l1 : Value) (l2 : Value) (x1 : Int32) (x0 : Int32) (h : zMm) (Q : Option Value → zMm → Prop), zWp d zi_18 none 10 [l0, l1, l2] [.int x1, .int x0] h Q = if x1 < x0 then zWp d zi_18 none 23 [l0, l1, l2] [] h Q else zWp d zi_18 none 13 [l0, l1, l2] [] h Q) ∧
    (∀ (d : Nat) (l0 : Value) (l1 : Value) (l2 : Value)  (h : zMm) (Q : Option Value → zMm → Prop), zWp d zi_18 none 13 [l0, l1, l2] [] h Q = zWp d zi_18 none 14 [l0, l1, l2] [.int 1] h Q) ∧
    (∀ (d : Nat) (l0 : Int32) (l1 : Value) (l2 : Value) (x0 : Int32) (h : zMm) (Q : Option Value → zMm → Prop), zWp d zi_18 none 14 [.int l0, l1, l2] [.int x0] h Q = zWp d zi_18 none 15 [.int l0, l1, l2] [.int l0, .int x0] h Q) ∧
    (∀ (d : Nat) (l0 : Value) (l1 : Value) (l2 : Value) (x1 : Int32) (x0 : Int32) (h : zMm) (Q : Option Value → zMm → Prop), zWp d zi_18 none 15 [l0, l1, l2] [.int x1, .int x0] h Q = zWp d zi_18 none 16 [l0, l1, l2] [.int 2, .int x1, .int x0] h Q) ∧
    (∀ (d : Nat) (l0 : Value) (l1 : Value) (l2 : Value) (x2 : Int32) (x1 : Int32) (x0 : Int32) (h : zMm) (Q : Option Value → zMm → Prop), zWp d zi_18 none 16 [l0, l1, l2] [.int x2, .int x1, .int x0] h Q = (¬ x2 = 0 ∧ zWp d zi_18 none 17 [l0, l1, l2] [.int (x1 / x2), .int x0] h Q)) ∧
    (∀ (d : Nat) (l0 : Value) (l1 : Value) (l2 : Value) (x1 : Int32) (x0 : Int32) (h : zMm) (Q : Option Value → zMm → Prop), zWp d zi_18 none 17 [l0, l1, l2] [.int x1, .int x0] h Q = zWp d zi_18 none 20 [l0, l1, l2] [.int (if x0 < x1 then x1 else x0)] h Q) ∧
    (∀ (d : Nat) (l0 : Value) (l1 : Value) (l2 : Value) (x0 : Int32) (h : zMm) (Q : Option Value → zMm → Prop), zWp d zi_18 none 20 [l0, l1, l2] [.int x0] h Q = zWp d zi_18 none 24 [l0, l1, l2] [.int x0] h Q) ∧
    (∀ (d : Nat) (l0 : Int32) (l1 : Value) (l2 : Value)  (h : zMm) (Q : Option Value → zMm → Prop), zWp d zi_18 none 23 [.int l0, l1, l2] [] h Q = zWp d zi_18 none 24 [.int l0, l1, l2] [.int l0] h Q) ∧
    (∀ (d : Nat) (l0 : Value) (l1 : Value) (l2 : Value) (x0 : Int32) (h : zMm) (Q : Option Value → zMm → Prop), zWp d zi_18 none 24 [l0, l1, l2] [.int x0] h Q = Q (some (.int x0)) h) :=
  ⟨(fun d l0 l1 l2  h Q => zr_iload_n rfl rfl),
   (fun d l0 l1 l2 x0 h Q => zr_if_ne rfl (by decide)),
   (fun d l0 l1 l2  h Q => zr_iconst rfl (by decide)),
   (fun d l0 l1 l2 x0 h Q => zr_iret rfl rfl),
   (fun d l0 l1 l2  h Q => zr_iconst rfl (by decide)),
   (fun d l0 l1 l2 x0 h Q => zr_iload_n rfl rfl),
   (fun d l0 l1 l2 x1 x0 h Q => zr_imul rfl),
   (fun d l0 l1 l2 x0 h Q => zr_iload_n rfl rfl),
   (fun d l0 l1 l2 x1 x0 h Q => zr_ic_gt rfl (by decide)),
   (fun d l0 l1 l2  h Q => zr_iconst rfl (by decide)),
   (fun d l0 l1 l2 x0 h Q => zr_iload_n rfl rfl),
   (fun d l0 l1 l2 x1 x0 h Q => zr_iconst rfl (by decide)),
   (fun d l0 l1 l2 x2 x1 x0 h Q => zr_idiv rfl),
   (fun d l0 l1 l2 x1 x0 h Q => zr_max rfl lm_2_102 (Nat.le_of_ble_eq_true rfl)),
   (fun d l0 l1 l2 x0 h Q => zr_goto rfl (by decide)),
   (fun d l0 l1 l2  h Q => zr_iload_n rfl rfl),
   (fun d l0 l1 l2 x0 h Q => zr_iret rfl rfl)⟩
theorem E_X2_leftBehind : ∀ (d : Nat) (a0 : Nat) (a1 : Int32) (a2 : Int32) (h : zMm) (Q : Option Value → zMm → Prop), zWM (d + 1) 19 [.ref a0, .int a1, .int a2] h Q = zWp d zi_19 none 0 [.ref a0, .int a1, .int a2] [] h Q := fun d a0 a1 a2 h Q => zW_M m_19 (Nat.le_of_ble_eq_true rfl) rfl
set_option maxRecDepth 100000 in
theorem R_X2_leftBehind :
    (∀ (d : Nat) (l0 : Value) (l1 : Int32) (l2 : Value)  (h : zMm) (Q : Option Value → zMm → Prop), zWp d zi_19 none 0 [l0, .int l1, l2] [] h Q = zWp d zi_19 none 1 [l0, .int l1, l2] [.int l1] h Q) ∧
    (∀ (d : Nat) (l0 : Value) (l1 : Value) (l2 : Value) (x0 : Int32) (h : zMm) (Q : Option Value → zMm → Prop), zWp d zi_19 none 1 [l0, l1, l2] [.int x0] h Q = zWM d 13 [.int x0] h (fun r h1 => zWp d zi_19 none 4 [l0, l1, l2] (r.toList ++ []) h1 Q)) ∧
    (∀ (d : Nat) (l0 : Value) (l1 : Value) (l2 : Value) (x0 : Int32) (h : zMm) (Q : Option Value → zMm → Prop), zWp d zi_19 none 4 [l0, l1, l2] [.int x0] h Q = if x0 = 0 then zWp d zi_19 none 21 [l0, l1, l2] [] h Q else zWp d zi_19 none 7 [l0, l1, l2] [] h Q) ∧
    (∀ (d : Nat) (l0 : Nat) (l1 : Value) (l2 : Value)  (h : zMm) (Q : Option Value → zMm → Prop), zWp d zi_19 none 7 [.ref l0, l1, l2] [] h Q = zWp d zi_19 none 8 [.ref l0, l1, l2] [.ref l0] h Q) ∧
    (∀ (d : Nat) (l0 : Value) (l1 : Value) (l2 : Value) (x0 : Nat) (I : Nat → Nat → Int32) (L : Nat → Nat → Int64) (P : Nat → Nat → Option Nat) (Q : Option Value → zMm → Prop), zSH[x0]? = some (.inl 2) → zWp d zi_19 none 8 [l0, l1, l2] [.ref x0] (zSH, I, L, P) Q = zWp d zi_19 none 11 [l0, l1, l2] [va_rf (P x0 2)] (zSH, I, L, P) Q) ∧
    (∀ (d : Nat) (l0 : Value) (l1 : Int32) (l2 : Value) (x0 : Nat) (h : zMm) (Q : Option Value → zMm → Prop), zWp d zi_19 none 11 [l0, .int l1, l2] [.ref x0] h Q = zWp d zi_19 none 12 [l0, .int l1, l2] [.int l1, .ref x0] h Q) ∧
    (∀ (d : Nat) (l0 : Value) (l1 : Value) (l2 : Value) (x1 : Int32) (x0 : Nat) (h : zMm) (Q : Option Value → zMm → Prop), zWp d zi_19 none 12 [l0, l1, l2] [.int x1, .ref x0] h Q = zWp d zi_19 none 14 [l0, l1, l2] [.int 24, .int x1, .ref x0] h Q) ∧
    (∀ (d : Nat) (l0 : Value) (l1 : Value) (l2 : Value) (x2 : Int32) (x1 : Int32) (x0 : Nat) (h : zMm) (Q : Option Value → zMm → Prop), zWp d zi_19 none 14 [l0, l1, l2] [.int x2, .int x1, .ref x0] h Q = zWp d zi_19 none 15 [l0, l1, l2] [.int (x1 * x2), .ref x0] h Q) ∧
    (∀ (d : Nat) (l0 : Value) (l1 : Value) (l2 : Int32) (x1 : Int32) (x0 : Nat) (h : zMm) (Q : Option Value → zMm → Prop), zWp d zi_19 none 15 [l0, l1, .int l2] [.int x1, .ref x0] h Q = zWp d zi_19 none 16 [l0, l1, .int l2] [.int l2, .int x1, .ref x0] h Q) ∧
    (∀ (d : Nat) (l0 : Value) (l1 : Value) (l2 : Value) (x2 : Int32) (x1 : Int32) (x0 : Nat) (h : zMm) (Q : Option Value → zMm → Prop), zWp d zi_19 none 16 [l0, l1, l2] [.int x2, .int x1, .ref x0] h Q = zWp d zi_19 none 17 [l0, l1, l2] [.int (x1 + x2), .ref x0] h Q) ∧
    (∀ (d : Nat) (l0 : Value) (l1 : Value) (l2 : Value) (x1 : Int32) (x0 : Nat) (I : Nat → Nat → Int32) (L : Nat → Nat → Int64) (P : Nat → Nat → Option Nat) (Q : Option Value → zMm → Prop), zAk zSH x0 = some .int → zWp d zi_19 none 17 [l0, l1, l2] [.int x1, .ref x0] (zSH, I, L, P) Q = (vp_in x1 (zAn zSH x0) ∧ zWp d zi_19 none 18 [l0, l1, l2] [.int (I x0 x1.toNatClampNeg)] (zSH, I, L, P) Q)) ∧
    (∀ (d : Nat) (l0 : Value) (l1 : Value) (l2 : Value) (x0 : Int32) (h : zMm) (Q : Option Value → zMm → Prop), zWp d zi_19 none 18 [l0, l1, l2] [.int x0] h Q = zWp d zi_19 none 27 [l0, l1, l2] [.int x0] h Q) ∧
    (∀ (d : Nat) (l0 : Nat) (l1 : Value) (l2 : Value)  (h : zMm) (Q : Option Value → zMm → Prop), zWp d zi_19 none 21 [.ref l0, l1, l2] [] h Q = zWp d zi_19 none 22 [.ref l0, l1, l2] [.ref l0] h Q) ∧
    (∀ (d : Nat) (l0 : Value) (l1 : Value) (l2 : Value) (x0 : Nat) (I : Nat → Nat → Int32) (L : Nat → Nat → Int64) (P : Nat → Nat → Option Nat) (Q : Option Value → zMm → Prop), zSH[x0]? = some (.inl 2) → zWp d zi_19 none 22 [l0, l1, l2] [.ref x0] (zSH, I, L, P) Q = zWp d zi_19 none 25 [l0, l1, l2] [va_rf (P x0 0)] (zSH, I, L, P) Q) ∧
    (∀ (d : Nat) (l0 : Value) (l1 : Value) (l2 : Int32) (x0 : Nat) (h : zMm) (Q : Option Value → zMm → Prop), zWp d zi_19 none 25 [l0, l1, .int l2] [.ref x0] h Q = zWp d zi_19 none 26 [l0, l1, .int l2] [.int l2, .ref x0] h Q) ∧
    (∀ (d : Nat) (l0 : Value) (l1 : Value) (l2 : Value) (x1 : Int32) (x0 : Nat) (I : Nat → Nat → Int32) (L : Nat → Nat → Int64) (P : Nat → Nat → Option Nat) (Q : Option Value → zMm → Prop), zAk zSH x0 = some .int → zWp d zi_19 none 26 [l0, l1, l2] [.int x1, .ref x0] (zSH, I, L, P) Q = (vp_in x1 (zAn zSH x0) ∧ zWp d zi_19 none 27 [l0, l1, l2] [.int (I x0 x1.toNatClampNeg)] (zSH, I, L, P) Q)) ∧
    (∀ (d : Nat) (l0 : Value) (l1 : Value) (l2 : Value) (x0 : Int32) (h : zMm) (Q : Option Value → zMm → Prop), zWp d zi_19 none 27 [l0, l1, l2] [.int x0] h Q = Q (some (.int x0)) h) :=
  ⟨(fun d l0 l1 l2  h Q => zr_iload_n rfl rfl),
   (fun d l0 l1 l2 x0 h Q => zr_sta (as := [.int x0]) (rest := []) rfl lm_2_105 (by decide) m_13 kd_13 rfl (Nat.le_of_ble_eq_true rfl)),
   (fun d l0 l1 l2 x0 h Q => zr_if_eq rfl (by decide)),
   (fun d l0 l1 l2  h Q => zr_aload_n rfl rfl),
   (fun d l0 l1 l2 x0 I L P Q p0 => zr_getQ rfl lf_2_20 (fun _ _ _ => rfl) p0),
   (fun d l0 l1 l2 x0 h Q => zr_iload_n rfl rfl),
   (fun d l0 l1 l2 x1 x0 h Q => zr_bipush rfl (by decide)),
   (fun d l0 l1 l2 x2 x1 x0 h Q => zr_imul rfl),
   (fun d l0 l1 l2 x1 x0 h Q => zr_iload_n rfl rfl),
   (fun d l0 l1 l2 x2 x1 x0 h Q => zr_iadd rfl),
   (fun d l0 l1 l2 x1 x0 I L P Q p0 => zr_ald rfl p0),
   (fun d l0 l1 l2 x0 h Q => zr_goto rfl (by decide)),
   (fun d l0 l1 l2  h Q => zr_aload_n rfl rfl),
   (fun d l0 l1 l2 x0 I L P Q p0 => zr_getQ rfl lf_2_11 (fun _ _ _ => rfl) p0),
   (fun d l0 l1 l2 x0 h Q => zr_iload_n rfl rfl),
   (fun d l0 l1 l2 x1 x0 I L P Q p0 => zr_ald rfl p0),
   (fun d l0 l1 l2 x0 h Q => zr_iret rfl rfl)⟩
theorem E_X2_glow : ∀ (d : Nat) (a0 : Nat) (a1 : Int32) (a2 : Int32) (a3 : Int32) (h : zMm) (Q : Option Value → zMm → Prop), zWM (d + 1) 20 [.ref a0, .int a1, .int a2, .int a3] h Q = zWp d zi_20 none 0 [.ref a0, .int a1, .int a2, .int a3, .retAddr 0, .retAddr 0, .retAddr 0] [] h Q := fun d a0 a1 a2 a3 h Q => zW_M m_20 (Nat.le_of_ble_eq_true rfl) rfl
set_option maxRecDepth 100000 in
theorem R_X2_glow :
    (∀ (d : Nat) (l0 : Value) (l1 : Value) (l2 : Value) (l3 : Value) (l4 : Value) (l5 : Value) (l6 : Value)  (h : zMm) (Q : Option Value → zMm → Prop), zWp d zi_20 none 0 [l0, l1, l2, l3, l4, l5, l6] [] h Q = zWp d zi_20 none 1 [l0, l1, l2, l3, l4, l5, l6] [.int 0] h Q) ∧
    (∀ (d : Nat) (l0 : Value) (l1 : Value) (l2 : Value) (l3 : Int32) (l4 : Value) (l5 : Value) (l6 : Value) (x0 : Int32) (h : zMm) (Q : Option Value → zMm → Prop), zWp d zi_20 none 1 [l0, l1, l2, .int l3, l4, l5, l6] [.int x0] h Q = zWp d zi_20 none 3 [l0, l1, l2, .int l3, .int x0, l5, l6] [] h Q) ∧
    (∀ (d : Nat) (l0 : Value) (l1 : Value) (l2 : Value) (l3 : Value) (l4 : Value) (l5 : Value) (l6 : Value)  (h : zMm) (Q : Option Value → zMm → Prop), zWp d zi_20 none 3 [l0, l1, l2, l3, l4, l5, l6] [] h Q = zWp d zi_20 none 4 [l0, l1, l2, l3, l4, l5, l6] [.int 0] h Q) ∧
    (∀ (d : Nat) (l0 : Value) (l1 : Value) (l2 : Value) (l3 : Value) (l4 : Int32) (l5 : Value) (l6 : Value) (x0 : Int32) (h : zMm) (Q : Option Value → zMm → Prop), zWp d zi_20 none 4 [l0, l1, l2, l3, .int l4, l5, l6] [.int x0] h Q = zWp d zi_20 none 6 [l0, l1, l2, l3, .int l4, .int x0, l6] [] h Q) ∧
    (∀ (d : Nat) (l0 : Nat) (l1 : Value) (l2 : Value) (l3 : Value) (l4 : Value) (l5 : Value) (l6 : Value) (x0 : Int32) (h : zMm) (Q : Option Value → zMm → Prop), zWp d zi_20 none 8 [.ref l0, l1, l2, l3, l4, l5, l6] [.int x0] h Q = zWp d zi_20 none 9 [.ref l0, l1, l2, l3, l4, l5, l6] [.ref l0, .int x0] h Q) ∧
    (∀ (d : Nat) (l0 : Value) (l1 : Value) (l2 : Value) (l3 : Value) (l4 : Value) (l5 : Value) (l6 : Value) (x1 : Nat) (x0 : Int32) (I : Nat → Nat → Int32) (L : Nat → Nat → Int64) (P : Nat → Nat → Option Nat) (Q : Option Value → zMm → Prop), zSH[x1]? = some (.inl 2) → zWp d zi_20 none 9 [l0, l1, l2, l3, l4, l5, l6] [.ref x1, .int x0] (zSH, I, L, P) Q = zWp d zi_20 none 12 [l0, l1, l2, l3, l4, l5, l6] [.int (I x1 5), .int x0] (zSH, I, L, P) Q) ∧
    (∀ (d : Nat) (l0 : Value) (l1 : Value) (l2 : Value) (l3 : Value) (l4 : Value) (l5 : Value) (l6 : Value) (x1 : Int32) (x0 : Int32) (h : zMm) (Q : Option Value → zMm → Prop), zWp d zi_20 none 12 [l0, l1, l2, l3, l4, l5, l6] [.int x1, .int x0] h Q = if x1 ≤ x0 then zWp d zi_20 none 65 [l0, l1, l2, l3, l4, l5, l6] [] h Q else zWp d zi_20 none 15 [l0, l1, l2, l3, l4, l5, l6] [] h Q) ∧
    (∀ (d : Nat) (l0 : Value) (l1 : Int32) (l2 : Value) (l3 : Value) (l4 : Value) (l5 : Value) (l6 : Value)  (h : zMm) (Q : Option Value → zMm → Prop), zWp d zi_20 none 15 [l0, .int l1, l2, l3, l4, l5, l6] [] h Q = zWp d zi_20 none 16 [l0, .int l1, l2, l3, l4, l5, l6] [.int l1] h Q) ∧
    (∀ (d : Nat) (l0 : Value) (l1 : Value) (l2 : Value) (l3 : Value) (l4 : Value) (l5 : Int32) (l6 : Value) (x0 : Int32) (h : zMm) (Q : Option Value → zMm → Prop), zWp d zi_20 none 16 [l0, l1, l2, l3, l4, .int l5, l6] [.int x0] h Q = zWp d zi_20 none 18 [l0, l1, l2, l3, l4, .int l5, l6] [.int l5, .int x0] h Q) ∧
    (∀ (d : Nat) (l0 : Value) (l1 : Value) (l2 : Int32) (l3 : Value) (l4 : Value) (l5 : Value) (l6 : Value) (x1 : Int32) (x0 : Int32) (h : zMm) (Q : Option Value → zMm → Prop), zWp d zi_20 none 18 [l0, l1, .int l2, l3, l4, l5, l6] [.int x1, .int x0] h Q = zWp d zi_20 none 19 [l0, l1, .int l2, l3, l4, l5, l6] [.int l2, .int x1, .int x0] h Q) ∧
    (∀ (d : Nat) (l0 : Value) (l1 : Value) (l2 : Value) (l3 : Value) (l4 : Value) (l5 : Value) (l6 : Value) (x2 : Int32) (x1 : Int32) (x0 : Int32) (h : zMm) (Q : Option Value → zMm → Prop), zWp d zi_20 none 19 [l0, l1, l2, l3, l4, l5, l6] [.int x2, .int x1, .int x0] h Q = zWp d zi_20 none 20 [l0, l1, l2, l3, l4, l5, l6] [.int (x1 - x2), .int x0] h Q) ∧
    (∀ (d : Nat) (l0 : Value) (l1 : Value) (l2 : Value) (l3 : Value) (l4 : Value) (l5 : Value) (l6 : Value) (x1 : Int32) (x0 : Int32) (h : zMm) (Q : Option Value → zMm → Prop), zWp d zi_20 none 20 [l0, l1, l2, l3, l4, l5, l6] [.int x1, .int x0] h Q = zWp d zi_20 none 23 [l0, l1, l2, l3, l4, l5, l6] [.int (if 0 ≤ x1 then x1 else 0 - x1), .int x0] h Q) ∧
    (∀ (d : Nat) (l0 : Value) (l1 : Value) (l2 : Value) (l3 : Value) (l4 : Value) (l5 : Value) (l6 : Value) (x1 : Int32) (x0 : Int32) (h : zMm) (Q : Option Value → zMm → Prop), zWp d zi_20 none 23 [l0, l1, l2, l3, l4, l5, l6] [.int x1, .int x0] h Q = zWp d zi_20 none 24 [l0, l1, l2, l3, l4, l5, l6] [.int (x0 + x1)] h Q) ∧
    (∀ (d : Nat) (l0 : Value) (l1 : Value) (l2 : Value) (l3 : Value) (l4 : Value) (l5 : Int32) (l6 : Value) (x0 : Int32) (h : zMm) (Q : Option Value → zMm → Prop), zWp d zi_20 none 24 [l0, l1, l2, l3, l4, .int l5, l6] [.int x0] h Q = zWp d zi_20 none 26 [l0, l1, l2, l3, l4, .int l5, .int x0] [] h Q) ∧
    (∀ (d : Nat) (l0 : Value) (l1 : Value) (l2 : Value) (l3 : Value) (l4 : Value) (l5 : Value) (l6 : Int32)  (h : zMm) (Q : Option Value → zMm → Prop), zWp d zi_20 none 26 [l0, l1, l2, l3, l4, l5, .int l6] [] h Q = zWp d zi_20 none 28 [l0, l1, l2, l3, l4, l5, .int l6] [.int l6] h Q) ∧
    (∀ (d : Nat) (l0 : Value) (l1 : Value) (l2 : Value) (l3 : Value) (l4 : Value) (l5 : Value) (l6 : Value) (x0 : Int32) (h : zMm) (Q : Option Value → zMm → Prop), zWp d zi_20 none 28 [l0, l1, l2, l3, l4, l5, l6] [.int x0] h Q = if x0 ≤ 0 then zWp d zi_20 none 59 [l0, l1, l2, l3, l4, l5, l6] [] h Q else zWp d zi_20 none 31 [l0, l1, l2, l3, l4, l5, l6] [] h Q) ∧
    (∀ (d : Nat) (l0 : Value) (l1 : Value) (l2 : Value) (l3 : Value) (l4 : Int32) (l5 : Value) (l6 : Value)  (h : zMm) (Q : Option Value → zMm → Prop), zWp d zi_20 none 31 [l0, l1, l2, l3, .int l4, l5, l6] [] h Q = zWp d zi_20 none 33 [l0, l1, l2, l3, .int l4, l5, l6] [.int l4] h Q) ∧
    (∀ (d : Nat) (l0 : Nat) (l1 : Value) (l2 : Value) (l3 : Value) (l4 : Value) (l5 : Value) (l6 : Value) (x0 : Int32) (h : zMm) (Q : Option Value → zMm → Prop), zWp d zi_20 none 33 [.ref l0, l1, l2, l3, l4, l5, l6] [.int x0] h Q = zWp d zi_20 none 34 [.ref l0, l1, l2, l3, l4, l5, l6] [.ref l0, .int x0] h Q) ∧
    (∀ (d : Nat) (l0 : Value) (l1 : Value) (l2 : Value) (l3 : Int32) (l4 : Value) (l5 : Value) (l6 : Value) (x1 : Nat) (x0 : Int32) (h : zMm) (Q : Option Value → zMm → Prop), zWp d zi_20 none 34 [l0, l1, l2, .int l3, l4, l5, l6] [.ref x1, .int x0] h Q = zWp d zi_20 none 35 [l0, l1, l2, .int l3, l4, l5, l6] [.int l3, .ref x1, .int x0] h Q) ∧
    (∀ (d : Nat) (l0 : Value) (l1 : Value) (l2 : Value) (l3 : Value) (l4 : Value) (l5 : Value) (l6 : Value) (x2 : Int32) (x1 : Nat) (x0 : Int32) (h : zMm) (Q : Option Value → zMm → Prop), zWp d zi_20 none 35 [l0, l1, l2, l3, l4, l5, l6] [.int x2, .ref x1, .int x0] h Q = zWp d zi_20 none 36 [l0, l1, l2, l3, l4, l5, l6] [.int 1, .int x2, .ref x1, .int x0] h Q) ∧
    (∀ (d : Nat) (l0 : Value) (l1 : Value) (l2 : Value) (l3 : Value) (l4 : Value) (l5 : Value) (l6 : Value) (x3 : Int32) (x2 : Int32) (x1 : Nat) (x0 : Int32) (h : zMm) (Q : Option Value → zMm → Prop), zWp d zi_20 none 36 [l0, l1, l2, l3, l4, l5, l6] [.int x3, .int x2, .ref x1, .int x0] h Q = zWp d zi_20 none 37 [l0, l1, l2, l3, l4, l5, l6] [.int (x2 - x3), .ref x1, .int x0] h Q) ∧
    (∀ (d : Nat) (l0 : Value) (l1 : Value) (l2 : Value) (l3 : Value) (l4 : Value) (l5 : Int32) (l6 : Value) (x2 : Int32) (x1 : Nat) (x0 : Int32) (h : zMm) (Q : Option Value → zMm → Prop), zWp d zi_20 none 37 [l0, l1, l2, l3, l4, .int l5, l6] [.int x2, .ref x1, .int x0] h Q = zWp d zi_20 none 39 [l0, l1, l2, l3, l4, .int l5, l6] [.int l5, .int x2, .ref x1, .int x0] h Q) ∧
    (∀ (d : Nat) (l0 : Value) (l1 : Value) (l2 : Value) (l3 : Value) (l4 : Value) (l5 : Value) (l6 : Value) (x3 : Int32) (x2 : Int32) (x1 : Nat) (x0 : Int32) (I : Nat → Nat → Int32) (L : Nat → Nat → Int64) (P : Nat → Nat → Option Nat) (Q : Option Value → zMm → Prop), zSH[x1]? = some (.inl 2) → zWp d zi_20 none 39 [l0, l1, l2, l3, l4, l5, l6] [.int x3, .int x2, .ref x1, .int x0] (zSH, I, L, P) Q = zWM d 19 [.ref x1, .int x2, .int x3] (zSH, I, L, P) (fun r h1 => zWp d zi_20 none 42 [l0, l1, l2, l3, l4, l5, l6] (r.toList ++ [.int x0]) h1 Q)) ∧
    (∀ (d : Nat) (l0 : Nat) (l1 : Value) (l2 : Value) (l3 : Value) (l4 : Value) (l5 : Value) (l6 : Value) (x1 : Int32) (x0 : Int32) (h : zMm) (Q : Option Value → zMm → Prop), zWp d zi_20 none 42 [.ref l0, l1, l2, l3, l4, l5, l6] [.int x1, .int x0] h Q = zWp d zi_20 none 43 [.ref l0, l1, l2, l3, l4, l5, l6] [.ref l0, .int x1, .int x0] h Q) ∧
    (∀ (d : Nat) (l0 : Value) (l1 : Value) (l2 : Value) (l3 : Int32) (l4 : Value) (l5 : Value) (l6 : Value) (x2 : Nat) (x1 : Int32) (x0 : Int32) (h : zMm) (Q : Option Value → zMm → Prop), zWp d zi_20 none 43 [l0, l1, l2, .int l3, l4, l5, l6] [.ref x2, .int x1, .int x0] h Q = zWp d zi_20 none 44 [l0, l1, l2, .int l3, l4, l5, l6] [.int l3, .ref x2, .int x1, .int x0] h Q) ∧
    (∀ (d : Nat) (l0 : Value) (l1 : Value) (l2 : Value) (l3 : Value) (l4 : Value) (l5 : Int32) (l6 : Value) (x3 : Int32) (x2 : Nat) (x1 : Int32) (x0 : Int32) (h : zMm) (Q : Option Value → zMm → Prop), zWp d zi_20 none 44 [l0, l1, l2, l3, l4, .int l5, l6] [.int x3, .ref x2, .int x1, .int x0] h Q = zWp d zi_20 none 46 [l0, l1, l2, l3, l4, .int l5, l6] [.int l5, .int x3, .ref x2, .int x1, .int x0] h Q) ∧
    (∀ (d : Nat) (l0 : Value) (l1 : Value) (l2 : Value) (l3 : Value) (l4 : Value) (l5 : Value) (l6 : Value) (x4 : Int32) (x3 : Int32) (x2 : Nat) (x1 : Int32) (x0 : Int32) (I : Nat → Nat → Int32) (L : Nat → Nat → Int64) (P : Nat → Nat → Option Nat) (Q : Option Value → zMm → Prop), zSH[x2]? = some (.inl 2) → zWp d zi_20 none 46 [l0, l1, l2, l3, l4, l5, l6] [.int x4, .int x3, .ref x2, .int x1, .int x0] (zSH, I, L, P) Q = zWM d 19 [.ref x2, .int x3, .int x4] (zSH, I, L, P) (fun r h1 => zWp d zi_20 none 49 [l0, l1, l2, l3, l4, l5, l6] (r.toList ++ [.int x1, .int x0]) h1 Q)) ∧
    (∀ (d : Nat) (l0 : Value) (l1 : Value) (l2 : Value) (l3 : Value) (l4 : Value) (l5 : Value) (l6 : Value) (x2 : Int32) (x1 : Int32) (x0 : Int32) (h : zMm) (Q : Option Value → zMm → Prop), zWp d zi_20 none 49 [l0, l1, l2, l3, l4, l5, l6] [.int x2, .int x1, .int x0] h Q = zWp d zi_20 none 50 [l0, l1, l2, l3, l4, l5, l6] [.int (x1 - x2), .int x0] h Q) ∧
    (∀ (d : Nat) (l0 : Value) (l1 : Value) (l2 : Value) (l3 : Value) (l4 : Value) (l5 : Value) (l6 : Value) (x1 : Int32) (x0 : Int32) (h : zMm) (Q : Option Value → zMm → Prop), zWp d zi_20 none 50 [l0, l1, l2, l3, l4, l5, l6] [.int x1, .int x0] h Q = zWp d zi_20 none 52 [l0, l1, l2, l3, l4, l5, l6] [.int 100, .int x1, .int x0] h Q) ∧
    (∀ (d : Nat) (l0 : Value) (l1 : Value) (l2 : Value) (l3 : Value) (l4 : Value) (l5 : Value) (l6 : Value) (x2 : Int32) (x1 : Int32) (x0 : Int32) (h : zMm) (Q : Option Value → zMm → Prop), zWp d zi_20 none 52 [l0, l1, l2, l3, l4, l5, l6] [.int x2, .int x1, .int x0] h Q = zWp d zi_20 none 53 [l0, l1, l2, l3, l4, l5, l6] [.int (x1 * x2), .int x0] h Q) ∧
    (∀ (d : Nat) (l0 : Value) (l1 : Value) (l2 : Value) (l3 : Value) (l4 : Value) (l5 : Value) (l6 : Int32) (x1 : Int32) (x0 : Int32) (h : zMm) (Q : Option Value → zMm → Prop), zWp d zi_20 none 53 [l0, l1, l2, l3, l4, l5, .int l6] [.int x1, .int x0] h Q = zWp d zi_20 none 55 [l0, l1, l2, l3, l4, l5, .int l6] [.int l6, .int x1, .int x0] h Q) ∧
    (∀ (d : Nat) (l0 : Value) (l1 : Value) (l2 : Value) (l3 : Value) (l4 : Value) (l5 : Value) (l6 : Value) (x2 : Int32) (x1 : Int32) (x0 : Int32) (h : zMm) (Q : Option Value → zMm → Prop), zWp d zi_20 none 55 [l0, l1, l2, l3, l4, l5, l6] [.int x2, .int x1, .int x0] h Q = (¬ x2 = 0 ∧ zWp d zi_20 none 56 [l0, l1, l2, l3, l4, l5, l6] [.int (x1 / x2), .int x0] h Q)) ∧
    (∀ (d : Nat) (l0 : Value) (l1 : Value) (l2 : Value) (l3 : Value) (l4 : Value) (l5 : Value) (l6 : Value) (x1 : Int32) (x0 : Int32) (h : zMm) (Q : Option Value → zMm → Prop), zWp d zi_20 none 56 [l0, l1, l2, l3, l4, l5, l6] [.int x1, .int x0] h Q = zWp d zi_20 none 57 [l0, l1, l2, l3, l4, l5, l6] [.int (x0 + x1)] h Q) ∧
    (∀ (d : Nat) (l0 : Value) (l1 : Value) (l2 : Value) (l3 : Int32) (l4 : Value) (l5 : Value) (l6 : Value) (x0 : Int32) (h : zMm) (Q : Option Value → zMm → Prop), zWp d zi_20 none 57 [l0, l1, l2, .int l3, l4, l5, l6] [.int x0] h Q = zWp d zi_20 none 59 [l0, l1, l2, .int l3, .int x0, l5, l6] [] h Q) ∧
    (∀ (d : Nat) (l0 : Value) (l1 : Value) (l2 : Value) (l3 : Value) (l4 : Int32) (l5 : Int32) (l6 : Value)  (h : zMm) (Q : Option Value → zMm → Prop), zWp d zi_20 none 59 [l0, l1, l2, l3, .int l4, .int l5, l6] [] h Q = zWp d zi_20 none 62 [l0, l1, l2, l3, .int l4, .int (l5 + 1), l6] [] h Q) ∧
    (∀ (d : Nat) (l0 : Value) (l1 : Value) (l2 : Value) (l3 : Value) (l4 : Value) (l5 : Value) (l6 : Value)  (h : zMm) (Q : Option Value → zMm → Prop), zWp d zi_20 none 62 [l0, l1, l2, l3, l4, l5, l6] [] h Q = zWp d zi_20 none 6 [l0, l1, l2, l3, l4, l5, l6] [] h Q) ∧
    (∀ (d : Nat) (l0 : Value) (l1 : Value) (l2 : Value) (l3 : Value) (l4 : Int32) (l5 : Value) (l6 : Value)  (h : zMm) (Q : Option Value → zMm → Prop), zWp d zi_20 none 65 [l0, l1, l2, l3, .int l4, l5, l6] [] h Q = zWp d zi_20 none 67 [l0, l1, l2, l3, .int l4, l5, l6] [.int l4] h Q) ∧
    (∀ (d : Nat) (l0 : Value) (l1 : Value) (l2 : Value) (l3 : Value) (l4 : Value) (l5 : Value) (l6 : Value) (x0 : Int32) (h : zMm) (Q : Option Value → zMm → Prop), zWp d zi_20 none 67 [l0, l1, l2, l3, l4, l5, l6] [.int x0] h Q = Q (some (.int x0)) h) :=
  ⟨(fun d l0 l1 l2 l3 l4 l5 l6  h Q => zr_iconst rfl (by decide)),
   (fun d l0 l1 l2 l3 l4 l5 l6 x0 h Q => zr_istore (n := 4) rfl (Nat.le_of_ble_eq_true rfl) rfl),
   (fun d l0 l1 l2 l3 l4 l5 l6  h Q => zr_iconst rfl (by decide)),
   (fun d l0 l1 l2 l3 l4 l5 l6 x0 h Q => zr_istore (n := 5) rfl (Nat.le_of_ble_eq_true rfl) rfl),
   (fun d l0 l1 l2 l3 l4 l5 l6 x0 h Q => zr_aload_n rfl rfl),
   (fun d l0 l1 l2 l3 l4 l5 l6 x1 x0 I L P Q p0 => zr_getI rfl lf_2_66 (fun _ _ _ => rfl) p0),
   (fun d l0 l1 l2 l3 l4 l5 l6 x1 x0 h Q => zr_ic_ge rfl (by decide)),
   (fun d l0 l1 l2 l3 l4 l5 l6  h Q => zr_iload_n rfl rfl),
   (fun d l0 l1 l2 l3 l4 l5 l6 x0 h Q => zr_iload rfl rfl),
   (fun d l0 l1 l2 l3 l4 l5 l6 x1 x0 h Q => zr_iload_n rfl rfl),
   (fun d l0 l1 l2 l3 l4 l5 l6 x2 x1 x0 h Q => zr_isub rfl),
   (fun d l0 l1 l2 l3 l4 l5 l6 x1 x0 h Q => zr_abs rfl lm_2_35 (Nat.le_of_ble_eq_true rfl)),
   (fun d l0 l1 l2 l3 l4 l5 l6 x1 x0 h Q => zr_iadd rfl),
   (fun d l0 l1 l2 l3 l4 l5 l6 x0 h Q => zr_istore (n := 6) rfl (Nat.le_of_ble_eq_true rfl) rfl),
   (fun d l0 l1 l2 l3 l4 l5 l6  h Q => zr_iload rfl rfl),
   (fun d l0 l1 l2 l3 l4 l5 l6 x0 h Q => zr_if_le rfl (by decide)),
   (fun d l0 l1 l2 l3 l4 l5 l6  h Q => zr_iload rfl rfl),
   (fun d l0 l1 l2 l3 l4 l5 l6 x0 h Q => zr_aload_n rfl rfl),
   (fun d l0 l1 l2 l3 l4 l5 l6 x1 x0 h Q => zr_iload_n rfl rfl),
   (fun d l0 l1 l2 l3 l4 l5 l6 x2 x1 x0 h Q => zr_iconst rfl (by decide)),
   (fun d l0 l1 l2 l3 l4 l5 l6 x3 x2 x1 x0 h Q => zr_isub rfl),
   (fun d l0 l1 l2 l3 l4 l5 l6 x2 x1 x0 h Q => zr_iload rfl rfl),
   (fun d l0 l1 l2 l3 l4 l5 l6 x3 x2 x1 x0 I L P Q p0 => zr_vir (as := [.int x3, .int x2]) (rest := [.int x0]) rfl lm_2_69 m_19 kd_19 rfl (Nat.le_of_ble_eq_true rfl) p0),
   (fun d l0 l1 l2 l3 l4 l5 l6 x1 x0 h Q => zr_aload_n rfl rfl),
   (fun d l0 l1 l2 l3 l4 l5 l6 x2 x1 x0 h Q => zr_iload_n rfl rfl),
   (fun d l0 l1 l2 l3 l4 l5 l6 x3 x2 x1 x0 h Q => zr_iload rfl rfl),
   (fun d l0 l1 l2 l3 l4 l5 l6 x4 x3 x2 x1 x0 I L P Q p0 => zr_vir (as := [.int x4, .int x3]) (rest := [.int x1, .int x0]) rfl lm_2_69 m_19 kd_19 rfl (Nat.le_of_ble_eq_true rfl) p0),
   (fun d l0 l1 l2 l3 l4 l5 l6 x2 x1 x0 h Q => zr_isub rfl),
   (fun d l0 l1 l2 l3 l4 l5 l6 x1 x0 h Q => zr_bipush rfl (by decide)),
   (fun d l0 l1 l2 l3 l4 l5 l6 x2 x1 x0 h Q => zr_imul rfl),
   (fun d l0 l1 l2 l3 l4 l5 l6 x1 x0 h Q => zr_iload rfl rfl),
   (fun d l0 l1 l2 l3 l4 l5 l6 x2 x1 x0 h Q => zr_idiv rfl),
   (fun d l0 l1 l2 l3 l4 l5 l6 x1 x0 h Q => zr_iadd rfl),
   (fun d l0 l1 l2 l3 l4 l5 l6 x0 h Q => zr_istore (n := 4) rfl (Nat.le_of_ble_eq_true rfl) rfl),
   (fun d l0 l1 l2 l3 l4 l5 l6  h Q => zr_iinc (n := 5) (kc := 1) rfl rfl (Nat.le_of_ble_eq_true rfl) rfl (by decide)),
   (fun d l0 l1 l2 l3 l4 l5 l6  h Q => zr_goto rfl (by decide)),
   (fun d l0 l1 l2 l3 l4 l5 l6  h Q => zr_iload rfl rfl),
   (fun d l0 l1 l2 l3 l4 l5 l6 x0 h Q => zr_iret rfl rfl)⟩
theorem H_X2_glow_6 : ∀ (d : Nat) (l0 : Value) (l1 : Value) (l2 : Value) (l3 : Value) (l4 : Value) (l5 : Int32) (l6 : Value)  (h : zMm) (Q : Option Value → zMm → Prop), zWp d zi_20 none 6 [l0, l1, l2, l3, l4, .int l5, l6] [] h Q = zWp d zi_20 none 8 [l0, l1, l2, l3, l4, .int l5, l6] [.int l5] h Q := fun d l0 l1 l2 l3 l4 l5 l6  h Q => zr_iload rfl rfl
theorem E_X3_has : ∀ (d : Nat) (a0 : Nat) (a1 : Int32) (h : zMm) (Q : Option Value → zMm → Prop), zWM (d + 1) 22 [.ref a0, .int a1] h Q = zWp d zi_22 none 0 [.ref a0, .int a1] [] h Q := fun d a0 a1 h Q => zW_M m_22 (Nat.le_of_ble_eq_true rfl) rfl
set_option maxRecDepth 100000 in
theorem R_X3_has :
    (∀ (d : Nat) (l0 : Value) (l1 : Int32)  (h : zMm) (Q : Option Value → zMm → Prop), zWp d zi_22 none 0 [l0, .int l1] [] h Q = zWp d zi_22 none 1 [l0, .int l1] [.int l1] h Q) ∧
    (∀ (d : Nat) (l0 : Value) (l1 : Value) (x0 : Int32) (h : zMm) (Q : Option Value → zMm → Prop), zWp d zi_22 none 1 [l0, l1] [.int x0] h Q = if x0 < 0 then zWp d zi_22 none 16 [l0, l1] [] h Q else zWp d zi_22 none 4 [l0, l1] [] h Q) ∧
    (∀ (d : Nat) (l0 : Value) (l1 : Int32)  (h : zMm) (Q : Option Value → zMm → Prop), zWp d zi_22 none 4 [l0, .int l1] [] h Q = zWp d zi_22 none 5 [l0, .int l1] [.int l1] h Q) ∧
    (∀ (d : Nat) (l0 : Nat) (l1 : Value) (x0 : Int32) (h : zMm) (Q : Option Value → zMm → Prop), zWp d zi_22 none 5 [.ref l0, l1] [.int x0] h Q = zWp d zi_22 none 6 [.ref l0, l1] [.ref l0, .int x0] h Q) ∧
    (∀ (d : Nat) (l0 : Value) (l1 : Value) (x1 : Nat) (x0 : Int32) (I : Nat → Nat → Int32) (L : Nat → Nat → Int64) (P : Nat → Nat → Option Nat) (Q : Option Value → zMm → Prop), zSH[x1]? = some (.inl 3) → zWp d zi_22 none 6 [l0, l1] [.ref x1, .int x0] (zSH, I, L, P) Q = zWp d zi_22 none 9 [l0, l1] [.int (I x1 3), .int x0] (zSH, I, L, P) Q) ∧
    (∀ (d : Nat) (l0 : Value) (l1 : Value) (x1 : Int32) (x0 : Int32) (h : zMm) (Q : Option Value → zMm → Prop), zWp d zi_22 none 9 [l0, l1] [.int x1, .int x0] h Q = if x1 ≤ x0 then zWp d zi_22 none 16 [l0, l1] [] h Q else zWp d zi_22 none 12 [l0, l1] [] h Q) ∧
    (∀ (d : Nat) (l0 : Value) (l1 : Value)  (h : zMm) (Q : Option Value → zMm → Prop), zWp d zi_22 none 12 [l0, l1] [] h Q = zWp d zi_22 none 13 [l0, l1] [.int 1] h Q) ∧
    (∀ (d : Nat) (l0 : Value) (l1 : Value) (x0 : Int32) (h : zMm) (Q : Option Value → zMm → Prop), zWp d zi_22 none 13 [l0, l1] [.int x0] h Q = zWp d zi_22 none 17 [l0, l1] [.int x0] h Q) ∧
    (∀ (d : Nat) (l0 : Value) (l1 : Value)  (h : zMm) (Q : Option Value → zMm → Prop), zWp d zi_22 none 16 [l0, l1] [] h Q = zWp d zi_22 none 17 [l0, l1] [.int 0] h Q) ∧
    (∀ (d : Nat) (l0 : Value) (l1 : Value) (x0 : Int32) (h : zMm) (Q : Option Value → zMm → Prop), x0 = 0 ∨ x0 = 1 → zWp d zi_22 none 17 [l0, l1] [.int x0] h Q = Q (some (.int x0)) h) :=
  ⟨(fun d l0 l1  h Q => zr_iload_n rfl rfl),
   (fun d l0 l1 x0 h Q => zr_if_lt rfl (by decide)),
   (fun d l0 l1  h Q => zr_iload_n rfl rfl),
   (fun d l0 l1 x0 h Q => zr_aload_n rfl rfl),
   (fun d l0 l1 x1 x0 I L P Q p0 => zr_getI rfl lf_3_25 (fun _ _ _ => rfl) p0),
   (fun d l0 l1 x1 x0 h Q => zr_ic_ge rfl (by decide)),
   (fun d l0 l1  h Q => zr_iconst rfl (by decide)),
   (fun d l0 l1 x0 h Q => zr_goto rfl (by decide)),
   (fun d l0 l1  h Q => zr_iconst rfl (by decide)),
   (fun d l0 l1 x0 h Q p0 => zr_zret rfl rfl p0)⟩
theorem E_X3_add : ∀ (d : Nat) (a0 : Nat) (a1 : Int32) (a2 : Int32) (h : zMm) (Q : Option Value → zMm → Prop), zWM (d + 1) 23 [.ref a0, .int a1, .int a2] h Q = zWp d zi_23 none 0 [.ref a0, .int a1, .int a2] [] h Q := fun d a0 a1 a2 h Q => zW_M m_23 (Nat.le_of_ble_eq_true rfl) rfl
set_option maxRecDepth 100000 in
theorem R_X3_add :
    (∀ (d : Nat) (l0 : Nat) (l1 : Value) (l2 : Value)  (h : zMm) (Q : Option Value → zMm → Prop), zWp d zi_23 none 0 [.ref l0, l1, l2] [] h Q = zWp d zi_23 none 1 [.ref l0, l1, l2] [.ref l0] h Q) ∧
    (∀ (d : Nat) (l0 : Value) (l1 : Value) (l2 : Value) (x0 : Nat) (I : Nat → Nat → Int32) (L : Nat → Nat → Int64) (P : Nat → Nat → Option Nat) (Q : Option Value → zMm → Prop), zSH[x0]? = some (.inl 3) → zWp d zi_23 none 1 [l0, l1, l2] [.ref x0] (zSH, I, L, P) Q = zWp d zi_23 none 4 [l0, l1, l2] [.int (I x0 3)] (zSH, I, L, P) Q) ∧
    (∀ (d : Nat) (l0 : Value) (l1 : Value) (l2 : Value) (x0 : Int32) (h : zMm) (Q : Option Value → zMm → Prop), zWp d zi_23 none 4 [l0, l1, l2] [.int x0] h Q = zWp d zi_23 none 6 [l0, l1, l2] [.int 8, .int x0] h Q) ∧
    (∀ (d : Nat) (l0 : Value) (l1 : Value) (l2 : Value) (x1 : Int32) (x0 : Int32) (h : zMm) (Q : Option Value → zMm → Prop), zWp d zi_23 none 6 [l0, l1, l2] [.int x1, .int x0] h Q = if x1 ≤ x0 then zWp d zi_23 none 39 [l0, l1, l2] [] h Q else zWp d zi_23 none 9 [l0, l1, l2] [] h Q) ∧
    (∀ (d : Nat) (l0 : Nat) (l1 : Value) (l2 : Value)  (h : zMm) (Q : Option Value → zMm → Prop), zWp d zi_23 none 9 [.ref l0, l1, l2] [] h Q = zWp d zi_23 none 10 [.ref l0, l1, l2] [.ref l0] h Q) ∧
    (∀ (d : Nat) (l0 : Value) (l1 : Value) (l2 : Value) (x0 : Nat) (I : Nat → Nat → Int32) (L : Nat → Nat → Int64) (P : Nat → Nat → Option Nat) (Q : Option Value → zMm → Prop), zSH[x0]? = some (.inl 3) → zWp d zi_23 none 10 [l0, l1, l2] [.ref x0] (zSH, I, L, P) Q = zWp d zi_23 none 13 [l0, l1, l2] [va_rf (P x0 0)] (zSH, I, L, P) Q) ∧
    (∀ (d : Nat) (l0 : Nat) (l1 : Value) (l2 : Value) (x0 : Nat) (h : zMm) (Q : Option Value → zMm → Prop), zWp d zi_23 none 13 [.ref l0, l1, l2] [.ref x0] h Q = zWp d zi_23 none 14 [.ref l0, l1, l2] [.ref l0, .ref x0] h Q) ∧
    (∀ (d : Nat) (l0 : Value) (l1 : Value) (l2 : Value) (x1 : Nat) (x0 : Nat) (I : Nat → Nat → Int32) (L : Nat → Nat → Int64) (P : Nat → Nat → Option Nat) (Q : Option Value → zMm → Prop), zSH[x1]? = some (.inl 3) → zWp d zi_23 none 14 [l0, l1, l2] [.ref x1, .ref x0] (zSH, I, L, P) Q = zWp d zi_23 none 17 [l0, l1, l2] [.int (I x1 3), .ref x0] (zSH, I, L, P) Q) ∧
    (∀ (d : Nat) (l0 : Value) (l1 : Int32) (l2 : Value) (x1 : Int32) (x0 : Nat) (h : zMm) (Q : Option Value → zMm → Prop), zWp d zi_23 none 17 [l0, .int l1, l2] [.int x1, .ref x0] h Q = zWp d zi_23 none 18 [l0, .int l1, l2] [.int l1, .int x1, .ref x0] h Q) ∧
    (∀ (d : Nat) (l0 : Value) (l1 : Value) (l2 : Value) (x2 : Int32) (x1 : Int32) (x0 : Nat) (I : Nat → Nat → Int32) (L : Nat → Nat → Int64) (P : Nat → Nat → Option Nat) (Q : Option Value → zMm → Prop), zAk zSH x0 = some .int → zWp d zi_23 none 18 [l0, l1, l2] [.int x2, .int x1, .ref x0] (zSH, I, L, P) Q = (vp_in x1 (zAn zSH x0) ∧ zWp d zi_23 none 19 [l0, l1, l2] [] (zSH, zw I x0 (upd (I x0) x1.toNatClampNeg x2), L, P) Q)) ∧
    (∀ (d : Nat) (l0 : Nat) (l1 : Value) (l2 : Value)  (h : zMm) (Q : Option Value → zMm → Prop), zWp d zi_23 none 19 [.ref l0, l1, l2] [] h Q = zWp d zi_23 none 20 [.ref l0, l1, l2] [.ref l0] h Q) ∧
    (∀ (d : Nat) (l0 : Value) (l1 : Value) (l2 : Value) (x0 : Nat) (I : Nat → Nat → Int32) (L : Nat → Nat → Int64) (P : Nat → Nat → Option Nat) (Q : Option Value → zMm → Prop), zSH[x0]? = some (.inl 3) → zWp d zi_23 none 20 [l0, l1, l2] [.ref x0] (zSH, I, L, P) Q = zWp d zi_23 none 23 [l0, l1, l2] [va_rf (P x0 1)] (zSH, I, L, P) Q) ∧
    (∀ (d : Nat) (l0 : Nat) (l1 : Value) (l2 : Value) (x0 : Nat) (h : zMm) (Q : Option Value → zMm → Prop), zWp d zi_23 none 23 [.ref l0, l1, l2] [.ref x0] h Q = zWp d zi_23 none 24 [.ref l0, l1, l2] [.ref l0, .ref x0] h Q) ∧
    (∀ (d : Nat) (l0 : Value) (l1 : Value) (l2 : Value) (x1 : Nat) (x0 : Nat) (I : Nat → Nat → Int32) (L : Nat → Nat → Int64) (P : Nat → Nat → Option Nat) (Q : Option Value → zMm → Prop), zSH[x1]? = some (.inl 3) → zWp d zi_23 none 24 [l0, l1, l2] [.ref x1, .ref x0] (zSH, I, L, P) Q = zWp d zi_23 none 27 [l0, l1, l2] [.int (I x1 3), .ref x0] (zSH, I, L, P) Q) ∧
    (∀ (d : Nat) (l0 : Value) (l1 : Value) (l2 : Int32) (x1 : Int32) (x0 : Nat) (h : zMm) (Q : Option Value → zMm → Prop), zWp d zi_23 none 27 [l0, l1, .int l2] [.int x1, .ref x0] h Q = zWp d zi_23 none 28 [l0, l1, .int l2] [.int l2, .int x1, .ref x0] h Q) ∧
    (∀ (d : Nat) (l0 : Value) (l1 : Value) (l2 : Value) (x2 : Int32) (x1 : Int32) (x0 : Nat) (I : Nat → Nat → Int32) (L : Nat → Nat → Int64) (P : Nat → Nat → Option Nat) (Q : Option Value → zMm → Prop), zAk zSH x0 = some .int → zWp d zi_23 none 28 [l0, l1, l2] [.int x2, .int x1, .ref x0] (zSH, I, L, P) Q = (vp_in x1 (zAn zSH x0) ∧ zWp d zi_23 none 29 [l0, l1, l2] [] (zSH, zw I x0 (upd (I x0) x1.toNatClampNeg x2), L, P) Q)) ∧
    (∀ (d : Nat) (l0 : Nat) (l1 : Value) (l2 : Value)  (h : zMm) (Q : Option Value → zMm → Prop), zWp d zi_23 none 29 [.ref l0, l1, l2] [] h Q = zWp d zi_23 none 30 [.ref l0, l1, l2] [.ref l0] h Q) ∧
    (∀ (d : Nat) (l0 : Value) (l1 : Value) (l2 : Value) (x0 : Nat) (h : zMm) (Q : Option Value → zMm → Prop), zWp d zi_23 none 30 [l0, l1, l2] [.ref x0] h Q = zWp d zi_23 none 31 [l0, l1, l2] [.ref x0, .ref x0] h Q) ∧
    (∀ (d : Nat) (l0 : Value) (l1 : Value) (l2 : Value) (x1 : Nat) (x0 : Nat) (I : Nat → Nat → Int32) (L : Nat → Nat → Int64) (P : Nat → Nat → Option Nat) (Q : Option Value → zMm → Prop), zSH[x1]? = some (.inl 3) → zWp d zi_23 none 31 [l0, l1, l2] [.ref x1, .ref x0] (zSH, I, L, P) Q = zWp d zi_23 none 34 [l0, l1, l2] [.int (I x1 3), .ref x0] (zSH, I, L, P) Q) ∧
    (∀ (d : Nat) (l0 : Value) (l1 : Value) (l2 : Value) (x1 : Int32) (x0 : Nat) (h : zMm) (Q : Option Value → zMm → Prop), zWp d zi_23 none 34 [l0, l1, l2] [.int x1, .ref x0] h Q = zWp d zi_23 none 35 [l0, l1, l2] [.int 1, .int x1, .ref x0] h Q) ∧
    (∀ (d : Nat) (l0 : Value) (l1 : Value) (l2 : Value) (x2 : Int32) (x1 : Int32) (x0 : Nat) (h : zMm) (Q : Option Value → zMm → Prop), zWp d zi_23 none 35 [l0, l1, l2] [.int x2, .int x1, .ref x0] h Q = zWp d zi_23 none 36 [l0, l1, l2] [.int (x1 + x2), .ref x0] h Q) ∧
    (∀ (d : Nat) (l0 : Value) (l1 : Value) (l2 : Value) (x1 : Int32) (x0 : Nat) (I : Nat → Nat → Int32) (L : Nat → Nat → Int64) (P : Nat → Nat → Option Nat) (Q : Option Value → zMm → Prop), zSH[x0]? = some (.inl 3) → zWp d zi_23 none 36 [l0, l1, l2] [.int x1, .ref x0] (zSH, I, L, P) Q = zWp d zi_23 none 39 [l0, l1, l2] [] (zSH, zw I x0 (upd (I x0) 3 x1), L, P) Q) ∧
    (∀ (d : Nat) (l0 : Value) (l1 : Value) (l2 : Value)  (h : zMm) (Q : Option Value → zMm → Prop), zWp d zi_23 none 39 [l0, l1, l2] [] h Q = Q none h) :=
  ⟨(fun d l0 l1 l2  h Q => zr_aload_n rfl rfl),
   (fun d l0 l1 l2 x0 I L P Q p0 => zr_getI rfl lf_3_25 (fun _ _ _ => rfl) p0),
   (fun d l0 l1 l2 x0 h Q => zr_bipush rfl (by decide)),
   (fun d l0 l1 l2 x1 x0 h Q => zr_ic_ge rfl (by decide)),
   (fun d l0 l1 l2  h Q => zr_aload_n rfl rfl),
   (fun d l0 l1 l2 x0 I L P Q p0 => zr_getQ rfl lf_3_11 (fun _ _ _ => rfl) p0),
   (fun d l0 l1 l2 x0 h Q => zr_aload_n rfl rfl),
   (fun d l0 l1 l2 x1 x0 I L P Q p0 => zr_getI rfl lf_3_25 (fun _ _ _ => rfl) p0),
   (fun d l0 l1 l2 x1 x0 h Q => zr_iload_n rfl rfl),
   (fun d l0 l1 l2 x2 x1 x0 I L P Q p0 => zr_ast rfl p0),
   (fun d l0 l1 l2  h Q => zr_aload_n rfl rfl),
   (fun d l0 l1 l2 x0 I L P Q p0 => zr_getQ rfl lf_3_15 (fun _ _ _ => rfl) p0),
   (fun d l0 l1 l2 x0 h Q => zr_aload_n rfl rfl),
   (fun d l0 l1 l2 x1 x0 I L P Q p0 => zr_getI rfl lf_3_25 (fun _ _ _ => rfl) p0),
   (fun d l0 l1 l2 x1 x0 h Q => zr_iload_n rfl rfl),
   (fun d l0 l1 l2 x2 x1 x0 I L P Q p0 => zr_ast rfl p0),
   (fun d l0 l1 l2  h Q => zr_aload_n rfl rfl),
   (fun d l0 l1 l2 x0 h Q => zr_dup rfl rfl),
   (fun d l0 l1 l2 x1 x0 I L P Q p0 => zr_getI rfl lf_3_25 (fun _ _ _ => rfl) p0),
   (fun d l0 l1 l2 x1 x0 h Q => zr_iconst rfl (by decide)),
   (fun d l0 l1 l2 x2 x1 x0 h Q => zr_iadd rfl),
   (fun d l0 l1 l2 x1 x0 I L P Q p0 => zr_putI rfl lf_3_25 (by decide) rfl p0),
   (fun d l0 l1 l2  h Q => zr_vret rfl rfl)⟩
theorem E_X3_mayBe : ∀ (d : Nat) (a0 : Nat) (h : zMm) (Q : Option Value → zMm → Prop), zWM (d + 1) 24 [.ref a0] h Q = zWp d zi_24 none 0 [.ref a0, .retAddr 0, .retAddr 0] [] h Q := fun d a0 h Q => zW_M m_24 (Nat.le_of_ble_eq_true rfl) rfl
set_option maxRecDepth 100000 in
theorem R_X3_mayBe :
    (∀ (d : Nat) (l0 : Nat) (l1 : Value) (l2 : Value)  (h : zMm) (Q : Option Value → zMm → Prop), zWp d zi_24 none 0 [.ref l0, l1, l2] [] h Q = zWp d zi_24 none 1 [.ref l0, l1, l2] [.ref l0] h Q) ∧
    (∀ (d : Nat) (l0 : Value) (l1 : Value) (l2 : Value) (x0 : Nat) (I : Nat → Nat → Int32) (L : Nat → Nat → Int64) (P : Nat → Nat → Option Nat) (Q : Option Value → zMm → Prop), zSH[x0]? = some (.inl 3) → zWp d zi_24 none 1 [l0, l1, l2] [.ref x0] (zSH, I, L, P) Q = zWp d zi_24 none 4 [l0, l1, l2] [.int (I x0 3)] (zSH, I, L, P) Q) ∧
    (∀ (d : Nat) (l0 : Value) (l1 : Value) (l2 : Value) (x0 : Int32) (h : zMm) (Q : Option Value → zMm → Prop), zWp d zi_24 none 4 [l0, l1, l2] [.int x0] h Q = if x0 = 0 then zWp d zi_24 none 7 [l0, l1, l2] [] h Q else zWp d zi_24 none 10 [l0, l1, l2] [] h Q) ∧
    (∀ (d : Nat) (l0 : Value) (l1 : Value) (l2 : Value)  (h : zMm) (Q : Option Value → zMm → Prop), zWp d zi_24 none 7 [l0, l1, l2] [] h Q = zWp d zi_24 none 9 [l0, l1, l2] [.int 120] h Q) ∧
    (∀ (d : Nat) (l0 : Value) (l1 : Value) (l2 : Value) (x0 : Int32) (h : zMm) (Q : Option Value → zMm → Prop), zWp d zi_24 none 9 [l0, l1, l2] [.int x0] h Q = Q (some (.int x0)) h) ∧
    (∀ (d : Nat) (l0 : Nat) (l1 : Value) (l2 : Value)  (h : zMm) (Q : Option Value → zMm → Prop), zWp d zi_24 none 10 [.ref l0, l1, l2] [] h Q = zWp d zi_24 none 11 [.ref l0, l1, l2] [.ref l0] h Q) ∧
    (∀ (d : Nat) (l0 : Value) (l1 : Value) (l2 : Value) (x0 : Nat) (I : Nat → Nat → Int32) (L : Nat → Nat → Int64) (P : Nat → Nat → Option Nat) (Q : Option Value → zMm → Prop), zSH[x0]? = some (.inl 3) → zWp d zi_24 none 11 [l0, l1, l2] [.ref x0] (zSH, I, L, P) Q = zWp d zi_24 none 14 [l0, l1, l2] [va_rf (P x0 0)] (zSH, I, L, P) Q) ∧
    (∀ (d : Nat) (l0 : Value) (l1 : Value) (l2 : Value) (x0 : Nat) (h : zMm) (Q : Option Value → zMm → Prop), zWp d zi_24 none 14 [l0, l1, l2] [.ref x0] h Q = zWp d zi_24 none 15 [l0, l1, l2] [.int 0, .ref x0] h Q) ∧
    (∀ (d : Nat) (l0 : Value) (l1 : Value) (l2 : Value) (x1 : Int32) (x0 : Nat) (I : Nat → Nat → Int32) (L : Nat → Nat → Int64) (P : Nat → Nat → Option Nat) (Q : Option Value → zMm → Prop), zAk zSH x0 = some .int → zWp d zi_24 none 15 [l0, l1, l2] [.int x1, .ref x0] (zSH, I, L, P) Q = (vp_in x1 (zAn zSH x0) ∧ zWp d zi_24 none 16 [l0, l1, l2] [.int (I x0 x1.toNatClampNeg)] (zSH, I, L, P) Q)) ∧
    (∀ (d : Nat) (l0 : Nat) (l1 : Value) (l2 : Value) (x0 : Int32) (h : zMm) (Q : Option Value → zMm → Prop), zWp d zi_24 none 16 [.ref l0, l1, l2] [.int x0] h Q = zWp d zi_24 none 17 [.ref l0, .int x0, l2] [] h Q) ∧
    (∀ (d : Nat) (l0 : Value) (l1 : Value) (l2 : Value)  (h : zMm) (Q : Option Value → zMm → Prop), zWp d zi_24 none 17 [l0, l1, l2] [] h Q = zWp d zi_24 none 18 [l0, l1, l2] [.int 1] h Q) ∧
    (∀ (d : Nat) (l0 : Value) (l1 : Int32) (l2 : Value) (x0 : Int32) (h : zMm) (Q : Option Value → zMm → Prop), zWp d zi_24 none 18 [l0, .int l1, l2] [.int x0] h Q = zWp d zi_24 none 19 [l0, .int l1, .int x0] [] h Q) ∧
    (∀ (d : Nat) (l0 : Nat) (l1 : Value) (l2 : Value) (x0 : Int32) (h : zMm) (Q : Option Value → zMm → Prop), zWp d zi_24 none 20 [.ref l0, l1, l2] [.int x0] h Q = zWp d zi_24 none 21 [.ref l0, l1, l2] [.ref l0, .int x0] h Q) ∧
    (∀ (d : Nat) (l0 : Value) (l1 : Value) (l2 : Value) (x1 : Nat) (x0 : Int32) (I : Nat → Nat → Int32) (L : Nat → Nat → Int64) (P : Nat → Nat → Option Nat) (Q : Option Value → zMm → Prop), zSH[x1]? = some (.inl 3) → zWp d zi_24 none 21 [l0, l1, l2] [.ref x1, .int x0] (zSH, I, L, P) Q = zWp d zi_24 none 24 [l0, l1, l2] [.int (I x1 3), .int x0] (zSH, I, L, P) Q) ∧
    (∀ (d : Nat) (l0 : Value) (l1 : Value) (l2 : Value) (x1 : Int32) (x0 : Int32) (h : zMm) (Q : Option Value → zMm → Prop), zWp d zi_24 none 24 [l0, l1, l2] [.int x1, .int x0] h Q = if x1 ≤ x0 then zWp d zi_24 none 44 [l0, l1, l2] [] h Q else zWp d zi_24 none 27 [l0, l1, l2] [] h Q) ∧
    (∀ (d : Nat) (l0 : Value) (l1 : Int32) (l2 : Value)  (h : zMm) (Q : Option Value → zMm → Prop), zWp d zi_24 none 27 [l0, .int l1, l2] [] h Q = zWp d zi_24 none 28 [l0, .int l1, l2] [.int l1] h Q) ∧
    (∀ (d : Nat) (l0 : Nat) (l1 : Value) (l2 : Value) (x0 : Int32) (h : zMm) (Q : Option Value → zMm → Prop), zWp d zi_24 none 28 [.ref l0, l1, l2] [.int x0] h Q = zWp d zi_24 none 29 [.ref l0, l1, l2] [.ref l0, .int x0] h Q) ∧
    (∀ (d : Nat) (l0 : Value) (l1 : Value) (l2 : Value) (x1 : Nat) (x0 : Int32) (I : Nat → Nat → Int32) (L : Nat → Nat → Int64) (P : Nat → Nat → Option Nat) (Q : Option Value → zMm → Prop), zSH[x1]? = some (.inl 3) → zWp d zi_24 none 29 [l0, l1, l2] [.ref x1, .int x0] (zSH, I, L, P) Q = zWp d zi_24 none 32 [l0, l1, l2] [va_rf (P x1 0), .int x0] (zSH, I, L, P) Q) ∧
    (∀ (d : Nat) (l0 : Value) (l1 : Value) (l2 : Int32) (x1 : Nat) (x0 : Int32) (h : zMm) (Q : Option Value → zMm → Prop), zWp d zi_24 none 32 [l0, l1, .int l2] [.ref x1, .int x0] h Q = zWp d zi_24 none 33 [l0, l1, .int l2] [.int l2, .ref x1, .int x0] h Q) ∧
    (∀ (d : Nat) (l0 : Value) (l1 : Value) (l2 : Value) (x2 : Int32) (x1 : Nat) (x0 : Int32) (I : Nat → Nat → Int32) (L : Nat → Nat → Int64) (P : Nat → Nat → Option Nat) (Q : Option Value → zMm → Prop), zAk zSH x1 = some .int → zWp d zi_24 none 33 [l0, l1, l2] [.int x2, .ref x1, .int x0] (zSH, I, L, P) Q = (vp_in x2 (zAn zSH x1) ∧ zWp d zi_24 none 34 [l0, l1, l2] [.int (I x1 x2.toNatClampNeg), .int x0] (zSH, I, L, P) Q)) ∧
    (∀ (d : Nat) (l0 : Value) (l1 : Value) (l2 : Value) (x1 : Int32) (x0 : Int32) (h : zMm) (Q : Option Value → zMm → Prop), zWp d zi_24 none 34 [l0, l1, l2] [.int x1, .int x0] h Q = zWp d zi_24 none 37 [l0, l1, l2] [.int (if x1 < x0 then x1 else x0)] h Q) ∧
    (∀ (d : Nat) (l0 : Nat) (l1 : Value) (l2 : Value) (x0 : Int32) (h : zMm) (Q : Option Value → zMm → Prop), zWp d zi_24 none 37 [.ref l0, l1, l2] [.int x0] h Q = zWp d zi_24 none 38 [.ref l0, .int x0, l2] [] h Q) ∧
    (∀ (d : Nat) (l0 : Value) (l1 : Int32) (l2 : Int32)  (h : zMm) (Q : Option Value → zMm → Prop), zWp d zi_24 none 38 [l0, .int l1, .int l2] [] h Q = zWp d zi_24 none 41 [l0, .int l1, .int (l2 + 1)] [] h Q) ∧
    (∀ (d : Nat) (l0 : Value) (l1 : Value) (l2 : Value)  (h : zMm) (Q : Option Value → zMm → Prop), zWp d zi_24 none 41 [l0, l1, l2] [] h Q = zWp d zi_24 none 19 [l0, l1, l2] [] h Q) ∧
    (∀ (d : Nat) (l0 : Value) (l1 : Value) (l2 : Value)  (h : zMm) (Q : Option Value → zMm → Prop), zWp d zi_24 none 44 [l0, l1, l2] [] h Q = zWp d zi_24 none 45 [l0, l1, l2] [.int 3] h Q) ∧
    (∀ (d : Nat) (l0 : Value) (l1 : Int32) (l2 : Value) (x0 : Int32) (h : zMm) (Q : Option Value → zMm → Prop), zWp d zi_24 none 45 [l0, .int l1, l2] [.int x0] h Q = zWp d zi_24 none 46 [l0, .int l1, l2] [.int l1, .int x0] h Q) ∧
    (∀ (d : Nat) (l0 : Value) (l1 : Value) (l2 : Value) (x1 : Int32) (x0 : Int32) (h : zMm) (Q : Option Value → zMm → Prop), zWp d zi_24 none 46 [l0, l1, l2] [.int x1, .int x0] h Q = zWp d zi_24 none 47 [l0, l1, l2] [.int (x0 * x1)] h Q) ∧
    (∀ (d : Nat) (l0 : Value) (l1 : Value) (l2 : Value) (x0 : Int32) (h : zMm) (Q : Option Value → zMm → Prop), zWp d zi_24 none 47 [l0, l1, l2] [.int x0] h Q = Q (some (.int x0)) h) :=
  ⟨(fun d l0 l1 l2  h Q => zr_aload_n rfl rfl),
   (fun d l0 l1 l2 x0 I L P Q p0 => zr_getI rfl lf_3_25 (fun _ _ _ => rfl) p0),
   (fun d l0 l1 l2 x0 h Q => zr_if_ne rfl (by decide)),
   (fun d l0 l1 l2  h Q => zr_bipush rfl (by decide)),
   (fun d l0 l1 l2 x0 h Q => zr_iret rfl rfl),
   (fun d l0 l1 l2  h Q => zr_aload_n rfl rfl),
   (fun d l0 l1 l2 x0 I L P Q p0 => zr_getQ rfl lf_3_11 (fun _ _ _ => rfl) p0),
   (fun d l0 l1 l2 x0 h Q => zr_iconst rfl (by decide)),
   (fun d l0 l1 l2 x1 x0 I L P Q p0 => zr_ald rfl p0),
   (fun d l0 l1 l2 x0 h Q => zr_istore_n (n := 1) rfl (Nat.le_of_ble_eq_true rfl) rfl),
   (fun d l0 l1 l2  h Q => zr_iconst rfl (by decide)),
   (fun d l0 l1 l2 x0 h Q => zr_istore_n (n := 2) rfl (Nat.le_of_ble_eq_true rfl) rfl),
   (fun d l0 l1 l2 x0 h Q => zr_aload_n rfl rfl),
   (fun d l0 l1 l2 x1 x0 I L P Q p0 => zr_getI rfl lf_3_25 (fun _ _ _ => rfl) p0),
   (fun d l0 l1 l2 x1 x0 h Q => zr_ic_ge rfl (by decide)),
   (fun d l0 l1 l2  h Q => zr_iload_n rfl rfl),
   (fun d l0 l1 l2 x0 h Q => zr_aload_n rfl rfl),
   (fun d l0 l1 l2 x1 x0 I L P Q p0 => zr_getQ rfl lf_3_11 (fun _ _ _ => rfl) p0),
   (fun d l0 l1 l2 x1 x0 h Q => zr_iload_n rfl rfl),
   (fun d l0 l1 l2 x2 x1 x0 I L P Q p0 => zr_ald rfl p0),
   (fun d l0 l1 l2 x1 x0 h Q => zr_min rfl lm_3_28 (Nat.le_of_ble_eq_true rfl)),
   (fun d l0 l1 l2 x0 h Q => zr_istore_n (n := 1) rfl (Nat.le_of_ble_eq_true rfl) rfl),
   (fun d l0 l1 l2  h Q => zr_iinc (n := 2) (kc := 1) rfl rfl (Nat.le_of_ble_eq_true rfl) rfl (by decide)),
   (fun d l0 l1 l2  h Q => zr_goto rfl (by decide)),
   (fun d l0 l1 l2  h Q => zr_iconst rfl (by decide)),
   (fun d l0 l1 l2 x0 h Q => zr_iload_n rfl rfl),
   (fun d l0 l1 l2 x1 x0 h Q => zr_imul rfl),
   (fun d l0 l1 l2 x0 h Q => zr_iret rfl rfl)⟩
theorem H_X3_mayBe_19 : ∀ (d : Nat) (l0 : Value) (l1 : Value) (l2 : Int32)  (h : zMm) (Q : Option Value → zMm → Prop), zWp d zi_24 none 19 [l0, l1, .int l2] [] h Q = zWp d zi_24 none 20 [l0, l1, .int l2] [.int l2] h Q := fun d l0 l1 l2  h Q => zr_iload_n rfl rfl
theorem E_X3_heatOf : ∀ (d : Nat) (a0 : Nat) (a1 : Int32) (a2 : Int32) (a3 : Nat) (h : zMm) (Q : Option Value → zMm → Prop), zWM (d + 1) 25 [.ref a0, .int a1, .int a2, .ref a3] h Q = zWp d zi_25 none 0 [.ref a0, .int a1, .int a2, .ref a3] [] h Q := fun d a0 a1 a2 a3 h Q => zW_M m_25 (Nat.le_of_ble_eq_true rfl) rfl
set_option maxRecDepth 100000 in
theorem R_X3_heatOf :
    (∀ (d : Nat) (l0 : Nat) (l1 : Value) (l2 : Value) (l3 : Value)  (h : zMm) (Q : Option Value → zMm → Prop), zWp d zi_25 none 0 [.ref l0, l1, l2, l3] [] h Q = zWp d zi_25 none 1 [.ref l0, l1, l2, l3] [.ref l0] h Q) ∧
    (∀ (d : Nat) (l0 : Value) (l1 : Value) (l2 : Value) (l3 : Value) (x0 : Nat) (I : Nat → Nat → Int32) (L : Nat → Nat → Int64) (P : Nat → Nat → Option Nat) (Q : Option Value → zMm → Prop), zSH[x0]? = some (.inl 3) → zWp d zi_25 none 1 [l0, l1, l2, l3] [.ref x0] (zSH, I, L, P) Q = zWp d zi_25 none 4 [l0, l1, l2, l3] [va_rf (P x0 2)] (zSH, I, L, P) Q) ∧
    (∀ (d : Nat) (l0 : Value) (l1 : Int32) (l2 : Value) (l3 : Value) (x0 : Nat) (h : zMm) (Q : Option Value → zMm → Prop), zWp d zi_25 none 4 [l0, .int l1, l2, l3] [.ref x0] h Q = zWp d zi_25 none 5 [l0, .int l1, l2, l3] [.int l1, .ref x0] h Q) ∧
    (∀ (d : Nat) (l0 : Value) (l1 : Value) (l2 : Value) (l3 : Value) (x1 : Int32) (x0 : Nat) (I : Nat → Nat → Int32) (L : Nat → Nat → Int64) (P : Nat → Nat → Option Nat) (Q : Option Value → zMm → Prop), zAk zSH x0 = some .int → zWp d zi_25 none 5 [l0, l1, l2, l3] [.int x1, .ref x0] (zSH, I, L, P) Q = (vp_in x1 (zAn zSH x0) ∧ zWp d zi_25 none 6 [l0, l1, l2, l3] [.int (I x0 x1.toNatClampNeg)] (zSH, I, L, P) Q)) ∧
    (∀ (d : Nat) (l0 : Value) (l1 : Value) (l2 : Value) (l3 : Nat) (x0 : Int32) (h : zMm) (Q : Option Value → zMm → Prop), zWp d zi_25 none 6 [l0, l1, l2, .ref l3] [.int x0] h Q = zWp d zi_25 none 7 [l0, l1, l2, .ref l3] [.ref l3, .int x0] h Q) ∧
    (∀ (d : Nat) (l0 : Nat) (l1 : Value) (l2 : Value) (l3 : Value) (x1 : Nat) (x0 : Int32) (h : zMm) (Q : Option Value → zMm → Prop), zWp d zi_25 none 7 [.ref l0, l1, l2, l3] [.ref x1, .int x0] h Q = zWp d zi_25 none 8 [.ref l0, l1, l2, l3] [.ref l0, .ref x1, .int x0] h Q) ∧
    (∀ (d : Nat) (l0 : Value) (l1 : Value) (l2 : Value) (l3 : Value) (x2 : Nat) (x1 : Nat) (x0 : Int32) (I : Nat → Nat → Int32) (L : Nat → Nat → Int64) (P : Nat → Nat → Option Nat) (Q : Option Value → zMm → Prop), zSH[x2]? = some (.inl 3) → zWp d zi_25 none 8 [l0, l1, l2, l3] [.ref x2, .ref x1, .int x0] (zSH, I, L, P) Q = zWp d zi_25 none 11 [l0, l1, l2, l3] [va_rf (P x2 0), .ref x1, .int x0] (zSH, I, L, P) Q) ∧
    (∀ (d : Nat) (l0 : Value) (l1 : Int32) (l2 : Value) (l3 : Value) (x2 : Nat) (x1 : Nat) (x0 : Int32) (h : zMm) (Q : Option Value → zMm → Prop), zWp d zi_25 none 11 [l0, .int l1, l2, l3] [.ref x2, .ref x1, .int x0] h Q = zWp d zi_25 none 12 [l0, .int l1, l2, l3] [.int l1, .ref x2, .ref x1, .int x0] h Q) ∧
    (∀ (d : Nat) (l0 : Value) (l1 : Value) (l2 : Value) (l3 : Value) (x3 : Int32) (x2 : Nat) (x1 : Nat) (x0 : Int32) (I : Nat → Nat → Int32) (L : Nat → Nat → Int64) (P : Nat → Nat → Option Nat) (Q : Option Value → zMm → Prop), zAk zSH x2 = some .int → zWp d zi_25 none 12 [l0, l1, l2, l3] [.int x3, .ref x2, .ref x1, .int x0] (zSH, I, L, P) Q = (vp_in x3 (zAn zSH x2) ∧ zWp d zi_25 none 13 [l0, l1, l2, l3] [.int (I x2 x3.toNatClampNeg), .ref x1, .int x0] (zSH, I, L, P) Q)) ∧
    (∀ (d : Nat) (l0 : Nat) (l1 : Value) (l2 : Value) (l3 : Value) (x2 : Int32) (x1 : Nat) (x0 : Int32) (h : zMm) (Q : Option Value → zMm → Prop), zWp d zi_25 none 13 [.ref l0, l1, l2, l3] [.int x2, .ref x1, .int x0] h Q = zWp d zi_25 none 14 [.ref l0, l1, l2, l3] [.ref l0, .int x2, .ref x1, .int x0] h Q) ∧
    (∀ (d : Nat) (l0 : Value) (l1 : Value) (l2 : Value) (l3 : Value) (x3 : Nat) (x2 : Int32) (x1 : Nat) (x0 : Int32) (I : Nat → Nat → Int32) (L : Nat → Nat → Int64) (P : Nat → Nat → Option Nat) (Q : Option Value → zMm → Prop), zSH[x3]? = some (.inl 3) → zWp d zi_25 none 14 [l0, l1, l2, l3] [.ref x3, .int x2, .ref x1, .int x0] (zSH, I, L, P) Q = zWp d zi_25 none 17 [l0, l1, l2, l3] [va_rf (P x3 1), .int x2, .ref x1, .int x0] (zSH, I, L, P) Q) ∧
    (∀ (d : Nat) (l0 : Value) (l1 : Int32) (l2 : Value) (l3 : Value) (x3 : Nat) (x2 : Int32) (x1 : Nat) (x0 : Int32) (h : zMm) (Q : Option Value → zMm → Prop), zWp d zi_25 none 17 [l0, .int l1, l2, l3] [.ref x3, .int x2, .ref x1, .int x0] h Q = zWp d zi_25 none 18 [l0, .int l1, l2, l3] [.int l1, .ref x3, .int x2, .ref x1, .int x0] h Q) ∧
    (∀ (d : Nat) (l0 : Value) (l1 : Value) (l2 : Value) (l3 : Value) (x4 : Int32) (x3 : Nat) (x2 : Int32) (x1 : Nat) (x0 : Int32) (I : Nat → Nat → Int32) (L : Nat → Nat → Int64) (P : Nat → Nat → Option Nat) (Q : Option Value → zMm → Prop), zAk zSH x3 = some .int → zWp d zi_25 none 18 [l0, l1, l2, l3] [.int x4, .ref x3, .int x2, .ref x1, .int x0] (zSH, I, L, P) Q = (vp_in x4 (zAn zSH x3) ∧ zWp d zi_25 none 19 [l0, l1, l2, l3] [.int (I x3 x4.toNatClampNeg), .int x2, .ref x1, .int x0] (zSH, I, L, P) Q)) ∧
    (∀ (d : Nat) (l0 : Value) (l1 : Value) (l2 : Int32) (l3 : Value) (x3 : Int32) (x2 : Int32) (x1 : Nat) (x0 : Int32) (h : zMm) (Q : Option Value → zMm → Prop), zWp d zi_25 none 19 [l0, l1, .int l2, l3] [.int x3, .int x2, .ref x1, .int x0] h Q = zWp d zi_25 none 20 [l0, l1, .int l2, l3] [.int l2, .int x3, .int x2, .ref x1, .int x0] h Q) ∧
    (∀ (d : Nat) (l0 : Value) (l1 : Value) (l2 : Value) (l3 : Value) (x4 : Int32) (x3 : Int32) (x2 : Int32) (x1 : Nat) (x0 : Int32) (I : Nat → Nat → Int32) (L : Nat → Nat → Int64) (P : Nat → Nat → Option Nat) (Q : Option Value → zMm → Prop), zSH[x1]? = some (.inl 2) → zWp d zi_25 none 20 [l0, l1, l2, l3] [.int x4, .int x3, .int x2, .ref x1, .int x0] (zSH, I, L, P) Q = zWM d 20 [.ref x1, .int x2, .int x3, .int x4] (zSH, I, L, P) (fun r h1 => zWp d zi_25 none 23 [l0, l1, l2, l3] (r.toList ++ [.int x0]) h1 Q)) ∧
    (∀ (d : Nat) (l0 : Value) (l1 : Value) (l2 : Value) (l3 : Value) (x1 : Int32) (x0 : Int32) (h : zMm) (Q : Option Value → zMm → Prop), zWp d zi_25 none 23 [l0, l1, l2, l3] [.int x1, .int x0] h Q = zWM d 26 [.int x0, .int x1] h (fun r h1 => zWp d zi_25 none 26 [l0, l1, l2, l3] (r.toList ++ []) h1 Q)) ∧
    (∀ (d : Nat) (l0 : Value) (l1 : Value) (l2 : Value) (l3 : Value) (x0 : Int32) (h : zMm) (Q : Option Value → zMm → Prop), zWp d zi_25 none 26 [l0, l1, l2, l3] [.int x0] h Q = Q (some (.int x0)) h) :=
  ⟨(fun d l0 l1 l2 l3  h Q => zr_aload_n rfl rfl),
   (fun d l0 l1 l2 l3 x0 I L P Q p0 => zr_getQ rfl lf_3_18 (fun _ _ _ => rfl) p0),
   (fun d l0 l1 l2 l3 x0 h Q => zr_iload_n rfl rfl),
   (fun d l0 l1 l2 l3 x1 x0 I L P Q p0 => zr_ald rfl p0),
   (fun d l0 l1 l2 l3 x0 h Q => zr_aload_n rfl rfl),
   (fun d l0 l1 l2 l3 x1 x0 h Q => zr_aload_n rfl rfl),
   (fun d l0 l1 l2 l3 x2 x1 x0 I L P Q p0 => zr_getQ rfl lf_3_11 (fun _ _ _ => rfl) p0),
   (fun d l0 l1 l2 l3 x2 x1 x0 h Q => zr_iload_n rfl rfl),
   (fun d l0 l1 l2 l3 x3 x2 x1 x0 I L P Q p0 => zr_ald rfl p0),
   (fun d l0 l1 l2 l3 x2 x1 x0 h Q => zr_aload_n rfl rfl),
   (fun d l0 l1 l2 l3 x3 x2 x1 x0 I L P Q p0 => zr_getQ rfl lf_3_15 (fun _ _ _ => rfl) p0),
   (fun d l0 l1 l2 l3 x3 x2 x1 x0 h Q => zr_iload_n rfl rfl),
   (fun d l0 l1 l2 l3 x4 x3 x2 x1 x0 I L P Q p0 => zr_ald rfl p0),
   (fun d l0 l1 l2 l3 x3 x2 x1 x0 h Q => zr_iload_n rfl rfl),
   (fun d l0 l1 l2 l3 x4 x3 x2 x1 x0 I L P Q p0 => zr_vir (as := [.int x4, .int x3, .int x2]) (rest := [.int x0]) rfl lm_3_34 m_20 kd_20 rfl (Nat.le_of_ble_eq_true rfl) p0),
   (fun d l0 l1 l2 l3 x1 x0 h Q => zr_sta (as := [.int x1, .int x0]) (rest := []) rfl lm_3_40 (by decide) m_26 kd_26 rfl (Nat.le_of_ble_eq_true rfl)),
   (fun d l0 l1 l2 l3 x0 h Q => zr_iret rfl rfl)⟩
theorem E_X3_behind : ∀ (d : Nat) (a0 : Int32) (a1 : Int32) (h : zMm) (Q : Option Value → zMm → Prop), zWM (d + 1) 26 [.int a0, .int a1] h Q = zWp d zi_26 none 0 [.int a0, .int a1] [] h Q := fun d a0 a1 h Q => zW_M m_26 (Nat.le_of_ble_eq_true rfl) rfl
set_option maxRecDepth 100000 in
theorem R_X3_behind :
    (∀ (d : Nat) (l0 : Value) (l1 : Value)  (h : zMm) (Q : Option Value → zMm → Prop), zWp d zi_26 none 0 [l0, l1] [] h Q = zWp d zi_26 none 1 [l0, l1] [.int 0] h Q) ∧
    (∀ (d : Nat) (l0 : Value) (l1 : Int32) (x0 : Int32) (h : zMm) (Q : Option Value → zMm → Prop), zWp d zi_26 none 1 [l0, .int l1] [.int x0] h Q = zWp d zi_26 none 2 [l0, .int l1] [.int l1, .int x0] h Q) ∧
    (∀ (d : Nat) (l0 : Value) (l1 : Value) (x1 : Int32) (x0 : Int32) (h : zMm) (Q : Option Value → zMm → Prop), zWp d zi_26 none 2 [l0, l1] [.int x1, .int x0] h Q = zWp d zi_26 none 4 [l0, l1] [.int 20, .int x1, .int x0] h Q) ∧
    (∀ (d : Nat) (l0 : Int32) (l1 : Value) (x2 : Int32) (x1 : Int32) (x0 : Int32) (h : zMm) (Q : Option Value → zMm → Prop), zWp d zi_26 none 4 [.int l0, l1] [.int x2, .int x1, .int x0] h Q = zWp d zi_26 none 5 [.int l0, l1] [.int l0, .int x2, .int x1, .int x0] h Q) ∧
    (∀ (d : Nat) (l0 : Value) (l1 : Value) (x3 : Int32) (x2 : Int32) (x1 : Int32) (x0 : Int32) (h : zMm) (Q : Option Value → zMm → Prop), zWp d zi_26 none 5 [l0, l1] [.int x3, .int x2, .int x1, .int x0] h Q = zWp d zi_26 none 6 [l0, l1] [.int (x2 * x3), .int x1, .int x0] h Q) ∧
    (∀ (d : Nat) (l0 : Value) (l1 : Value) (x2 : Int32) (x1 : Int32) (x0 : Int32) (h : zMm) (Q : Option Value → zMm → Prop), zWp d zi_26 none 6 [l0, l1] [.int x2, .int x1, .int x0] h Q = zWp d zi_26 none 7 [l0, l1] [.int (x1 - x2), .int x0] h Q) ∧
    (∀ (d : Nat) (l0 : Value) (l1 : Value) (x1 : Int32) (x0 : Int32) (h : zMm) (Q : Option Value → zMm → Prop), zWp d zi_26 none 7 [l0, l1] [.int x1, .int x0] h Q = zWp d zi_26 none 10 [l0, l1] [.int (if x0 < x1 then x1 else x0)] h Q) ∧
    (∀ (d : Nat) (l0 : Value) (l1 : Value) (x0 : Int32) (h : zMm) (Q : Option Value → zMm → Prop), zWp d zi_26 none 10 [l0, l1] [.int x0] h Q = Q (some (.int x0)) h) :=
  ⟨(fun d l0 l1  h Q => zr_iconst rfl (by decide)),
   (fun d l0 l1 x0 h Q => zr_iload_n rfl rfl),
   (fun d l0 l1 x1 x0 h Q => zr_bipush rfl (by decide)),
   (fun d l0 l1 x2 x1 x0 h Q => zr_iload_n rfl rfl),
   (fun d l0 l1 x3 x2 x1 x0 h Q => zr_imul rfl),
   (fun d l0 l1 x2 x1 x0 h Q => zr_isub rfl),
   (fun d l0 l1 x1 x0 h Q => zr_max rfl lm_3_43 (Nat.le_of_ble_eq_true rfl)),
   (fun d l0 l1 x0 h Q => zr_iret rfl rfl)⟩
theorem E_X3_crackOf : ∀ (d : Nat) (a0 : Nat) (a1 : Int32) (a2 : Nat) (h : zMm) (Q : Option Value → zMm → Prop), zWM (d + 1) 27 [.ref a0, .int a1, .ref a2] h Q = zWp d zi_27 none 0 [.ref a0, .int a1, .ref a2, .retAddr 0, .retAddr 0] [] h Q := fun d a0 a1 a2 h Q => zW_M m_27 (Nat.le_of_ble_eq_true rfl) rfl
set_option maxRecDepth 100000 in
theorem R_X3_crackOf :
    (∀ (d : Nat) (l0 : Value) (l1 : Value) (l2 : Nat) (l3 : Value) (l4 : Value)  (h : zMm) (Q : Option Value → zMm → Prop), zWp d zi_27 none 0 [l0, l1, .ref l2, l3, l4] [] h Q = zWp d zi_27 none 1 [l0, l1, .ref l2, l3, l4] [.ref l2] h Q) ∧
    (∀ (d : Nat) (l0 : Value) (l1 : Value) (l2 : Value) (l3 : Value) (l4 : Value) (x0 : Nat) (h : zMm) (Q : Option Value → zMm → Prop), zWp d zi_27 none 1 [l0, l1, l2, l3, l4] [.ref x0] h Q = zWM d 30 [.ref x0] h (fun r h1 => zWp d zi_27 none 4 [l0, l1, l2, l3, l4] (r.toList ++ []) h1 Q)) ∧
    (∀ (d : Nat) (l0 : Value) (l1 : Value) (l2 : Nat) (l3 : Value) (l4 : Value) (x0 : Int32) (h : zMm) (Q : Option Value → zMm → Prop), zWp d zi_27 none 4 [l0, l1, .ref l2, l3, l4] [.int x0] h Q = zWp d zi_27 none 5 [l0, l1, .ref l2, .int x0, l4] [] h Q) ∧
    (∀ (d : Nat) (l0 : Value) (l1 : Value) (l2 : Value) (l3 : Value) (l4 : Value)  (h : zMm) (Q : Option Value → zMm → Prop), zWp d zi_27 none 5 [l0, l1, l2, l3, l4] [] h Q = zWp d zi_27 none 6 [l0, l1, l2, l3, l4] [.int 0] h Q) ∧
    (∀ (d : Nat) (l0 : Value) (l1 : Value) (l2 : Value) (l3 : Int32) (l4 : Value) (x0 : Int32) (h : zMm) (Q : Option Value → zMm → Prop), zWp d zi_27 none 6 [l0, l1, l2, .int l3, l4] [.int x0] h Q = zWp d zi_27 none 8 [l0, l1, l2, .int l3, .int x0] [] h Q) ∧
    (∀ (d : Nat) (l0 : Value) (l1 : Value) (l2 : Value) (l3 : Int32) (l4 : Value) (x0 : Int32) (h : zMm) (Q : Option Value → zMm → Prop), zWp d zi_27 none 10 [l0, l1, l2, .int l3, l4] [.int x0] h Q = zWp d zi_27 none 11 [l0, l1, l2, .int l3, l4] [.int l3, .int x0] h Q) ∧
    (∀ (d : Nat) (l0 : Value) (l1 : Value) (l2 : Value) (l3 : Value) (l4 : Value) (x1 : Int32) (x0 : Int32) (h : zMm) (Q : Option Value → zMm → Prop), zWp d zi_27 none 11 [l0, l1, l2, l3, l4] [.int x1, .int x0] h Q = if x1 < x0 then zWp d zi_27 none 38 [l0, l1, l2, l3, l4] [] h Q else zWp d zi_27 none 14 [l0, l1, l2, l3, l4] [] h Q) ∧
    (∀ (d : Nat) (l0 : Nat) (l1 : Value) (l2 : Value) (l3 : Value) (l4 : Value)  (h : zMm) (Q : Option Value → zMm → Prop), zWp d zi_27 none 14 [.ref l0, l1, l2, l3, l4] [] h Q = zWp d zi_27 none 15 [.ref l0, l1, l2, l3, l4] [.ref l0] h Q) ∧
    (∀ (d : Nat) (l0 : Value) (l1 : Int32) (l2 : Value) (l3 : Value) (l4 : Value) (x0 : Nat) (h : zMm) (Q : Option Value → zMm → Prop), zWp d zi_27 none 15 [l0, .int l1, l2, l3, l4] [.ref x0] h Q = zWp d zi_27 none 16 [l0, .int l1, l2, l3, l4] [.int l1, .ref x0] h Q) ∧
    (∀ (d : Nat) (l0 : Value) (l1 : Value) (l2 : Value) (l3 : Value) (l4 : Int32) (x1 : Int32) (x0 : Nat) (h : zMm) (Q : Option Value → zMm → Prop), zWp d zi_27 none 16 [l0, l1, l2, l3, .int l4] [.int x1, .ref x0] h Q = zWp d zi_27 none 18 [l0, l1, l2, l3, .int l4] [.int l4, .int x1, .ref x0] h Q) ∧
    (∀ (d : Nat) (l0 : Value) (l1 : Value) (l2 : Nat) (l3 : Value) (l4 : Value) (x2 : Int32) (x1 : Int32) (x0 : Nat) (h : zMm) (Q : Option Value → zMm → Prop), zWp d zi_27 none 18 [l0, l1, .ref l2, l3, l4] [.int x2, .int x1, .ref x0] h Q = zWp d zi_27 none 19 [l0, l1, .ref l2, l3, l4] [.ref l2, .int x2, .int x1, .ref x0] h Q) ∧
    (∀ (d : Nat) (l0 : Value) (l1 : Value) (l2 : Value) (l3 : Value) (l4 : Value) (x3 : Nat) (x2 : Int32) (x1 : Int32) (x0 : Nat) (I : Nat → Nat → Int32) (L : Nat → Nat → Int64) (P : Nat → Nat → Option Nat) (Q : Option Value → zMm → Prop), zSH[x0]? = some (.inl 3) → zWp d zi_27 none 19 [l0, l1, l2, l3, l4] [.ref x3, .int x2, .int x1, .ref x0] (zSH, I, L, P) Q = zWM d 25 [.ref x0, .int x1, .int x2, .ref x3] (zSH, I, L, P) (fun r h1 => zWp d zi_27 none 22 [l0, l1, l2, l3, l4] (r.toList ++ []) h1 Q)) ∧
    (∀ (d : Nat) (l0 : Nat) (l1 : Value) (l2 : Value) (l3 : Value) (l4 : Value) (x0 : Int32) (h : zMm) (Q : Option Value → zMm → Prop), zWp d zi_27 none 22 [.ref l0, l1, l2, l3, l4] [.int x0] h Q = zWp d zi_27 none 23 [.ref l0, l1, l2, l3, l4] [.ref l0, .int x0] h Q) ∧
    (∀ (d : Nat) (l0 : Value) (l1 : Value) (l2 : Value) (l3 : Value) (l4 : Value) (x1 : Nat) (x0 : Int32) (I : Nat → Nat → Int32) (L : Nat → Nat → Int64) (P : Nat → Nat → Option Nat) (Q : Option Value → zMm → Prop), zSH[x1]? = some (.inl 3) → zWp d zi_27 none 23 [l0, l1, l2, l3, l4] [.ref x1, .int x0] (zSH, I, L, P) Q = zWp d zi_27 none 26 [l0, l1, l2, l3, l4] [.int (I x1 4), .int x0] (zSH, I, L, P) Q) ∧
    (∀ (d : Nat) (l0 : Value) (l1 : Value) (l2 : Value) (l3 : Value) (l4 : Value) (x1 : Int32) (x0 : Int32) (h : zMm) (Q : Option Value → zMm → Prop), zWp d zi_27 none 26 [l0, l1, l2, l3, l4] [.int x1, .int x0] h Q = if x0 < x1 then zWp d zi_27 none 32 [l0, l1, l2, l3, l4] [] h Q else zWp d zi_27 none 29 [l0, l1, l2, l3, l4] [] h Q) ∧
    (∀ (d : Nat) (l0 : Value) (l1 : Value) (l2 : Value) (l3 : Value) (l4 : Int32)  (h : zMm) (Q : Option Value → zMm → Prop), zWp d zi_27 none 29 [l0, l1, l2, l3, .int l4] [] h Q = zWp d zi_27 none 31 [l0, l1, l2, l3, .int l4] [.int l4] h Q) ∧
    (∀ (d : Nat) (l0 : Value) (l1 : Value) (l2 : Value) (l3 : Value) (l4 : Value) (x0 : Int32) (h : zMm) (Q : Option Value → zMm → Prop), zWp d zi_27 none 31 [l0, l1, l2, l3, l4] [.int x0] h Q = Q (some (.int x0)) h) ∧
    (∀ (d : Nat) (l0 : Value) (l1 : Value) (l2 : Value) (l3 : Int32) (l4 : Int32)  (h : zMm) (Q : Option Value → zMm → Prop), zWp d zi_27 none 32 [l0, l1, l2, .int l3, .int l4] [] h Q = zWp d zi_27 none 35 [l0, l1, l2, .int l3, .int (l4 + 1)] [] h Q) ∧
    (∀ (d : Nat) (l0 : Value) (l1 : Value) (l2 : Value) (l3 : Value) (l4 : Value)  (h : zMm) (Q : Option Value → zMm → Prop), zWp d zi_27 none 35 [l0, l1, l2, l3, l4] [] h Q = zWp d zi_27 none 8 [l0, l1, l2, l3, l4] [] h Q) ∧
    (∀ (d : Nat) (l0 : Value) (l1 : Value) (l2 : Value) (l3 : Value) (l4 : Value)  (h : zMm) (Q : Option Value → zMm → Prop), zWp d zi_27 none 38 [l0, l1, l2, l3, l4] [] h Q = zWp d zi_27 none 40 [l0, l1, l2, l3, l4] [.int (-2)] h Q) ∧
    (∀ (d : Nat) (l0 : Value) (l1 : Value) (l2 : Value) (l3 : Value) (l4 : Value) (x0 : Int32) (h : zMm) (Q : Option Value → zMm → Prop), zWp d zi_27 none 40 [l0, l1, l2, l3, l4] [.int x0] h Q = Q (some (.int x0)) h) :=
  ⟨(fun d l0 l1 l2 l3 l4  h Q => zr_aload_n rfl rfl),
   (fun d l0 l1 l2 l3 l4 x0 h Q => zr_sta (as := [.ref x0]) (rest := []) rfl lm_3_46 (by decide) m_30 kd_30 rfl (Nat.le_of_ble_eq_true rfl)),
   (fun d l0 l1 l2 l3 l4 x0 h Q => zr_istore_n (n := 3) rfl (Nat.le_of_ble_eq_true rfl) rfl),
   (fun d l0 l1 l2 l3 l4  h Q => zr_iconst rfl (by decide)),
   (fun d l0 l1 l2 l3 l4 x0 h Q => zr_istore (n := 4) rfl (Nat.le_of_ble_eq_true rfl) rfl),
   (fun d l0 l1 l2 l3 l4 x0 h Q => zr_iload_n rfl rfl),
   (fun d l0 l1 l2 l3 l4 x1 x0 h Q => zr_ic_gt rfl (by decide)),
   (fun d l0 l1 l2 l3 l4  h Q => zr_aload_n rfl rfl),
   (fun d l0 l1 l2 l3 l4 x0 h Q => zr_iload_n rfl rfl),
   (fun d l0 l1 l2 l3 l4 x1 x0 h Q => zr_iload rfl rfl),
   (fun d l0 l1 l2 l3 l4 x2 x1 x0 h Q => zr_aload_n rfl rfl),
   (fun d l0 l1 l2 l3 l4 x3 x2 x1 x0 I L P Q p0 => zr_vir (as := [.ref x3, .int x2, .int x1]) (rest := []) rfl lm_3_50 m_25 kd_25 rfl (Nat.le_of_ble_eq_true rfl) p0),
   (fun d l0 l1 l2 l3 l4 x0 h Q => zr_aload_n rfl rfl),
   (fun d l0 l1 l2 l3 l4 x1 x0 I L P Q p0 => zr_getI rfl lf_3_21 (fun _ _ _ => rfl) p0),
   (fun d l0 l1 l2 l3 l4 x1 x0 h Q => zr_ic_lt rfl (by decide)),
   (fun d l0 l1 l2 l3 l4  h Q => zr_iload rfl rfl),
   (fun d l0 l1 l2 l3 l4 x0 h Q => zr_iret rfl rfl),
   (fun d l0 l1 l2 l3 l4  h Q => zr_iinc (n := 4) (kc := 1) rfl rfl (Nat.le_of_ble_eq_true rfl) rfl (by decide)),
   (fun d l0 l1 l2 l3 l4  h Q => zr_goto rfl (by decide)),
   (fun d l0 l1 l2 l3 l4  h Q => zr_bipush rfl (by decide)),
   (fun d l0 l1 l2 l3 l4 x0 h Q => zr_iret rfl rfl)⟩
theorem H_X3_crackOf_8 : ∀ (d : Nat) (l0 : Value) (l1 : Value) (l2 : Value) (l3 : Value) (l4 : Int32)  (h : zMm) (Q : Option Value → zMm → Prop), zWp d zi_27 none 8 [l0, l1, l2, l3, .int l4] [] h Q = zWp d zi_27 none 10 [l0, l1, l2, l3, .int l4] [.int l4] h Q := fun d l0 l1 l2 l3 l4  h Q => zr_iload rfl rfl
theorem E_X3_hottestOf : ∀ (d : Nat) (a0 : Nat) (a1 : Int32) (a2 : Nat) (h : zMm) (Q : Option Value → zMm → Prop), zWM (d + 1) 28 [.ref a0, .int a1, .ref a2] h Q = zWp d zi_28 none 0 [.ref a0, .int a1, .ref a2] [] h Q := fun d a0 a1 a2 h Q => zW_M m_28 (Nat.le_of_ble_eq_true rfl) rfl
set_option maxRecDepth 100000 in
theorem R_X3_hottestOf :
    (∀ (d : Nat) (l0 : Nat) (l1 : Value) (l2 : Value)  (h : zMm) (Q : Option Value → zMm → Prop), zWp d zi_28 none 0 [.ref l0, l1, l2] [] h Q = zWp d zi_28 none 1 [.ref l0, l1, l2] [.ref l0] h Q) ∧
    (∀ (d : Nat) (l0 : Value) (l1 : Value) (l2 : Value) (x0 : Nat) (I : Nat → Nat → Int32) (L : Nat → Nat → Int64) (P : Nat → Nat → Option Nat) (Q : Option Value → zMm → Prop), zSH[x0]? = some (.inl 3) → zWp d zi_28 none 1 [l0, l1, l2] [.ref x0] (zSH, I, L, P) Q = zWp d zi_28 none 4 [l0, l1, l2] [va_rf (P x0 2)] (zSH, I, L, P) Q) ∧
    (∀ (d : Nat) (l0 : Value) (l1 : Int32) (l2 : Value) (x0 : Nat) (h : zMm) (Q : Option Value → zMm → Prop), zWp d zi_28 none 4 [l0, .int l1, l2] [.ref x0] h Q = zWp d zi_28 none 5 [l0, .int l1, l2] [.int l1, .ref x0] h Q) ∧
    (∀ (d : Nat) (l0 : Value) (l1 : Value) (l2 : Value) (x1 : Int32) (x0 : Nat) (I : Nat → Nat → Int32) (L : Nat → Nat → Int64) (P : Nat → Nat → Option Nat) (Q : Option Value → zMm → Prop), zAk zSH x0 = some .int → zWp d zi_28 none 5 [l0, l1, l2] [.int x1, .ref x0] (zSH, I, L, P) Q = (vp_in x1 (zAn zSH x0) ∧ zWp d zi_28 none 6 [l0, l1, l2] [.int (I x0 x1.toNatClampNeg)] (zSH, I, L, P) Q)) ∧
    (∀ (d : Nat) (l0 : Nat) (l1 : Value) (l2 : Value) (x0 : Int32) (h : zMm) (Q : Option Value → zMm → Prop), zWp d zi_28 none 6 [.ref l0, l1, l2] [.int x0] h Q = zWp d zi_28 none 7 [.ref l0, l1, l2] [.ref l0, .int x0] h Q) ∧
    (∀ (d : Nat) (l0 : Value) (l1 : Int32) (l2 : Value) (x1 : Nat) (x0 : Int32) (h : zMm) (Q : Option Value → zMm → Prop), zWp d zi_28 none 7 [l0, .int l1, l2] [.ref x1, .int x0] h Q = zWp d zi_28 none 8 [l0, .int l1, l2] [.int l1, .ref x1, .int x0] h Q) ∧
    (∀ (d : Nat) (l0 : Value) (l1 : Value) (l2 : Value) (x2 : Int32) (x1 : Nat) (x0 : Int32) (h : zMm) (Q : Option Value → zMm → Prop), zWp d zi_28 none 8 [l0, l1, l2] [.int x2, .ref x1, .int x0] h Q = zWp d zi_28 none 10 [l0, l1, l2] [.int 60, .int x2, .ref x1, .int x0] h Q) ∧
    (∀ (d : Nat) (l0 : Value) (l1 : Value) (l2 : Nat) (x3 : Int32) (x2 : Int32) (x1 : Nat) (x0 : Int32) (h : zMm) (Q : Option Value → zMm → Prop), zWp d zi_28 none 10 [l0, l1, .ref l2] [.int x3, .int x2, .ref x1, .int x0] h Q = zWp d zi_28 none 11 [l0, l1, .ref l2] [.ref l2, .int x3, .int x2, .ref x1, .int x0] h Q) ∧
    (∀ (d : Nat) (l0 : Value) (l1 : Value) (l2 : Value) (x4 : Nat) (x3 : Int32) (x2 : Int32) (x1 : Nat) (x0 : Int32) (I : Nat → Nat → Int32) (L : Nat → Nat → Int64) (P : Nat → Nat → Option Nat) (Q : Option Value → zMm → Prop), zSH[x1]? = some (.inl 3) → zWp d zi_28 none 11 [l0, l1, l2] [.ref x4, .int x3, .int x2, .ref x1, .int x0] (zSH, I, L, P) Q = zWM d 31 [.ref x1, .int x2, .int x3, .ref x4] (zSH, I, L, P) (fun r h1 => zWp d zi_28 none 14 [l0, l1, l2] (r.toList ++ [.int x0]) h1 Q)) ∧
    (∀ (d : Nat) (l0 : Value) (l1 : Value) (l2 : Value) (x1 : Int32) (x0 : Int32) (h : zMm) (Q : Option Value → zMm → Prop), zWp d zi_28 none 14 [l0, l1, l2] [.int x1, .int x0] h Q = zWM d 26 [.int x0, .int x1] h (fun r h1 => zWp d zi_28 none 17 [l0, l1, l2] (r.toList ++ []) h1 Q)) ∧
    (∀ (d : Nat) (l0 : Value) (l1 : Value) (l2 : Value) (x0 : Int32) (h : zMm) (Q : Option Value → zMm → Prop), zWp d zi_28 none 17 [l0, l1, l2] [.int x0] h Q = Q (some (.int x0)) h) :=
  ⟨(fun d l0 l1 l2  h Q => zr_aload_n rfl rfl),
   (fun d l0 l1 l2 x0 I L P Q p0 => zr_getQ rfl lf_3_18 (fun _ _ _ => rfl) p0),
   (fun d l0 l1 l2 x0 h Q => zr_iload_n rfl rfl),
   (fun d l0 l1 l2 x1 x0 I L P Q p0 => zr_ald rfl p0),
   (fun d l0 l1 l2 x0 h Q => zr_aload_n rfl rfl),
   (fun d l0 l1 l2 x1 x0 h Q => zr_iload_n rfl rfl),
   (fun d l0 l1 l2 x2 x1 x0 h Q => zr_bipush rfl (by decide)),
   (fun d l0 l1 l2 x3 x2 x1 x0 h Q => zr_aload_n rfl rfl),
   (fun d l0 l1 l2 x4 x3 x2 x1 x0 I L P Q p0 => zr_vir (as := [.ref x4, .int x3, .int x2]) (rest := [.int x0]) rfl lm_3_54 m_31 kd_31 rfl (Nat.le_of_ble_eq_true rfl) p0),
   (fun d l0 l1 l2 x1 x0 h Q => zr_sta (as := [.int x1, .int x0]) (rest := []) rfl lm_3_40 (by decide) m_26 kd_26 rfl (Nat.le_of_ble_eq_true rfl)),
   (fun d l0 l1 l2 x0 h Q => zr_iret rfl rfl)⟩
theorem E_X3_boardsFor : ∀ (d : Nat) (a0 : Nat) (a1 : Int32) (a2 : Nat) (h : zMm) (Q : Option Value → zMm → Prop), zWM (d + 1) 29 [.ref a0, .int a1, .ref a2] h Q = zWp d zi_29 none 0 [.ref a0, .int a1, .ref a2, .retAddr 0, .retAddr 0] [] h Q := fun d a0 a1 a2 h Q => zW_M m_29 (Nat.le_of_ble_eq_true rfl) rfl
set_option maxRecDepth 100000 in
theorem R_X3_boardsFor :
    (∀ (d : Nat) (l0 : Nat) (l1 : Value) (l2 : Value) (l3 : Value) (l4 : Value)  (h : zMm) (Q : Option Value → zMm → Prop), zWp d zi_29 none 0 [.ref l0, l1, l2, l3, l4] [] h Q = zWp d zi_29 none 1 [.ref l0, l1, l2, l3, l4] [.ref l0] h Q) ∧
    (∀ (d : Nat) (l0 : Value) (l1 : Int32) (l2 : Value) (l3 : Value) (l4 : Value) (x0 : Nat) (h : zMm) (Q : Option Value → zMm → Prop), zWp d zi_29 none 1 [l0, .int l1, l2, l3, l4] [.ref x0] h Q = zWp d zi_29 none 2 [l0, .int l1, l2, l3, l4] [.int l1, .ref x0] h Q) ∧
    (∀ (d : Nat) (l0 : Value) (l1 : Value) (l2 : Nat) (l3 : Value) (l4 : Value) (x1 : Int32) (x0 : Nat) (h : zMm) (Q : Option Value → zMm → Prop), zWp d zi_29 none 2 [l0, l1, .ref l2, l3, l4] [.int x1, .ref x0] h Q = zWp d zi_29 none 3 [l0, l1, .ref l2, l3, l4] [.ref l2, .int x1, .ref x0] h Q) ∧
    (∀ (d : Nat) (l0 : Value) (l1 : Value) (l2 : Value) (l3 : Value) (l4 : Value) (x2 : Nat) (x1 : Int32) (x0 : Nat) (h : zMm) (Q : Option Value → zMm → Prop), zWp d zi_29 none 3 [l0, l1, l2, l3, l4] [.ref x2, .int x1, .ref x0] h Q = zWM d 30 [.ref x2] h (fun r h1 => zWp d zi_29 none 6 [l0, l1, l2, l3, l4] (r.toList ++ [.int x1, .ref x0]) h1 Q)) ∧
    (∀ (d : Nat) (l0 : Value) (l1 : Value) (l2 : Nat) (l3 : Value) (l4 : Value) (x2 : Int32) (x1 : Int32) (x0 : Nat) (h : zMm) (Q : Option Value → zMm → Prop), zWp d zi_29 none 6 [l0, l1, .ref l2, l3, l4] [.int x2, .int x1, .ref x0] h Q = zWp d zi_29 none 7 [l0, l1, .ref l2, l3, l4] [.ref l2, .int x2, .int x1, .ref x0] h Q) ∧
    (∀ (d : Nat) (l0 : Value) (l1 : Value) (l2 : Value) (l3 : Value) (l4 : Value) (x3 : Nat) (x2 : Int32) (x1 : Int32) (x0 : Nat) (I : Nat → Nat → Int32) (L : Nat → Nat → Int64) (P : Nat → Nat → Option Nat) (Q : Option Value → zMm → Prop), zSH[x0]? = some (.inl 3) → zWp d zi_29 none 7 [l0, l1, l2, l3, l4] [.ref x3, .int x2, .int x1, .ref x0] (zSH, I, L, P) Q = zWM d 31 [.ref x0, .int x1, .int x2, .ref x3] (zSH, I, L, P) (fun r h1 => zWp d zi_29 none 10 [l0, l1, l2, l3, l4] (r.toList ++ []) h1 Q)) ∧
    (∀ (d : Nat) (l0 : Value) (l1 : Value) (l2 : Nat) (l3 : Value) (l4 : Value) (x0 : Int32) (h : zMm) (Q : Option Value → zMm → Prop), zWp d zi_29 none 10 [l0, l1, .ref l2, l3, l4] [.int x0] h Q = zWp d zi_29 none 11 [l0, l1, .ref l2, .int x0, l4] [] h Q) ∧
    (∀ (d : Nat) (l0 : Value) (l1 : Value) (l2 : Value) (l3 : Value) (l4 : Value)  (h : zMm) (Q : Option Value → zMm → Prop), zWp d zi_29 none 11 [l0, l1, l2, l3, l4] [] h Q = zWp d zi_29 none 12 [l0, l1, l2, l3, l4] [.int 0] h Q) ∧
    (∀ (d : Nat) (l0 : Value) (l1 : Value) (l2 : Value) (l3 : Int32) (l4 : Value) (x0 : Int32) (h : zMm) (Q : Option Value → zMm → Prop), zWp d zi_29 none 12 [l0, l1, l2, .int l3, l4] [.int x0] h Q = zWp d zi_29 none 14 [l0, l1, l2, .int l3, .int x0] [] h Q) ∧
    (∀ (d : Nat) (l0 : Value) (l1 : Value) (l2 : Value) (l3 : Value) (l4 : Value) (x0 : Int32) (h : zMm) (Q : Option Value → zMm → Prop), zWp d zi_29 none 16 [l0, l1, l2, l3, l4] [.int x0] h Q = zWp d zi_29 none 18 [l0, l1, l2, l3, l4] [.int 9, .int x0] h Q) ∧
    (∀ (d : Nat) (l0 : Value) (l1 : Value) (l2 : Value) (l3 : Value) (l4 : Value) (x1 : Int32) (x0 : Int32) (h : zMm) (Q : Option Value → zMm → Prop), zWp d zi_29 none 18 [l0, l1, l2, l3, l4] [.int x1, .int x0] h Q = if x1 < x0 then zWp d zi_29 none 43 [l0, l1, l2, l3, l4] [] h Q else zWp d zi_29 none 21 [l0, l1, l2, l3, l4] [] h Q) ∧
    (∀ (d : Nat) (l0 : Value) (l1 : Value) (l2 : Value) (l3 : Value) (l4 : Int32)  (h : zMm) (Q : Option Value → zMm → Prop), zWp d zi_29 none 21 [l0, l1, l2, l3, .int l4] [] h Q = zWp d zi_29 none 23 [l0, l1, l2, l3, .int l4] [.int l4] h Q) ∧
    (∀ (d : Nat) (l0 : Value) (l1 : Value) (l2 : Value) (l3 : Int32) (l4 : Value) (x0 : Int32) (h : zMm) (Q : Option Value → zMm → Prop), zWp d zi_29 none 23 [l0, l1, l2, .int l3, l4] [.int x0] h Q = zWp d zi_29 none 24 [l0, l1, l2, .int l3, l4] [.int l3, .int x0] h Q) ∧
    (∀ (d : Nat) (l0 : Value) (l1 : Value) (l2 : Value) (l3 : Value) (l4 : Value) (x1 : Int32) (x0 : Int32) (h : zMm) (Q : Option Value → zMm → Prop), zWp d zi_29 none 24 [l0, l1, l2, l3, l4] [.int x1, .int x0] h Q = zWM d 26 [.int x0, .int x1] h (fun r h1 => zWp d zi_29 none 27 [l0, l1, l2, l3, l4] (r.toList ++ []) h1 Q)) ∧
    (∀ (d : Nat) (l0 : Nat) (l1 : Value) (l2 : Value) (l3 : Value) (l4 : Value) (x0 : Int32) (h : zMm) (Q : Option Value → zMm → Prop), zWp d zi_29 none 27 [.ref l0, l1, l2, l3, l4] [.int x0] h Q = zWp d zi_29 none 28 [.ref l0, l1, l2, l3, l4] [.ref l0, .int x0] h Q) ∧
    (∀ (d : Nat) (l0 : Value) (l1 : Value) (l2 : Value) (l3 : Value) (l4 : Value) (x1 : Nat) (x0 : Int32) (I : Nat → Nat → Int32) (L : Nat → Nat → Int64) (P : Nat → Nat → Option Nat) (Q : Option Value → zMm → Prop), zSH[x1]? = some (.inl 3) → zWp d zi_29 none 28 [l0, l1, l2, l3, l4] [.ref x1, .int x0] (zSH, I, L, P) Q = zWp d zi_29 none 31 [l0, l1, l2, l3, l4] [.int (I x1 4), .int x0] (zSH, I, L, P) Q) ∧
    (∀ (d : Nat) (l0 : Value) (l1 : Value) (l2 : Value) (l3 : Value) (l4 : Value) (x1 : Int32) (x0 : Int32) (h : zMm) (Q : Option Value → zMm → Prop), zWp d zi_29 none 31 [l0, l1, l2, l3, l4] [.int x1, .int x0] h Q = if x1 ≤ x0 then zWp d zi_29 none 37 [l0, l1, l2, l3, l4] [] h Q else zWp d zi_29 none 34 [l0, l1, l2, l3, l4] [] h Q) ∧
    (∀ (d : Nat) (l0 : Value) (l1 : Value) (l2 : Value) (l3 : Value) (l4 : Int32)  (h : zMm) (Q : Option Value → zMm → Prop), zWp d zi_29 none 34 [l0, l1, l2, l3, .int l4] [] h Q = zWp d zi_29 none 36 [l0, l1, l2, l3, .int l4] [.int l4] h Q) ∧
    (∀ (d : Nat) (l0 : Value) (l1 : Value) (l2 : Value) (l3 : Value) (l4 : Value) (x0 : Int32) (h : zMm) (Q : Option Value → zMm → Prop), zWp d zi_29 none 36 [l0, l1, l2, l3, l4] [.int x0] h Q = Q (some (.int x0)) h) ∧
    (∀ (d : Nat) (l0 : Value) (l1 : Value) (l2 : Value) (l3 : Int32) (l4 : Int32)  (h : zMm) (Q : Option Value → zMm → Prop), zWp d zi_29 none 37 [l0, l1, l2, .int l3, .int l4] [] h Q = zWp d zi_29 none 40 [l0, l1, l2, .int l3, .int (l4 + 1)] [] h Q) ∧
    (∀ (d : Nat) (l0 : Value) (l1 : Value) (l2 : Value) (l3 : Value) (l4 : Value)  (h : zMm) (Q : Option Value → zMm → Prop), zWp d zi_29 none 40 [l0, l1, l2, l3, l4] [] h Q = zWp d zi_29 none 14 [l0, l1, l2, l3, l4] [] h Q) ∧
    (∀ (d : Nat) (l0 : Value) (l1 : Value) (l2 : Value) (l3 : Value) (l4 : Value)  (h : zMm) (Q : Option Value → zMm → Prop), zWp d zi_29 none 43 [l0, l1, l2, l3, l4] [] h Q = zWp d zi_29 none 45 [l0, l1, l2, l3, l4] [.int (-2)] h Q) ∧
    (∀ (d : Nat) (l0 : Value) (l1 : Value) (l2 : Value) (l3 : Value) (l4 : Value) (x0 : Int32) (h : zMm) (Q : Option Value → zMm → Prop), zWp d zi_29 none 45 [l0, l1, l2, l3, l4] [.int x0] h Q = Q (some (.int x0)) h) :=
  ⟨(fun d l0 l1 l2 l3 l4  h Q => zr_aload_n rfl rfl),
   (fun d l0 l1 l2 l3 l4 x0 h Q => zr_iload_n rfl rfl),
   (fun d l0 l1 l2 l3 l4 x1 x0 h Q => zr_aload_n rfl rfl),
   (fun d l0 l1 l2 l3 l4 x2 x1 x0 h Q => zr_sta (as := [.ref x2]) (rest := [.int x1, .ref x0]) rfl lm_3_46 (by decide) m_30 kd_30 rfl (Nat.le_of_ble_eq_true rfl)),
   (fun d l0 l1 l2 l3 l4 x2 x1 x0 h Q => zr_aload_n rfl rfl),
   (fun d l0 l1 l2 l3 l4 x3 x2 x1 x0 I L P Q p0 => zr_vir (as := [.ref x3, .int x2, .int x1]) (rest := []) rfl lm_3_54 m_31 kd_31 rfl (Nat.le_of_ble_eq_true rfl) p0),
   (fun d l0 l1 l2 l3 l4 x0 h Q => zr_istore_n (n := 3) rfl (Nat.le_of_ble_eq_true rfl) rfl),
   (fun d l0 l1 l2 l3 l4  h Q => zr_iconst rfl (by decide)),
   (fun d l0 l1 l2 l3 l4 x0 h Q => zr_istore (n := 4) rfl (Nat.le_of_ble_eq_true rfl) rfl),
   (fun d l0 l1 l2 l3 l4 x0 h Q => zr_bipush rfl (by decide)),
   (fun d l0 l1 l2 l3 l4 x1 x0 h Q => zr_ic_gt rfl (by decide)),
   (fun d l0 l1 l2 l3 l4  h Q => zr_iload rfl rfl),
   (fun d l0 l1 l2 l3 l4 x0 h Q => zr_iload_n rfl rfl),
   (fun d l0 l1 l2 l3 l4 x1 x0 h Q => zr_sta (as := [.int x1, .int x0]) (rest := []) rfl lm_3_40 (by decide) m_26 kd_26 rfl (Nat.le_of_ble_eq_true rfl)),
   (fun d l0 l1 l2 l3 l4 x0 h Q => zr_aload_n rfl rfl),
   (fun d l0 l1 l2 l3 l4 x1 x0 I L P Q p0 => zr_getI rfl lf_3_21 (fun _ _ _ => rfl) p0),
   (fun d l0 l1 l2 l3 l4 x1 x0 h Q => zr_ic_ge rfl (by decide)),
   (fun d l0 l1 l2 l3 l4  h Q => zr_iload rfl rfl),
   (fun d l0 l1 l2 l3 l4 x0 h Q => zr_iret rfl rfl),
   (fun d l0 l1 l2 l3 l4  h Q => zr_iinc (n := 4) (kc := 1) rfl rfl (Nat.le_of_ble_eq_true rfl) rfl (by decide)),
   (fun d l0 l1 l2 l3 l4  h Q => zr_goto rfl (by decide)),
   (fun d l0 l1 l2 l3 l4  h Q => zr_bipush rfl (by decide)),
   (fun d l0 l1 l2 l3 l4 x0 h Q => zr_iret rfl rfl)⟩
theorem H_X3_boardsFor_14 : ∀ (d : Nat) (l0 : Value) (l1 : Value) (l2 : Value) (l3 : Value) (l4 : Int32)  (h : zMm) (Q : Option Value → zMm → Prop), zWp d zi_29 none 14 [l0, l1, l2, l3, .int l4] [] h Q = zWp d zi_29 none 16 [l0, l1, l2, l3, .int l4] [.int l4] h Q := fun d l0 l1 l2 l3 l4  h Q => zr_iload rfl rfl
theorem E_X3_lastOf : ∀ (d : Nat) (a0 : Nat) (h : zMm) (Q : Option Value → zMm → Prop), zWM (d + 1) 30 [.ref a0] h Q = zWp d zi_30 none 0 [.ref a0] [] h Q := fun d a0 h Q => zW_M m_30 (Nat.le_of_ble_eq_true rfl) rfl
set_option maxRecDepth 100000 in
theorem R_X3_lastOf :
    (∀ (d : Nat) (l0 : Nat)  (h : zMm) (Q : Option Value → zMm → Prop), zWp d zi_30 none 0 [.ref l0] [] h Q = zWp d zi_30 none 1 [.ref l0] [.ref l0] h Q) ∧
    (∀ (d : Nat) (l0 : Value) (x0 : Nat) (I : Nat → Nat → Int32) (L : Nat → Nat → Int64) (P : Nat → Nat → Option Nat) (Q : Option Value → zMm → Prop), zSH[x0]? = some (.inl 2) → zWp d zi_30 none 1 [l0] [.ref x0] (zSH, I, L, P) Q = zWp d zi_30 none 4 [l0] [.int (I x0 7)] (zSH, I, L, P) Q) ∧
    (∀ (d : Nat) (l0 : Value) (x0 : Int32) (h : zMm) (Q : Option Value → zMm → Prop), zWp d zi_30 none 4 [l0] [.int x0] h Q = zWp d zi_30 none 6 [l0] [.int (-2), .int x0] h Q) ∧
    (∀ (d : Nat) (l0 : Value) (x1 : Int32) (x0 : Int32) (h : zMm) (Q : Option Value → zMm → Prop), zWp d zi_30 none 6 [l0] [.int x1, .int x0] h Q = if x0 = x1 then zWp d zi_30 none 9 [l0] [] h Q else zWp d zi_30 none 14 [l0] [] h Q) ∧
    (∀ (d : Nat) (l0 : Value)  (h : zMm) (Q : Option Value → zMm → Prop), zWp d zi_30 none 9 [l0] [] h Q = zWp d zi_30 none 11 [l0] [.int 60] h Q) ∧
    (∀ (d : Nat) (l0 : Value) (x0 : Int32) (h : zMm) (Q : Option Value → zMm → Prop), zWp d zi_30 none 11 [l0] [.int x0] h Q = zWp d zi_30 none 18 [l0] [.int x0] h Q) ∧
    (∀ (d : Nat) (l0 : Nat)  (h : zMm) (Q : Option Value → zMm → Prop), zWp d zi_30 none 14 [.ref l0] [] h Q = zWp d zi_30 none 15 [.ref l0] [.ref l0] h Q) ∧
    (∀ (d : Nat) (l0 : Value) (x0 : Nat) (I : Nat → Nat → Int32) (L : Nat → Nat → Int64) (P : Nat → Nat → Option Nat) (Q : Option Value → zMm → Prop), zSH[x0]? = some (.inl 2) → zWp d zi_30 none 15 [l0] [.ref x0] (zSH, I, L, P) Q = zWp d zi_30 none 18 [l0] [.int (I x0 7)] (zSH, I, L, P) Q) ∧
    (∀ (d : Nat) (l0 : Value) (x0 : Int32) (h : zMm) (Q : Option Value → zMm → Prop), zWp d zi_30 none 18 [l0] [.int x0] h Q = Q (some (.int x0)) h) :=
  ⟨(fun d l0  h Q => zr_aload_n rfl rfl),
   (fun d l0 x0 I L P Q p0 => zr_getI rfl lf_3_57 (fun _ _ _ => rfl) p0),
   (fun d l0 x0 h Q => zr_bipush rfl (by decide)),
   (fun d l0 x1 x0 h Q => zr_ic_ne rfl (by decide)),
   (fun d l0  h Q => zr_bipush rfl (by decide)),
   (fun d l0 x0 h Q => zr_goto rfl (by decide)),
   (fun d l0  h Q => zr_aload_n rfl rfl),
   (fun d l0 x0 I L P Q p0 => zr_getI rfl lf_3_57 (fun _ _ _ => rfl) p0),
   (fun d l0 x0 h Q => zr_iret rfl rfl)⟩
theorem E_X3_brightest : ∀ (d : Nat) (a0 : Nat) (a1 : Int32) (a2 : Int32) (a3 : Nat) (h : zMm) (Q : Option Value → zMm → Prop), zWM (d + 1) 31 [.ref a0, .int a1, .int a2, .ref a3] h Q = zWp d zi_31 none 0 [.ref a0, .int a1, .int a2, .ref a3, .retAddr 0, .retAddr 0] [] h Q := fun d a0 a1 a2 a3 h Q => zW_M m_31 (Nat.le_of_ble_eq_true rfl) rfl
set_option maxRecDepth 100000 in
theorem R_X3_brightest :
    (∀ (d : Nat) (l0 : Value) (l1 : Value) (l2 : Value) (l3 : Value) (l4 : Value) (l5 : Value)  (h : zMm) (Q : Option Value → zMm → Prop), zWp d zi_31 none 0 [l0, l1, l2, l3, l4, l5] [] h Q = zWp d zi_31 none 1 [l0, l1, l2, l3, l4, l5] [.int 0] h Q) ∧
    (∀ (d : Nat) (l0 : Value) (l1 : Value) (l2 : Value) (l3 : Nat) (l4 : Value) (l5 : Value) (x0 : Int32) (h : zMm) (Q : Option Value → zMm → Prop), zWp d zi_31 none 1 [l0, l1, l2, .ref l3, l4, l5] [.int x0] h Q = zWp d zi_31 none 3 [l0, l1, l2, .ref l3, .int x0, l5] [] h Q) ∧
    (∀ (d : Nat) (l0 : Value) (l1 : Value) (l2 : Value) (l3 : Value) (l4 : Value) (l5 : Value)  (h : zMm) (Q : Option Value → zMm → Prop), zWp d zi_31 none 3 [l0, l1, l2, l3, l4, l5] [] h Q = zWp d zi_31 none 4 [l0, l1, l2, l3, l4, l5] [.int 0] h Q) ∧
    (∀ (d : Nat) (l0 : Value) (l1 : Value) (l2 : Value) (l3 : Value) (l4 : Int32) (l5 : Value) (x0 : Int32) (h : zMm) (Q : Option Value → zMm → Prop), zWp d zi_31 none 4 [l0, l1, l2, l3, .int l4, l5] [.int x0] h Q = zWp d zi_31 none 6 [l0, l1, l2, l3, .int l4, .int x0] [] h Q) ∧
    (∀ (d : Nat) (l0 : Value) (l1 : Value) (l2 : Int32) (l3 : Value) (l4 : Value) (l5 : Value) (x0 : Int32) (h : zMm) (Q : Option Value → zMm → Prop), zWp d zi_31 none 8 [l0, l1, .int l2, l3, l4, l5] [.int x0] h Q = zWp d zi_31 none 9 [l0, l1, .int l2, l3, l4, l5] [.int l2, .int x0] h Q) ∧
    (∀ (d : Nat) (l0 : Value) (l1 : Value) (l2 : Value) (l3 : Value) (l4 : Value) (l5 : Value) (x1 : Int32) (x0 : Int32) (h : zMm) (Q : Option Value → zMm → Prop), zWp d zi_31 none 9 [l0, l1, l2, l3, l4, l5] [.int x1, .int x0] h Q = if x1 < x0 then zWp d zi_31 none 43 [l0, l1, l2, l3, l4, l5] [] h Q else zWp d zi_31 none 12 [l0, l1, l2, l3, l4, l5] [] h Q) ∧
    (∀ (d : Nat) (l0 : Value) (l1 : Value) (l2 : Value) (l3 : Value) (l4 : Int32) (l5 : Value)  (h : zMm) (Q : Option Value → zMm → Prop), zWp d zi_31 none 12 [l0, l1, l2, l3, .int l4, l5] [] h Q = zWp d zi_31 none 14 [l0, l1, l2, l3, .int l4, l5] [.int l4] h Q) ∧
    (∀ (d : Nat) (l0 : Value) (l1 : Value) (l2 : Value) (l3 : Nat) (l4 : Value) (l5 : Value) (x0 : Int32) (h : zMm) (Q : Option Value → zMm → Prop), zWp d zi_31 none 14 [l0, l1, l2, .ref l3, l4, l5] [.int x0] h Q = zWp d zi_31 none 15 [l0, l1, l2, .ref l3, l4, l5] [.ref l3, .int x0] h Q) ∧
    (∀ (d : Nat) (l0 : Nat) (l1 : Value) (l2 : Value) (l3 : Value) (l4 : Value) (l5 : Value) (x1 : Nat) (x0 : Int32) (h : zMm) (Q : Option Value → zMm → Prop), zWp d zi_31 none 15 [.ref l0, l1, l2, l3, l4, l5] [.ref x1, .int x0] h Q = zWp d zi_31 none 16 [.ref l0, l1, l2, l3, l4, l5] [.ref l0, .ref x1, .int x0] h Q) ∧
    (∀ (d : Nat) (l0 : Value) (l1 : Value) (l2 : Value) (l3 : Value) (l4 : Value) (l5 : Value) (x2 : Nat) (x1 : Nat) (x0 : Int32) (I : Nat → Nat → Int32) (L : Nat → Nat → Int64) (P : Nat → Nat → Option Nat) (Q : Option Value → zMm → Prop), zSH[x2]? = some (.inl 3) → zWp d zi_31 none 16 [l0, l1, l2, l3, l4, l5] [.ref x2, .ref x1, .int x0] (zSH, I, L, P) Q = zWp d zi_31 none 19 [l0, l1, l2, l3, l4, l5] [va_rf (P x2 0), .ref x1, .int x0] (zSH, I, L, P) Q) ∧
    (∀ (d : Nat) (l0 : Value) (l1 : Int32) (l2 : Value) (l3 : Value) (l4 : Value) (l5 : Value) (x2 : Nat) (x1 : Nat) (x0 : Int32) (h : zMm) (Q : Option Value → zMm → Prop), zWp d zi_31 none 19 [l0, .int l1, l2, l3, l4, l5] [.ref x2, .ref x1, .int x0] h Q = zWp d zi_31 none 20 [l0, .int l1, l2, l3, l4, l5] [.int l1, .ref x2, .ref x1, .int x0] h Q) ∧
    (∀ (d : Nat) (l0 : Value) (l1 : Value) (l2 : Value) (l3 : Value) (l4 : Value) (l5 : Value) (x3 : Int32) (x2 : Nat) (x1 : Nat) (x0 : Int32) (I : Nat → Nat → Int32) (L : Nat → Nat → Int64) (P : Nat → Nat → Option Nat) (Q : Option Value → zMm → Prop), zAk zSH x2 = some .int → zWp d zi_31 none 20 [l0, l1, l2, l3, l4, l5] [.int x3, .ref x2, .ref x1, .int x0] (zSH, I, L, P) Q = (vp_in x3 (zAn zSH x2) ∧ zWp d zi_31 none 21 [l0, l1, l2, l3, l4, l5] [.int (I x2 x3.toNatClampNeg), .ref x1, .int x0] (zSH, I, L, P) Q)) ∧
    (∀ (d : Nat) (l0 : Nat) (l1 : Value) (l2 : Value) (l3 : Value) (l4 : Value) (l5 : Value) (x2 : Int32) (x1 : Nat) (x0 : Int32) (h : zMm) (Q : Option Value → zMm → Prop), zWp d zi_31 none 21 [.ref l0, l1, l2, l3, l4, l5] [.int x2, .ref x1, .int x0] h Q = zWp d zi_31 none 22 [.ref l0, l1, l2, l3, l4, l5] [.ref l0, .int x2, .ref x1, .int x0] h Q) ∧
    (∀ (d : Nat) (l0 : Value) (l1 : Value) (l2 : Value) (l3 : Value) (l4 : Value) (l5 : Value) (x3 : Nat) (x2 : Int32) (x1 : Nat) (x0 : Int32) (I : Nat → Nat → Int32) (L : Nat → Nat → Int64) (P : Nat → Nat → Option Nat) (Q : Option Value → zMm → Prop), zSH[x3]? = some (.inl 3) → zWp d zi_31 none 22 [l0, l1, l2, l3, l4, l5] [.ref x3, .int x2, .ref x1, .int x0] (zSH, I, L, P) Q = zWp d zi_31 none 25 [l0, l1, l2, l3, l4, l5] [va_rf (P x3 1), .int x2, .ref x1, .int x0] (zSH, I, L, P) Q) ∧
    (∀ (d : Nat) (l0 : Value) (l1 : Int32) (l2 : Value) (l3 : Value) (l4 : Value) (l5 : Value) (x3 : Nat) (x2 : Int32) (x1 : Nat) (x0 : Int32) (h : zMm) (Q : Option Value → zMm → Prop), zWp d zi_31 none 25 [l0, .int l1, l2, l3, l4, l5] [.ref x3, .int x2, .ref x1, .int x0] h Q = zWp d zi_31 none 26 [l0, .int l1, l2, l3, l4, l5] [.int l1, .ref x3, .int x2, .ref x1, .int x0] h Q) ∧
    (∀ (d : Nat) (l0 : Value) (l1 : Value) (l2 : Value) (l3 : Value) (l4 : Value) (l5 : Value) (x4 : Int32) (x3 : Nat) (x2 : Int32) (x1 : Nat) (x0 : Int32) (I : Nat → Nat → Int32) (L : Nat → Nat → Int64) (P : Nat → Nat → Option Nat) (Q : Option Value → zMm → Prop), zAk zSH x3 = some .int → zWp d zi_31 none 26 [l0, l1, l2, l3, l4, l5] [.int x4, .ref x3, .int x2, .ref x1, .int x0] (zSH, I, L, P) Q = (vp_in x4 (zAn zSH x3) ∧ zWp d zi_31 none 27 [l0, l1, l2, l3, l4, l5] [.int (I x3 x4.toNatClampNeg), .int x2, .ref x1, .int x0] (zSH, I, L, P) Q)) ∧
    (∀ (d : Nat) (l0 : Value) (l1 : Value) (l2 : Value) (l3 : Value) (l4 : Value) (l5 : Int32) (x3 : Int32) (x2 : Int32) (x1 : Nat) (x0 : Int32) (h : zMm) (Q : Option Value → zMm → Prop), zWp d zi_31 none 27 [l0, l1, l2, l3, l4, .int l5] [.int x3, .int x2, .ref x1, .int x0] h Q = zWp d zi_31 none 29 [l0, l1, l2, l3, l4, .int l5] [.int l5, .int x3, .int x2, .ref x1, .int x0] h Q) ∧
    (∀ (d : Nat) (l0 : Value) (l1 : Value) (l2 : Value) (l3 : Value) (l4 : Value) (l5 : Value) (x4 : Int32) (x3 : Int32) (x2 : Int32) (x1 : Nat) (x0 : Int32) (I : Nat → Nat → Int32) (L : Nat → Nat → Int64) (P : Nat → Nat → Option Nat) (Q : Option Value → zMm → Prop), zSH[x1]? = some (.inl 2) → zWp d zi_31 none 29 [l0, l1, l2, l3, l4, l5] [.int x4, .int x3, .int x2, .ref x1, .int x0] (zSH, I, L, P) Q = zWM d 20 [.ref x1, .int x2, .int x3, .int x4] (zSH, I, L, P) (fun r h1 => zWp d zi_31 none 32 [l0, l1, l2, l3, l4, l5] (r.toList ++ [.int x0]) h1 Q)) ∧
    (∀ (d : Nat) (l0 : Value) (l1 : Value) (l2 : Value) (l3 : Value) (l4 : Value) (l5 : Value) (x1 : Int32) (x0 : Int32) (h : zMm) (Q : Option Value → zMm → Prop), zWp d zi_31 none 32 [l0, l1, l2, l3, l4, l5] [.int x1, .int x0] h Q = zWp d zi_31 none 35 [l0, l1, l2, l3, l4, l5] [.int (if x0 < x1 then x1 else x0)] h Q) ∧
    (∀ (d : Nat) (l0 : Value) (l1 : Value) (l2 : Value) (l3 : Nat) (l4 : Value) (l5 : Value) (x0 : Int32) (h : zMm) (Q : Option Value → zMm → Prop), zWp d zi_31 none 35 [l0, l1, l2, .ref l3, l4, l5] [.int x0] h Q = zWp d zi_31 none 37 [l0, l1, l2, .ref l3, .int x0, l5] [] h Q) ∧
    (∀ (d : Nat) (l0 : Value) (l1 : Value) (l2 : Value) (l3 : Value) (l4 : Int32) (l5 : Int32)  (h : zMm) (Q : Option Value → zMm → Prop), zWp d zi_31 none 37 [l0, l1, l2, l3, .int l4, .int l5] [] h Q = zWp d zi_31 none 40 [l0, l1, l2, l3, .int l4, .int (l5 + 1)] [] h Q) ∧
    (∀ (d : Nat) (l0 : Value) (l1 : Value) (l2 : Value) (l3 : Value) (l4 : Value) (l5 : Value)  (h : zMm) (Q : Option Value → zMm → Prop), zWp d zi_31 none 40 [l0, l1, l2, l3, l4, l5] [] h Q = zWp d zi_31 none 6 [l0, l1, l2, l3, l4, l5] [] h Q) ∧
    (∀ (d : Nat) (l0 : Value) (l1 : Value) (l2 : Value) (l3 : Value) (l4 : Int32) (l5 : Value)  (h : zMm) (Q : Option Value → zMm → Prop), zWp d zi_31 none 43 [l0, l1, l2, l3, .int l4, l5] [] h Q = zWp d zi_31 none 45 [l0, l1, l2, l3, .int l4, l5] [.int l4] h Q) ∧
    (∀ (d : Nat) (l0 : Value) (l1 : Value) (l2 : Value) (l3 : Value) (l4 : Value) (l5 : Value) (x0 : Int32) (h : zMm) (Q : Option Value → zMm → Prop), zWp d zi_31 none 45 [l0, l1, l2, l3, l4, l5] [.int x0] h Q = Q (some (.int x0)) h) :=
  ⟨(fun d l0 l1 l2 l3 l4 l5  h Q => zr_iconst rfl (by decide)),
   (fun d l0 l1 l2 l3 l4 l5 x0 h Q => zr_istore (n := 4) rfl (Nat.le_of_ble_eq_true rfl) rfl),
   (fun d l0 l1 l2 l3 l4 l5  h Q => zr_iconst rfl (by decide)),
   (fun d l0 l1 l2 l3 l4 l5 x0 h Q => zr_istore (n := 5) rfl (Nat.le_of_ble_eq_true rfl) rfl),
   (fun d l0 l1 l2 l3 l4 l5 x0 h Q => zr_iload_n rfl rfl),
   (fun d l0 l1 l2 l3 l4 l5 x1 x0 h Q => zr_ic_gt rfl (by decide)),
   (fun d l0 l1 l2 l3 l4 l5  h Q => zr_iload rfl rfl),
   (fun d l0 l1 l2 l3 l4 l5 x0 h Q => zr_aload_n rfl rfl),
   (fun d l0 l1 l2 l3 l4 l5 x1 x0 h Q => zr_aload_n rfl rfl),
   (fun d l0 l1 l2 l3 l4 l5 x2 x1 x0 I L P Q p0 => zr_getQ rfl lf_3_11 (fun _ _ _ => rfl) p0),
   (fun d l0 l1 l2 l3 l4 l5 x2 x1 x0 h Q => zr_iload_n rfl rfl),
   (fun d l0 l1 l2 l3 l4 l5 x3 x2 x1 x0 I L P Q p0 => zr_ald rfl p0),
   (fun d l0 l1 l2 l3 l4 l5 x2 x1 x0 h Q => zr_aload_n rfl rfl),
   (fun d l0 l1 l2 l3 l4 l5 x3 x2 x1 x0 I L P Q p0 => zr_getQ rfl lf_3_15 (fun _ _ _ => rfl) p0),
   (fun d l0 l1 l2 l3 l4 l5 x3 x2 x1 x0 h Q => zr_iload_n rfl rfl),
   (fun d l0 l1 l2 l3 l4 l5 x4 x3 x2 x1 x0 I L P Q p0 => zr_ald rfl p0),
   (fun d l0 l1 l2 l3 l4 l5 x3 x2 x1 x0 h Q => zr_iload rfl rfl),
   (fun d l0 l1 l2 l3 l4 l5 x4 x3 x2 x1 x0 I L P Q p0 => zr_vir (as := [.int x4, .int x3, .int x2]) (rest := [.int x0]) rfl lm_3_34 m_20 kd_20 rfl (Nat.le_of_ble_eq_true rfl) p0),
   (fun d l0 l1 l2 l3 l4 l5 x1 x0 h Q => zr_max rfl lm_3_43 (Nat.le_of_ble_eq_true rfl)),
   (fun d l0 l1 l2 l3 l4 l5 x0 h Q => zr_istore (n := 4) rfl (Nat.le_of_ble_eq_true rfl) rfl),
   (fun d l0 l1 l2 l3 l4 l5  h Q => zr_iinc (n := 5) (kc := 1) rfl rfl (Nat.le_of_ble_eq_true rfl) rfl (by decide)),
   (fun d l0 l1 l2 l3 l4 l5  h Q => zr_goto rfl (by decide)),
   (fun d l0 l1 l2 l3 l4 l5  h Q => zr_iload rfl rfl),
   (fun d l0 l1 l2 l3 l4 l5 x0 h Q => zr_iret rfl rfl)⟩
theorem H_X3_brightest_6 : ∀ (d : Nat) (l0 : Value) (l1 : Value) (l2 : Value) (l3 : Value) (l4 : Value) (l5 : Int32)  (h : zMm) (Q : Option Value → zMm → Prop), zWp d zi_31 none 6 [l0, l1, l2, l3, l4, .int l5] [] h Q = zWp d zi_31 none 8 [l0, l1, l2, l3, l4, .int l5] [.int l5] h Q := fun d l0 l1 l2 l3 l4 l5  h Q => zr_iload rfl rfl
