theorem E_X4_reads : ∀ (d : Nat) (a0 : Nat) (a1 : Nat) (h : zMm) (Q : Option Value → zMm → Prop), zWM (d + 1) 33 [.ref a0, .ref a1] h Q = zWp d zi_33 none 0 [.ref a0, .ref a1, .retAddr 0, .retAddr 0] [] h Q := fun d a0 a1 h Q => zW_M m_33 (Nat.le_of_ble_eq_true rfl) rfl
set_option maxRecDepth 100000 in
theorem R_X4_reads :
    (∀ (d : Nat) (l0 : Nat) (l1 : Value) (l2 : Value) (l3 : Value)  (h : zMm) (Q : Option Value → zMm → Prop), zWp d zi_33 none 0 [.ref l0, l1, l2, l3] [] h Q = zWp d zi_33 none 1 [.ref l0, l1, l2, l3] [.ref l0] h Q) ∧
    (∀ (d : Nat) (l0 : Value) (l1 : Nat) (l2 : Value) (l3 : Value) (x0 : Nat) (h : zMm) (Q : Option Value → zMm → Prop), zWp d zi_33 none 1 [l0, .ref l1, l2, l3] [.ref x0] h Q = zWp d zi_33 none 2 [l0, .ref l1, l2, l3] [.ref l1, .ref x0] h Q) ∧
    (∀ (d : Nat) (l0 : Value) (l1 : Value) (l2 : Value) (l3 : Value) (x1 : Nat) (x0 : Nat) (I : Nat → Nat → Int32) (L : Nat → Nat → Int64) (P : Nat → Nat → Option Nat) (Q : Option Value → zMm → Prop), zSH[x0]? = some (.inl 4) → zWp d zi_33 none 2 [l0, l1, l2, l3] [.ref x1, .ref x0] (zSH, I, L, P) Q = zWp d zi_33 none 5 [l0, l1, l2, l3] [] (zSH, I, L, zw P x0 (va_up (P x0) 3 (some x1))) Q) ∧
    (∀ (d : Nat) (l0 : Nat) (l1 : Value) (l2 : Value) (l3 : Value)  (h : zMm) (Q : Option Value → zMm → Prop), zWp d zi_33 none 5 [.ref l0, l1, l2, l3] [] h Q = zWp d zi_33 none 6 [.ref l0, l1, l2, l3] [.ref l0] h Q) ∧
    (∀ (d : Nat) (l0 : Value) (l1 : Value) (l2 : Value) (l3 : Value) (x0 : Nat) (I : Nat → Nat → Int32) (L : Nat → Nat → Int64) (P : Nat → Nat → Option Nat) (Q : Option Value → zMm → Prop), zSH[x0]? = some (.inl 4) → zWp d zi_33 none 6 [l0, l1, l2, l3] [.ref x0] (zSH, I, L, P) Q = zWp d zi_33 none 9 [l0, l1, l2, l3] [va_rf (P x0 3)] (zSH, I, L, P) Q) ∧
    (∀ (d : Nat) (l0 : Value) (l1 : Value) (l2 : Value) (l3 : Value) (x0 : Nat) (h : zMm) (Q : Option Value → zMm → Prop), zWp d zi_33 none 9 [l0, l1, l2, l3] [.ref x0] h Q = zWp d zi_33 none 10 [l0, l1, l2, l3] [.int 0, .ref x0] h Q) ∧
    (∀ (d : Nat) (l0 : Value) (l1 : Value) (l2 : Value) (l3 : Value) (x1 : Int32) (x0 : Nat) (I : Nat → Nat → Int32) (L : Nat → Nat → Int64) (P : Nat → Nat → Option Nat) (Q : Option Value → zMm → Prop), zSH[x0]? = some (.inl 5) → zWp d zi_33 none 10 [l0, l1, l2, l3] [.int x1, .ref x0] (zSH, I, L, P) Q = zWp d zi_33 none 13 [l0, l1, l2, l3] [] (zSH, zw I x0 (upd (I x0) 3 x1), L, P) Q) ∧
    (∀ (d : Nat) (l0 : Nat) (l1 : Value) (l2 : Value) (l3 : Value)  (h : zMm) (Q : Option Value → zMm → Prop), zWp d zi_33 none 13 [.ref l0, l1, l2, l3] [] h Q = zWp d zi_33 none 14 [.ref l0, l1, l2, l3] [.ref l0] h Q) ∧
    (∀ (d : Nat) (l0 : Value) (l1 : Value) (l2 : Value) (l3 : Value) (x0 : Nat) (h : zMm) (Q : Option Value → zMm → Prop), zWp d zi_33 none 14 [l0, l1, l2, l3] [.ref x0] h Q = zWp d zi_33 none 15 [l0, l1, l2, l3] [.int 0, .ref x0] h Q) ∧
    (∀ (d : Nat) (l0 : Value) (l1 : Value) (l2 : Value) (l3 : Value) (x1 : Int32) (x0 : Nat) (I : Nat → Nat → Int32) (L : Nat → Nat → Int64) (P : Nat → Nat → Option Nat) (Q : Option Value → zMm → Prop), zSH[x0]? = some (.inl 4) → zWp d zi_33 none 15 [l0, l1, l2, l3] [.int x1, .ref x0] (zSH, I, L, P) Q = zWp d zi_33 none 18 [l0, l1, l2, l3] [] (zSH, zw I x0 (upd (I x0) 2 x1), L, P) Q) ∧
    (∀ (d : Nat) (l0 : Nat) (l1 : Value) (l2 : Value) (l3 : Value)  (h : zMm) (Q : Option Value → zMm → Prop), zWp d zi_33 none 18 [.ref l0, l1, l2, l3] [] h Q = zWp d zi_33 none 19 [.ref l0, l1, l2, l3] [.ref l0] h Q) ∧
    (∀ (d : Nat) (l0 : Value) (l1 : Value) (l2 : Value) (l3 : Value) (x0 : Nat) (I : Nat → Nat → Int32) (L : Nat → Nat → Int64) (P : Nat → Nat → Option Nat) (Q : Option Value → zMm → Prop), zSH[x0]? = some (.inl 4) → zWp d zi_33 none 19 [l0, l1, l2, l3] [.ref x0] (zSH, I, L, P) Q = zWM d 34 [.ref x0] (zSH, I, L, P) (fun r h1 => zWp d zi_33 none 22 [l0, l1, l2, l3] (r.toList ++ []) h1 Q)) ∧
    (∀ (d : Nat) (l0 : Value) (l1 : Nat) (l2 : Value) (l3 : Value) (x0 : Int32) (h : zMm) (Q : Option Value → zMm → Prop), zWp d zi_33 none 22 [l0, .ref l1, l2, l3] [.int x0] h Q = zWp d zi_33 none 23 [l0, .ref l1, .int x0, l3] [] h Q) ∧
    (∀ (d : Nat) (l0 : Value) (l1 : Value) (l2 : Value) (l3 : Value)  (h : zMm) (Q : Option Value → zMm → Prop), zWp d zi_33 none 23 [l0, l1, l2, l3] [] h Q = zWp d zi_33 none 24 [l0, l1, l2, l3] [.int 0] h Q) ∧
    (∀ (d : Nat) (l0 : Value) (l1 : Value) (l2 : Int32) (l3 : Value) (x0 : Int32) (h : zMm) (Q : Option Value → zMm → Prop), zWp d zi_33 none 24 [l0, l1, .int l2, l3] [.int x0] h Q = zWp d zi_33 none 25 [l0, l1, .int l2, .int x0] [] h Q) ∧
    (∀ (d : Nat) (l0 : Value) (l1 : Value) (l2 : Value) (l3 : Value) (x0 : Int32) (h : zMm) (Q : Option Value → zMm → Prop), zWp d zi_33 none 26 [l0, l1, l2, l3] [.int x0] h Q = zWp d zi_33 none 28 [l0, l1, l2, l3] [.int 120, .int x0] h Q) ∧
    (∀ (d : Nat) (l0 : Value) (l1 : Value) (l2 : Value) (l3 : Value) (x1 : Int32) (x0 : Int32) (h : zMm) (Q : Option Value → zMm → Prop), zWp d zi_33 none 28 [l0, l1, l2, l3] [.int x1, .int x0] h Q = if x1 ≤ x0 then zWp d zi_33 none 65 [l0, l1, l2, l3] [] h Q else zWp d zi_33 none 31 [l0, l1, l2, l3] [] h Q) ∧
    (∀ (d : Nat) (l0 : Value) (l1 : Value) (l2 : Int32) (l3 : Value)  (h : zMm) (Q : Option Value → zMm → Prop), zWp d zi_33 none 31 [l0, l1, .int l2, l3] [] h Q = zWp d zi_33 none 32 [l0, l1, .int l2, l3] [.int l2] h Q) ∧
    (∀ (d : Nat) (l0 : Value) (l1 : Value) (l2 : Value) (l3 : Value) (x0 : Int32) (h : zMm) (Q : Option Value → zMm → Prop), zWp d zi_33 none 32 [l0, l1, l2, l3] [.int x0] h Q = if x0 = 0 then zWp d zi_33 none 65 [l0, l1, l2, l3] [] h Q else zWp d zi_33 none 35 [l0, l1, l2, l3] [] h Q) ∧
    (∀ (d : Nat) (l0 : Nat) (l1 : Value) (l2 : Value) (l3 : Value)  (h : zMm) (Q : Option Value → zMm → Prop), zWp d zi_33 none 35 [.ref l0, l1, l2, l3] [] h Q = zWp d zi_33 none 36 [.ref l0, l1, l2, l3] [.ref l0] h Q) ∧
    (∀ (d : Nat) (l0 : Value) (l1 : Value) (l2 : Value) (l3 : Value) (x0 : Nat) (I : Nat → Nat → Int32) (L : Nat → Nat → Int64) (P : Nat → Nat → Option Nat) (Q : Option Value → zMm → Prop), zSH[x0]? = some (.inl 4) → zWp d zi_33 none 36 [l0, l1, l2, l3] [.ref x0] (zSH, I, L, P) Q = zWM d 38 [.ref x0] (zSH, I, L, P) (fun r h1 => zWp d zi_33 none 39 [l0, l1, l2, l3] (r.toList ++ []) h1 Q)) ∧
    (∀ (d : Nat) (l0 : Value) (l1 : Value) (l2 : Value) (l3 : Value) (x0 : Int32) (h : zMm) (Q : Option Value → zMm → Prop), zWp d zi_33 none 39 [l0, l1, l2, l3] [.int x0] h Q = zWp d zi_33 none 41 [l0, l1, l2, l3] [.int 59, .int x0] h Q) ∧
    (∀ (d : Nat) (l0 : Value) (l1 : Value) (l2 : Value) (l3 : Value) (x1 : Int32) (x0 : Int32) (h : zMm) (Q : Option Value → zMm → Prop), zWp d zi_33 none 41 [l0, l1, l2, l3] [.int x1, .int x0] h Q = if x0 = x1 then zWp d zi_33 none 44 [l0, l1, l2, l3] [] h Q else zWp d zi_33 none 65 [l0, l1, l2, l3] [] h Q) ∧
    (∀ (d : Nat) (l0 : Nat) (l1 : Value) (l2 : Value) (l3 : Value)  (h : zMm) (Q : Option Value → zMm → Prop), zWp d zi_33 none 44 [.ref l0, l1, l2, l3] [] h Q = zWp d zi_33 none 45 [.ref l0, l1, l2, l3] [.ref l0] h Q) ∧
    (∀ (d : Nat) (l0 : Value) (l1 : Value) (l2 : Value) (l3 : Value) (x0 : Nat) (h : zMm) (Q : Option Value → zMm → Prop), zWp d zi_33 none 45 [l0, l1, l2, l3] [.ref x0] h Q = zWp d zi_33 none 46 [l0, l1, l2, l3] [.ref x0, .ref x0] h Q) ∧
    (∀ (d : Nat) (l0 : Value) (l1 : Value) (l2 : Value) (l3 : Value) (x1 : Nat) (x0 : Nat) (I : Nat → Nat → Int32) (L : Nat → Nat → Int64) (P : Nat → Nat → Option Nat) (Q : Option Value → zMm → Prop), zSH[x1]? = some (.inl 4) → zWp d zi_33 none 46 [l0, l1, l2, l3] [.ref x1, .ref x0] (zSH, I, L, P) Q = zWp d zi_33 none 49 [l0, l1, l2, l3] [.int (I x1 2), .ref x0] (zSH, I, L, P) Q) ∧
    (∀ (d : Nat) (l0 : Value) (l1 : Value) (l2 : Value) (l3 : Value) (x1 : Int32) (x0 : Nat) (h : zMm) (Q : Option Value → zMm → Prop), zWp d zi_33 none 49 [l0, l1, l2, l3] [.int x1, .ref x0] h Q = zWp d zi_33 none 50 [l0, l1, l2, l3] [.int 1, .int x1, .ref x0] h Q) ∧
    (∀ (d : Nat) (l0 : Value) (l1 : Value) (l2 : Value) (l3 : Value) (x2 : Int32) (x1 : Int32) (x0 : Nat) (h : zMm) (Q : Option Value → zMm → Prop), zWp d zi_33 none 50 [l0, l1, l2, l3] [.int x2, .int x1, .ref x0] h Q = zWp d zi_33 none 51 [l0, l1, l2, l3] [.int (x1 + x2), .ref x0] h Q) ∧
    (∀ (d : Nat) (l0 : Value) (l1 : Value) (l2 : Value) (l3 : Value) (x1 : Int32) (x0 : Nat) (I : Nat → Nat → Int32) (L : Nat → Nat → Int64) (P : Nat → Nat → Option Nat) (Q : Option Value → zMm → Prop), zSH[x0]? = some (.inl 4) → zWp d zi_33 none 51 [l0, l1, l2, l3] [.int x1, .ref x0] (zSH, I, L, P) Q = zWp d zi_33 none 54 [l0, l1, l2, l3] [] (zSH, zw I x0 (upd (I x0) 2 x1), L, P) Q) ∧
    (∀ (d : Nat) (l0 : Nat) (l1 : Value) (l2 : Value) (l3 : Value)  (h : zMm) (Q : Option Value → zMm → Prop), zWp d zi_33 none 54 [.ref l0, l1, l2, l3] [] h Q = zWp d zi_33 none 55 [.ref l0, l1, l2, l3] [.ref l0] h Q) ∧
    (∀ (d : Nat) (l0 : Value) (l1 : Value) (l2 : Value) (l3 : Value) (x0 : Nat) (I : Nat → Nat → Int32) (L : Nat → Nat → Int64) (P : Nat → Nat → Option Nat) (Q : Option Value → zMm → Prop), zSH[x0]? = some (.inl 4) → zWp d zi_33 none 55 [l0, l1, l2, l3] [.ref x0] (zSH, I, L, P) Q = zWM d 34 [.ref x0] (zSH, I, L, P) (fun r h1 => zWp d zi_33 none 58 [l0, l1, l2, l3] (r.toList ++ []) h1 Q)) ∧
    (∀ (d : Nat) (l0 : Value) (l1 : Nat) (l2 : Value) (l3 : Value) (x0 : Int32) (h : zMm) (Q : Option Value → zMm → Prop), zWp d zi_33 none 58 [l0, .ref l1, l2, l3] [.int x0] h Q = zWp d zi_33 none 59 [l0, .ref l1, .int x0, l3] [] h Q) ∧
    (∀ (d : Nat) (l0 : Value) (l1 : Value) (l2 : Int32) (l3 : Int32)  (h : zMm) (Q : Option Value → zMm → Prop), zWp d zi_33 none 59 [l0, l1, .int l2, .int l3] [] h Q = zWp d zi_33 none 62 [l0, l1, .int l2, .int (l3 + 1)] [] h Q) ∧
    (∀ (d : Nat) (l0 : Value) (l1 : Value) (l2 : Value) (l3 : Value)  (h : zMm) (Q : Option Value → zMm → Prop), zWp d zi_33 none 62 [l0, l1, l2, l3] [] h Q = zWp d zi_33 none 25 [l0, l1, l2, l3] [] h Q) ∧
    (∀ (d : Nat) (l0 : Value) (l1 : Value) (l2 : Int32) (l3 : Value)  (h : zMm) (Q : Option Value → zMm → Prop), zWp d zi_33 none 65 [l0, l1, .int l2, l3] [] h Q = zWp d zi_33 none 66 [l0, l1, .int l2, l3] [.int l2] h Q) ∧
    (∀ (d : Nat) (l0 : Value) (l1 : Value) (l2 : Value) (l3 : Value) (x0 : Int32) (h : zMm) (Q : Option Value → zMm → Prop), zWp d zi_33 none 66 [l0, l1, l2, l3] [.int x0] h Q = if x0 = 0 then zWp d zi_33 none 84 [l0, l1, l2, l3] [] h Q else zWp d zi_33 none 69 [l0, l1, l2, l3] [] h Q) ∧
    (∀ (d : Nat) (l0 : Nat) (l1 : Value) (l2 : Value) (l3 : Value)  (h : zMm) (Q : Option Value → zMm → Prop), zWp d zi_33 none 69 [.ref l0, l1, l2, l3] [] h Q = zWp d zi_33 none 70 [.ref l0, l1, l2, l3] [.ref l0] h Q) ∧
    (∀ (d : Nat) (l0 : Value) (l1 : Value) (l2 : Value) (l3 : Value) (x0 : Nat) (I : Nat → Nat → Int32) (L : Nat → Nat → Int64) (P : Nat → Nat → Option Nat) (Q : Option Value → zMm → Prop), zSH[x0]? = some (.inl 4) → zWp d zi_33 none 70 [l0, l1, l2, l3] [.ref x0] (zSH, I, L, P) Q = zWp d zi_33 none 73 [l0, l1, l2, l3] [.int (I x0 2)] (zSH, I, L, P) Q) ∧
    (∀ (d : Nat) (l0 : Nat) (l1 : Value) (l2 : Value) (l3 : Value) (x0 : Int32) (h : zMm) (Q : Option Value → zMm → Prop), zWp d zi_33 none 73 [.ref l0, l1, l2, l3] [.int x0] h Q = zWp d zi_33 none 74 [.ref l0, l1, l2, l3] [.ref l0, .int x0] h Q) ∧
    (∀ (d : Nat) (l0 : Value) (l1 : Value) (l2 : Value) (l3 : Value) (x1 : Nat) (x0 : Int32) (I : Nat → Nat → Int32) (L : Nat → Nat → Int64) (P : Nat → Nat → Option Nat) (Q : Option Value → zMm → Prop), zSH[x1]? = some (.inl 4) → zWp d zi_33 none 74 [l0, l1, l2, l3] [.ref x1, .int x0] (zSH, I, L, P) Q = zWp d zi_33 none 77 [l0, l1, l2, l3] [.int (I x1 1), .int x0] (zSH, I, L, P) Q) ∧
    (∀ (d : Nat) (l0 : Value) (l1 : Value) (l2 : Value) (l3 : Value) (x1 : Int32) (x0 : Int32) (h : zMm) (Q : Option Value → zMm → Prop), zWp d zi_33 none 77 [l0, l1, l2, l3] [.int x1, .int x0] h Q = if x0 = x1 then zWp d zi_33 none 80 [l0, l1, l2, l3] [] h Q else zWp d zi_33 none 84 [l0, l1, l2, l3] [] h Q) ∧
    (∀ (d : Nat) (l0 : Value) (l1 : Value) (l2 : Value) (l3 : Value)  (h : zMm) (Q : Option Value → zMm → Prop), zWp d zi_33 none 80 [l0, l1, l2, l3] [] h Q = zWp d zi_33 none 81 [l0, l1, l2, l3] [.int 1] h Q) ∧
    (∀ (d : Nat) (l0 : Value) (l1 : Value) (l2 : Value) (l3 : Value) (x0 : Int32) (h : zMm) (Q : Option Value → zMm → Prop), zWp d zi_33 none 81 [l0, l1, l2, l3] [.int x0] h Q = zWp d zi_33 none 85 [l0, l1, l2, l3] [.int x0] h Q) ∧
    (∀ (d : Nat) (l0 : Value) (l1 : Value) (l2 : Value) (l3 : Value)  (h : zMm) (Q : Option Value → zMm → Prop), zWp d zi_33 none 84 [l0, l1, l2, l3] [] h Q = zWp d zi_33 none 85 [l0, l1, l2, l3] [.int 0] h Q) ∧
    (∀ (d : Nat) (l0 : Value) (l1 : Value) (l2 : Value) (l3 : Value) (x0 : Int32) (h : zMm) (Q : Option Value → zMm → Prop), x0 = 0 ∨ x0 = 1 → zWp d zi_33 none 85 [l0, l1, l2, l3] [.int x0] h Q = Q (some (.int x0)) h) :=
  ⟨(fun d l0 l1 l2 l3  h Q => zr_aload_n rfl rfl),
   (fun d l0 l1 l2 l3 x0 h Q => zr_aload_n rfl rfl),
   (fun d l0 l1 l2 l3 x1 x0 I L P Q p0 => zr_putO rfl lf_4_15 (by decide) rfl p0),
   (fun d l0 l1 l2 l3  h Q => zr_aload_n rfl rfl),
   (fun d l0 l1 l2 l3 x0 I L P Q p0 => zr_getQ rfl lf_4_15 (fun _ _ _ => rfl) p0),
   (fun d l0 l1 l2 l3 x0 h Q => zr_iconst rfl (by decide)),
   (fun d l0 l1 l2 l3 x1 x0 I L P Q p0 => zr_putI rfl lf_4_19 (by decide) rfl p0),
   (fun d l0 l1 l2 l3  h Q => zr_aload_n rfl rfl),
   (fun d l0 l1 l2 l3 x0 h Q => zr_iconst rfl (by decide)),
   (fun d l0 l1 l2 l3 x1 x0 I L P Q p0 => zr_putI rfl lf_4_25 (by decide) rfl p0),
   (fun d l0 l1 l2 l3  h Q => zr_aload_n rfl rfl),
   (fun d l0 l1 l2 l3 x0 I L P Q p0 => zr_vir (as := []) (rest := []) rfl lm_4_28 m_34 kd_34 rfl (Nat.le_of_ble_eq_true rfl) p0),
   (fun d l0 l1 l2 l3 x0 h Q => zr_istore_n (n := 2) rfl (Nat.le_of_ble_eq_true rfl) rfl),
   (fun d l0 l1 l2 l3  h Q => zr_iconst rfl (by decide)),
   (fun d l0 l1 l2 l3 x0 h Q => zr_istore_n (n := 3) rfl (Nat.le_of_ble_eq_true rfl) rfl),
   (fun d l0 l1 l2 l3 x0 h Q => zr_bipush rfl (by decide)),
   (fun d l0 l1 l2 l3 x1 x0 h Q => zr_ic_ge rfl (by decide)),
   (fun d l0 l1 l2 l3  h Q => zr_iload_n rfl rfl),
   (fun d l0 l1 l2 l3 x0 h Q => zr_if_eq rfl (by decide)),
   (fun d l0 l1 l2 l3  h Q => zr_aload_n rfl rfl),
   (fun d l0 l1 l2 l3 x0 I L P Q p0 => zr_vir (as := []) (rest := []) rfl lm_4_32 m_38 kd_38 rfl (Nat.le_of_ble_eq_true rfl) p0),
   (fun d l0 l1 l2 l3 x0 h Q => zr_bipush rfl (by decide)),
   (fun d l0 l1 l2 l3 x1 x0 h Q => zr_ic_ne rfl (by decide)),
   (fun d l0 l1 l2 l3  h Q => zr_aload_n rfl rfl),
   (fun d l0 l1 l2 l3 x0 h Q => zr_dup rfl rfl),
   (fun d l0 l1 l2 l3 x1 x0 I L P Q p0 => zr_getI rfl lf_4_25 (fun _ _ _ => rfl) p0),
   (fun d l0 l1 l2 l3 x1 x0 h Q => zr_iconst rfl (by decide)),
   (fun d l0 l1 l2 l3 x2 x1 x0 h Q => zr_iadd rfl),
   (fun d l0 l1 l2 l3 x1 x0 I L P Q p0 => zr_putI rfl lf_4_25 (by decide) rfl p0),
   (fun d l0 l1 l2 l3  h Q => zr_aload_n rfl rfl),
   (fun d l0 l1 l2 l3 x0 I L P Q p0 => zr_vir (as := []) (rest := []) rfl lm_4_28 m_34 kd_34 rfl (Nat.le_of_ble_eq_true rfl) p0),
   (fun d l0 l1 l2 l3 x0 h Q => zr_istore_n (n := 2) rfl (Nat.le_of_ble_eq_true rfl) rfl),
   (fun d l0 l1 l2 l3  h Q => zr_iinc (n := 3) (kc := 1) rfl rfl (Nat.le_of_ble_eq_true rfl) rfl (by decide)),
   (fun d l0 l1 l2 l3  h Q => zr_goto rfl (by decide)),
   (fun d l0 l1 l2 l3  h Q => zr_iload_n rfl rfl),
   (fun d l0 l1 l2 l3 x0 h Q => zr_if_eq rfl (by decide)),
   (fun d l0 l1 l2 l3  h Q => zr_aload_n rfl rfl),
   (fun d l0 l1 l2 l3 x0 I L P Q p0 => zr_getI rfl lf_4_25 (fun _ _ _ => rfl) p0),
   (fun d l0 l1 l2 l3 x0 h Q => zr_aload_n rfl rfl),
   (fun d l0 l1 l2 l3 x1 x0 I L P Q p0 => zr_getI rfl lf_4_36 (fun _ _ _ => rfl) p0),
   (fun d l0 l1 l2 l3 x1 x0 h Q => zr_ic_ne rfl (by decide)),
   (fun d l0 l1 l2 l3  h Q => zr_iconst rfl (by decide)),
   (fun d l0 l1 l2 l3 x0 h Q => zr_goto rfl (by decide)),
   (fun d l0 l1 l2 l3  h Q => zr_iconst rfl (by decide)),
   (fun d l0 l1 l2 l3 x0 h Q p0 => zr_zret rfl rfl p0)⟩
theorem H_X4_reads_25 : ∀ (d : Nat) (l0 : Value) (l1 : Value) (l2 : Value) (l3 : Int32)  (h : zMm) (Q : Option Value → zMm → Prop), zWp d zi_33 none 25 [l0, l1, l2, .int l3] [] h Q = zWp d zi_33 none 26 [l0, l1, l2, .int l3] [.int l3] h Q := fun d l0 l1 l2 l3  h Q => zr_iload_n rfl rfl
theorem E_X4_line : ∀ (d : Nat) (a0 : Nat) (h : zMm) (Q : Option Value → zMm → Prop), zWM (d + 1) 34 [.ref a0] h Q = zWp d zi_34 none 0 [.ref a0] [] h Q := fun d a0 h Q => zW_M m_34 (Nat.le_of_ble_eq_true rfl) rfl
set_option maxRecDepth 100000 in
theorem R_X4_line :
    (∀ (d : Nat) (l0 : Nat)  (h : zMm) (Q : Option Value → zMm → Prop), zWp d zi_34 none 0 [.ref l0] [] h Q = zWp d zi_34 none 1 [.ref l0] [.ref l0] h Q) ∧
    (∀ (d : Nat) (l0 : Value) (x0 : Nat) (h : zMm) (Q : Option Value → zMm → Prop), zWp d zi_34 none 1 [l0] [.ref x0] h Q = zWp d zi_34 none 2 [l0] [.int 0, .ref x0] h Q) ∧
    (∀ (d : Nat) (l0 : Value) (x1 : Int32) (x0 : Nat) (h : zMm) (Q : Option Value → zMm → Prop), zWp d zi_34 none 2 [l0] [.int x1, .ref x0] h Q = zWp d zi_34 none 3 [l0] [.int 0, .int x1, .ref x0] h Q) ∧
    (∀ (d : Nat) (l0 : Value) (x2 : Int32) (x1 : Int32) (x0 : Nat) (I : Nat → Nat → Int32) (L : Nat → Nat → Int64) (P : Nat → Nat → Option Nat) (Q : Option Value → zMm → Prop), zSH[x0]? = some (.inl 4) → zWp d zi_34 none 3 [l0] [.int x2, .int x1, .ref x0] (zSH, I, L, P) Q = zWM d 35 [.ref x0, .int x1, .int x2] (zSH, I, L, P) (fun r h1 => zWp d zi_34 none 6 [l0] (r.toList ++ []) h1 Q)) ∧
    (∀ (d : Nat) (l0 : Value) (x0 : Int32) (h : zMm) (Q : Option Value → zMm → Prop), zWp d zi_34 none 6 [l0] [.int x0] h Q = if x0 = 0 then zWp d zi_34 none 9 [l0] [] h Q else zWp d zi_34 none 11 [l0] [] h Q) ∧
    (∀ (d : Nat) (l0 : Value)  (h : zMm) (Q : Option Value → zMm → Prop), zWp d zi_34 none 9 [l0] [] h Q = zWp d zi_34 none 10 [l0] [.int 0] h Q) ∧
    (∀ (d : Nat) (l0 : Value) (x0 : Int32) (h : zMm) (Q : Option Value → zMm → Prop), x0 = 0 ∨ x0 = 1 → zWp d zi_34 none 10 [l0] [.int x0] h Q = Q (some (.int x0)) h) ∧
    (∀ (d : Nat) (l0 : Nat)  (h : zMm) (Q : Option Value → zMm → Prop), zWp d zi_34 none 11 [.ref l0] [] h Q = zWp d zi_34 none 12 [.ref l0] [.ref l0] h Q) ∧
    (∀ (d : Nat) (l0 : Value) (x0 : Nat) (I : Nat → Nat → Int32) (L : Nat → Nat → Int64) (P : Nat → Nat → Option Nat) (Q : Option Value → zMm → Prop), zSH[x0]? = some (.inl 4) → zWp d zi_34 none 12 [l0] [.ref x0] (zSH, I, L, P) Q = zWM d 38 [.ref x0] (zSH, I, L, P) (fun r h1 => zWp d zi_34 none 15 [l0] (r.toList ++ []) h1 Q)) ∧
    (∀ (d : Nat) (l0 : Value) (x0 : Int32) (h : zMm) (Q : Option Value → zMm → Prop), zWp d zi_34 none 15 [l0] [.int x0] h Q = zWp d zi_34 none 17 [l0] [.int 63, .int x0] h Q) ∧
    (∀ (d : Nat) (l0 : Value) (x1 : Int32) (x0 : Int32) (h : zMm) (Q : Option Value → zMm → Prop), zWp d zi_34 none 17 [l0] [.int x1, .int x0] h Q = if x0 = x1 then zWp d zi_34 none 20 [l0] [] h Q else zWp d zi_34 none 51 [l0] [] h Q) ∧
    (∀ (d : Nat) (l0 : Nat)  (h : zMm) (Q : Option Value → zMm → Prop), zWp d zi_34 none 20 [.ref l0] [] h Q = zWp d zi_34 none 21 [.ref l0] [.ref l0] h Q) ∧
    (∀ (d : Nat) (l0 : Value) (x0 : Nat) (h : zMm) (Q : Option Value → zMm → Prop), zWp d zi_34 none 21 [l0] [.ref x0] h Q = zWp d zi_34 none 22 [l0] [.ref x0, .ref x0] h Q) ∧
    (∀ (d : Nat) (l0 : Value) (x1 : Nat) (x0 : Nat) (I : Nat → Nat → Int32) (L : Nat → Nat → Int64) (P : Nat → Nat → Option Nat) (Q : Option Value → zMm → Prop), zSH[x1]? = some (.inl 4) → zWp d zi_34 none 22 [l0] [.ref x1, .ref x0] (zSH, I, L, P) Q = zWp d zi_34 none 25 [l0] [.int (I x1 2), .ref x0] (zSH, I, L, P) Q) ∧
    (∀ (d : Nat) (l0 : Value) (x1 : Int32) (x0 : Nat) (h : zMm) (Q : Option Value → zMm → Prop), zWp d zi_34 none 25 [l0] [.int x1, .ref x0] h Q = zWp d zi_34 none 26 [l0] [.int 1, .int x1, .ref x0] h Q) ∧
    (∀ (d : Nat) (l0 : Value) (x2 : Int32) (x1 : Int32) (x0 : Nat) (h : zMm) (Q : Option Value → zMm → Prop), zWp d zi_34 none 26 [l0] [.int x2, .int x1, .ref x0] h Q = zWp d zi_34 none 27 [l0] [.int (x1 + x2), .ref x0] h Q) ∧
    (∀ (d : Nat) (l0 : Value) (x1 : Int32) (x0 : Nat) (I : Nat → Nat → Int32) (L : Nat → Nat → Int64) (P : Nat → Nat → Option Nat) (Q : Option Value → zMm → Prop), zSH[x0]? = some (.inl 4) → zWp d zi_34 none 27 [l0] [.int x1, .ref x0] (zSH, I, L, P) Q = zWp d zi_34 none 30 [l0] [] (zSH, zw I x0 (upd (I x0) 2 x1), L, P) Q) ∧
    (∀ (d : Nat) (l0 : Nat)  (h : zMm) (Q : Option Value → zMm → Prop), zWp d zi_34 none 30 [.ref l0] [] h Q = zWp d zi_34 none 31 [.ref l0] [.ref l0] h Q) ∧
    (∀ (d : Nat) (l0 : Value) (x0 : Nat) (I : Nat → Nat → Int32) (L : Nat → Nat → Int64) (P : Nat → Nat → Option Nat) (Q : Option Value → zMm → Prop), zSH[x0]? = some (.inl 4) → zWp d zi_34 none 31 [l0] [.ref x0] (zSH, I, L, P) Q = zWp d zi_34 none 34 [l0] [va_rf (P x0 3)] (zSH, I, L, P) Q) ∧
    (∀ (d : Nat) (l0 : Value) (x0 : Nat) (h : zMm) (Q : Option Value → zMm → Prop), zWp d zi_34 none 34 [l0] [.ref x0] h Q = zWp d zi_34 none 36 [l0] [.int 63, .ref x0] h Q) ∧
    (∀ (d : Nat) (l0 : Value) (x1 : Int32) (x0 : Nat) (h : zMm) (Q : Option Value → zMm → Prop), zWp d zi_34 none 36 [l0] [.int x1, .ref x0] h Q = zWp d zi_34 none 37 [l0] [.int 0, .int x1, .ref x0] h Q) ∧
    (∀ (d : Nat) (l0 : Value) (x2 : Int32) (x1 : Int32) (x0 : Nat) (I : Nat → Nat → Int32) (L : Nat → Nat → Int64) (P : Nat → Nat → Option Nat) (Q : Option Value → zMm → Prop), zSH[x0]? = some (.inl 5) → zWp d zi_34 none 37 [l0] [.int x2, .int x1, .ref x0] (zSH, I, L, P) Q = zWM d 43 [.ref x0, .int x1, .int x2] (zSH, I, L, P) (fun r h1 => zWp d zi_34 none 40 [l0] (r.toList ++ []) h1 Q)) ∧
    (∀ (d : Nat) (l0 : Nat)  (h : zMm) (Q : Option Value → zMm → Prop), zWp d zi_34 none 40 [.ref l0] [] h Q = zWp d zi_34 none 41 [.ref l0] [.ref l0] h Q) ∧
    (∀ (d : Nat) (l0 : Value) (x0 : Nat) (h : zMm) (Q : Option Value → zMm → Prop), zWp d zi_34 none 41 [l0] [.ref x0] h Q = zWp d zi_34 none 42 [l0] [.int 0, .ref x0] h Q) ∧
    (∀ (d : Nat) (l0 : Value) (x1 : Int32) (x0 : Nat) (h : zMm) (Q : Option Value → zMm → Prop), zWp d zi_34 none 42 [l0] [.int x1, .ref x0] h Q = zWp d zi_34 none 43 [l0] [.int 0, .int x1, .ref x0] h Q) ∧
    (∀ (d : Nat) (l0 : Value) (x2 : Int32) (x1 : Int32) (x0 : Nat) (I : Nat → Nat → Int32) (L : Nat → Nat → Int64) (P : Nat → Nat → Option Nat) (Q : Option Value → zMm → Prop), zSH[x0]? = some (.inl 4) → zWp d zi_34 none 43 [l0] [.int x2, .int x1, .ref x0] (zSH, I, L, P) Q = zWM d 35 [.ref x0, .int x1, .int x2] (zSH, I, L, P) (fun r h1 => zWp d zi_34 none 46 [l0] (r.toList ++ []) h1 Q)) ∧
    (∀ (d : Nat) (l0 : Value) (x0 : Int32) (h : zMm) (Q : Option Value → zMm → Prop), zWp d zi_34 none 46 [l0] [.int x0] h Q = if x0 = 0 then zWp d zi_34 none 49 [l0] [] h Q else zWp d zi_34 none 51 [l0] [] h Q) ∧
    (∀ (d : Nat) (l0 : Value)  (h : zMm) (Q : Option Value → zMm → Prop), zWp d zi_34 none 49 [l0] [] h Q = zWp d zi_34 none 50 [l0] [.int 0] h Q) ∧
    (∀ (d : Nat) (l0 : Value) (x0 : Int32) (h : zMm) (Q : Option Value → zMm → Prop), x0 = 0 ∨ x0 = 1 → zWp d zi_34 none 50 [l0] [.int x0] h Q = Q (some (.int x0)) h) ∧
    (∀ (d : Nat) (l0 : Nat)  (h : zMm) (Q : Option Value → zMm → Prop), zWp d zi_34 none 51 [.ref l0] [] h Q = zWp d zi_34 none 52 [.ref l0] [.ref l0] h Q) ∧
    (∀ (d : Nat) (l0 : Value) (x0 : Nat) (I : Nat → Nat → Int32) (L : Nat → Nat → Int64) (P : Nat → Nat → Option Nat) (Q : Option Value → zMm → Prop), zSH[x0]? = some (.inl 4) → zWp d zi_34 none 52 [l0] [.ref x0] (zSH, I, L, P) Q = zWp d zi_34 none 55 [l0] [va_rf (P x0 3)] (zSH, I, L, P) Q) ∧
    (∀ (d : Nat) (l0 : Value) (x0 : Nat) (h : zMm) (Q : Option Value → zMm → Prop), zWp d zi_34 none 55 [l0] [.ref x0] h Q = zWp d zi_34 none 57 [l0] [.int 59, .ref x0] h Q) ∧
    (∀ (d : Nat) (l0 : Value) (x1 : Int32) (x0 : Nat) (h : zMm) (Q : Option Value → zMm → Prop), zWp d zi_34 none 57 [l0] [.int x1, .ref x0] h Q = zWp d zi_34 none 58 [l0] [.int 0, .int x1, .ref x0] h Q) ∧
    (∀ (d : Nat) (l0 : Value) (x2 : Int32) (x1 : Int32) (x0 : Nat) (I : Nat → Nat → Int32) (L : Nat → Nat → Int64) (P : Nat → Nat → Option Nat) (Q : Option Value → zMm → Prop), zSH[x0]? = some (.inl 5) → zWp d zi_34 none 58 [l0] [.int x2, .int x1, .ref x0] (zSH, I, L, P) Q = zWM d 43 [.ref x0, .int x1, .int x2] (zSH, I, L, P) (fun r h1 => zWp d zi_34 none 61 [l0] (r.toList ++ []) h1 Q)) ∧
    (∀ (d : Nat) (l0 : Value)  (h : zMm) (Q : Option Value → zMm → Prop), zWp d zi_34 none 61 [l0] [] h Q = zWp d zi_34 none 62 [l0] [.int 1] h Q) ∧
    (∀ (d : Nat) (l0 : Value) (x0 : Int32) (h : zMm) (Q : Option Value → zMm → Prop), x0 = 0 ∨ x0 = 1 → zWp d zi_34 none 62 [l0] [.int x0] h Q = Q (some (.int x0)) h) :=
  ⟨(fun d l0  h Q => zr_aload_n rfl rfl),
   (fun d l0 x0 h Q => zr_iconst rfl (by decide)),
   (fun d l0 x1 x0 h Q => zr_iconst rfl (by decide)),
   (fun d l0 x2 x1 x0 I L P Q p0 => zr_vir (as := [.int x2, .int x1]) (rest := []) rfl lm_4_37 m_35 kd_35 rfl (Nat.le_of_ble_eq_true rfl) p0),
   (fun d l0 x0 h Q => zr_if_ne rfl (by decide)),
   (fun d l0  h Q => zr_iconst rfl (by decide)),
   (fun d l0 x0 h Q p0 => zr_zret rfl rfl p0),
   (fun d l0  h Q => zr_aload_n rfl rfl),
   (fun d l0 x0 I L P Q p0 => zr_vir (as := []) (rest := []) rfl lm_4_32 m_38 kd_38 rfl (Nat.le_of_ble_eq_true rfl) p0),
   (fun d l0 x0 h Q => zr_bipush rfl (by decide)),
   (fun d l0 x1 x0 h Q => zr_ic_ne rfl (by decide)),
   (fun d l0  h Q => zr_aload_n rfl rfl),
   (fun d l0 x0 h Q => zr_dup rfl rfl),
   (fun d l0 x1 x0 I L P Q p0 => zr_getI rfl lf_4_25 (fun _ _ _ => rfl) p0),
   (fun d l0 x1 x0 h Q => zr_iconst rfl (by decide)),
   (fun d l0 x2 x1 x0 h Q => zr_iadd rfl),
   (fun d l0 x1 x0 I L P Q p0 => zr_putI rfl lf_4_25 (by decide) rfl p0),
   (fun d l0  h Q => zr_aload_n rfl rfl),
   (fun d l0 x0 I L P Q p0 => zr_getQ rfl lf_4_15 (fun _ _ _ => rfl) p0),
   (fun d l0 x0 h Q => zr_bipush rfl (by decide)),
   (fun d l0 x1 x0 h Q => zr_iconst rfl (by decide)),
   (fun d l0 x2 x1 x0 I L P Q p0 => zr_vir (as := [.int x2, .int x1]) (rest := []) rfl lm_4_41 m_43 kd_43 rfl (Nat.le_of_ble_eq_true rfl) p0),
   (fun d l0  h Q => zr_aload_n rfl rfl),
   (fun d l0 x0 h Q => zr_iconst rfl (by decide)),
   (fun d l0 x1 x0 h Q => zr_iconst rfl (by decide)),
   (fun d l0 x2 x1 x0 I L P Q p0 => zr_vir (as := [.int x2, .int x1]) (rest := []) rfl lm_4_37 m_35 kd_35 rfl (Nat.le_of_ble_eq_true rfl) p0),
   (fun d l0 x0 h Q => zr_if_ne rfl (by decide)),
   (fun d l0  h Q => zr_iconst rfl (by decide)),
   (fun d l0 x0 h Q p0 => zr_zret rfl rfl p0),
   (fun d l0  h Q => zr_aload_n rfl rfl),
   (fun d l0 x0 I L P Q p0 => zr_getQ rfl lf_4_15 (fun _ _ _ => rfl) p0),
   (fun d l0 x0 h Q => zr_bipush rfl (by decide)),
   (fun d l0 x1 x0 h Q => zr_iconst rfl (by decide)),
   (fun d l0 x2 x1 x0 I L P Q p0 => zr_vir (as := [.int x2, .int x1]) (rest := []) rfl lm_4_41 m_43 kd_43 rfl (Nat.le_of_ble_eq_true rfl) p0),
   (fun d l0  h Q => zr_iconst rfl (by decide)),
   (fun d l0 x0 h Q p0 => zr_zret rfl rfl p0)⟩
theorem E_X4_chain : ∀ (d : Nat) (a0 : Nat) (a1 : Int32) (a2 : Int32) (h : zMm) (Q : Option Value → zMm → Prop), zWM (d + 1) 35 [.ref a0, .int a1, .int a2] h Q = zWp d zi_35 none 0 [.ref a0, .int a1, .int a2, .retAddr 0, .retAddr 0, .retAddr 0] [] h Q := fun d a0 a1 a2 h Q => zW_M m_35 (Nat.le_of_ble_eq_true rfl) rfl
set_option maxRecDepth 100000 in
theorem R_X4_chain :
    (∀ (d : Nat) (l0 : Value) (l1 : Int32) (l2 : Value) (l3 : Value) (l4 : Value) (l5 : Value)  (h : zMm) (Q : Option Value → zMm → Prop), zWp d zi_35 none 0 [l0, .int l1, l2, l3, l4, l5] [] h Q = zWp d zi_35 none 1 [l0, .int l1, l2, l3, l4, l5] [.int l1] h Q) ∧
    (∀ (d : Nat) (l0 : Value) (l1 : Value) (l2 : Value) (l3 : Value) (l4 : Value) (l5 : Value) (x0 : Int32) (h : zMm) (Q : Option Value → zMm → Prop), zWp d zi_35 none 1 [l0, l1, l2, l3, l4, l5] [.int x0] h Q = zWp d zi_35 none 2 [l0, l1, l2, l3, l4, l5] [.int 5, .int x0] h Q) ∧
    (∀ (d : Nat) (l0 : Value) (l1 : Value) (l2 : Value) (l3 : Value) (l4 : Value) (l5 : Value) (x1 : Int32) (x0 : Int32) (h : zMm) (Q : Option Value → zMm → Prop), zWp d zi_35 none 2 [l0, l1, l2, l3, l4, l5] [.int x1, .int x0] h Q = if x0 < x1 then zWp d zi_35 none 11 [l0, l1, l2, l3, l4, l5] [] h Q else zWp d zi_35 none 5 [l0, l1, l2, l3, l4, l5] [] h Q) ∧
    (∀ (d : Nat) (l0 : Nat) (l1 : Value) (l2 : Value) (l3 : Value) (l4 : Value) (l5 : Value)  (h : zMm) (Q : Option Value → zMm → Prop), zWp d zi_35 none 5 [.ref l0, l1, l2, l3, l4, l5] [] h Q = zWp d zi_35 none 6 [.ref l0, l1, l2, l3, l4, l5] [.ref l0] h Q) ∧
    (∀ (d : Nat) (l0 : Value) (l1 : Value) (l2 : Int32) (l3 : Value) (l4 : Value) (l5 : Value) (x0 : Nat) (h : zMm) (Q : Option Value → zMm → Prop), zWp d zi_35 none 6 [l0, l1, .int l2, l3, l4, l5] [.ref x0] h Q = zWp d zi_35 none 7 [l0, l1, .int l2, l3, l4, l5] [.int l2, .ref x0] h Q) ∧
    (∀ (d : Nat) (l0 : Value) (l1 : Value) (l2 : Value) (l3 : Value) (l4 : Value) (l5 : Value) (x1 : Int32) (x0 : Nat) (I : Nat → Nat → Int32) (L : Nat → Nat → Int64) (P : Nat → Nat → Option Nat) (Q : Option Value → zMm → Prop), zSH[x0]? = some (.inl 4) → zWp d zi_35 none 7 [l0, l1, l2, l3, l4, l5] [.int x1, .ref x0] (zSH, I, L, P) Q = zWM d 36 [.ref x0, .int x1] (zSH, I, L, P) (fun r h1 => zWp d zi_35 none 10 [l0, l1, l2, l3, l4, l5] (r.toList ++ []) h1 Q)) ∧
    (∀ (d : Nat) (l0 : Value) (l1 : Value) (l2 : Value) (l3 : Value) (l4 : Value) (l5 : Value) (x0 : Int32) (h : zMm) (Q : Option Value → zMm → Prop), x0 = 0 ∨ x0 = 1 → zWp d zi_35 none 10 [l0, l1, l2, l3, l4, l5] [.int x0] h Q = Q (some (.int x0)) h) ∧
    (∀ (d : Nat) (l0 : Nat) (l1 : Value) (l2 : Value) (l3 : Value) (l4 : Value) (l5 : Value)  (h : zMm) (Q : Option Value → zMm → Prop), zWp d zi_35 none 11 [.ref l0, l1, l2, l3, l4, l5] [] h Q = zWp d zi_35 none 12 [.ref l0, l1, l2, l3, l4, l5] [.ref l0] h Q) ∧
    (∀ (d : Nat) (l0 : Value) (l1 : Int32) (l2 : Value) (l3 : Value) (l4 : Value) (l5 : Value) (x0 : Nat) (h : zMm) (Q : Option Value → zMm → Prop), zWp d zi_35 none 12 [l0, .int l1, l2, l3, l4, l5] [.ref x0] h Q = zWp d zi_35 none 13 [l0, .int l1, l2, l3, l4, l5] [.int l1, .ref x0] h Q) ∧
    (∀ (d : Nat) (l0 : Value) (l1 : Value) (l2 : Value) (l3 : Value) (l4 : Value) (l5 : Value) (x1 : Int32) (x0 : Nat) (h : zMm) (Q : Option Value → zMm → Prop), zWp d zi_35 none 13 [l0, l1, l2, l3, l4, l5] [.int x1, .ref x0] h Q = zWp d zi_35 none 14 [l0, l1, l2, l3, l4, l5] [.int 1, .int x1, .ref x0] h Q) ∧
    (∀ (d : Nat) (l0 : Value) (l1 : Value) (l2 : Value) (l3 : Value) (l4 : Value) (l5 : Value) (x2 : Int32) (x1 : Int32) (x0 : Nat) (h : zMm) (Q : Option Value → zMm → Prop), zWp d zi_35 none 14 [l0, l1, l2, l3, l4, l5] [.int x2, .int x1, .ref x0] h Q = zWp d zi_35 none 15 [l0, l1, l2, l3, l4, l5] [.int (x1 + x2), .ref x0] h Q) ∧
    (∀ (d : Nat) (l0 : Value) (l1 : Value) (l2 : Int32) (l3 : Value) (l4 : Value) (l5 : Value) (x1 : Int32) (x0 : Nat) (h : zMm) (Q : Option Value → zMm → Prop), zWp d zi_35 none 15 [l0, l1, .int l2, l3, l4, l5] [.int x1, .ref x0] h Q = zWp d zi_35 none 16 [l0, l1, .int l2, l3, l4, l5] [.int l2, .int x1, .ref x0] h Q) ∧
    (∀ (d : Nat) (l0 : Value) (l1 : Value) (l2 : Value) (l3 : Value) (l4 : Value) (l5 : Value) (x2 : Int32) (x1 : Int32) (x0 : Nat) (I : Nat → Nat → Int32) (L : Nat → Nat → Int64) (P : Nat → Nat → Option Nat) (Q : Option Value → zMm → Prop), zSH[x0]? = some (.inl 4) → zWp d zi_35 none 16 [l0, l1, l2, l3, l4, l5] [.int x2, .int x1, .ref x0] (zSH, I, L, P) Q = zWM d 35 [.ref x0, .int x1, .int x2] (zSH, I, L, P) (fun r h1 => zWp d zi_35 none 19 [l0, l1, l2, l3, l4, l5] (r.toList ++ []) h1 Q)) ∧
    (∀ (d : Nat) (l0 : Value) (l1 : Value) (l2 : Value) (l3 : Value) (l4 : Value) (l5 : Value) (x0 : Int32) (h : zMm) (Q : Option Value → zMm → Prop), zWp d zi_35 none 19 [l0, l1, l2, l3, l4, l5] [.int x0] h Q = if x0 = 0 then zWp d zi_35 none 22 [l0, l1, l2, l3, l4, l5] [] h Q else zWp d zi_35 none 24 [l0, l1, l2, l3, l4, l5] [] h Q) ∧
    (∀ (d : Nat) (l0 : Value) (l1 : Value) (l2 : Value) (l3 : Value) (l4 : Value) (l5 : Value)  (h : zMm) (Q : Option Value → zMm → Prop), zWp d zi_35 none 22 [l0, l1, l2, l3, l4, l5] [] h Q = zWp d zi_35 none 23 [l0, l1, l2, l3, l4, l5] [.int 0] h Q) ∧
    (∀ (d : Nat) (l0 : Value) (l1 : Value) (l2 : Value) (l3 : Value) (l4 : Value) (l5 : Value) (x0 : Int32) (h : zMm) (Q : Option Value → zMm → Prop), x0 = 0 ∨ x0 = 1 → zWp d zi_35 none 23 [l0, l1, l2, l3, l4, l5] [.int x0] h Q = Q (some (.int x0)) h) ∧
    (∀ (d : Nat) (l0 : Value) (l1 : Int32) (l2 : Value) (l3 : Value) (l4 : Value) (l5 : Value)  (h : zMm) (Q : Option Value → zMm → Prop), zWp d zi_35 none 24 [l0, .int l1, l2, l3, l4, l5] [] h Q = zWp d zi_35 none 25 [l0, .int l1, l2, l3, l4, l5] [.int l1] h Q) ∧
    (∀ (d : Nat) (l0 : Value) (l1 : Value) (l2 : Value) (l3 : Value) (l4 : Value) (l5 : Value) (x0 : Int32) (h : zMm) (Q : Option Value → zMm → Prop), zWp d zi_35 none 25 [l0, l1, l2, l3, l4, l5] [.int x0] h Q = zWp d zi_35 none 26 [l0, l1, l2, l3, l4, l5] [.int 2, .int x0] h Q) ∧
    (∀ (d : Nat) (l0 : Value) (l1 : Value) (l2 : Value) (l3 : Value) (l4 : Value) (l5 : Value) (x1 : Int32) (x0 : Int32) (h : zMm) (Q : Option Value → zMm → Prop), zWp d zi_35 none 26 [l0, l1, l2, l3, l4, l5] [.int x1, .int x0] h Q = if x0 = x1 then zWp d zi_35 none 29 [l0, l1, l2, l3, l4, l5] [] h Q else zWp d zi_35 none 33 [l0, l1, l2, l3, l4, l5] [] h Q) ∧
    (∀ (d : Nat) (l0 : Value) (l1 : Value) (l2 : Value) (l3 : Value) (l4 : Value) (l5 : Value)  (h : zMm) (Q : Option Value → zMm → Prop), zWp d zi_35 none 29 [l0, l1, l2, l3, l4, l5] [] h Q = zWp d zi_35 none 30 [l0, l1, l2, l3, l4, l5] [.int 1] h Q) ∧
    (∀ (d : Nat) (l0 : Value) (l1 : Value) (l2 : Value) (l3 : Value) (l4 : Value) (l5 : Value) (x0 : Int32) (h : zMm) (Q : Option Value → zMm → Prop), zWp d zi_35 none 30 [l0, l1, l2, l3, l4, l5] [.int x0] h Q = zWp d zi_35 none 35 [l0, l1, l2, l3, l4, l5] [.int x0] h Q) ∧
    (∀ (d : Nat) (l0 : Value) (l1 : Value) (l2 : Value) (l3 : Value) (l4 : Value) (l5 : Value)  (h : zMm) (Q : Option Value → zMm → Prop), zWp d zi_35 none 33 [l0, l1, l2, l3, l4, l5] [] h Q = zWp d zi_35 none 35 [l0, l1, l2, l3, l4, l5] [.int 120] h Q) ∧
    (∀ (d : Nat) (l0 : Value) (l1 : Value) (l2 : Int32) (l3 : Value) (l4 : Value) (l5 : Value) (x0 : Int32) (h : zMm) (Q : Option Value → zMm → Prop), zWp d zi_35 none 35 [l0, l1, .int l2, l3, l4, l5] [.int x0] h Q = zWp d zi_35 none 36 [l0, l1, .int l2, .int x0, l4, l5] [] h Q) ∧
    (∀ (d : Nat) (l0 : Value) (l1 : Value) (l2 : Value) (l3 : Value) (l4 : Value) (l5 : Value)  (h : zMm) (Q : Option Value → zMm → Prop), zWp d zi_35 none 36 [l0, l1, l2, l3, l4, l5] [] h Q = zWp d zi_35 none 37 [l0, l1, l2, l3, l4, l5] [.int 0] h Q) ∧
    (∀ (d : Nat) (l0 : Value) (l1 : Value) (l2 : Value) (l3 : Int32) (l4 : Value) (l5 : Value) (x0 : Int32) (h : zMm) (Q : Option Value → zMm → Prop), zWp d zi_35 none 37 [l0, l1, l2, .int l3, l4, l5] [.int x0] h Q = zWp d zi_35 none 39 [l0, l1, l2, .int l3, .int x0, l5] [] h Q) ∧
    (∀ (d : Nat) (l0 : Value) (l1 : Value) (l2 : Value) (l3 : Int32) (l4 : Value) (l5 : Value) (x0 : Int32) (h : zMm) (Q : Option Value → zMm → Prop), zWp d zi_35 none 41 [l0, l1, l2, .int l3, l4, l5] [.int x0] h Q = zWp d zi_35 none 42 [l0, l1, l2, .int l3, l4, l5] [.int l3, .int x0] h Q) ∧
    (∀ (d : Nat) (l0 : Value) (l1 : Value) (l2 : Value) (l3 : Value) (l4 : Value) (l5 : Value) (x1 : Int32) (x0 : Int32) (h : zMm) (Q : Option Value → zMm → Prop), zWp d zi_35 none 42 [l0, l1, l2, l3, l4, l5] [.int x1, .int x0] h Q = if x1 ≤ x0 then zWp d zi_35 none 101 [l0, l1, l2, l3, l4, l5] [] h Q else zWp d zi_35 none 45 [l0, l1, l2, l3, l4, l5] [] h Q) ∧
    (∀ (d : Nat) (l0 : Nat) (l1 : Value) (l2 : Value) (l3 : Value) (l4 : Value) (l5 : Value)  (h : zMm) (Q : Option Value → zMm → Prop), zWp d zi_35 none 45 [.ref l0, l1, l2, l3, l4, l5] [] h Q = zWp d zi_35 none 46 [.ref l0, l1, l2, l3, l4, l5] [.ref l0] h Q) ∧
    (∀ (d : Nat) (l0 : Value) (l1 : Value) (l2 : Value) (l3 : Value) (l4 : Value) (l5 : Value) (x0 : Nat) (I : Nat → Nat → Int32) (L : Nat → Nat → Int64) (P : Nat → Nat → Option Nat) (Q : Option Value → zMm → Prop), zSH[x0]? = some (.inl 4) → zWp d zi_35 none 46 [l0, l1, l2, l3, l4, l5] [.ref x0] (zSH, I, L, P) Q = zWM d 38 [.ref x0] (zSH, I, L, P) (fun r h1 => zWp d zi_35 none 49 [l0, l1, l2, l3, l4, l5] (r.toList ++ []) h1 Q)) ∧
    (∀ (d : Nat) (l0 : Value) (l1 : Value) (l2 : Value) (l3 : Value) (l4 : Value) (l5 : Value) (x0 : Int32) (h : zMm) (Q : Option Value → zMm → Prop), zWp d zi_35 none 49 [l0, l1, l2, l3, l4, l5] [.int x0] h Q = zWM d 41 [.int x0] h (fun r h1 => zWp d zi_35 none 52 [l0, l1, l2, l3, l4, l5] (r.toList ++ []) h1 Q)) ∧
    (∀ (d : Nat) (l0 : Value) (l1 : Int32) (l2 : Value) (l3 : Value) (l4 : Value) (l5 : Value) (x0 : Int32) (h : zMm) (Q : Option Value → zMm → Prop), zWp d zi_35 none 52 [l0, .int l1, l2, l3, l4, l5] [.int x0] h Q = zWp d zi_35 none 53 [l0, .int l1, l2, l3, l4, l5] [.int l1, .int x0] h Q) ∧
    (∀ (d : Nat) (l0 : Value) (l1 : Value) (l2 : Value) (l3 : Value) (l4 : Value) (l5 : Value) (x1 : Int32) (x0 : Int32) (h : zMm) (Q : Option Value → zMm → Prop), zWp d zi_35 none 53 [l0, l1, l2, l3, l4, l5] [.int x1, .int x0] h Q = if x0 = x1 then zWp d zi_35 none 56 [l0, l1, l2, l3, l4, l5] [] h Q else zWp d zi_35 none 101 [l0, l1, l2, l3, l4, l5] [] h Q) ∧
    (∀ (d : Nat) (l0 : Nat) (l1 : Value) (l2 : Value) (l3 : Value) (l4 : Value) (l5 : Value)  (h : zMm) (Q : Option Value → zMm → Prop), zWp d zi_35 none 56 [.ref l0, l1, l2, l3, l4, l5] [] h Q = zWp d zi_35 none 57 [.ref l0, l1, l2, l3, l4, l5] [.ref l0] h Q) ∧
    (∀ (d : Nat) (l0 : Value) (l1 : Value) (l2 : Value) (l3 : Value) (l4 : Value) (l5 : Value) (x0 : Nat) (I : Nat → Nat → Int32) (L : Nat → Nat → Int64) (P : Nat → Nat → Option Nat) (Q : Option Value → zMm → Prop), zSH[x0]? = some (.inl 4) → zWp d zi_35 none 57 [l0, l1, l2, l3, l4, l5] [.ref x0] (zSH, I, L, P) Q = zWM d 38 [.ref x0] (zSH, I, L, P) (fun r h1 => zWp d zi_35 none 60 [l0, l1, l2, l3, l4, l5] (r.toList ++ []) h1 Q)) ∧
    (∀ (d : Nat) (l0 : Value) (l1 : Value) (l2 : Value) (l3 : Value) (l4 : Int32) (l5 : Value) (x0 : Int32) (h : zMm) (Q : Option Value → zMm → Prop), zWp d zi_35 none 60 [l0, l1, l2, l3, .int l4, l5] [.int x0] h Q = zWp d zi_35 none 62 [l0, l1, l2, l3, .int l4, .int x0] [] h Q) ∧
    (∀ (d : Nat) (l0 : Nat) (l1 : Value) (l2 : Value) (l3 : Value) (l4 : Value) (l5 : Value)  (h : zMm) (Q : Option Value → zMm → Prop), zWp d zi_35 none 62 [.ref l0, l1, l2, l3, l4, l5] [] h Q = zWp d zi_35 none 63 [.ref l0, l1, l2, l3, l4, l5] [.ref l0] h Q) ∧
    (∀ (d : Nat) (l0 : Value) (l1 : Value) (l2 : Value) (l3 : Value) (l4 : Value) (l5 : Value) (x0 : Nat) (h : zMm) (Q : Option Value → zMm → Prop), zWp d zi_35 none 63 [l0, l1, l2, l3, l4, l5] [.ref x0] h Q = zWp d zi_35 none 64 [l0, l1, l2, l3, l4, l5] [.ref x0, .ref x0] h Q) ∧
    (∀ (d : Nat) (l0 : Value) (l1 : Value) (l2 : Value) (l3 : Value) (l4 : Value) (l5 : Value) (x1 : Nat) (x0 : Nat) (I : Nat → Nat → Int32) (L : Nat → Nat → Int64) (P : Nat → Nat → Option Nat) (Q : Option Value → zMm → Prop), zSH[x1]? = some (.inl 4) → zWp d zi_35 none 64 [l0, l1, l2, l3, l4, l5] [.ref x1, .ref x0] (zSH, I, L, P) Q = zWp d zi_35 none 67 [l0, l1, l2, l3, l4, l5] [.int (I x1 2), .ref x0] (zSH, I, L, P) Q) ∧
    (∀ (d : Nat) (l0 : Value) (l1 : Value) (l2 : Value) (l3 : Value) (l4 : Value) (l5 : Value) (x1 : Int32) (x0 : Nat) (h : zMm) (Q : Option Value → zMm → Prop), zWp d zi_35 none 67 [l0, l1, l2, l3, l4, l5] [.int x1, .ref x0] h Q = zWp d zi_35 none 68 [l0, l1, l2, l3, l4, l5] [.int 1, .int x1, .ref x0] h Q) ∧
    (∀ (d : Nat) (l0 : Value) (l1 : Value) (l2 : Value) (l3 : Value) (l4 : Value) (l5 : Value) (x2 : Int32) (x1 : Int32) (x0 : Nat) (h : zMm) (Q : Option Value → zMm → Prop), zWp d zi_35 none 68 [l0, l1, l2, l3, l4, l5] [.int x2, .int x1, .ref x0] h Q = zWp d zi_35 none 69 [l0, l1, l2, l3, l4, l5] [.int (x1 + x2), .ref x0] h Q) ∧
    (∀ (d : Nat) (l0 : Value) (l1 : Value) (l2 : Value) (l3 : Value) (l4 : Value) (l5 : Value) (x1 : Int32) (x0 : Nat) (I : Nat → Nat → Int32) (L : Nat → Nat → Int64) (P : Nat → Nat → Option Nat) (Q : Option Value → zMm → Prop), zSH[x0]? = some (.inl 4) → zWp d zi_35 none 69 [l0, l1, l2, l3, l4, l5] [.int x1, .ref x0] (zSH, I, L, P) Q = zWp d zi_35 none 72 [l0, l1, l2, l3, l4, l5] [] (zSH, zw I x0 (upd (I x0) 2 x1), L, P) Q) ∧
    (∀ (d : Nat) (l0 : Nat) (l1 : Value) (l2 : Value) (l3 : Value) (l4 : Value) (l5 : Value)  (h : zMm) (Q : Option Value → zMm → Prop), zWp d zi_35 none 72 [.ref l0, l1, l2, l3, l4, l5] [] h Q = zWp d zi_35 none 73 [.ref l0, l1, l2, l3, l4, l5] [.ref l0] h Q) ∧
    (∀ (d : Nat) (l0 : Value) (l1 : Int32) (l2 : Value) (l3 : Value) (l4 : Value) (l5 : Value) (x0 : Nat) (h : zMm) (Q : Option Value → zMm → Prop), zWp d zi_35 none 73 [l0, .int l1, l2, l3, l4, l5] [.ref x0] h Q = zWp d zi_35 none 74 [l0, .int l1, l2, l3, l4, l5] [.int l1, .ref x0] h Q) ∧
    (∀ (d : Nat) (l0 : Value) (l1 : Value) (l2 : Value) (l3 : Value) (l4 : Value) (l5 : Value) (x1 : Int32) (x0 : Nat) (h : zMm) (Q : Option Value → zMm → Prop), zWp d zi_35 none 74 [l0, l1, l2, l3, l4, l5] [.int x1, .ref x0] h Q = zWp d zi_35 none 75 [l0, l1, l2, l3, l4, l5] [.int 1, .int x1, .ref x0] h Q) ∧
    (∀ (d : Nat) (l0 : Value) (l1 : Value) (l2 : Value) (l3 : Value) (l4 : Value) (l5 : Value) (x2 : Int32) (x1 : Int32) (x0 : Nat) (h : zMm) (Q : Option Value → zMm → Prop), zWp d zi_35 none 75 [l0, l1, l2, l3, l4, l5] [.int x2, .int x1, .ref x0] h Q = zWp d zi_35 none 76 [l0, l1, l2, l3, l4, l5] [.int (x1 + x2), .ref x0] h Q) ∧
    (∀ (d : Nat) (l0 : Value) (l1 : Value) (l2 : Int32) (l3 : Value) (l4 : Value) (l5 : Value) (x1 : Int32) (x0 : Nat) (h : zMm) (Q : Option Value → zMm → Prop), zWp d zi_35 none 76 [l0, l1, .int l2, l3, l4, l5] [.int x1, .ref x0] h Q = zWp d zi_35 none 77 [l0, l1, .int l2, l3, l4, l5] [.int l2, .int x1, .ref x0] h Q) ∧
    (∀ (d : Nat) (l0 : Value) (l1 : Value) (l2 : Value) (l3 : Value) (l4 : Value) (l5 : Value) (x2 : Int32) (x1 : Int32) (x0 : Nat) (I : Nat → Nat → Int32) (L : Nat → Nat → Int64) (P : Nat → Nat → Option Nat) (Q : Option Value → zMm → Prop), zSH[x0]? = some (.inl 4) → zWp d zi_35 none 77 [l0, l1, l2, l3, l4, l5] [.int x2, .int x1, .ref x0] (zSH, I, L, P) Q = zWM d 35 [.ref x0, .int x1, .int x2] (zSH, I, L, P) (fun r h1 => zWp d zi_35 none 80 [l0, l1, l2, l3, l4, l5] (r.toList ++ []) h1 Q)) ∧
    (∀ (d : Nat) (l0 : Value) (l1 : Value) (l2 : Value) (l3 : Value) (l4 : Value) (l5 : Value) (x0 : Int32) (h : zMm) (Q : Option Value → zMm → Prop), zWp d zi_35 none 80 [l0, l1, l2, l3, l4, l5] [.int x0] h Q = if x0 = 0 then zWp d zi_35 none 83 [l0, l1, l2, l3, l4, l5] [] h Q else zWp d zi_35 none 85 [l0, l1, l2, l3, l4, l5] [] h Q) ∧
    (∀ (d : Nat) (l0 : Value) (l1 : Value) (l2 : Value) (l3 : Value) (l4 : Value) (l5 : Value)  (h : zMm) (Q : Option Value → zMm → Prop), zWp d zi_35 none 83 [l0, l1, l2, l3, l4, l5] [] h Q = zWp d zi_35 none 84 [l0, l1, l2, l3, l4, l5] [.int 0] h Q) ∧
    (∀ (d : Nat) (l0 : Value) (l1 : Value) (l2 : Value) (l3 : Value) (l4 : Value) (l5 : Value) (x0 : Int32) (h : zMm) (Q : Option Value → zMm → Prop), x0 = 0 ∨ x0 = 1 → zWp d zi_35 none 84 [l0, l1, l2, l3, l4, l5] [.int x0] h Q = Q (some (.int x0)) h) ∧
    (∀ (d : Nat) (l0 : Nat) (l1 : Value) (l2 : Value) (l3 : Value) (l4 : Value) (l5 : Value)  (h : zMm) (Q : Option Value → zMm → Prop), zWp d zi_35 none 85 [.ref l0, l1, l2, l3, l4, l5] [] h Q = zWp d zi_35 none 86 [.ref l0, l1, l2, l3, l4, l5] [.ref l0] h Q) ∧
    (∀ (d : Nat) (l0 : Value) (l1 : Value) (l2 : Value) (l3 : Value) (l4 : Value) (l5 : Value) (x0 : Nat) (I : Nat → Nat → Int32) (L : Nat → Nat → Int64) (P : Nat → Nat → Option Nat) (Q : Option Value → zMm → Prop), zSH[x0]? = some (.inl 4) → zWp d zi_35 none 86 [l0, l1, l2, l3, l4, l5] [.ref x0] (zSH, I, L, P) Q = zWp d zi_35 none 89 [l0, l1, l2, l3, l4, l5] [va_rf (P x0 3)] (zSH, I, L, P) Q) ∧
    (∀ (d : Nat) (l0 : Value) (l1 : Value) (l2 : Value) (l3 : Value) (l4 : Value) (l5 : Int32) (x0 : Nat) (h : zMm) (Q : Option Value → zMm → Prop), zWp d zi_35 none 89 [l0, l1, l2, l3, l4, .int l5] [.ref x0] h Q = zWp d zi_35 none 91 [l0, l1, l2, l3, l4, .int l5] [.int l5, .ref x0] h Q) ∧
    (∀ (d : Nat) (l0 : Value) (l1 : Value) (l2 : Value) (l3 : Value) (l4 : Value) (l5 : Value) (x1 : Int32) (x0 : Nat) (h : zMm) (Q : Option Value → zMm → Prop), zWp d zi_35 none 91 [l0, l1, l2, l3, l4, l5] [.int x1, .ref x0] h Q = zWp d zi_35 none 92 [l0, l1, l2, l3, l4, l5] [.int 0, .int x1, .ref x0] h Q) ∧
    (∀ (d : Nat) (l0 : Value) (l1 : Value) (l2 : Value) (l3 : Value) (l4 : Value) (l5 : Value) (x2 : Int32) (x1 : Int32) (x0 : Nat) (I : Nat → Nat → Int32) (L : Nat → Nat → Int64) (P : Nat → Nat → Option Nat) (Q : Option Value → zMm → Prop), zSH[x0]? = some (.inl 5) → zWp d zi_35 none 92 [l0, l1, l2, l3, l4, l5] [.int x2, .int x1, .ref x0] (zSH, I, L, P) Q = zWM d 43 [.ref x0, .int x1, .int x2] (zSH, I, L, P) (fun r h1 => zWp d zi_35 none 95 [l0, l1, l2, l3, l4, l5] (r.toList ++ []) h1 Q)) ∧
    (∀ (d : Nat) (l0 : Value) (l1 : Value) (l2 : Value) (l3 : Int32) (l4 : Int32) (l5 : Value)  (h : zMm) (Q : Option Value → zMm → Prop), zWp d zi_35 none 95 [l0, l1, l2, .int l3, .int l4, l5] [] h Q = zWp d zi_35 none 98 [l0, l1, l2, .int l3, .int (l4 + 1), l5] [] h Q) ∧
    (∀ (d : Nat) (l0 : Value) (l1 : Value) (l2 : Value) (l3 : Value) (l4 : Value) (l5 : Value)  (h : zMm) (Q : Option Value → zMm → Prop), zWp d zi_35 none 98 [l0, l1, l2, l3, l4, l5] [] h Q = zWp d zi_35 none 39 [l0, l1, l2, l3, l4, l5] [] h Q) ∧
    (∀ (d : Nat) (l0 : Value) (l1 : Value) (l2 : Value) (l3 : Value) (l4 : Value) (l5 : Value)  (h : zMm) (Q : Option Value → zMm → Prop), zWp d zi_35 none 101 [l0, l1, l2, l3, l4, l5] [] h Q = zWp d zi_35 none 102 [l0, l1, l2, l3, l4, l5] [.int 1] h Q) ∧
    (∀ (d : Nat) (l0 : Value) (l1 : Value) (l2 : Value) (l3 : Value) (l4 : Value) (l5 : Value) (x0 : Int32) (h : zMm) (Q : Option Value → zMm → Prop), x0 = 0 ∨ x0 = 1 → zWp d zi_35 none 102 [l0, l1, l2, l3, l4, l5] [.int x0] h Q = Q (some (.int x0)) h) :=
  ⟨(fun d l0 l1 l2 l3 l4 l5  h Q => zr_iload_n rfl rfl),
   (fun d l0 l1 l2 l3 l4 l5 x0 h Q => zr_iconst rfl (by decide)),
   (fun d l0 l1 l2 l3 l4 l5 x1 x0 h Q => zr_ic_lt rfl (by decide)),
   (fun d l0 l1 l2 l3 l4 l5  h Q => zr_aload_n rfl rfl),
   (fun d l0 l1 l2 l3 l4 l5 x0 h Q => zr_iload_n rfl rfl),
   (fun d l0 l1 l2 l3 l4 l5 x1 x0 I L P Q p0 => zr_vir (as := [.int x1]) (rest := []) rfl lm_4_45 m_36 kd_36 rfl (Nat.le_of_ble_eq_true rfl) p0),
   (fun d l0 l1 l2 l3 l4 l5 x0 h Q p0 => zr_zret rfl rfl p0),
   (fun d l0 l1 l2 l3 l4 l5  h Q => zr_aload_n rfl rfl),
   (fun d l0 l1 l2 l3 l4 l5 x0 h Q => zr_iload_n rfl rfl),
   (fun d l0 l1 l2 l3 l4 l5 x1 x0 h Q => zr_iconst rfl (by decide)),
   (fun d l0 l1 l2 l3 l4 l5 x2 x1 x0 h Q => zr_iadd rfl),
   (fun d l0 l1 l2 l3 l4 l5 x1 x0 h Q => zr_iload_n rfl rfl),
   (fun d l0 l1 l2 l3 l4 l5 x2 x1 x0 I L P Q p0 => zr_vir (as := [.int x2, .int x1]) (rest := []) rfl lm_4_37 m_35 kd_35 rfl (Nat.le_of_ble_eq_true rfl) p0),
   (fun d l0 l1 l2 l3 l4 l5 x0 h Q => zr_if_ne rfl (by decide)),
   (fun d l0 l1 l2 l3 l4 l5  h Q => zr_iconst rfl (by decide)),
   (fun d l0 l1 l2 l3 l4 l5 x0 h Q p0 => zr_zret rfl rfl p0),
   (fun d l0 l1 l2 l3 l4 l5  h Q => zr_iload_n rfl rfl),
   (fun d l0 l1 l2 l3 l4 l5 x0 h Q => zr_iconst rfl (by decide)),
   (fun d l0 l1 l2 l3 l4 l5 x1 x0 h Q => zr_ic_ne rfl (by decide)),
   (fun d l0 l1 l2 l3 l4 l5  h Q => zr_iconst rfl (by decide)),
   (fun d l0 l1 l2 l3 l4 l5 x0 h Q => zr_goto rfl (by decide)),
   (fun d l0 l1 l2 l3 l4 l5  h Q => zr_bipush rfl (by decide)),
   (fun d l0 l1 l2 l3 l4 l5 x0 h Q => zr_istore_n (n := 3) rfl (Nat.le_of_ble_eq_true rfl) rfl),
   (fun d l0 l1 l2 l3 l4 l5  h Q => zr_iconst rfl (by decide)),
   (fun d l0 l1 l2 l3 l4 l5 x0 h Q => zr_istore (n := 4) rfl (Nat.le_of_ble_eq_true rfl) rfl),
   (fun d l0 l1 l2 l3 l4 l5 x0 h Q => zr_iload_n rfl rfl),
   (fun d l0 l1 l2 l3 l4 l5 x1 x0 h Q => zr_ic_ge rfl (by decide)),
   (fun d l0 l1 l2 l3 l4 l5  h Q => zr_aload_n rfl rfl),
   (fun d l0 l1 l2 l3 l4 l5 x0 I L P Q p0 => zr_vir (as := []) (rest := []) rfl lm_4_32 m_38 kd_38 rfl (Nat.le_of_ble_eq_true rfl) p0),
   (fun d l0 l1 l2 l3 l4 l5 x0 h Q => zr_sta (as := [.int x0]) (rest := []) rfl lm_4_49 (by decide) m_41 kd_41 rfl (Nat.le_of_ble_eq_true rfl)),
   (fun d l0 l1 l2 l3 l4 l5 x0 h Q => zr_iload_n rfl rfl),
   (fun d l0 l1 l2 l3 l4 l5 x1 x0 h Q => zr_ic_ne rfl (by decide)),
   (fun d l0 l1 l2 l3 l4 l5  h Q => zr_aload_n rfl rfl),
   (fun d l0 l1 l2 l3 l4 l5 x0 I L P Q p0 => zr_vir (as := []) (rest := []) rfl lm_4_32 m_38 kd_38 rfl (Nat.le_of_ble_eq_true rfl) p0),
   (fun d l0 l1 l2 l3 l4 l5 x0 h Q => zr_istore (n := 5) rfl (Nat.le_of_ble_eq_true rfl) rfl),
   (fun d l0 l1 l2 l3 l4 l5  h Q => zr_aload_n rfl rfl),
   (fun d l0 l1 l2 l3 l4 l5 x0 h Q => zr_dup rfl rfl),
   (fun d l0 l1 l2 l3 l4 l5 x1 x0 I L P Q p0 => zr_getI rfl lf_4_25 (fun _ _ _ => rfl) p0),
   (fun d l0 l1 l2 l3 l4 l5 x1 x0 h Q => zr_iconst rfl (by decide)),
   (fun d l0 l1 l2 l3 l4 l5 x2 x1 x0 h Q => zr_iadd rfl),
   (fun d l0 l1 l2 l3 l4 l5 x1 x0 I L P Q p0 => zr_putI rfl lf_4_25 (by decide) rfl p0),
   (fun d l0 l1 l2 l3 l4 l5  h Q => zr_aload_n rfl rfl),
   (fun d l0 l1 l2 l3 l4 l5 x0 h Q => zr_iload_n rfl rfl),
   (fun d l0 l1 l2 l3 l4 l5 x1 x0 h Q => zr_iconst rfl (by decide)),
   (fun d l0 l1 l2 l3 l4 l5 x2 x1 x0 h Q => zr_iadd rfl),
   (fun d l0 l1 l2 l3 l4 l5 x1 x0 h Q => zr_iload_n rfl rfl),
   (fun d l0 l1 l2 l3 l4 l5 x2 x1 x0 I L P Q p0 => zr_vir (as := [.int x2, .int x1]) (rest := []) rfl lm_4_37 m_35 kd_35 rfl (Nat.le_of_ble_eq_true rfl) p0),
   (fun d l0 l1 l2 l3 l4 l5 x0 h Q => zr_if_ne rfl (by decide)),
   (fun d l0 l1 l2 l3 l4 l5  h Q => zr_iconst rfl (by decide)),
   (fun d l0 l1 l2 l3 l4 l5 x0 h Q p0 => zr_zret rfl rfl p0),
   (fun d l0 l1 l2 l3 l4 l5  h Q => zr_aload_n rfl rfl),
   (fun d l0 l1 l2 l3 l4 l5 x0 I L P Q p0 => zr_getQ rfl lf_4_15 (fun _ _ _ => rfl) p0),
   (fun d l0 l1 l2 l3 l4 l5 x0 h Q => zr_iload rfl rfl),
   (fun d l0 l1 l2 l3 l4 l5 x1 x0 h Q => zr_iconst rfl (by decide)),
   (fun d l0 l1 l2 l3 l4 l5 x2 x1 x0 I L P Q p0 => zr_vir (as := [.int x2, .int x1]) (rest := []) rfl lm_4_41 m_43 kd_43 rfl (Nat.le_of_ble_eq_true rfl) p0),
   (fun d l0 l1 l2 l3 l4 l5  h Q => zr_iinc (n := 4) (kc := 1) rfl rfl (Nat.le_of_ble_eq_true rfl) rfl (by decide)),
   (fun d l0 l1 l2 l3 l4 l5  h Q => zr_goto rfl (by decide)),
   (fun d l0 l1 l2 l3 l4 l5  h Q => zr_iconst rfl (by decide)),
   (fun d l0 l1 l2 l3 l4 l5 x0 h Q p0 => zr_zret rfl rfl p0)⟩
theorem H_X4_chain_39 : ∀ (d : Nat) (l0 : Value) (l1 : Value) (l2 : Value) (l3 : Value) (l4 : Int32) (l5 : Value)  (h : zMm) (Q : Option Value → zMm → Prop), zWp d zi_35 none 39 [l0, l1, l2, l3, .int l4, l5] [] h Q = zWp d zi_35 none 41 [l0, l1, l2, l3, .int l4, l5] [.int l4] h Q := fun d l0 l1 l2 l3 l4 l5  h Q => zr_iload rfl rfl
theorem E_X4_operand : ∀ (d : Nat) (a0 : Nat) (a1 : Int32) (h : zMm) (Q : Option Value → zMm → Prop), zWM (d + 1) 36 [.ref a0, .int a1] h Q = zWp d zi_36 none 0 [.ref a0, .int a1, .retAddr 0, .retAddr 0] [] h Q := fun d a0 a1 h Q => zW_M m_36 (Nat.le_of_ble_eq_true rfl) rfl
set_option maxRecDepth 100000 in
theorem R_X4_operand :
    (∀ (d : Nat) (l0 : Nat) (l1 : Value) (l2 : Value) (l3 : Value)  (h : zMm) (Q : Option Value → zMm → Prop), zWp d zi_36 none 0 [.ref l0, l1, l2, l3] [] h Q = zWp d zi_36 none 1 [.ref l0, l1, l2, l3] [.ref l0] h Q) ∧
    (∀ (d : Nat) (l0 : Value) (l1 : Value) (l2 : Value) (l3 : Value) (x0 : Nat) (I : Nat → Nat → Int32) (L : Nat → Nat → Int64) (P : Nat → Nat → Option Nat) (Q : Option Value → zMm → Prop), zSH[x0]? = some (.inl 4) → zWp d zi_36 none 1 [l0, l1, l2, l3] [.ref x0] (zSH, I, L, P) Q = zWM d 38 [.ref x0] (zSH, I, L, P) (fun r h1 => zWp d zi_36 none 4 [l0, l1, l2, l3] (r.toList ++ []) h1 Q)) ∧
    (∀ (d : Nat) (l0 : Value) (l1 : Int32) (l2 : Value) (l3 : Value) (x0 : Int32) (h : zMm) (Q : Option Value → zMm → Prop), zWp d zi_36 none 4 [l0, .int l1, l2, l3] [.int x0] h Q = zWp d zi_36 none 5 [l0, .int l1, .int x0, l3] [] h Q) ∧
    (∀ (d : Nat) (l0 : Value) (l1 : Value) (l2 : Int32) (l3 : Value)  (h : zMm) (Q : Option Value → zMm → Prop), zWp d zi_36 none 5 [l0, l1, .int l2, l3] [] h Q = zWp d zi_36 none 6 [l0, l1, .int l2, l3] [.int l2] h Q) ∧
    (∀ (d : Nat) (l0 : Value) (l1 : Value) (l2 : Value) (l3 : Value) (x0 : Int32) (h : zMm) (Q : Option Value → zMm → Prop), zWp d zi_36 none 6 [l0, l1, l2, l3] [.int x0] h Q = zWM d 39 [.int x0] h (fun r h1 => zWp d zi_36 none 9 [l0, l1, l2, l3] (r.toList ++ []) h1 Q)) ∧
    (∀ (d : Nat) (l0 : Value) (l1 : Value) (l2 : Value) (l3 : Value) (x0 : Int32) (h : zMm) (Q : Option Value → zMm → Prop), zWp d zi_36 none 9 [l0, l1, l2, l3] [.int x0] h Q = if x0 = 0 then zWp d zi_36 none 18 [l0, l1, l2, l3] [] h Q else zWp d zi_36 none 12 [l0, l1, l2, l3] [] h Q) ∧
    (∀ (d : Nat) (l0 : Nat) (l1 : Value) (l2 : Value) (l3 : Value)  (h : zMm) (Q : Option Value → zMm → Prop), zWp d zi_36 none 12 [.ref l0, l1, l2, l3] [] h Q = zWp d zi_36 none 13 [.ref l0, l1, l2, l3] [.ref l0] h Q) ∧
    (∀ (d : Nat) (l0 : Value) (l1 : Value) (l2 : Value) (l3 : Value) (x0 : Nat) (I : Nat → Nat → Int32) (L : Nat → Nat → Int64) (P : Nat → Nat → Option Nat) (Q : Option Value → zMm → Prop), zSH[x0]? = some (.inl 4) → zWp d zi_36 none 13 [l0, l1, l2, l3] [.ref x0] (zSH, I, L, P) Q = zWM d 37 [.ref x0] (zSH, I, L, P) (fun r h1 => zWp d zi_36 none 16 [l0, l1, l2, l3] (r.toList ++ []) h1 Q)) ∧
    (∀ (d : Nat) (l0 : Value) (l1 : Value) (l2 : Value) (l3 : Value)  (h : zMm) (Q : Option Value → zMm → Prop), zWp d zi_36 none 16 [l0, l1, l2, l3] [] h Q = zWp d zi_36 none 17 [l0, l1, l2, l3] [.int 1] h Q) ∧
    (∀ (d : Nat) (l0 : Value) (l1 : Value) (l2 : Value) (l3 : Value) (x0 : Int32) (h : zMm) (Q : Option Value → zMm → Prop), x0 = 0 ∨ x0 = 1 → zWp d zi_36 none 17 [l0, l1, l2, l3] [.int x0] h Q = Q (some (.int x0)) h) ∧
    (∀ (d : Nat) (l0 : Value) (l1 : Value) (l2 : Int32) (l3 : Value)  (h : zMm) (Q : Option Value → zMm → Prop), zWp d zi_36 none 18 [l0, l1, .int l2, l3] [] h Q = zWp d zi_36 none 19 [l0, l1, .int l2, l3] [.int l2] h Q) ∧
    (∀ (d : Nat) (l0 : Value) (l1 : Value) (l2 : Value) (l3 : Value) (x0 : Int32) (h : zMm) (Q : Option Value → zMm → Prop), zWp d zi_36 none 19 [l0, l1, l2, l3] [.int x0] h Q = zWM d 40 [.int x0] h (fun r h1 => zWp d zi_36 none 22 [l0, l1, l2, l3] (r.toList ++ []) h1 Q)) ∧
    (∀ (d : Nat) (l0 : Value) (l1 : Value) (l2 : Int32) (l3 : Value) (x0 : Int32) (h : zMm) (Q : Option Value → zMm → Prop), zWp d zi_36 none 22 [l0, l1, .int l2, l3] [.int x0] h Q = zWp d zi_36 none 23 [l0, l1, .int l2, .int x0] [] h Q) ∧
    (∀ (d : Nat) (l0 : Value) (l1 : Value) (l2 : Value) (l3 : Int32)  (h : zMm) (Q : Option Value → zMm → Prop), zWp d zi_36 none 23 [l0, l1, l2, .int l3] [] h Q = zWp d zi_36 none 24 [l0, l1, l2, .int l3] [.int l3] h Q) ∧
    (∀ (d : Nat) (l0 : Value) (l1 : Value) (l2 : Value) (l3 : Value) (x0 : Int32) (h : zMm) (Q : Option Value → zMm → Prop), zWp d zi_36 none 24 [l0, l1, l2, l3] [.int x0] h Q = zWp d zi_36 none 26 [l0, l1, l2, l3] [.int (-2), .int x0] h Q) ∧
    (∀ (d : Nat) (l0 : Value) (l1 : Value) (l2 : Value) (l3 : Value) (x1 : Int32) (x0 : Int32) (h : zMm) (Q : Option Value → zMm → Prop), zWp d zi_36 none 26 [l0, l1, l2, l3] [.int x1, .int x0] h Q = if x0 = x1 then zWp d zi_36 none 51 [l0, l1, l2, l3] [] h Q else zWp d zi_36 none 29 [l0, l1, l2, l3] [] h Q) ∧
    (∀ (d : Nat) (l0 : Nat) (l1 : Value) (l2 : Value) (l3 : Value)  (h : zMm) (Q : Option Value → zMm → Prop), zWp d zi_36 none 29 [.ref l0, l1, l2, l3] [] h Q = zWp d zi_36 none 30 [.ref l0, l1, l2, l3] [.ref l0] h Q) ∧
    (∀ (d : Nat) (l0 : Value) (l1 : Value) (l2 : Value) (l3 : Value) (x0 : Nat) (h : zMm) (Q : Option Value → zMm → Prop), zWp d zi_36 none 30 [l0, l1, l2, l3] [.ref x0] h Q = zWp d zi_36 none 31 [l0, l1, l2, l3] [.ref x0, .ref x0] h Q) ∧
    (∀ (d : Nat) (l0 : Value) (l1 : Value) (l2 : Value) (l3 : Value) (x1 : Nat) (x0 : Nat) (I : Nat → Nat → Int32) (L : Nat → Nat → Int64) (P : Nat → Nat → Option Nat) (Q : Option Value → zMm → Prop), zSH[x1]? = some (.inl 4) → zWp d zi_36 none 31 [l0, l1, l2, l3] [.ref x1, .ref x0] (zSH, I, L, P) Q = zWp d zi_36 none 34 [l0, l1, l2, l3] [.int (I x1 2), .ref x0] (zSH, I, L, P) Q) ∧
    (∀ (d : Nat) (l0 : Value) (l1 : Value) (l2 : Value) (l3 : Value) (x1 : Int32) (x0 : Nat) (h : zMm) (Q : Option Value → zMm → Prop), zWp d zi_36 none 34 [l0, l1, l2, l3] [.int x1, .ref x0] h Q = zWp d zi_36 none 35 [l0, l1, l2, l3] [.int 1, .int x1, .ref x0] h Q) ∧
    (∀ (d : Nat) (l0 : Value) (l1 : Value) (l2 : Value) (l3 : Value) (x2 : Int32) (x1 : Int32) (x0 : Nat) (h : zMm) (Q : Option Value → zMm → Prop), zWp d zi_36 none 35 [l0, l1, l2, l3] [.int x2, .int x1, .ref x0] h Q = zWp d zi_36 none 36 [l0, l1, l2, l3] [.int (x1 + x2), .ref x0] h Q) ∧
    (∀ (d : Nat) (l0 : Value) (l1 : Value) (l2 : Value) (l3 : Value) (x1 : Int32) (x0 : Nat) (I : Nat → Nat → Int32) (L : Nat → Nat → Int64) (P : Nat → Nat → Option Nat) (Q : Option Value → zMm → Prop), zSH[x0]? = some (.inl 4) → zWp d zi_36 none 36 [l0, l1, l2, l3] [.int x1, .ref x0] (zSH, I, L, P) Q = zWp d zi_36 none 39 [l0, l1, l2, l3] [] (zSH, zw I x0 (upd (I x0) 2 x1), L, P) Q) ∧
    (∀ (d : Nat) (l0 : Nat) (l1 : Value) (l2 : Value) (l3 : Value)  (h : zMm) (Q : Option Value → zMm → Prop), zWp d zi_36 none 39 [.ref l0, l1, l2, l3] [] h Q = zWp d zi_36 none 40 [.ref l0, l1, l2, l3] [.ref l0] h Q) ∧
    (∀ (d : Nat) (l0 : Value) (l1 : Value) (l2 : Value) (l3 : Value) (x0 : Nat) (I : Nat → Nat → Int32) (L : Nat → Nat → Int64) (P : Nat → Nat → Option Nat) (Q : Option Value → zMm → Prop), zSH[x0]? = some (.inl 4) → zWp d zi_36 none 40 [l0, l1, l2, l3] [.ref x0] (zSH, I, L, P) Q = zWp d zi_36 none 43 [l0, l1, l2, l3] [va_rf (P x0 3)] (zSH, I, L, P) Q) ∧
    (∀ (d : Nat) (l0 : Value) (l1 : Value) (l2 : Value) (l3 : Value) (x0 : Nat) (h : zMm) (Q : Option Value → zMm → Prop), zWp d zi_36 none 43 [l0, l1, l2, l3] [.ref x0] h Q = zWp d zi_36 none 45 [l0, l1, l2, l3] [.int 118, .ref x0] h Q) ∧
    (∀ (d : Nat) (l0 : Value) (l1 : Value) (l2 : Value) (l3 : Int32) (x1 : Int32) (x0 : Nat) (h : zMm) (Q : Option Value → zMm → Prop), zWp d zi_36 none 45 [l0, l1, l2, .int l3] [.int x1, .ref x0] h Q = zWp d zi_36 none 46 [l0, l1, l2, .int l3] [.int l3, .int x1, .ref x0] h Q) ∧
    (∀ (d : Nat) (l0 : Value) (l1 : Value) (l2 : Value) (l3 : Value) (x2 : Int32) (x1 : Int32) (x0 : Nat) (I : Nat → Nat → Int32) (L : Nat → Nat → Int64) (P : Nat → Nat → Option Nat) (Q : Option Value → zMm → Prop), zSH[x0]? = some (.inl 5) → zWp d zi_36 none 46 [l0, l1, l2, l3] [.int x2, .int x1, .ref x0] (zSH, I, L, P) Q = zWM d 43 [.ref x0, .int x1, .int x2] (zSH, I, L, P) (fun r h1 => zWp d zi_36 none 49 [l0, l1, l2, l3] (r.toList ++ []) h1 Q)) ∧
    (∀ (d : Nat) (l0 : Value) (l1 : Value) (l2 : Value) (l3 : Value)  (h : zMm) (Q : Option Value → zMm → Prop), zWp d zi_36 none 49 [l0, l1, l2, l3] [] h Q = zWp d zi_36 none 50 [l0, l1, l2, l3] [.int 1] h Q) ∧
    (∀ (d : Nat) (l0 : Value) (l1 : Value) (l2 : Value) (l3 : Value) (x0 : Int32) (h : zMm) (Q : Option Value → zMm → Prop), x0 = 0 ∨ x0 = 1 → zWp d zi_36 none 50 [l0, l1, l2, l3] [.int x0] h Q = Q (some (.int x0)) h) ∧
    (∀ (d : Nat) (l0 : Value) (l1 : Int32) (l2 : Value) (l3 : Value)  (h : zMm) (Q : Option Value → zMm → Prop), zWp d zi_36 none 51 [l0, .int l1, l2, l3] [] h Q = zWp d zi_36 none 52 [l0, .int l1, l2, l3] [.int l1] h Q) ∧
    (∀ (d : Nat) (l0 : Value) (l1 : Value) (l2 : Value) (l3 : Value) (x0 : Int32) (h : zMm) (Q : Option Value → zMm → Prop), zWp d zi_36 none 52 [l0, l1, l2, l3] [.int x0] h Q = zWp d zi_36 none 54 [l0, l1, l2, l3] [.int 6, .int x0] h Q) ∧
    (∀ (d : Nat) (l0 : Value) (l1 : Value) (l2 : Value) (l3 : Value) (x1 : Int32) (x0 : Int32) (h : zMm) (Q : Option Value → zMm → Prop), zWp d zi_36 none 54 [l0, l1, l2, l3] [.int x1, .int x0] h Q = if x1 ≤ x0 then zWp d zi_36 none 75 [l0, l1, l2, l3] [] h Q else zWp d zi_36 none 57 [l0, l1, l2, l3] [] h Q) ∧
    (∀ (d : Nat) (l0 : Value) (l1 : Value) (l2 : Int32) (l3 : Value)  (h : zMm) (Q : Option Value → zMm → Prop), zWp d zi_36 none 57 [l0, l1, .int l2, l3] [] h Q = zWp d zi_36 none 58 [l0, l1, .int l2, l3] [.int l2] h Q) ∧
    (∀ (d : Nat) (l0 : Value) (l1 : Value) (l2 : Value) (l3 : Value) (x0 : Int32) (h : zMm) (Q : Option Value → zMm → Prop), zWp d zi_36 none 58 [l0, l1, l2, l3] [.int x0] h Q = zWp d zi_36 none 60 [l0, l1, l2, l3] [.int 40, .int x0] h Q) ∧
    (∀ (d : Nat) (l0 : Value) (l1 : Value) (l2 : Value) (l3 : Value) (x1 : Int32) (x0 : Int32) (h : zMm) (Q : Option Value → zMm → Prop), zWp d zi_36 none 60 [l0, l1, l2, l3] [.int x1, .int x0] h Q = if x0 = x1 then zWp d zi_36 none 77 [l0, l1, l2, l3] [] h Q else zWp d zi_36 none 63 [l0, l1, l2, l3] [] h Q) ∧
    (∀ (d : Nat) (l0 : Value) (l1 : Value) (l2 : Int32) (l3 : Value)  (h : zMm) (Q : Option Value → zMm → Prop), zWp d zi_36 none 63 [l0, l1, .int l2, l3] [] h Q = zWp d zi_36 none 64 [l0, l1, .int l2, l3] [.int l2] h Q) ∧
    (∀ (d : Nat) (l0 : Value) (l1 : Value) (l2 : Value) (l3 : Value) (x0 : Int32) (h : zMm) (Q : Option Value → zMm → Prop), zWp d zi_36 none 64 [l0, l1, l2, l3] [.int x0] h Q = zWp d zi_36 none 66 [l0, l1, l2, l3] [.int 33, .int x0] h Q) ∧
    (∀ (d : Nat) (l0 : Value) (l1 : Value) (l2 : Value) (l3 : Value) (x1 : Int32) (x0 : Int32) (h : zMm) (Q : Option Value → zMm → Prop), zWp d zi_36 none 66 [l0, l1, l2, l3] [.int x1, .int x0] h Q = if x0 = x1 then zWp d zi_36 none 77 [l0, l1, l2, l3] [] h Q else zWp d zi_36 none 69 [l0, l1, l2, l3] [] h Q) ∧
    (∀ (d : Nat) (l0 : Value) (l1 : Value) (l2 : Int32) (l3 : Value)  (h : zMm) (Q : Option Value → zMm → Prop), zWp d zi_36 none 69 [l0, l1, .int l2, l3] [] h Q = zWp d zi_36 none 70 [l0, l1, .int l2, l3] [.int l2] h Q) ∧
    (∀ (d : Nat) (l0 : Value) (l1 : Value) (l2 : Value) (l3 : Value) (x0 : Int32) (h : zMm) (Q : Option Value → zMm → Prop), zWp d zi_36 none 70 [l0, l1, l2, l3] [.int x0] h Q = zWp d zi_36 none 72 [l0, l1, l2, l3] [.int 45, .int x0] h Q) ∧
    (∀ (d : Nat) (l0 : Value) (l1 : Value) (l2 : Value) (l3 : Value) (x1 : Int32) (x0 : Int32) (h : zMm) (Q : Option Value → zMm → Prop), zWp d zi_36 none 72 [l0, l1, l2, l3] [.int x1, .int x0] h Q = if x0 = x1 then zWp d zi_36 none 77 [l0, l1, l2, l3] [] h Q else zWp d zi_36 none 75 [l0, l1, l2, l3] [] h Q) ∧
    (∀ (d : Nat) (l0 : Value) (l1 : Value) (l2 : Value) (l3 : Value)  (h : zMm) (Q : Option Value → zMm → Prop), zWp d zi_36 none 75 [l0, l1, l2, l3] [] h Q = zWp d zi_36 none 76 [l0, l1, l2, l3] [.int 0] h Q) ∧
    (∀ (d : Nat) (l0 : Value) (l1 : Value) (l2 : Value) (l3 : Value) (x0 : Int32) (h : zMm) (Q : Option Value → zMm → Prop), x0 = 0 ∨ x0 = 1 → zWp d zi_36 none 76 [l0, l1, l2, l3] [.int x0] h Q = Q (some (.int x0)) h) ∧
    (∀ (d : Nat) (l0 : Nat) (l1 : Value) (l2 : Value) (l3 : Value)  (h : zMm) (Q : Option Value → zMm → Prop), zWp d zi_36 none 77 [.ref l0, l1, l2, l3] [] h Q = zWp d zi_36 none 78 [.ref l0, l1, l2, l3] [.ref l0] h Q) ∧
    (∀ (d : Nat) (l0 : Value) (l1 : Value) (l2 : Value) (l3 : Value) (x0 : Nat) (h : zMm) (Q : Option Value → zMm → Prop), zWp d zi_36 none 78 [l0, l1, l2, l3] [.ref x0] h Q = zWp d zi_36 none 79 [l0, l1, l2, l3] [.ref x0, .ref x0] h Q) ∧
    (∀ (d : Nat) (l0 : Value) (l1 : Value) (l2 : Value) (l3 : Value) (x1 : Nat) (x0 : Nat) (I : Nat → Nat → Int32) (L : Nat → Nat → Int64) (P : Nat → Nat → Option Nat) (Q : Option Value → zMm → Prop), zSH[x1]? = some (.inl 4) → zWp d zi_36 none 79 [l0, l1, l2, l3] [.ref x1, .ref x0] (zSH, I, L, P) Q = zWp d zi_36 none 82 [l0, l1, l2, l3] [.int (I x1 2), .ref x0] (zSH, I, L, P) Q) ∧
    (∀ (d : Nat) (l0 : Value) (l1 : Value) (l2 : Value) (l3 : Value) (x1 : Int32) (x0 : Nat) (h : zMm) (Q : Option Value → zMm → Prop), zWp d zi_36 none 82 [l0, l1, l2, l3] [.int x1, .ref x0] h Q = zWp d zi_36 none 83 [l0, l1, l2, l3] [.int 1, .int x1, .ref x0] h Q) ∧
    (∀ (d : Nat) (l0 : Value) (l1 : Value) (l2 : Value) (l3 : Value) (x2 : Int32) (x1 : Int32) (x0 : Nat) (h : zMm) (Q : Option Value → zMm → Prop), zWp d zi_36 none 83 [l0, l1, l2, l3] [.int x2, .int x1, .ref x0] h Q = zWp d zi_36 none 84 [l0, l1, l2, l3] [.int (x1 + x2), .ref x0] h Q) ∧
    (∀ (d : Nat) (l0 : Value) (l1 : Value) (l2 : Value) (l3 : Value) (x1 : Int32) (x0 : Nat) (I : Nat → Nat → Int32) (L : Nat → Nat → Int64) (P : Nat → Nat → Option Nat) (Q : Option Value → zMm → Prop), zSH[x0]? = some (.inl 4) → zWp d zi_36 none 84 [l0, l1, l2, l3] [.int x1, .ref x0] (zSH, I, L, P) Q = zWp d zi_36 none 87 [l0, l1, l2, l3] [] (zSH, zw I x0 (upd (I x0) 2 x1), L, P) Q) ∧
    (∀ (d : Nat) (l0 : Value) (l1 : Value) (l2 : Int32) (l3 : Value)  (h : zMm) (Q : Option Value → zMm → Prop), zWp d zi_36 none 87 [l0, l1, .int l2, l3] [] h Q = zWp d zi_36 none 88 [l0, l1, .int l2, l3] [.int l2] h Q) ∧
    (∀ (d : Nat) (l0 : Value) (l1 : Value) (l2 : Value) (l3 : Value) (x0 : Int32) (h : zMm) (Q : Option Value → zMm → Prop), zWp d zi_36 none 88 [l0, l1, l2, l3] [.int x0] h Q = zWp d zi_36 none 90 [l0, l1, l2, l3] [.int 40, .int x0] h Q) ∧
    (∀ (d : Nat) (l0 : Value) (l1 : Value) (l2 : Value) (l3 : Value) (x1 : Int32) (x0 : Int32) (h : zMm) (Q : Option Value → zMm → Prop), zWp d zi_36 none 90 [l0, l1, l2, l3] [.int x1, .int x0] h Q = if x0 = x1 then zWp d zi_36 none 93 [l0, l1, l2, l3] [] h Q else zWp d zi_36 none 127 [l0, l1, l2, l3] [] h Q) ∧
    (∀ (d : Nat) (l0 : Nat) (l1 : Value) (l2 : Value) (l3 : Value)  (h : zMm) (Q : Option Value → zMm → Prop), zWp d zi_36 none 93 [.ref l0, l1, l2, l3] [] h Q = zWp d zi_36 none 94 [.ref l0, l1, l2, l3] [.ref l0] h Q) ∧
    (∀ (d : Nat) (l0 : Value) (l1 : Value) (l2 : Value) (l3 : Value) (x0 : Nat) (h : zMm) (Q : Option Value → zMm → Prop), zWp d zi_36 none 94 [l0, l1, l2, l3] [.ref x0] h Q = zWp d zi_36 none 95 [l0, l1, l2, l3] [.int 0, .ref x0] h Q) ∧
    (∀ (d : Nat) (l0 : Value) (l1 : Int32) (l2 : Value) (l3 : Value) (x1 : Int32) (x0 : Nat) (h : zMm) (Q : Option Value → zMm → Prop), zWp d zi_36 none 95 [l0, .int l1, l2, l3] [.int x1, .ref x0] h Q = zWp d zi_36 none 96 [l0, .int l1, l2, l3] [.int l1, .int x1, .ref x0] h Q) ∧
    (∀ (d : Nat) (l0 : Value) (l1 : Value) (l2 : Value) (l3 : Value) (x2 : Int32) (x1 : Int32) (x0 : Nat) (h : zMm) (Q : Option Value → zMm → Prop), zWp d zi_36 none 96 [l0, l1, l2, l3] [.int x2, .int x1, .ref x0] h Q = zWp d zi_36 none 97 [l0, l1, l2, l3] [.int 1, .int x2, .int x1, .ref x0] h Q) ∧
    (∀ (d : Nat) (l0 : Value) (l1 : Value) (l2 : Value) (l3 : Value) (x3 : Int32) (x2 : Int32) (x1 : Int32) (x0 : Nat) (h : zMm) (Q : Option Value → zMm → Prop), zWp d zi_36 none 97 [l0, l1, l2, l3] [.int x3, .int x2, .int x1, .ref x0] h Q = zWp d zi_36 none 98 [l0, l1, l2, l3] [.int (x2 + x3), .int x1, .ref x0] h Q) ∧
    (∀ (d : Nat) (l0 : Value) (l1 : Value) (l2 : Value) (l3 : Value) (x2 : Int32) (x1 : Int32) (x0 : Nat) (I : Nat → Nat → Int32) (L : Nat → Nat → Int64) (P : Nat → Nat → Option Nat) (Q : Option Value → zMm → Prop), zSH[x0]? = some (.inl 4) → zWp d zi_36 none 98 [l0, l1, l2, l3] [.int x2, .int x1, .ref x0] (zSH, I, L, P) Q = zWM d 35 [.ref x0, .int x1, .int x2] (zSH, I, L, P) (fun r h1 => zWp d zi_36 none 101 [l0, l1, l2, l3] (r.toList ++ []) h1 Q)) ∧
    (∀ (d : Nat) (l0 : Value) (l1 : Value) (l2 : Value) (l3 : Value) (x0 : Int32) (h : zMm) (Q : Option Value → zMm → Prop), zWp d zi_36 none 101 [l0, l1, l2, l3] [.int x0] h Q = if x0 = 0 then zWp d zi_36 none 113 [l0, l1, l2, l3] [] h Q else zWp d zi_36 none 104 [l0, l1, l2, l3] [] h Q) ∧
    (∀ (d : Nat) (l0 : Nat) (l1 : Value) (l2 : Value) (l3 : Value)  (h : zMm) (Q : Option Value → zMm → Prop), zWp d zi_36 none 104 [.ref l0, l1, l2, l3] [] h Q = zWp d zi_36 none 105 [.ref l0, l1, l2, l3] [.ref l0] h Q) ∧
    (∀ (d : Nat) (l0 : Value) (l1 : Value) (l2 : Value) (l3 : Value) (x0 : Nat) (I : Nat → Nat → Int32) (L : Nat → Nat → Int64) (P : Nat → Nat → Option Nat) (Q : Option Value → zMm → Prop), zSH[x0]? = some (.inl 4) → zWp d zi_36 none 105 [l0, l1, l2, l3] [.ref x0] (zSH, I, L, P) Q = zWM d 38 [.ref x0] (zSH, I, L, P) (fun r h1 => zWp d zi_36 none 108 [l0, l1, l2, l3] (r.toList ++ []) h1 Q)) ∧
    (∀ (d : Nat) (l0 : Value) (l1 : Value) (l2 : Value) (l3 : Value) (x0 : Int32) (h : zMm) (Q : Option Value → zMm → Prop), zWp d zi_36 none 108 [l0, l1, l2, l3] [.int x0] h Q = zWp d zi_36 none 110 [l0, l1, l2, l3] [.int 41, .int x0] h Q) ∧
    (∀ (d : Nat) (l0 : Value) (l1 : Value) (l2 : Value) (l3 : Value) (x1 : Int32) (x0 : Int32) (h : zMm) (Q : Option Value → zMm → Prop), zWp d zi_36 none 110 [l0, l1, l2, l3] [.int x1, .int x0] h Q = if x0 = x1 then zWp d zi_36 none 115 [l0, l1, l2, l3] [] h Q else zWp d zi_36 none 113 [l0, l1, l2, l3] [] h Q) ∧
    (∀ (d : Nat) (l0 : Value) (l1 : Value) (l2 : Value) (l3 : Value)  (h : zMm) (Q : Option Value → zMm → Prop), zWp d zi_36 none 113 [l0, l1, l2, l3] [] h Q = zWp d zi_36 none 114 [l0, l1, l2, l3] [.int 0] h Q) ∧
    (∀ (d : Nat) (l0 : Value) (l1 : Value) (l2 : Value) (l3 : Value) (x0 : Int32) (h : zMm) (Q : Option Value → zMm → Prop), x0 = 0 ∨ x0 = 1 → zWp d zi_36 none 114 [l0, l1, l2, l3] [.int x0] h Q = Q (some (.int x0)) h) ∧
    (∀ (d : Nat) (l0 : Nat) (l1 : Value) (l2 : Value) (l3 : Value)  (h : zMm) (Q : Option Value → zMm → Prop), zWp d zi_36 none 115 [.ref l0, l1, l2, l3] [] h Q = zWp d zi_36 none 116 [.ref l0, l1, l2, l3] [.ref l0] h Q) ∧
    (∀ (d : Nat) (l0 : Value) (l1 : Value) (l2 : Value) (l3 : Value) (x0 : Nat) (h : zMm) (Q : Option Value → zMm → Prop), zWp d zi_36 none 116 [l0, l1, l2, l3] [.ref x0] h Q = zWp d zi_36 none 117 [l0, l1, l2, l3] [.ref x0, .ref x0] h Q) ∧
    (∀ (d : Nat) (l0 : Value) (l1 : Value) (l2 : Value) (l3 : Value) (x1 : Nat) (x0 : Nat) (I : Nat → Nat → Int32) (L : Nat → Nat → Int64) (P : Nat → Nat → Option Nat) (Q : Option Value → zMm → Prop), zSH[x1]? = some (.inl 4) → zWp d zi_36 none 117 [l0, l1, l2, l3] [.ref x1, .ref x0] (zSH, I, L, P) Q = zWp d zi_36 none 120 [l0, l1, l2, l3] [.int (I x1 2), .ref x0] (zSH, I, L, P) Q) ∧
    (∀ (d : Nat) (l0 : Value) (l1 : Value) (l2 : Value) (l3 : Value) (x1 : Int32) (x0 : Nat) (h : zMm) (Q : Option Value → zMm → Prop), zWp d zi_36 none 120 [l0, l1, l2, l3] [.int x1, .ref x0] h Q = zWp d zi_36 none 121 [l0, l1, l2, l3] [.int 1, .int x1, .ref x0] h Q) ∧
    (∀ (d : Nat) (l0 : Value) (l1 : Value) (l2 : Value) (l3 : Value) (x2 : Int32) (x1 : Int32) (x0 : Nat) (h : zMm) (Q : Option Value → zMm → Prop), zWp d zi_36 none 121 [l0, l1, l2, l3] [.int x2, .int x1, .ref x0] h Q = zWp d zi_36 none 122 [l0, l1, l2, l3] [.int (x1 + x2), .ref x0] h Q) ∧
    (∀ (d : Nat) (l0 : Value) (l1 : Value) (l2 : Value) (l3 : Value) (x1 : Int32) (x0 : Nat) (I : Nat → Nat → Int32) (L : Nat → Nat → Int64) (P : Nat → Nat → Option Nat) (Q : Option Value → zMm → Prop), zSH[x0]? = some (.inl 4) → zWp d zi_36 none 122 [l0, l1, l2, l3] [.int x1, .ref x0] (zSH, I, L, P) Q = zWp d zi_36 none 125 [l0, l1, l2, l3] [] (zSH, zw I x0 (upd (I x0) 2 x1), L, P) Q) ∧
    (∀ (d : Nat) (l0 : Value) (l1 : Value) (l2 : Value) (l3 : Value)  (h : zMm) (Q : Option Value → zMm → Prop), zWp d zi_36 none 125 [l0, l1, l2, l3] [] h Q = zWp d zi_36 none 126 [l0, l1, l2, l3] [.int 1] h Q) ∧
    (∀ (d : Nat) (l0 : Value) (l1 : Value) (l2 : Value) (l3 : Value) (x0 : Int32) (h : zMm) (Q : Option Value → zMm → Prop), x0 = 0 ∨ x0 = 1 → zWp d zi_36 none 126 [l0, l1, l2, l3] [.int x0] h Q = Q (some (.int x0)) h) ∧
    (∀ (d : Nat) (l0 : Nat) (l1 : Value) (l2 : Value) (l3 : Value)  (h : zMm) (Q : Option Value → zMm → Prop), zWp d zi_36 none 127 [.ref l0, l1, l2, l3] [] h Q = zWp d zi_36 none 128 [.ref l0, l1, l2, l3] [.ref l0] h Q) ∧
    (∀ (d : Nat) (l0 : Value) (l1 : Int32) (l2 : Value) (l3 : Value) (x0 : Nat) (h : zMm) (Q : Option Value → zMm → Prop), zWp d zi_36 none 128 [l0, .int l1, l2, l3] [.ref x0] h Q = zWp d zi_36 none 129 [l0, .int l1, l2, l3] [.int l1, .ref x0] h Q) ∧
    (∀ (d : Nat) (l0 : Value) (l1 : Value) (l2 : Value) (l3 : Value) (x1 : Int32) (x0 : Nat) (h : zMm) (Q : Option Value → zMm → Prop), zWp d zi_36 none 129 [l0, l1, l2, l3] [.int x1, .ref x0] h Q = zWp d zi_36 none 130 [l0, l1, l2, l3] [.int 1, .int x1, .ref x0] h Q) ∧
    (∀ (d : Nat) (l0 : Value) (l1 : Value) (l2 : Value) (l3 : Value) (x2 : Int32) (x1 : Int32) (x0 : Nat) (h : zMm) (Q : Option Value → zMm → Prop), zWp d zi_36 none 130 [l0, l1, l2, l3] [.int x2, .int x1, .ref x0] h Q = zWp d zi_36 none 131 [l0, l1, l2, l3] [.int (x1 + x2), .ref x0] h Q) ∧
    (∀ (d : Nat) (l0 : Value) (l1 : Value) (l2 : Value) (l3 : Value) (x1 : Int32) (x0 : Nat) (I : Nat → Nat → Int32) (L : Nat → Nat → Int64) (P : Nat → Nat → Option Nat) (Q : Option Value → zMm → Prop), zSH[x0]? = some (.inl 4) → zWp d zi_36 none 131 [l0, l1, l2, l3] [.int x1, .ref x0] (zSH, I, L, P) Q = zWM d 36 [.ref x0, .int x1] (zSH, I, L, P) (fun r h1 => zWp d zi_36 none 134 [l0, l1, l2, l3] (r.toList ++ []) h1 Q)) ∧
    (∀ (d : Nat) (l0 : Value) (l1 : Value) (l2 : Value) (l3 : Value) (x0 : Int32) (h : zMm) (Q : Option Value → zMm → Prop), zWp d zi_36 none 134 [l0, l1, l2, l3] [.int x0] h Q = if x0 = 0 then zWp d zi_36 none 137 [l0, l1, l2, l3] [] h Q else zWp d zi_36 none 139 [l0, l1, l2, l3] [] h Q) ∧
    (∀ (d : Nat) (l0 : Value) (l1 : Value) (l2 : Value) (l3 : Value)  (h : zMm) (Q : Option Value → zMm → Prop), zWp d zi_36 none 137 [l0, l1, l2, l3] [] h Q = zWp d zi_36 none 138 [l0, l1, l2, l3] [.int 0] h Q) ∧
    (∀ (d : Nat) (l0 : Value) (l1 : Value) (l2 : Value) (l3 : Value) (x0 : Int32) (h : zMm) (Q : Option Value → zMm → Prop), x0 = 0 ∨ x0 = 1 → zWp d zi_36 none 138 [l0, l1, l2, l3] [.int x0] h Q = Q (some (.int x0)) h) ∧
    (∀ (d : Nat) (l0 : Nat) (l1 : Value) (l2 : Value) (l3 : Value)  (h : zMm) (Q : Option Value → zMm → Prop), zWp d zi_36 none 139 [.ref l0, l1, l2, l3] [] h Q = zWp d zi_36 none 140 [.ref l0, l1, l2, l3] [.ref l0] h Q) ∧
    (∀ (d : Nat) (l0 : Value) (l1 : Value) (l2 : Value) (l3 : Value) (x0 : Nat) (I : Nat → Nat → Int32) (L : Nat → Nat → Int64) (P : Nat → Nat → Option Nat) (Q : Option Value → zMm → Prop), zSH[x0]? = some (.inl 4) → zWp d zi_36 none 140 [l0, l1, l2, l3] [.ref x0] (zSH, I, L, P) Q = zWp d zi_36 none 143 [l0, l1, l2, l3] [va_rf (P x0 3)] (zSH, I, L, P) Q) ∧
    (∀ (d : Nat) (l0 : Value) (l1 : Value) (l2 : Int32) (l3 : Value) (x0 : Nat) (h : zMm) (Q : Option Value → zMm → Prop), zWp d zi_36 none 143 [l0, l1, .int l2, l3] [.ref x0] h Q = zWp d zi_36 none 144 [l0, l1, .int l2, l3] [.int l2, .ref x0] h Q) ∧
    (∀ (d : Nat) (l0 : Value) (l1 : Value) (l2 : Value) (l3 : Value) (x1 : Int32) (x0 : Nat) (h : zMm) (Q : Option Value → zMm → Prop), zWp d zi_36 none 144 [l0, l1, l2, l3] [.int x1, .ref x0] h Q = zWp d zi_36 none 146 [l0, l1, l2, l3] [.int 33, .int x1, .ref x0] h Q) ∧
    (∀ (d : Nat) (l0 : Value) (l1 : Value) (l2 : Value) (l3 : Value) (x2 : Int32) (x1 : Int32) (x0 : Nat) (h : zMm) (Q : Option Value → zMm → Prop), zWp d zi_36 none 146 [l0, l1, l2, l3] [.int x2, .int x1, .ref x0] h Q = if x1 = x2 then zWp d zi_36 none 149 [l0, l1, l2, l3] [.ref x0] h Q else zWp d zi_36 none 154 [l0, l1, l2, l3] [.ref x0] h Q) ∧
    (∀ (d : Nat) (l0 : Value) (l1 : Value) (l2 : Value) (l3 : Value) (x0 : Nat) (h : zMm) (Q : Option Value → zMm → Prop), zWp d zi_36 none 149 [l0, l1, l2, l3] [.ref x0] h Q = zWp d zi_36 none 151 [l0, l1, l2, l3] [.int 33, .ref x0] h Q) ∧
    (∀ (d : Nat) (l0 : Value) (l1 : Value) (l2 : Value) (l3 : Value) (x1 : Int32) (x0 : Nat) (h : zMm) (Q : Option Value → zMm → Prop), zWp d zi_36 none 151 [l0, l1, l2, l3] [.int x1, .ref x0] h Q = zWp d zi_36 none 156 [l0, l1, l2, l3] [.int x1, .ref x0] h Q) ∧
    (∀ (d : Nat) (l0 : Value) (l1 : Value) (l2 : Value) (l3 : Value) (x0 : Nat) (h : zMm) (Q : Option Value → zMm → Prop), zWp d zi_36 none 154 [l0, l1, l2, l3] [.ref x0] h Q = zWp d zi_36 none 156 [l0, l1, l2, l3] [.int 126, .ref x0] h Q) ∧
    (∀ (d : Nat) (l0 : Value) (l1 : Value) (l2 : Value) (l3 : Value) (x1 : Int32) (x0 : Nat) (h : zMm) (Q : Option Value → zMm → Prop), zWp d zi_36 none 156 [l0, l1, l2, l3] [.int x1, .ref x0] h Q = zWp d zi_36 none 157 [l0, l1, l2, l3] [.int 0, .int x1, .ref x0] h Q) ∧
    (∀ (d : Nat) (l0 : Value) (l1 : Value) (l2 : Value) (l3 : Value) (x2 : Int32) (x1 : Int32) (x0 : Nat) (I : Nat → Nat → Int32) (L : Nat → Nat → Int64) (P : Nat → Nat → Option Nat) (Q : Option Value → zMm → Prop), zSH[x0]? = some (.inl 5) → zWp d zi_36 none 157 [l0, l1, l2, l3] [.int x2, .int x1, .ref x0] (zSH, I, L, P) Q = zWM d 43 [.ref x0, .int x1, .int x2] (zSH, I, L, P) (fun r h1 => zWp d zi_36 none 160 [l0, l1, l2, l3] (r.toList ++ []) h1 Q)) ∧
    (∀ (d : Nat) (l0 : Value) (l1 : Value) (l2 : Value) (l3 : Value)  (h : zMm) (Q : Option Value → zMm → Prop), zWp d zi_36 none 160 [l0, l1, l2, l3] [] h Q = zWp d zi_36 none 161 [l0, l1, l2, l3] [.int 1] h Q) ∧
    (∀ (d : Nat) (l0 : Value) (l1 : Value) (l2 : Value) (l3 : Value) (x0 : Int32) (h : zMm) (Q : Option Value → zMm → Prop), x0 = 0 ∨ x0 = 1 → zWp d zi_36 none 161 [l0, l1, l2, l3] [.int x0] h Q = Q (some (.int x0)) h) :=
  ⟨(fun d l0 l1 l2 l3  h Q => zr_aload_n rfl rfl),
   (fun d l0 l1 l2 l3 x0 I L P Q p0 => zr_vir (as := []) (rest := []) rfl lm_4_32 m_38 kd_38 rfl (Nat.le_of_ble_eq_true rfl) p0),
   (fun d l0 l1 l2 l3 x0 h Q => zr_istore_n (n := 2) rfl (Nat.le_of_ble_eq_true rfl) rfl),
   (fun d l0 l1 l2 l3  h Q => zr_iload_n rfl rfl),
   (fun d l0 l1 l2 l3 x0 h Q => zr_sta (as := [.int x0]) (rest := []) rfl lm_4_53 (by decide) m_39 kd_39 rfl (Nat.le_of_ble_eq_true rfl)),
   (fun d l0 l1 l2 l3 x0 h Q => zr_if_eq rfl (by decide)),
   (fun d l0 l1 l2 l3  h Q => zr_aload_n rfl rfl),
   (fun d l0 l1 l2 l3 x0 I L P Q p0 => zr_vir (as := []) (rest := []) rfl lm_4_56 m_37 kd_37 rfl (Nat.le_of_ble_eq_true rfl) p0),
   (fun d l0 l1 l2 l3  h Q => zr_iconst rfl (by decide)),
   (fun d l0 l1 l2 l3 x0 h Q p0 => zr_zret rfl rfl p0),
   (fun d l0 l1 l2 l3  h Q => zr_iload_n rfl rfl),
   (fun d l0 l1 l2 l3 x0 h Q => zr_sta (as := [.int x0]) (rest := []) rfl lm_4_59 (by decide) m_40 kd_40 rfl (Nat.le_of_ble_eq_true rfl)),
   (fun d l0 l1 l2 l3 x0 h Q => zr_istore_n (n := 3) rfl (Nat.le_of_ble_eq_true rfl) rfl),
   (fun d l0 l1 l2 l3  h Q => zr_iload_n rfl rfl),
   (fun d l0 l1 l2 l3 x0 h Q => zr_bipush rfl (by decide)),
   (fun d l0 l1 l2 l3 x1 x0 h Q => zr_ic_eq rfl (by decide)),
   (fun d l0 l1 l2 l3  h Q => zr_aload_n rfl rfl),
   (fun d l0 l1 l2 l3 x0 h Q => zr_dup rfl rfl),
   (fun d l0 l1 l2 l3 x1 x0 I L P Q p0 => zr_getI rfl lf_4_25 (fun _ _ _ => rfl) p0),
   (fun d l0 l1 l2 l3 x1 x0 h Q => zr_iconst rfl (by decide)),
   (fun d l0 l1 l2 l3 x2 x1 x0 h Q => zr_iadd rfl),
   (fun d l0 l1 l2 l3 x1 x0 I L P Q p0 => zr_putI rfl lf_4_25 (by decide) rfl p0),
   (fun d l0 l1 l2 l3  h Q => zr_aload_n rfl rfl),
   (fun d l0 l1 l2 l3 x0 I L P Q p0 => zr_getQ rfl lf_4_15 (fun _ _ _ => rfl) p0),
   (fun d l0 l1 l2 l3 x0 h Q => zr_bipush rfl (by decide)),
   (fun d l0 l1 l2 l3 x1 x0 h Q => zr_iload_n rfl rfl),
   (fun d l0 l1 l2 l3 x2 x1 x0 I L P Q p0 => zr_vir (as := [.int x2, .int x1]) (rest := []) rfl lm_4_41 m_43 kd_43 rfl (Nat.le_of_ble_eq_true rfl) p0),
   (fun d l0 l1 l2 l3  h Q => zr_iconst rfl (by decide)),
   (fun d l0 l1 l2 l3 x0 h Q p0 => zr_zret rfl rfl p0),
   (fun d l0 l1 l2 l3  h Q => zr_iload_n rfl rfl),
   (fun d l0 l1 l2 l3 x0 h Q => zr_bipush rfl (by decide)),
   (fun d l0 l1 l2 l3 x1 x0 h Q => zr_ic_ge rfl (by decide)),
   (fun d l0 l1 l2 l3  h Q => zr_iload_n rfl rfl),
   (fun d l0 l1 l2 l3 x0 h Q => zr_bipush rfl (by decide)),
   (fun d l0 l1 l2 l3 x1 x0 h Q => zr_ic_eq rfl (by decide)),
   (fun d l0 l1 l2 l3  h Q => zr_iload_n rfl rfl),
   (fun d l0 l1 l2 l3 x0 h Q => zr_bipush rfl (by decide)),
   (fun d l0 l1 l2 l3 x1 x0 h Q => zr_ic_eq rfl (by decide)),
   (fun d l0 l1 l2 l3  h Q => zr_iload_n rfl rfl),
   (fun d l0 l1 l2 l3 x0 h Q => zr_bipush rfl (by decide)),
   (fun d l0 l1 l2 l3 x1 x0 h Q => zr_ic_eq rfl (by decide)),
   (fun d l0 l1 l2 l3  h Q => zr_iconst rfl (by decide)),
   (fun d l0 l1 l2 l3 x0 h Q p0 => zr_zret rfl rfl p0),
   (fun d l0 l1 l2 l3  h Q => zr_aload_n rfl rfl),
   (fun d l0 l1 l2 l3 x0 h Q => zr_dup rfl rfl),
   (fun d l0 l1 l2 l3 x1 x0 I L P Q p0 => zr_getI rfl lf_4_25 (fun _ _ _ => rfl) p0),
   (fun d l0 l1 l2 l3 x1 x0 h Q => zr_iconst rfl (by decide)),
   (fun d l0 l1 l2 l3 x2 x1 x0 h Q => zr_iadd rfl),
   (fun d l0 l1 l2 l3 x1 x0 I L P Q p0 => zr_putI rfl lf_4_25 (by decide) rfl p0),
   (fun d l0 l1 l2 l3  h Q => zr_iload_n rfl rfl),
   (fun d l0 l1 l2 l3 x0 h Q => zr_bipush rfl (by decide)),
   (fun d l0 l1 l2 l3 x1 x0 h Q => zr_ic_ne rfl (by decide)),
   (fun d l0 l1 l2 l3  h Q => zr_aload_n rfl rfl),
   (fun d l0 l1 l2 l3 x0 h Q => zr_iconst rfl (by decide)),
   (fun d l0 l1 l2 l3 x1 x0 h Q => zr_iload_n rfl rfl),
   (fun d l0 l1 l2 l3 x2 x1 x0 h Q => zr_iconst rfl (by decide)),
   (fun d l0 l1 l2 l3 x3 x2 x1 x0 h Q => zr_iadd rfl),
   (fun d l0 l1 l2 l3 x2 x1 x0 I L P Q p0 => zr_vir (as := [.int x2, .int x1]) (rest := []) rfl lm_4_37 m_35 kd_35 rfl (Nat.le_of_ble_eq_true rfl) p0),
   (fun d l0 l1 l2 l3 x0 h Q => zr_if_eq rfl (by decide)),
   (fun d l0 l1 l2 l3  h Q => zr_aload_n rfl rfl),
   (fun d l0 l1 l2 l3 x0 I L P Q p0 => zr_vir (as := []) (rest := []) rfl lm_4_32 m_38 kd_38 rfl (Nat.le_of_ble_eq_true rfl) p0),
   (fun d l0 l1 l2 l3 x0 h Q => zr_bipush rfl (by decide)),
   (fun d l0 l1 l2 l3 x1 x0 h Q => zr_ic_eq rfl (by decide)),
   (fun d l0 l1 l2 l3  h Q => zr_iconst rfl (by decide)),
   (fun d l0 l1 l2 l3 x0 h Q p0 => zr_zret rfl rfl p0),
   (fun d l0 l1 l2 l3  h Q => zr_aload_n rfl rfl),
   (fun d l0 l1 l2 l3 x0 h Q => zr_dup rfl rfl),
   (fun d l0 l1 l2 l3 x1 x0 I L P Q p0 => zr_getI rfl lf_4_25 (fun _ _ _ => rfl) p0),
   (fun d l0 l1 l2 l3 x1 x0 h Q => zr_iconst rfl (by decide)),
   (fun d l0 l1 l2 l3 x2 x1 x0 h Q => zr_iadd rfl),
   (fun d l0 l1 l2 l3 x1 x0 I L P Q p0 => zr_putI rfl lf_4_25 (by decide) rfl p0),
   (fun d l0 l1 l2 l3  h Q => zr_iconst rfl (by decide)),
   (fun d l0 l1 l2 l3 x0 h Q p0 => zr_zret rfl rfl p0),
   (fun d l0 l1 l2 l3  h Q => zr_aload_n rfl rfl),
   (fun d l0 l1 l2 l3 x0 h Q => zr_iload_n rfl rfl),
   (fun d l0 l1 l2 l3 x1 x0 h Q => zr_iconst rfl (by decide)),
   (fun d l0 l1 l2 l3 x2 x1 x0 h Q => zr_iadd rfl),
   (fun d l0 l1 l2 l3 x1 x0 I L P Q p0 => zr_vir (as := [.int x1]) (rest := []) rfl lm_4_45 m_36 kd_36 rfl (Nat.le_of_ble_eq_true rfl) p0),
   (fun d l0 l1 l2 l3 x0 h Q => zr_if_ne rfl (by decide)),
   (fun d l0 l1 l2 l3  h Q => zr_iconst rfl (by decide)),
   (fun d l0 l1 l2 l3 x0 h Q p0 => zr_zret rfl rfl p0),
   (fun d l0 l1 l2 l3  h Q => zr_aload_n rfl rfl),
   (fun d l0 l1 l2 l3 x0 I L P Q p0 => zr_getQ rfl lf_4_15 (fun _ _ _ => rfl) p0),
   (fun d l0 l1 l2 l3 x0 h Q => zr_iload_n rfl rfl),
   (fun d l0 l1 l2 l3 x1 x0 h Q => zr_bipush rfl (by decide)),
   (fun d l0 l1 l2 l3 x2 x1 x0 h Q => zr_ic_ne rfl (by decide)),
   (fun d l0 l1 l2 l3 x0 h Q => zr_bipush rfl (by decide)),
   (fun d l0 l1 l2 l3 x1 x0 h Q => zr_goto rfl (by decide)),
   (fun d l0 l1 l2 l3 x0 h Q => zr_bipush rfl (by decide)),
   (fun d l0 l1 l2 l3 x1 x0 h Q => zr_iconst rfl (by decide)),
   (fun d l0 l1 l2 l3 x2 x1 x0 I L P Q p0 => zr_vir (as := [.int x2, .int x1]) (rest := []) rfl lm_4_41 m_43 kd_43 rfl (Nat.le_of_ble_eq_true rfl) p0),
   (fun d l0 l1 l2 l3  h Q => zr_iconst rfl (by decide)),
   (fun d l0 l1 l2 l3 x0 h Q p0 => zr_zret rfl rfl p0)⟩
theorem E_X4_number : ∀ (d : Nat) (a0 : Nat) (h : zMm) (Q : Option Value → zMm → Prop), zWM (d + 1) 37 [.ref a0] h Q = zWp d zi_37 none 0 [.ref a0, .retAddr 0, .retAddr 0] [] h Q := fun d a0 h Q => zW_M m_37 (Nat.le_of_ble_eq_true rfl) rfl
set_option maxRecDepth 100000 in
theorem R_X4_number :
    (∀ (d : Nat) (l0 : Value) (l1 : Value) (l2 : Value)  (h : zMm) (Q : Option Value → zMm → Prop), zWp d zi_37 none 0 [l0, l1, l2] [] h Q = zWp d zi_37 none 1 [l0, l1, l2] [.int 0] h Q) ∧
    (∀ (d : Nat) (l0 : Nat) (l1 : Value) (l2 : Value) (x0 : Int32) (h : zMm) (Q : Option Value → zMm → Prop), zWp d zi_37 none 1 [.ref l0, l1, l2] [.int x0] h Q = zWp d zi_37 none 2 [.ref l0, .int x0, l2] [] h Q) ∧
    (∀ (d : Nat) (l0 : Value) (l1 : Value) (l2 : Value)  (h : zMm) (Q : Option Value → zMm → Prop), zWp d zi_37 none 2 [l0, l1, l2] [] h Q = zWp d zi_37 none 3 [l0, l1, l2] [.int 0] h Q) ∧
    (∀ (d : Nat) (l0 : Value) (l1 : Int32) (l2 : Value) (x0 : Int32) (h : zMm) (Q : Option Value → zMm → Prop), zWp d zi_37 none 3 [l0, .int l1, l2] [.int x0] h Q = zWp d zi_37 none 4 [l0, .int l1, .int x0] [] h Q) ∧
    (∀ (d : Nat) (l0 : Value) (l1 : Value) (l2 : Value) (x0 : Int32) (h : zMm) (Q : Option Value → zMm → Prop), zWp d zi_37 none 5 [l0, l1, l2] [.int x0] h Q = zWp d zi_37 none 6 [l0, l1, l2] [.int 4, .int x0] h Q) ∧
    (∀ (d : Nat) (l0 : Value) (l1 : Value) (l2 : Value) (x1 : Int32) (x0 : Int32) (h : zMm) (Q : Option Value → zMm → Prop), zWp d zi_37 none 6 [l0, l1, l2] [.int x1, .int x0] h Q = if x1 ≤ x0 then zWp d zi_37 none 48 [l0, l1, l2] [] h Q else zWp d zi_37 none 9 [l0, l1, l2] [] h Q) ∧
    (∀ (d : Nat) (l0 : Nat) (l1 : Value) (l2 : Value)  (h : zMm) (Q : Option Value → zMm → Prop), zWp d zi_37 none 9 [.ref l0, l1, l2] [] h Q = zWp d zi_37 none 10 [.ref l0, l1, l2] [.ref l0] h Q) ∧
    (∀ (d : Nat) (l0 : Value) (l1 : Value) (l2 : Value) (x0 : Nat) (I : Nat → Nat → Int32) (L : Nat → Nat → Int64) (P : Nat → Nat → Option Nat) (Q : Option Value → zMm → Prop), zSH[x0]? = some (.inl 4) → zWp d zi_37 none 10 [l0, l1, l2] [.ref x0] (zSH, I, L, P) Q = zWM d 38 [.ref x0] (zSH, I, L, P) (fun r h1 => zWp d zi_37 none 13 [l0, l1, l2] (r.toList ++ []) h1 Q)) ∧
    (∀ (d : Nat) (l0 : Value) (l1 : Value) (l2 : Value) (x0 : Int32) (h : zMm) (Q : Option Value → zMm → Prop), zWp d zi_37 none 13 [l0, l1, l2] [.int x0] h Q = zWM d 39 [.int x0] h (fun r h1 => zWp d zi_37 none 16 [l0, l1, l2] (r.toList ++ []) h1 Q)) ∧
    (∀ (d : Nat) (l0 : Value) (l1 : Value) (l2 : Value) (x0 : Int32) (h : zMm) (Q : Option Value → zMm → Prop), zWp d zi_37 none 16 [l0, l1, l2] [.int x0] h Q = if x0 = 0 then zWp d zi_37 none 48 [l0, l1, l2] [] h Q else zWp d zi_37 none 19 [l0, l1, l2] [] h Q) ∧
    (∀ (d : Nat) (l0 : Value) (l1 : Value) (l2 : Value)  (h : zMm) (Q : Option Value → zMm → Prop), zWp d zi_37 none 19 [l0, l1, l2] [] h Q = zWp d zi_37 none 21 [l0, l1, l2] [.int 10] h Q) ∧
    (∀ (d : Nat) (l0 : Value) (l1 : Int32) (l2 : Value) (x0 : Int32) (h : zMm) (Q : Option Value → zMm → Prop), zWp d zi_37 none 21 [l0, .int l1, l2] [.int x0] h Q = zWp d zi_37 none 22 [l0, .int l1, l2] [.int l1, .int x0] h Q) ∧
    (∀ (d : Nat) (l0 : Value) (l1 : Value) (l2 : Value) (x1 : Int32) (x0 : Int32) (h : zMm) (Q : Option Value → zMm → Prop), zWp d zi_37 none 22 [l0, l1, l2] [.int x1, .int x0] h Q = zWp d zi_37 none 23 [l0, l1, l2] [.int (x0 * x1)] h Q) ∧
    (∀ (d : Nat) (l0 : Nat) (l1 : Value) (l2 : Value) (x0 : Int32) (h : zMm) (Q : Option Value → zMm → Prop), zWp d zi_37 none 23 [.ref l0, l1, l2] [.int x0] h Q = zWp d zi_37 none 24 [.ref l0, l1, l2] [.ref l0, .int x0] h Q) ∧
    (∀ (d : Nat) (l0 : Value) (l1 : Value) (l2 : Value) (x1 : Nat) (x0 : Int32) (I : Nat → Nat → Int32) (L : Nat → Nat → Int64) (P : Nat → Nat → Option Nat) (Q : Option Value → zMm → Prop), zSH[x1]? = some (.inl 4) → zWp d zi_37 none 24 [l0, l1, l2] [.ref x1, .int x0] (zSH, I, L, P) Q = zWM d 38 [.ref x1] (zSH, I, L, P) (fun r h1 => zWp d zi_37 none 27 [l0, l1, l2] (r.toList ++ [.int x0]) h1 Q)) ∧
    (∀ (d : Nat) (l0 : Value) (l1 : Value) (l2 : Value) (x1 : Int32) (x0 : Int32) (h : zMm) (Q : Option Value → zMm → Prop), zWp d zi_37 none 27 [l0, l1, l2] [.int x1, .int x0] h Q = zWp d zi_37 none 28 [l0, l1, l2] [.int (x0 + x1)] h Q) ∧
    (∀ (d : Nat) (l0 : Value) (l1 : Value) (l2 : Value) (x0 : Int32) (h : zMm) (Q : Option Value → zMm → Prop), zWp d zi_37 none 28 [l0, l1, l2] [.int x0] h Q = zWp d zi_37 none 30 [l0, l1, l2] [.int 48, .int x0] h Q) ∧
    (∀ (d : Nat) (l0 : Value) (l1 : Value) (l2 : Value) (x1 : Int32) (x0 : Int32) (h : zMm) (Q : Option Value → zMm → Prop), zWp d zi_37 none 30 [l0, l1, l2] [.int x1, .int x0] h Q = zWp d zi_37 none 31 [l0, l1, l2] [.int (x0 - x1)] h Q) ∧
    (∀ (d : Nat) (l0 : Nat) (l1 : Value) (l2 : Value) (x0 : Int32) (h : zMm) (Q : Option Value → zMm → Prop), zWp d zi_37 none 31 [.ref l0, l1, l2] [.int x0] h Q = zWp d zi_37 none 32 [.ref l0, .int x0, l2] [] h Q) ∧
    (∀ (d : Nat) (l0 : Nat) (l1 : Value) (l2 : Value)  (h : zMm) (Q : Option Value → zMm → Prop), zWp d zi_37 none 32 [.ref l0, l1, l2] [] h Q = zWp d zi_37 none 33 [.ref l0, l1, l2] [.ref l0] h Q) ∧
    (∀ (d : Nat) (l0 : Value) (l1 : Value) (l2 : Value) (x0 : Nat) (h : zMm) (Q : Option Value → zMm → Prop), zWp d zi_37 none 33 [l0, l1, l2] [.ref x0] h Q = zWp d zi_37 none 34 [l0, l1, l2] [.ref x0, .ref x0] h Q) ∧
    (∀ (d : Nat) (l0 : Value) (l1 : Value) (l2 : Value) (x1 : Nat) (x0 : Nat) (I : Nat → Nat → Int32) (L : Nat → Nat → Int64) (P : Nat → Nat → Option Nat) (Q : Option Value → zMm → Prop), zSH[x1]? = some (.inl 4) → zWp d zi_37 none 34 [l0, l1, l2] [.ref x1, .ref x0] (zSH, I, L, P) Q = zWp d zi_37 none 37 [l0, l1, l2] [.int (I x1 2), .ref x0] (zSH, I, L, P) Q) ∧
    (∀ (d : Nat) (l0 : Value) (l1 : Value) (l2 : Value) (x1 : Int32) (x0 : Nat) (h : zMm) (Q : Option Value → zMm → Prop), zWp d zi_37 none 37 [l0, l1, l2] [.int x1, .ref x0] h Q = zWp d zi_37 none 38 [l0, l1, l2] [.int 1, .int x1, .ref x0] h Q) ∧
    (∀ (d : Nat) (l0 : Value) (l1 : Value) (l2 : Value) (x2 : Int32) (x1 : Int32) (x0 : Nat) (h : zMm) (Q : Option Value → zMm → Prop), zWp d zi_37 none 38 [l0, l1, l2] [.int x2, .int x1, .ref x0] h Q = zWp d zi_37 none 39 [l0, l1, l2] [.int (x1 + x2), .ref x0] h Q) ∧
    (∀ (d : Nat) (l0 : Value) (l1 : Value) (l2 : Value) (x1 : Int32) (x0 : Nat) (I : Nat → Nat → Int32) (L : Nat → Nat → Int64) (P : Nat → Nat → Option Nat) (Q : Option Value → zMm → Prop), zSH[x0]? = some (.inl 4) → zWp d zi_37 none 39 [l0, l1, l2] [.int x1, .ref x0] (zSH, I, L, P) Q = zWp d zi_37 none 42 [l0, l1, l2] [] (zSH, zw I x0 (upd (I x0) 2 x1), L, P) Q) ∧
    (∀ (d : Nat) (l0 : Value) (l1 : Int32) (l2 : Int32)  (h : zMm) (Q : Option Value → zMm → Prop), zWp d zi_37 none 42 [l0, .int l1, .int l2] [] h Q = zWp d zi_37 none 45 [l0, .int l1, .int (l2 + 1)] [] h Q) ∧
    (∀ (d : Nat) (l0 : Value) (l1 : Value) (l2 : Value)  (h : zMm) (Q : Option Value → zMm → Prop), zWp d zi_37 none 45 [l0, l1, l2] [] h Q = zWp d zi_37 none 4 [l0, l1, l2] [] h Q) ∧
    (∀ (d : Nat) (l0 : Nat) (l1 : Value) (l2 : Value)  (h : zMm) (Q : Option Value → zMm → Prop), zWp d zi_37 none 48 [.ref l0, l1, l2] [] h Q = zWp d zi_37 none 49 [.ref l0, l1, l2] [.ref l0] h Q) ∧
    (∀ (d : Nat) (l0 : Value) (l1 : Value) (l2 : Value) (x0 : Nat) (I : Nat → Nat → Int32) (L : Nat → Nat → Int64) (P : Nat → Nat → Option Nat) (Q : Option Value → zMm → Prop), zSH[x0]? = some (.inl 4) → zWp d zi_37 none 49 [l0, l1, l2] [.ref x0] (zSH, I, L, P) Q = zWp d zi_37 none 52 [l0, l1, l2] [va_rf (P x0 3)] (zSH, I, L, P) Q) ∧
    (∀ (d : Nat) (l0 : Value) (l1 : Value) (l2 : Value) (x0 : Nat) (h : zMm) (Q : Option Value → zMm → Prop), zWp d zi_37 none 52 [l0, l1, l2] [.ref x0] h Q = zWp d zi_37 none 54 [l0, l1, l2] [.int 110, .ref x0] h Q) ∧
    (∀ (d : Nat) (l0 : Value) (l1 : Int32) (l2 : Value) (x1 : Int32) (x0 : Nat) (h : zMm) (Q : Option Value → zMm → Prop), zWp d zi_37 none 54 [l0, .int l1, l2] [.int x1, .ref x0] h Q = zWp d zi_37 none 55 [l0, .int l1, l2] [.int l1, .int x1, .ref x0] h Q) ∧
    (∀ (d : Nat) (l0 : Value) (l1 : Value) (l2 : Value) (x2 : Int32) (x1 : Int32) (x0 : Nat) (I : Nat → Nat → Int32) (L : Nat → Nat → Int64) (P : Nat → Nat → Option Nat) (Q : Option Value → zMm → Prop), zSH[x0]? = some (.inl 5) → zWp d zi_37 none 55 [l0, l1, l2] [.int x2, .int x1, .ref x0] (zSH, I, L, P) Q = zWM d 43 [.ref x0, .int x1, .int x2] (zSH, I, L, P) (fun r h1 => zWp d zi_37 none 58 [l0, l1, l2] (r.toList ++ []) h1 Q)) ∧
    (∀ (d : Nat) (l0 : Value) (l1 : Value) (l2 : Value)  (h : zMm) (Q : Option Value → zMm → Prop), zWp d zi_37 none 58 [l0, l1, l2] [] h Q = Q none h) :=
  ⟨(fun d l0 l1 l2  h Q => zr_iconst rfl (by decide)),
   (fun d l0 l1 l2 x0 h Q => zr_istore_n (n := 1) rfl (Nat.le_of_ble_eq_true rfl) rfl),
   (fun d l0 l1 l2  h Q => zr_iconst rfl (by decide)),
   (fun d l0 l1 l2 x0 h Q => zr_istore_n (n := 2) rfl (Nat.le_of_ble_eq_true rfl) rfl),
   (fun d l0 l1 l2 x0 h Q => zr_iconst rfl (by decide)),
   (fun d l0 l1 l2 x1 x0 h Q => zr_ic_ge rfl (by decide)),
   (fun d l0 l1 l2  h Q => zr_aload_n rfl rfl),
   (fun d l0 l1 l2 x0 I L P Q p0 => zr_vir (as := []) (rest := []) rfl lm_4_32 m_38 kd_38 rfl (Nat.le_of_ble_eq_true rfl) p0),
   (fun d l0 l1 l2 x0 h Q => zr_sta (as := [.int x0]) (rest := []) rfl lm_4_53 (by decide) m_39 kd_39 rfl (Nat.le_of_ble_eq_true rfl)),
   (fun d l0 l1 l2 x0 h Q => zr_if_eq rfl (by decide)),
   (fun d l0 l1 l2  h Q => zr_bipush rfl (by decide)),
   (fun d l0 l1 l2 x0 h Q => zr_iload_n rfl rfl),
   (fun d l0 l1 l2 x1 x0 h Q => zr_imul rfl),
   (fun d l0 l1 l2 x0 h Q => zr_aload_n rfl rfl),
   (fun d l0 l1 l2 x1 x0 I L P Q p0 => zr_vir (as := []) (rest := [.int x0]) rfl lm_4_32 m_38 kd_38 rfl (Nat.le_of_ble_eq_true rfl) p0),
   (fun d l0 l1 l2 x1 x0 h Q => zr_iadd rfl),
   (fun d l0 l1 l2 x0 h Q => zr_bipush rfl (by decide)),
   (fun d l0 l1 l2 x1 x0 h Q => zr_isub rfl),
   (fun d l0 l1 l2 x0 h Q => zr_istore_n (n := 1) rfl (Nat.le_of_ble_eq_true rfl) rfl),
   (fun d l0 l1 l2  h Q => zr_aload_n rfl rfl),
   (fun d l0 l1 l2 x0 h Q => zr_dup rfl rfl),
   (fun d l0 l1 l2 x1 x0 I L P Q p0 => zr_getI rfl lf_4_25 (fun _ _ _ => rfl) p0),
   (fun d l0 l1 l2 x1 x0 h Q => zr_iconst rfl (by decide)),
   (fun d l0 l1 l2 x2 x1 x0 h Q => zr_iadd rfl),
   (fun d l0 l1 l2 x1 x0 I L P Q p0 => zr_putI rfl lf_4_25 (by decide) rfl p0),
   (fun d l0 l1 l2  h Q => zr_iinc (n := 2) (kc := 1) rfl rfl (Nat.le_of_ble_eq_true rfl) rfl (by decide)),
   (fun d l0 l1 l2  h Q => zr_goto rfl (by decide)),
   (fun d l0 l1 l2  h Q => zr_aload_n rfl rfl),
   (fun d l0 l1 l2 x0 I L P Q p0 => zr_getQ rfl lf_4_15 (fun _ _ _ => rfl) p0),
   (fun d l0 l1 l2 x0 h Q => zr_bipush rfl (by decide)),
   (fun d l0 l1 l2 x1 x0 h Q => zr_iload_n rfl rfl),
   (fun d l0 l1 l2 x2 x1 x0 I L P Q p0 => zr_vir (as := [.int x2, .int x1]) (rest := []) rfl lm_4_41 m_43 kd_43 rfl (Nat.le_of_ble_eq_true rfl) p0),
   (fun d l0 l1 l2  h Q => zr_vret rfl rfl)⟩
theorem H_X4_number_4 : ∀ (d : Nat) (l0 : Value) (l1 : Value) (l2 : Int32)  (h : zMm) (Q : Option Value → zMm → Prop), zWp d zi_37 none 4 [l0, l1, .int l2] [] h Q = zWp d zi_37 none 5 [l0, l1, .int l2] [.int l2] h Q := fun d l0 l1 l2  h Q => zr_iload_n rfl rfl
theorem E_X4_ahead : ∀ (d : Nat) (a0 : Nat) (h : zMm) (Q : Option Value → zMm → Prop), zWM (d + 1) 38 [.ref a0] h Q = zWp d zi_38 none 0 [.ref a0] [] h Q := fun d a0 h Q => zW_M m_38 (Nat.le_of_ble_eq_true rfl) rfl
set_option maxRecDepth 100000 in
theorem R_X4_ahead :
    (∀ (d : Nat) (l0 : Nat)  (h : zMm) (Q : Option Value → zMm → Prop), zWp d zi_38 none 0 [.ref l0] [] h Q = zWp d zi_38 none 1 [.ref l0] [.ref l0] h Q) ∧
    (∀ (d : Nat) (l0 : Value) (x0 : Nat) (I : Nat → Nat → Int32) (L : Nat → Nat → Int64) (P : Nat → Nat → Option Nat) (Q : Option Value → zMm → Prop), zSH[x0]? = some (.inl 4) → zWp d zi_38 none 1 [l0] [.ref x0] (zSH, I, L, P) Q = zWp d zi_38 none 4 [l0] [.int (I x0 2)] (zSH, I, L, P) Q) ∧
    (∀ (d : Nat) (l0 : Nat) (x0 : Int32) (h : zMm) (Q : Option Value → zMm → Prop), zWp d zi_38 none 4 [.ref l0] [.int x0] h Q = zWp d zi_38 none 5 [.ref l0] [.ref l0, .int x0] h Q) ∧
    (∀ (d : Nat) (l0 : Value) (x1 : Nat) (x0 : Int32) (I : Nat → Nat → Int32) (L : Nat → Nat → Int64) (P : Nat → Nat → Option Nat) (Q : Option Value → zMm → Prop), zSH[x1]? = some (.inl 4) → zWp d zi_38 none 5 [l0] [.ref x1, .int x0] (zSH, I, L, P) Q = zWp d zi_38 none 8 [l0] [.int (I x1 1), .int x0] (zSH, I, L, P) Q) ∧
    (∀ (d : Nat) (l0 : Value) (x1 : Int32) (x0 : Int32) (h : zMm) (Q : Option Value → zMm → Prop), zWp d zi_38 none 8 [l0] [.int x1, .int x0] h Q = if x1 ≤ x0 then zWp d zi_38 none 32 [l0] [] h Q else zWp d zi_38 none 11 [l0] [] h Q) ∧
    (∀ (d : Nat) (l0 : Nat)  (h : zMm) (Q : Option Value → zMm → Prop), zWp d zi_38 none 11 [.ref l0] [] h Q = zWp d zi_38 none 12 [.ref l0] [.ref l0] h Q) ∧
    (∀ (d : Nat) (l0 : Value) (x0 : Nat) (I : Nat → Nat → Int32) (L : Nat → Nat → Int64) (P : Nat → Nat → Option Nat) (Q : Option Value → zMm → Prop), zSH[x0]? = some (.inl 4) → zWp d zi_38 none 12 [l0] [.ref x0] (zSH, I, L, P) Q = zWp d zi_38 none 15 [l0] [.int (I x0 2)] (zSH, I, L, P) Q) ∧
    (∀ (d : Nat) (l0 : Value) (x0 : Int32) (h : zMm) (Q : Option Value → zMm → Prop), zWp d zi_38 none 15 [l0] [.int x0] h Q = zWp d zi_38 none 17 [l0] [.int 120, .int x0] h Q) ∧
    (∀ (d : Nat) (l0 : Value) (x1 : Int32) (x0 : Int32) (h : zMm) (Q : Option Value → zMm → Prop), zWp d zi_38 none 17 [l0] [.int x1, .int x0] h Q = if x1 ≤ x0 then zWp d zi_38 none 32 [l0] [] h Q else zWp d zi_38 none 20 [l0] [] h Q) ∧
    (∀ (d : Nat) (l0 : Nat)  (h : zMm) (Q : Option Value → zMm → Prop), zWp d zi_38 none 20 [.ref l0] [] h Q = zWp d zi_38 none 21 [.ref l0] [.ref l0] h Q) ∧
    (∀ (d : Nat) (l0 : Value) (x0 : Nat) (I : Nat → Nat → Int32) (L : Nat → Nat → Int64) (P : Nat → Nat → Option Nat) (Q : Option Value → zMm → Prop), zSH[x0]? = some (.inl 4) → zWp d zi_38 none 21 [l0] [.ref x0] (zSH, I, L, P) Q = zWp d zi_38 none 24 [l0] [va_rf (P x0 0)] (zSH, I, L, P) Q) ∧
    (∀ (d : Nat) (l0 : Nat) (x0 : Nat) (h : zMm) (Q : Option Value → zMm → Prop), zWp d zi_38 none 24 [.ref l0] [.ref x0] h Q = zWp d zi_38 none 25 [.ref l0] [.ref l0, .ref x0] h Q) ∧
    (∀ (d : Nat) (l0 : Value) (x1 : Nat) (x0 : Nat) (I : Nat → Nat → Int32) (L : Nat → Nat → Int64) (P : Nat → Nat → Option Nat) (Q : Option Value → zMm → Prop), zSH[x1]? = some (.inl 4) → zWp d zi_38 none 25 [l0] [.ref x1, .ref x0] (zSH, I, L, P) Q = zWp d zi_38 none 28 [l0] [.int (I x1 2), .ref x0] (zSH, I, L, P) Q) ∧
    (∀ (d : Nat) (l0 : Value) (x1 : Int32) (x0 : Nat) (I : Nat → Nat → Int32) (L : Nat → Nat → Int64) (P : Nat → Nat → Option Nat) (Q : Option Value → zMm → Prop), zAk zSH x0 = some .int → zWp d zi_38 none 28 [l0] [.int x1, .ref x0] (zSH, I, L, P) Q = (vp_in x1 (zAn zSH x0) ∧ zWp d zi_38 none 29 [l0] [.int (I x0 x1.toNatClampNeg)] (zSH, I, L, P) Q)) ∧
    (∀ (d : Nat) (l0 : Value) (x0 : Int32) (h : zMm) (Q : Option Value → zMm → Prop), zWp d zi_38 none 29 [l0] [.int x0] h Q = zWp d zi_38 none 33 [l0] [.int x0] h Q) ∧
    (∀ (d : Nat) (l0 : Value)  (h : zMm) (Q : Option Value → zMm → Prop), zWp d zi_38 none 32 [l0] [] h Q = zWp d zi_38 none 33 [l0] [.int (-1)] h Q) ∧
    (∀ (d : Nat) (l0 : Value) (x0 : Int32) (h : zMm) (Q : Option Value → zMm → Prop), zWp d zi_38 none 33 [l0] [.int x0] h Q = Q (some (.int x0)) h) :=
  ⟨(fun d l0  h Q => zr_aload_n rfl rfl),
   (fun d l0 x0 I L P Q p0 => zr_getI rfl lf_4_25 (fun _ _ _ => rfl) p0),
   (fun d l0 x0 h Q => zr_aload_n rfl rfl),
   (fun d l0 x1 x0 I L P Q p0 => zr_getI rfl lf_4_36 (fun _ _ _ => rfl) p0),
   (fun d l0 x1 x0 h Q => zr_ic_ge rfl (by decide)),
   (fun d l0  h Q => zr_aload_n rfl rfl),
   (fun d l0 x0 I L P Q p0 => zr_getI rfl lf_4_25 (fun _ _ _ => rfl) p0),
   (fun d l0 x0 h Q => zr_bipush rfl (by decide)),
   (fun d l0 x1 x0 h Q => zr_ic_ge rfl (by decide)),
   (fun d l0  h Q => zr_aload_n rfl rfl),
   (fun d l0 x0 I L P Q p0 => zr_getQ rfl lf_4_11 (fun _ _ _ => rfl) p0),
   (fun d l0 x0 h Q => zr_aload_n rfl rfl),
   (fun d l0 x1 x0 I L P Q p0 => zr_getI rfl lf_4_25 (fun _ _ _ => rfl) p0),
   (fun d l0 x1 x0 I L P Q p0 => zr_ald rfl p0),
   (fun d l0 x0 h Q => zr_goto rfl (by decide)),
   (fun d l0  h Q => zr_iconst rfl (by decide)),
   (fun d l0 x0 h Q => zr_iret rfl rfl)⟩
theorem E_X4_isDigit : ∀ (d : Nat) (a0 : Int32) (h : zMm) (Q : Option Value → zMm → Prop), zWM (d + 1) 39 [.int a0] h Q = zWp d zi_39 none 0 [.int a0] [] h Q := fun d a0 h Q => zW_M m_39 (Nat.le_of_ble_eq_true rfl) rfl
set_option maxRecDepth 100000 in
theorem R_X4_isDigit :
    (∀ (d : Nat) (l0 : Int32)  (h : zMm) (Q : Option Value → zMm → Prop), zWp d zi_39 none 0 [.int l0] [] h Q = zWp d zi_39 none 1 [.int l0] [.int l0] h Q) ∧
    (∀ (d : Nat) (l0 : Value) (x0 : Int32) (h : zMm) (Q : Option Value → zMm → Prop), zWp d zi_39 none 1 [l0] [.int x0] h Q = zWp d zi_39 none 3 [l0] [.int 48, .int x0] h Q) ∧
    (∀ (d : Nat) (l0 : Value) (x1 : Int32) (x0 : Int32) (h : zMm) (Q : Option Value → zMm → Prop), zWp d zi_39 none 3 [l0] [.int x1, .int x0] h Q = if x0 < x1 then zWp d zi_39 none 16 [l0] [] h Q else zWp d zi_39 none 6 [l0] [] h Q) ∧
    (∀ (d : Nat) (l0 : Int32)  (h : zMm) (Q : Option Value → zMm → Prop), zWp d zi_39 none 6 [.int l0] [] h Q = zWp d zi_39 none 7 [.int l0] [.int l0] h Q) ∧
    (∀ (d : Nat) (l0 : Value) (x0 : Int32) (h : zMm) (Q : Option Value → zMm → Prop), zWp d zi_39 none 7 [l0] [.int x0] h Q = zWp d zi_39 none 9 [l0] [.int 57, .int x0] h Q) ∧
    (∀ (d : Nat) (l0 : Value) (x1 : Int32) (x0 : Int32) (h : zMm) (Q : Option Value → zMm → Prop), zWp d zi_39 none 9 [l0] [.int x1, .int x0] h Q = if x1 < x0 then zWp d zi_39 none 16 [l0] [] h Q else zWp d zi_39 none 12 [l0] [] h Q) ∧
    (∀ (d : Nat) (l0 : Value)  (h : zMm) (Q : Option Value → zMm → Prop), zWp d zi_39 none 12 [l0] [] h Q = zWp d zi_39 none 13 [l0] [.int 1] h Q) ∧
    (∀ (d : Nat) (l0 : Value) (x0 : Int32) (h : zMm) (Q : Option Value → zMm → Prop), zWp d zi_39 none 13 [l0] [.int x0] h Q = zWp d zi_39 none 17 [l0] [.int x0] h Q) ∧
    (∀ (d : Nat) (l0 : Value)  (h : zMm) (Q : Option Value → zMm → Prop), zWp d zi_39 none 16 [l0] [] h Q = zWp d zi_39 none 17 [l0] [.int 0] h Q) ∧
    (∀ (d : Nat) (l0 : Value) (x0 : Int32) (h : zMm) (Q : Option Value → zMm → Prop), x0 = 0 ∨ x0 = 1 → zWp d zi_39 none 17 [l0] [.int x0] h Q = Q (some (.int x0)) h) :=
  ⟨(fun d l0  h Q => zr_iload_n rfl rfl),
   (fun d l0 x0 h Q => zr_bipush rfl (by decide)),
   (fun d l0 x1 x0 h Q => zr_ic_lt rfl (by decide)),
   (fun d l0  h Q => zr_iload_n rfl rfl),
   (fun d l0 x0 h Q => zr_bipush rfl (by decide)),
   (fun d l0 x1 x0 h Q => zr_ic_gt rfl (by decide)),
   (fun d l0  h Q => zr_iconst rfl (by decide)),
   (fun d l0 x0 h Q => zr_goto rfl (by decide)),
   (fun d l0  h Q => zr_iconst rfl (by decide)),
   (fun d l0 x0 h Q p0 => zr_zret rfl rfl p0)⟩
theorem E_X4_nameOf : ∀ (d : Nat) (a0 : Int32) (h : zMm) (Q : Option Value → zMm → Prop), zWM (d + 1) 40 [.int a0] h Q = zWp d zi_40 none 0 [.int a0] [] h Q := fun d a0 h Q => zW_M m_40 (Nat.le_of_ble_eq_true rfl) rfl
set_option maxRecDepth 100000 in
theorem R_X4_nameOf :
    (∀ (d : Nat) (l0 : Int32)  (h : zMm) (Q : Option Value → zMm → Prop), zWp d zi_40 none 0 [.int l0] [] h Q = zWp d zi_40 none 1 [.int l0] [.int l0] h Q) ∧
    (∀ (d : Nat) (l0 : Value) (x0 : Int32) (h : zMm) (Q : Option Value → zMm → Prop), zWp d zi_40 none 1 [l0] [.int x0] h Q = if x0 = 100 then zWp d zi_40 none 100 [l0] [] h Q else if x0 = 101 then zWp d zi_40 none 108 [l0] [] h Q else if x0 = 102 then zWp d zi_40 none 96 [l0] [] h Q else if x0 = 103 then zWp d zi_40 none 108 [l0] [] h Q else if x0 = 104 then zWp d zi_40 none 108 [l0] [] h Q else if x0 = 105 then zWp d zi_40 none 108 [l0] [] h Q else if x0 = 106 then zWp d zi_40 none 108 [l0] [] h Q else if x0 = 107 then zWp d zi_40 none 102 [l0] [] h Q else if x0 = 108 then zWp d zi_40 none 108 [l0] [] h Q else if x0 = 109 then zWp d zi_40 none 104 [l0] [] h Q else if x0 = 110 then zWp d zi_40 none 108 [l0] [] h Q else if x0 = 111 then zWp d zi_40 none 108 [l0] [] h Q else if x0 = 112 then zWp d zi_40 none 98 [l0] [] h Q else if x0 = 113 then zWp d zi_40 none 108 [l0] [] h Q else if x0 = 114 then zWp d zi_40 none 108 [l0] [] h Q else if x0 = 115 then zWp d zi_40 none 108 [l0] [] h Q else if x0 = 116 then zWp d zi_40 none 108 [l0] [] h Q else if x0 = 117 then zWp d zi_40 none 108 [l0] [] h Q else if x0 = 118 then zWp d zi_40 none 108 [l0] [] h Q else if x0 = 119 then zWp d zi_40 none 106 [l0] [] h Q else zWp d zi_40 none 108 [l0] [] h Q) ∧
    (∀ (d : Nat) (l0 : Value)  (h : zMm) (Q : Option Value → zMm → Prop), zWp d zi_40 none 96 [l0] [] h Q = zWp d zi_40 none 97 [l0] [.int 0] h Q) ∧
    (∀ (d : Nat) (l0 : Value) (x0 : Int32) (h : zMm) (Q : Option Value → zMm → Prop), zWp d zi_40 none 97 [l0] [.int x0] h Q = Q (some (.int x0)) h) ∧
    (∀ (d : Nat) (l0 : Value)  (h : zMm) (Q : Option Value → zMm → Prop), zWp d zi_40 none 98 [l0] [] h Q = zWp d zi_40 none 99 [l0] [.int 1] h Q) ∧
    (∀ (d : Nat) (l0 : Value) (x0 : Int32) (h : zMm) (Q : Option Value → zMm → Prop), zWp d zi_40 none 99 [l0] [.int x0] h Q = Q (some (.int x0)) h) ∧
    (∀ (d : Nat) (l0 : Value)  (h : zMm) (Q : Option Value → zMm → Prop), zWp d zi_40 none 100 [l0] [] h Q = zWp d zi_40 none 101 [l0] [.int 2] h Q) ∧
    (∀ (d : Nat) (l0 : Value) (x0 : Int32) (h : zMm) (Q : Option Value → zMm → Prop), zWp d zi_40 none 101 [l0] [.int x0] h Q = Q (some (.int x0)) h) ∧
    (∀ (d : Nat) (l0 : Value)  (h : zMm) (Q : Option Value → zMm → Prop), zWp d zi_40 none 102 [l0] [] h Q = zWp d zi_40 none 103 [l0] [.int 3] h Q) ∧
    (∀ (d : Nat) (l0 : Value) (x0 : Int32) (h : zMm) (Q : Option Value → zMm → Prop), zWp d zi_40 none 103 [l0] [.int x0] h Q = Q (some (.int x0)) h) ∧
    (∀ (d : Nat) (l0 : Value)  (h : zMm) (Q : Option Value → zMm → Prop), zWp d zi_40 none 104 [l0] [] h Q = zWp d zi_40 none 105 [l0] [.int 4] h Q) ∧
    (∀ (d : Nat) (l0 : Value) (x0 : Int32) (h : zMm) (Q : Option Value → zMm → Prop), zWp d zi_40 none 105 [l0] [.int x0] h Q = Q (some (.int x0)) h) ∧
    (∀ (d : Nat) (l0 : Value)  (h : zMm) (Q : Option Value → zMm → Prop), zWp d zi_40 none 106 [l0] [] h Q = zWp d zi_40 none 107 [l0] [.int 5] h Q) ∧
    (∀ (d : Nat) (l0 : Value) (x0 : Int32) (h : zMm) (Q : Option Value → zMm → Prop), zWp d zi_40 none 107 [l0] [.int x0] h Q = Q (some (.int x0)) h) ∧
    (∀ (d : Nat) (l0 : Value)  (h : zMm) (Q : Option Value → zMm → Prop), zWp d zi_40 none 108 [l0] [] h Q = zWp d zi_40 none 110 [l0] [.int (-2)] h Q) ∧
    (∀ (d : Nat) (l0 : Value) (x0 : Int32) (h : zMm) (Q : Option Value → zMm → Prop), zWp d zi_40 none 110 [l0] [.int x0] h Q = Q (some (.int x0)) h) :=
  ⟨(fun d l0  h Q => zr_iload_n rfl rfl),
   (fun d l0 x0 h Q => by
      by_cases e0 : x0 = 100
      · subst e0; rw [if_pos rfl]; exact zr_tabI rfl (by decide) rfl (by decide)
      rw [if_neg e0]
      have n0 : ¬ x0.toInt = 100 := fun z => e0 (Int32.toInt_inj.mp z)
      by_cases e1 : x0 = 101
      · subst e1; rw [if_pos rfl]; exact zr_tabI rfl (by decide) rfl (by decide)
      rw [if_neg e1]
      have n1 : ¬ x0.toInt = 101 := fun z => e1 (Int32.toInt_inj.mp z)
      by_cases e2 : x0 = 102
      · subst e2; rw [if_pos rfl]; exact zr_tabI rfl (by decide) rfl (by decide)
      rw [if_neg e2]
      have n2 : ¬ x0.toInt = 102 := fun z => e2 (Int32.toInt_inj.mp z)
      by_cases e3 : x0 = 103
      · subst e3; rw [if_pos rfl]; exact zr_tabI rfl (by decide) rfl (by decide)
      rw [if_neg e3]
      have n3 : ¬ x0.toInt = 103 := fun z => e3 (Int32.toInt_inj.mp z)
      by_cases e4 : x0 = 104
      · subst e4; rw [if_pos rfl]; exact zr_tabI rfl (by decide) rfl (by decide)
      rw [if_neg e4]
      have n4 : ¬ x0.toInt = 104 := fun z => e4 (Int32.toInt_inj.mp z)
      by_cases e5 : x0 = 105
      · subst e5; rw [if_pos rfl]; exact zr_tabI rfl (by decide) rfl (by decide)
      rw [if_neg e5]
      have n5 : ¬ x0.toInt = 105 := fun z => e5 (Int32.toInt_inj.mp z)
      by_cases e6 : x0 = 106
      · subst e6; rw [if_pos rfl]; exact zr_tabI rfl (by decide) rfl (by decide)
      rw [if_neg e6]
      have n6 : ¬ x0.toInt = 106 := fun z => e6 (Int32.toInt_inj.mp z)
      by_cases e7 : x0 = 107
      · subst e7; rw [if_pos rfl]; exact zr_tabI rfl (by decide) rfl (by decide)
      rw [if_neg e7]
      have n7 : ¬ x0.toInt = 107 := fun z => e7 (Int32.toInt_inj.mp z)
      by_cases e8 : x0 = 108
      · subst e8; rw [if_pos rfl]; exact zr_tabI rfl (by decide) rfl (by decide)
      rw [if_neg e8]
      have n8 : ¬ x0.toInt = 108 := fun z => e8 (Int32.toInt_inj.mp z)
      by_cases e9 : x0 = 109
      · subst e9; rw [if_pos rfl]; exact zr_tabI rfl (by decide) rfl (by decide)
      rw [if_neg e9]
      have n9 : ¬ x0.toInt = 109 := fun z => e9 (Int32.toInt_inj.mp z)
      by_cases e10 : x0 = 110
      · subst e10; rw [if_pos rfl]; exact zr_tabI rfl (by decide) rfl (by decide)
      rw [if_neg e10]
      have n10 : ¬ x0.toInt = 110 := fun z => e10 (Int32.toInt_inj.mp z)
      by_cases e11 : x0 = 111
      · subst e11; rw [if_pos rfl]; exact zr_tabI rfl (by decide) rfl (by decide)
      rw [if_neg e11]
      have n11 : ¬ x0.toInt = 111 := fun z => e11 (Int32.toInt_inj.mp z)
      by_cases e12 : x0 = 112
      · subst e12; rw [if_pos rfl]; exact zr_tabI rfl (by decide) rfl (by decide)
      rw [if_neg e12]
      have n12 : ¬ x0.toInt = 112 := fun z => e12 (Int32.toInt_inj.mp z)
      by_cases e13 : x0 = 113
      · subst e13; rw [if_pos rfl]; exact zr_tabI rfl (by decide) rfl (by decide)
      rw [if_neg e13]
      have n13 : ¬ x0.toInt = 113 := fun z => e13 (Int32.toInt_inj.mp z)
      by_cases e14 : x0 = 114
      · subst e14; rw [if_pos rfl]; exact zr_tabI rfl (by decide) rfl (by decide)
      rw [if_neg e14]
      have n14 : ¬ x0.toInt = 114 := fun z => e14 (Int32.toInt_inj.mp z)
      by_cases e15 : x0 = 115
      · subst e15; rw [if_pos rfl]; exact zr_tabI rfl (by decide) rfl (by decide)
      rw [if_neg e15]
      have n15 : ¬ x0.toInt = 115 := fun z => e15 (Int32.toInt_inj.mp z)
      by_cases e16 : x0 = 116
      · subst e16; rw [if_pos rfl]; exact zr_tabI rfl (by decide) rfl (by decide)
      rw [if_neg e16]
      have n16 : ¬ x0.toInt = 116 := fun z => e16 (Int32.toInt_inj.mp z)
      by_cases e17 : x0 = 117
      · subst e17; rw [if_pos rfl]; exact zr_tabI rfl (by decide) rfl (by decide)
      rw [if_neg e17]
      have n17 : ¬ x0.toInt = 117 := fun z => e17 (Int32.toInt_inj.mp z)
      by_cases e18 : x0 = 118
      · subst e18; rw [if_pos rfl]; exact zr_tabI rfl (by decide) rfl (by decide)
      rw [if_neg e18]
      have n18 : ¬ x0.toInt = 118 := fun z => e18 (Int32.toInt_inj.mp z)
      by_cases e19 : x0 = 119
      · subst e19; rw [if_pos rfl]; exact zr_tabI rfl (by decide) rfl (by decide)
      rw [if_neg e19]
      have n19 : ¬ x0.toInt = 119 := fun z => e19 (Int32.toInt_inj.mp z)
      exact zr_tabD rfl (by omega) (by decide)),
   (fun d l0  h Q => zr_iconst rfl (by decide)),
   (fun d l0 x0 h Q => zr_iret rfl rfl),
   (fun d l0  h Q => zr_iconst rfl (by decide)),
   (fun d l0 x0 h Q => zr_iret rfl rfl),
   (fun d l0  h Q => zr_iconst rfl (by decide)),
   (fun d l0 x0 h Q => zr_iret rfl rfl),
   (fun d l0  h Q => zr_iconst rfl (by decide)),
   (fun d l0 x0 h Q => zr_iret rfl rfl),
   (fun d l0  h Q => zr_iconst rfl (by decide)),
   (fun d l0 x0 h Q => zr_iret rfl rfl),
   (fun d l0  h Q => zr_iconst rfl (by decide)),
   (fun d l0 x0 h Q => zr_iret rfl rfl),
   (fun d l0  h Q => zr_bipush rfl (by decide)),
   (fun d l0 x0 h Q => zr_iret rfl rfl)⟩
theorem E_X4_levelOf : ∀ (d : Nat) (a0 : Int32) (h : zMm) (Q : Option Value → zMm → Prop), zWM (d + 1) 41 [.int a0] h Q = zWp d zi_41 none 0 [.int a0] [] h Q := fun d a0 h Q => zW_M m_41 (Nat.le_of_ble_eq_true rfl) rfl
set_option maxRecDepth 100000 in
theorem R_X4_levelOf :
    (∀ (d : Nat) (l0 : Int32)  (h : zMm) (Q : Option Value → zMm → Prop), zWp d zi_41 none 0 [.int l0] [] h Q = zWp d zi_41 none 1 [.int l0] [.int l0] h Q) ∧
    (∀ (d : Nat) (l0 : Value) (x0 : Int32) (h : zMm) (Q : Option Value → zMm → Prop), zWp d zi_41 none 1 [l0] [.int x0] h Q = if x0 = 37 then zWp d zi_41 none 100 [l0] [] h Q else if x0 = 38 then zWp d zi_41 none 94 [l0] [] h Q else if x0 = 42 then zWp d zi_41 none 100 [l0] [] h Q else if x0 = 43 then zWp d zi_41 none 98 [l0] [] h Q else if x0 = 45 then zWp d zi_41 none 98 [l0] [] h Q else if x0 = 47 then zWp d zi_41 none 100 [l0] [] h Q else if x0 = 60 then zWp d zi_41 none 96 [l0] [] h Q else if x0 = 61 then zWp d zi_41 none 96 [l0] [] h Q else if x0 = 62 then zWp d zi_41 none 96 [l0] [] h Q else if x0 = 124 then zWp d zi_41 none 92 [l0] [] h Q else zWp d zi_41 none 102 [l0] [] h Q) ∧
    (∀ (d : Nat) (l0 : Value)  (h : zMm) (Q : Option Value → zMm → Prop), zWp d zi_41 none 92 [l0] [] h Q = zWp d zi_41 none 93 [l0] [.int 0] h Q) ∧
    (∀ (d : Nat) (l0 : Value) (x0 : Int32) (h : zMm) (Q : Option Value → zMm → Prop), zWp d zi_41 none 93 [l0] [.int x0] h Q = Q (some (.int x0)) h) ∧
    (∀ (d : Nat) (l0 : Value)  (h : zMm) (Q : Option Value → zMm → Prop), zWp d zi_41 none 94 [l0] [] h Q = zWp d zi_41 none 95 [l0] [.int 1] h Q) ∧
    (∀ (d : Nat) (l0 : Value) (x0 : Int32) (h : zMm) (Q : Option Value → zMm → Prop), zWp d zi_41 none 95 [l0] [.int x0] h Q = Q (some (.int x0)) h) ∧
    (∀ (d : Nat) (l0 : Value)  (h : zMm) (Q : Option Value → zMm → Prop), zWp d zi_41 none 96 [l0] [] h Q = zWp d zi_41 none 97 [l0] [.int 2] h Q) ∧
    (∀ (d : Nat) (l0 : Value) (x0 : Int32) (h : zMm) (Q : Option Value → zMm → Prop), zWp d zi_41 none 97 [l0] [.int x0] h Q = Q (some (.int x0)) h) ∧
    (∀ (d : Nat) (l0 : Value)  (h : zMm) (Q : Option Value → zMm → Prop), zWp d zi_41 none 98 [l0] [] h Q = zWp d zi_41 none 99 [l0] [.int 3] h Q) ∧
    (∀ (d : Nat) (l0 : Value) (x0 : Int32) (h : zMm) (Q : Option Value → zMm → Prop), zWp d zi_41 none 99 [l0] [.int x0] h Q = Q (some (.int x0)) h) ∧
    (∀ (d : Nat) (l0 : Value)  (h : zMm) (Q : Option Value → zMm → Prop), zWp d zi_41 none 100 [l0] [] h Q = zWp d zi_41 none 101 [l0] [.int 4] h Q) ∧
    (∀ (d : Nat) (l0 : Value) (x0 : Int32) (h : zMm) (Q : Option Value → zMm → Prop), zWp d zi_41 none 101 [l0] [.int x0] h Q = Q (some (.int x0)) h) ∧
    (∀ (d : Nat) (l0 : Value)  (h : zMm) (Q : Option Value → zMm → Prop), zWp d zi_41 none 102 [l0] [] h Q = zWp d zi_41 none 104 [l0] [.int (-2)] h Q) ∧
    (∀ (d : Nat) (l0 : Value) (x0 : Int32) (h : zMm) (Q : Option Value → zMm → Prop), zWp d zi_41 none 104 [l0] [.int x0] h Q = Q (some (.int x0)) h) :=
  ⟨(fun d l0  h Q => zr_iload_n rfl rfl),
   (fun d l0 x0 h Q => by
      by_cases e0 : x0 = 37
      · subst e0; rw [if_pos rfl]; exact zr_look (off := 99) rfl (by decide) (by decide) (by decide)
      rw [if_neg e0]
      by_cases e1 : x0 = 38
      · subst e1; rw [if_pos rfl]; exact zr_look (off := 93) rfl (by decide) (by decide) (by decide)
      rw [if_neg e1]
      by_cases e2 : x0 = 42
      · subst e2; rw [if_pos rfl]; exact zr_look (off := 99) rfl (by decide) (by decide) (by decide)
      rw [if_neg e2]
      by_cases e3 : x0 = 43
      · subst e3; rw [if_pos rfl]; exact zr_look (off := 97) rfl (by decide) (by decide) (by decide)
      rw [if_neg e3]
      by_cases e4 : x0 = 45
      · subst e4; rw [if_pos rfl]; exact zr_look (off := 97) rfl (by decide) (by decide) (by decide)
      rw [if_neg e4]
      by_cases e5 : x0 = 47
      · subst e5; rw [if_pos rfl]; exact zr_look (off := 99) rfl (by decide) (by decide) (by decide)
      rw [if_neg e5]
      by_cases e6 : x0 = 60
      · subst e6; rw [if_pos rfl]; exact zr_look (off := 95) rfl (by decide) (by decide) (by decide)
      rw [if_neg e6]
      by_cases e7 : x0 = 61
      · subst e7; rw [if_pos rfl]; exact zr_look (off := 95) rfl (by decide) (by decide) (by decide)
      rw [if_neg e7]
      by_cases e8 : x0 = 62
      · subst e8; rw [if_pos rfl]; exact zr_look (off := 95) rfl (by decide) (by decide) (by decide)
      rw [if_neg e8]
      by_cases e9 : x0 = 124
      · subst e9; rw [if_pos rfl]; exact zr_look (off := 91) rfl (by decide) (by decide) (by decide)
      rw [if_neg e9]
      exact zr_look (off := 101) rfl (by decide) (by show Op.lookupswitch.offset [(37, 99), (38, 93), (42, 99), (43, 97), (45, 97), (47, 99), (60, 95), (61, 95), (62, 95), (124, 91)] _ _ = _; rw [lv_osw e0 (by decide), lv_osw e1 (by decide), lv_osw e2 (by decide), lv_osw e3 (by decide), lv_osw e4 (by decide), lv_osw e5 (by decide), lv_osw e6 (by decide), lv_osw e7 (by decide), lv_osw e8 (by decide), lv_osw e9 (by decide)]; rfl) (by decide)),
   (fun d l0  h Q => zr_iconst rfl (by decide)),
   (fun d l0 x0 h Q => zr_iret rfl rfl),
   (fun d l0  h Q => zr_iconst rfl (by decide)),
   (fun d l0 x0 h Q => zr_iret rfl rfl),
   (fun d l0  h Q => zr_iconst rfl (by decide)),
   (fun d l0 x0 h Q => zr_iret rfl rfl),
   (fun d l0  h Q => zr_iconst rfl (by decide)),
   (fun d l0 x0 h Q => zr_iret rfl rfl),
   (fun d l0  h Q => zr_iconst rfl (by decide)),
   (fun d l0 x0 h Q => zr_iret rfl rfl),
   (fun d l0  h Q => zr_bipush rfl (by decide)),
   (fun d l0 x0 h Q => zr_iret rfl rfl)⟩
theorem E_X5_add : ∀ (d : Nat) (a0 : Nat) (a1 : Int32) (a2 : Int32) (h : zMm) (Q : Option Value → zMm → Prop), zWM (d + 1) 43 [.ref a0, .int a1, .int a2] h Q = zWp d zi_43 none 0 [.ref a0, .int a1, .int a2] [] h Q := fun d a0 a1 a2 h Q => zW_M m_43 (Nat.le_of_ble_eq_true rfl) rfl
set_option maxRecDepth 100000 in
theorem R_X5_add :
    (∀ (d : Nat) (l0 : Nat) (l1 : Value) (l2 : Value)  (h : zMm) (Q : Option Value → zMm → Prop), zWp d zi_43 none 0 [.ref l0, l1, l2] [] h Q = zWp d zi_43 none 1 [.ref l0, l1, l2] [.ref l0] h Q) ∧
    (∀ (d : Nat) (l0 : Value) (l1 : Value) (l2 : Value) (x0 : Nat) (I : Nat → Nat → Int32) (L : Nat → Nat → Int64) (P : Nat → Nat → Option Nat) (Q : Option Value → zMm → Prop), zSH[x0]? = some (.inl 5) → zWp d zi_43 none 1 [l0, l1, l2] [.ref x0] (zSH, I, L, P) Q = zWp d zi_43 none 4 [l0, l1, l2] [.int (I x0 3)] (zSH, I, L, P) Q) ∧
    (∀ (d : Nat) (l0 : Value) (l1 : Value) (l2 : Value) (x0 : Int32) (h : zMm) (Q : Option Value → zMm → Prop), zWp d zi_43 none 4 [l0, l1, l2] [.int x0] h Q = zWp d zi_43 none 6 [l0, l1, l2] [.int 121, .int x0] h Q) ∧
    (∀ (d : Nat) (l0 : Value) (l1 : Value) (l2 : Value) (x1 : Int32) (x0 : Int32) (h : zMm) (Q : Option Value → zMm → Prop), zWp d zi_43 none 6 [l0, l1, l2] [.int x1, .int x0] h Q = if x1 ≤ x0 then zWp d zi_43 none 39 [l0, l1, l2] [] h Q else zWp d zi_43 none 9 [l0, l1, l2] [] h Q) ∧
    (∀ (d : Nat) (l0 : Nat) (l1 : Value) (l2 : Value)  (h : zMm) (Q : Option Value → zMm → Prop), zWp d zi_43 none 9 [.ref l0, l1, l2] [] h Q = zWp d zi_43 none 10 [.ref l0, l1, l2] [.ref l0] h Q) ∧
    (∀ (d : Nat) (l0 : Value) (l1 : Value) (l2 : Value) (x0 : Nat) (I : Nat → Nat → Int32) (L : Nat → Nat → Int64) (P : Nat → Nat → Option Nat) (Q : Option Value → zMm → Prop), zSH[x0]? = some (.inl 5) → zWp d zi_43 none 10 [l0, l1, l2] [.ref x0] (zSH, I, L, P) Q = zWp d zi_43 none 13 [l0, l1, l2] [va_rf (P x0 0)] (zSH, I, L, P) Q) ∧
    (∀ (d : Nat) (l0 : Nat) (l1 : Value) (l2 : Value) (x0 : Nat) (h : zMm) (Q : Option Value → zMm → Prop), zWp d zi_43 none 13 [.ref l0, l1, l2] [.ref x0] h Q = zWp d zi_43 none 14 [.ref l0, l1, l2] [.ref l0, .ref x0] h Q) ∧
    (∀ (d : Nat) (l0 : Value) (l1 : Value) (l2 : Value) (x1 : Nat) (x0 : Nat) (I : Nat → Nat → Int32) (L : Nat → Nat → Int64) (P : Nat → Nat → Option Nat) (Q : Option Value → zMm → Prop), zSH[x1]? = some (.inl 5) → zWp d zi_43 none 14 [l0, l1, l2] [.ref x1, .ref x0] (zSH, I, L, P) Q = zWp d zi_43 none 17 [l0, l1, l2] [.int (I x1 3), .ref x0] (zSH, I, L, P) Q) ∧
    (∀ (d : Nat) (l0 : Value) (l1 : Int32) (l2 : Value) (x1 : Int32) (x0 : Nat) (h : zMm) (Q : Option Value → zMm → Prop), zWp d zi_43 none 17 [l0, .int l1, l2] [.int x1, .ref x0] h Q = zWp d zi_43 none 18 [l0, .int l1, l2] [.int l1, .int x1, .ref x0] h Q) ∧
    (∀ (d : Nat) (l0 : Value) (l1 : Value) (l2 : Value) (x2 : Int32) (x1 : Int32) (x0 : Nat) (I : Nat → Nat → Int32) (L : Nat → Nat → Int64) (P : Nat → Nat → Option Nat) (Q : Option Value → zMm → Prop), zAk zSH x0 = some .int → zWp d zi_43 none 18 [l0, l1, l2] [.int x2, .int x1, .ref x0] (zSH, I, L, P) Q = (vp_in x1 (zAn zSH x0) ∧ zWp d zi_43 none 19 [l0, l1, l2] [] (zSH, zw I x0 (upd (I x0) x1.toNatClampNeg x2), L, P) Q)) ∧
    (∀ (d : Nat) (l0 : Nat) (l1 : Value) (l2 : Value)  (h : zMm) (Q : Option Value → zMm → Prop), zWp d zi_43 none 19 [.ref l0, l1, l2] [] h Q = zWp d zi_43 none 20 [.ref l0, l1, l2] [.ref l0] h Q) ∧
    (∀ (d : Nat) (l0 : Value) (l1 : Value) (l2 : Value) (x0 : Nat) (I : Nat → Nat → Int32) (L : Nat → Nat → Int64) (P : Nat → Nat → Option Nat) (Q : Option Value → zMm → Prop), zSH[x0]? = some (.inl 5) → zWp d zi_43 none 20 [l0, l1, l2] [.ref x0] (zSH, I, L, P) Q = zWp d zi_43 none 23 [l0, l1, l2] [va_rf (P x0 1)] (zSH, I, L, P) Q) ∧
    (∀ (d : Nat) (l0 : Nat) (l1 : Value) (l2 : Value) (x0 : Nat) (h : zMm) (Q : Option Value → zMm → Prop), zWp d zi_43 none 23 [.ref l0, l1, l2] [.ref x0] h Q = zWp d zi_43 none 24 [.ref l0, l1, l2] [.ref l0, .ref x0] h Q) ∧
    (∀ (d : Nat) (l0 : Value) (l1 : Value) (l2 : Value) (x1 : Nat) (x0 : Nat) (I : Nat → Nat → Int32) (L : Nat → Nat → Int64) (P : Nat → Nat → Option Nat) (Q : Option Value → zMm → Prop), zSH[x1]? = some (.inl 5) → zWp d zi_43 none 24 [l0, l1, l2] [.ref x1, .ref x0] (zSH, I, L, P) Q = zWp d zi_43 none 27 [l0, l1, l2] [.int (I x1 3), .ref x0] (zSH, I, L, P) Q) ∧
    (∀ (d : Nat) (l0 : Value) (l1 : Value) (l2 : Int32) (x1 : Int32) (x0 : Nat) (h : zMm) (Q : Option Value → zMm → Prop), zWp d zi_43 none 27 [l0, l1, .int l2] [.int x1, .ref x0] h Q = zWp d zi_43 none 28 [l0, l1, .int l2] [.int l2, .int x1, .ref x0] h Q) ∧
    (∀ (d : Nat) (l0 : Value) (l1 : Value) (l2 : Value) (x2 : Int32) (x1 : Int32) (x0 : Nat) (I : Nat → Nat → Int32) (L : Nat → Nat → Int64) (P : Nat → Nat → Option Nat) (Q : Option Value → zMm → Prop), zAk zSH x0 = some .int → zWp d zi_43 none 28 [l0, l1, l2] [.int x2, .int x1, .ref x0] (zSH, I, L, P) Q = (vp_in x1 (zAn zSH x0) ∧ zWp d zi_43 none 29 [l0, l1, l2] [] (zSH, zw I x0 (upd (I x0) x1.toNatClampNeg x2), L, P) Q)) ∧
    (∀ (d : Nat) (l0 : Nat) (l1 : Value) (l2 : Value)  (h : zMm) (Q : Option Value → zMm → Prop), zWp d zi_43 none 29 [.ref l0, l1, l2] [] h Q = zWp d zi_43 none 30 [.ref l0, l1, l2] [.ref l0] h Q) ∧
    (∀ (d : Nat) (l0 : Value) (l1 : Value) (l2 : Value) (x0 : Nat) (h : zMm) (Q : Option Value → zMm → Prop), zWp d zi_43 none 30 [l0, l1, l2] [.ref x0] h Q = zWp d zi_43 none 31 [l0, l1, l2] [.ref x0, .ref x0] h Q) ∧
    (∀ (d : Nat) (l0 : Value) (l1 : Value) (l2 : Value) (x1 : Nat) (x0 : Nat) (I : Nat → Nat → Int32) (L : Nat → Nat → Int64) (P : Nat → Nat → Option Nat) (Q : Option Value → zMm → Prop), zSH[x1]? = some (.inl 5) → zWp d zi_43 none 31 [l0, l1, l2] [.ref x1, .ref x0] (zSH, I, L, P) Q = zWp d zi_43 none 34 [l0, l1, l2] [.int (I x1 3), .ref x0] (zSH, I, L, P) Q) ∧
    (∀ (d : Nat) (l0 : Value) (l1 : Value) (l2 : Value) (x1 : Int32) (x0 : Nat) (h : zMm) (Q : Option Value → zMm → Prop), zWp d zi_43 none 34 [l0, l1, l2] [.int x1, .ref x0] h Q = zWp d zi_43 none 35 [l0, l1, l2] [.int 1, .int x1, .ref x0] h Q) ∧
    (∀ (d : Nat) (l0 : Value) (l1 : Value) (l2 : Value) (x2 : Int32) (x1 : Int32) (x0 : Nat) (h : zMm) (Q : Option Value → zMm → Prop), zWp d zi_43 none 35 [l0, l1, l2] [.int x2, .int x1, .ref x0] h Q = zWp d zi_43 none 36 [l0, l1, l2] [.int (x1 + x2), .ref x0] h Q) ∧
    (∀ (d : Nat) (l0 : Value) (l1 : Value) (l2 : Value) (x1 : Int32) (x0 : Nat) (I : Nat → Nat → Int32) (L : Nat → Nat → Int64) (P : Nat → Nat → Option Nat) (Q : Option Value → zMm → Prop), zSH[x0]? = some (.inl 5) → zWp d zi_43 none 36 [l0, l1, l2] [.int x1, .ref x0] (zSH, I, L, P) Q = zWp d zi_43 none 39 [l0, l1, l2] [] (zSH, zw I x0 (upd (I x0) 3 x1), L, P) Q) ∧
    (∀ (d : Nat) (l0 : Value) (l1 : Value) (l2 : Value)  (h : zMm) (Q : Option Value → zMm → Prop), zWp d zi_43 none 39 [l0, l1, l2] [] h Q = Q none h) :=
  ⟨(fun d l0 l1 l2  h Q => zr_aload_n rfl rfl),
   (fun d l0 l1 l2 x0 I L P Q p0 => zr_getI rfl lf_5_21 (fun _ _ _ => rfl) p0),
   (fun d l0 l1 l2 x0 h Q => zr_bipush rfl (by decide)),
   (fun d l0 l1 l2 x1 x0 h Q => zr_ic_ge rfl (by decide)),
   (fun d l0 l1 l2  h Q => zr_aload_n rfl rfl),
   (fun d l0 l1 l2 x0 I L P Q p0 => zr_getQ rfl lf_5_11 (fun _ _ _ => rfl) p0),
   (fun d l0 l1 l2 x0 h Q => zr_aload_n rfl rfl),
   (fun d l0 l1 l2 x1 x0 I L P Q p0 => zr_getI rfl lf_5_21 (fun _ _ _ => rfl) p0),
   (fun d l0 l1 l2 x1 x0 h Q => zr_iload_n rfl rfl),
   (fun d l0 l1 l2 x2 x1 x0 I L P Q p0 => zr_ast rfl p0),
   (fun d l0 l1 l2  h Q => zr_aload_n rfl rfl),
   (fun d l0 l1 l2 x0 I L P Q p0 => zr_getQ rfl lf_5_15 (fun _ _ _ => rfl) p0),
   (fun d l0 l1 l2 x0 h Q => zr_aload_n rfl rfl),
   (fun d l0 l1 l2 x1 x0 I L P Q p0 => zr_getI rfl lf_5_21 (fun _ _ _ => rfl) p0),
   (fun d l0 l1 l2 x1 x0 h Q => zr_iload_n rfl rfl),
   (fun d l0 l1 l2 x2 x1 x0 I L P Q p0 => zr_ast rfl p0),
   (fun d l0 l1 l2  h Q => zr_aload_n rfl rfl),
   (fun d l0 l1 l2 x0 h Q => zr_dup rfl rfl),
   (fun d l0 l1 l2 x1 x0 I L P Q p0 => zr_getI rfl lf_5_21 (fun _ _ _ => rfl) p0),
   (fun d l0 l1 l2 x1 x0 h Q => zr_iconst rfl (by decide)),
   (fun d l0 l1 l2 x2 x1 x0 h Q => zr_iadd rfl),
   (fun d l0 l1 l2 x1 x0 I L P Q p0 => zr_putI rfl lf_5_21 (by decide) rfl p0),
   (fun d l0 l1 l2  h Q => zr_vret rfl rfl)⟩
theorem E_X5_worth : ∀ (d : Nat) (a0 : Nat) (a1 : Nat) (h : zMm) (Q : Option Value → zMm → Prop), zWM (d + 1) 44 [.ref a0, .ref a1] h Q = zWp d zi_44 none 0 [.ref a0, .ref a1, .retAddr 0, .retAddr 0, .retAddr 0, .retAddr 0] [] h Q := fun d a0 a1 h Q => zW_M m_44 (Nat.le_of_ble_eq_true rfl) rfl
set_option maxRecDepth 100000 in
theorem R_X5_worth :
    (∀ (d : Nat) (l0 : Value) (l1 : Value) (l2 : Value) (l3 : Value) (l4 : Value) (l5 : Value)  (h : zMm) (Q : Option Value → zMm → Prop), zWp d zi_44 none 0 [l0, l1, l2, l3, l4, l5] [] h Q = zWp d zi_44 none 1 [l0, l1, l2, l3, l4, l5] [.int 0] h Q) ∧
    (∀ (d : Nat) (l0 : Value) (l1 : Nat) (l2 : Value) (l3 : Value) (l4 : Value) (l5 : Value) (x0 : Int32) (h : zMm) (Q : Option Value → zMm → Prop), zWp d zi_44 none 1 [l0, .ref l1, l2, l3, l4, l5] [.int x0] h Q = zWp d zi_44 none 2 [l0, .ref l1, .int x0, l3, l4, l5] [] h Q) ∧
    (∀ (d : Nat) (l0 : Value) (l1 : Value) (l2 : Value) (l3 : Value) (l4 : Value) (l5 : Value)  (h : zMm) (Q : Option Value → zMm → Prop), zWp d zi_44 none 2 [l0, l1, l2, l3, l4, l5] [] h Q = zWp d zi_44 none 3 [l0, l1, l2, l3, l4, l5] [.int 1] h Q) ∧
    (∀ (d : Nat) (l0 : Value) (l1 : Value) (l2 : Int32) (l3 : Value) (l4 : Value) (l5 : Value) (x0 : Int32) (h : zMm) (Q : Option Value → zMm → Prop), zWp d zi_44 none 3 [l0, l1, .int l2, l3, l4, l5] [.int x0] h Q = zWp d zi_44 none 4 [l0, l1, .int l2, .int x0, l4, l5] [] h Q) ∧
    (∀ (d : Nat) (l0 : Value) (l1 : Value) (l2 : Value) (l3 : Value) (l4 : Value) (l5 : Value)  (h : zMm) (Q : Option Value → zMm → Prop), zWp d zi_44 none 4 [l0, l1, l2, l3, l4, l5] [] h Q = zWp d zi_44 none 5 [l0, l1, l2, l3, l4, l5] [.int 0] h Q) ∧
    (∀ (d : Nat) (l0 : Value) (l1 : Value) (l2 : Value) (l3 : Int32) (l4 : Value) (l5 : Value) (x0 : Int32) (h : zMm) (Q : Option Value → zMm → Prop), zWp d zi_44 none 5 [l0, l1, l2, .int l3, l4, l5] [.int x0] h Q = zWp d zi_44 none 7 [l0, l1, l2, .int l3, .int x0, l5] [] h Q) ∧
    (∀ (d : Nat) (l0 : Nat) (l1 : Value) (l2 : Value) (l3 : Value) (l4 : Value) (l5 : Value) (x0 : Int32) (h : zMm) (Q : Option Value → zMm → Prop), zWp d zi_44 none 9 [.ref l0, l1, l2, l3, l4, l5] [.int x0] h Q = zWp d zi_44 none 10 [.ref l0, l1, l2, l3, l4, l5] [.ref l0, .int x0] h Q) ∧
    (∀ (d : Nat) (l0 : Value) (l1 : Value) (l2 : Value) (l3 : Value) (l4 : Value) (l5 : Value) (x1 : Nat) (x0 : Int32) (I : Nat → Nat → Int32) (L : Nat → Nat → Int64) (P : Nat → Nat → Option Nat) (Q : Option Value → zMm → Prop), zSH[x1]? = some (.inl 5) → zWp d zi_44 none 10 [l0, l1, l2, l3, l4, l5] [.ref x1, .int x0] (zSH, I, L, P) Q = zWp d zi_44 none 13 [l0, l1, l2, l3, l4, l5] [.int (I x1 3), .int x0] (zSH, I, L, P) Q) ∧
    (∀ (d : Nat) (l0 : Value) (l1 : Value) (l2 : Value) (l3 : Value) (l4 : Value) (l5 : Value) (x1 : Int32) (x0 : Int32) (h : zMm) (Q : Option Value → zMm → Prop), zWp d zi_44 none 13 [l0, l1, l2, l3, l4, l5] [.int x1, .int x0] h Q = if x1 ≤ x0 then zWp d zi_44 none 254 [l0, l1, l2, l3, l4, l5] [] h Q else zWp d zi_44 none 16 [l0, l1, l2, l3, l4, l5] [] h Q) ∧
    (∀ (d : Nat) (l0 : Nat) (l1 : Value) (l2 : Value) (l3 : Value) (l4 : Value) (l5 : Value)  (h : zMm) (Q : Option Value → zMm → Prop), zWp d zi_44 none 16 [.ref l0, l1, l2, l3, l4, l5] [] h Q = zWp d zi_44 none 17 [.ref l0, l1, l2, l3, l4, l5] [.ref l0] h Q) ∧
    (∀ (d : Nat) (l0 : Value) (l1 : Value) (l2 : Value) (l3 : Value) (l4 : Value) (l5 : Value) (x0 : Nat) (I : Nat → Nat → Int32) (L : Nat → Nat → Int64) (P : Nat → Nat → Option Nat) (Q : Option Value → zMm → Prop), zSH[x0]? = some (.inl 5) → zWp d zi_44 none 17 [l0, l1, l2, l3, l4, l5] [.ref x0] (zSH, I, L, P) Q = zWp d zi_44 none 20 [l0, l1, l2, l3, l4, l5] [va_rf (P x0 0)] (zSH, I, L, P) Q) ∧
    (∀ (d : Nat) (l0 : Value) (l1 : Value) (l2 : Value) (l3 : Value) (l4 : Int32) (l5 : Value) (x0 : Nat) (h : zMm) (Q : Option Value → zMm → Prop), zWp d zi_44 none 20 [l0, l1, l2, l3, .int l4, l5] [.ref x0] h Q = zWp d zi_44 none 22 [l0, l1, l2, l3, .int l4, l5] [.int l4, .ref x0] h Q) ∧
    (∀ (d : Nat) (l0 : Value) (l1 : Value) (l2 : Value) (l3 : Value) (l4 : Value) (l5 : Value) (x1 : Int32) (x0 : Nat) (I : Nat → Nat → Int32) (L : Nat → Nat → Int64) (P : Nat → Nat → Option Nat) (Q : Option Value → zMm → Prop), zAk zSH x0 = some .int → zWp d zi_44 none 22 [l0, l1, l2, l3, l4, l5] [.int x1, .ref x0] (zSH, I, L, P) Q = (vp_in x1 (zAn zSH x0) ∧ zWp d zi_44 none 23 [l0, l1, l2, l3, l4, l5] [.int (I x0 x1.toNatClampNeg)] (zSH, I, L, P) Q)) ∧
    (∀ (d : Nat) (l0 : Value) (l1 : Value) (l2 : Value) (l3 : Value) (l4 : Int32) (l5 : Value) (x0 : Int32) (h : zMm) (Q : Option Value → zMm → Prop), zWp d zi_44 none 23 [l0, l1, l2, l3, .int l4, l5] [.int x0] h Q = zWp d zi_44 none 25 [l0, l1, l2, l3, .int l4, .int x0] [] h Q) ∧
    (∀ (d : Nat) (l0 : Value) (l1 : Value) (l2 : Value) (l3 : Value) (l4 : Value) (l5 : Int32)  (h : zMm) (Q : Option Value → zMm → Prop), zWp d zi_44 none 25 [l0, l1, l2, l3, l4, .int l5] [] h Q = zWp d zi_44 none 27 [l0, l1, l2, l3, l4, .int l5] [.int l5] h Q) ∧
    (∀ (d : Nat) (l0 : Value) (l1 : Value) (l2 : Value) (l3 : Value) (l4 : Value) (l5 : Value) (x0 : Int32) (h : zMm) (Q : Option Value → zMm → Prop), zWp d zi_44 none 27 [l0, l1, l2, l3, l4, l5] [.int x0] h Q = zWp d zi_44 none 29 [l0, l1, l2, l3, l4, l5] [.int 110, .int x0] h Q) ∧
    (∀ (d : Nat) (l0 : Value) (l1 : Value) (l2 : Value) (l3 : Value) (l4 : Value) (l5 : Value) (x1 : Int32) (x0 : Int32) (h : zMm) (Q : Option Value → zMm → Prop), zWp d zi_44 none 29 [l0, l1, l2, l3, l4, l5] [.int x1, .int x0] h Q = if x0 = x1 then zWp d zi_44 none 39 [l0, l1, l2, l3, l4, l5] [] h Q else zWp d zi_44 none 32 [l0, l1, l2, l3, l4, l5] [] h Q) ∧
    (∀ (d : Nat) (l0 : Value) (l1 : Value) (l2 : Value) (l3 : Value) (l4 : Value) (l5 : Int32)  (h : zMm) (Q : Option Value → zMm → Prop), zWp d zi_44 none 32 [l0, l1, l2, l3, l4, .int l5] [] h Q = zWp d zi_44 none 34 [l0, l1, l2, l3, l4, .int l5] [.int l5] h Q) ∧
    (∀ (d : Nat) (l0 : Value) (l1 : Value) (l2 : Value) (l3 : Value) (l4 : Value) (l5 : Value) (x0 : Int32) (h : zMm) (Q : Option Value → zMm → Prop), zWp d zi_44 none 34 [l0, l1, l2, l3, l4, l5] [.int x0] h Q = zWp d zi_44 none 36 [l0, l1, l2, l3, l4, l5] [.int 118, .int x0] h Q) ∧
    (∀ (d : Nat) (l0 : Value) (l1 : Value) (l2 : Value) (l3 : Value) (l4 : Value) (l5 : Value) (x1 : Int32) (x0 : Int32) (h : zMm) (Q : Option Value → zMm → Prop), zWp d zi_44 none 36 [l0, l1, l2, l3, l4, l5] [.int x1, .int x0] h Q = if x0 = x1 then zWp d zi_44 none 39 [l0, l1, l2, l3, l4, l5] [] h Q else zWp d zi_44 none 87 [l0, l1, l2, l3, l4, l5] [] h Q) ∧
    (∀ (d : Nat) (l0 : Value) (l1 : Value) (l2 : Int32) (l3 : Value) (l4 : Value) (l5 : Value)  (h : zMm) (Q : Option Value → zMm → Prop), zWp d zi_44 none 39 [l0, l1, .int l2, l3, l4, l5] [] h Q = zWp d zi_44 none 40 [l0, l1, .int l2, l3, l4, l5] [.int l2] h Q) ∧
    (∀ (d : Nat) (l0 : Value) (l1 : Value) (l2 : Value) (l3 : Value) (l4 : Value) (l5 : Value) (x0 : Int32) (h : zMm) (Q : Option Value → zMm → Prop), zWp d zi_44 none 40 [l0, l1, l2, l3, l4, l5] [.int x0] h Q = zWp d zi_44 none 42 [l0, l1, l2, l3, l4, l5] [.int 121, .int x0] h Q) ∧
    (∀ (d : Nat) (l0 : Value) (l1 : Value) (l2 : Value) (l3 : Value) (l4 : Value) (l5 : Value) (x1 : Int32) (x0 : Int32) (h : zMm) (Q : Option Value → zMm → Prop), zWp d zi_44 none 42 [l0, l1, l2, l3, l4, l5] [.int x1, .int x0] h Q = if x0 < x1 then zWp d zi_44 none 47 [l0, l1, l2, l3, l4, l5] [] h Q else zWp d zi_44 none 45 [l0, l1, l2, l3, l4, l5] [] h Q) ∧
    (∀ (d : Nat) (l0 : Value) (l1 : Value) (l2 : Value) (l3 : Value) (l4 : Value) (l5 : Value)  (h : zMm) (Q : Option Value → zMm → Prop), zWp d zi_44 none 45 [l0, l1, l2, l3, l4, l5] [] h Q = zWp d zi_44 none 46 [l0, l1, l2, l3, l4, l5] [.int 0] h Q) ∧
    (∀ (d : Nat) (l0 : Value) (l1 : Value) (l2 : Value) (l3 : Value) (l4 : Value) (l5 : Value) (x0 : Int32) (h : zMm) (Q : Option Value → zMm → Prop), zWp d zi_44 none 46 [l0, l1, l2, l3, l4, l5] [.int x0] h Q = Q (some (.int x0)) h) ∧
    (∀ (d : Nat) (l0 : Nat) (l1 : Value) (l2 : Value) (l3 : Value) (l4 : Value) (l5 : Value)  (h : zMm) (Q : Option Value → zMm → Prop), zWp d zi_44 none 47 [.ref l0, l1, l2, l3, l4, l5] [] h Q = zWp d zi_44 none 48 [.ref l0, l1, l2, l3, l4, l5] [.ref l0] h Q) ∧
    (∀ (d : Nat) (l0 : Value) (l1 : Value) (l2 : Value) (l3 : Value) (l4 : Value) (l5 : Value) (x0 : Nat) (I : Nat → Nat → Int32) (L : Nat → Nat → Int64) (P : Nat → Nat → Option Nat) (Q : Option Value → zMm → Prop), zSH[x0]? = some (.inl 5) → zWp d zi_44 none 48 [l0, l1, l2, l3, l4, l5] [.ref x0] (zSH, I, L, P) Q = zWp d zi_44 none 51 [l0, l1, l2, l3, l4, l5] [va_rf (P x0 2)] (zSH, I, L, P) Q) ∧
    (∀ (d : Nat) (l0 : Value) (l1 : Value) (l2 : Int32) (l3 : Value) (l4 : Value) (l5 : Value) (x0 : Nat) (h : zMm) (Q : Option Value → zMm → Prop), zWp d zi_44 none 51 [l0, l1, .int l2, l3, l4, l5] [.ref x0] h Q = zWp d zi_44 none 52 [l0, l1, .int l2, l3, l4, l5] [.int l2, .ref x0] h Q) ∧
    (∀ (d : Nat) (l0 : Value) (l1 : Value) (l2 : Value) (l3 : Value) (l4 : Value) (l5 : Int32) (x1 : Int32) (x0 : Nat) (h : zMm) (Q : Option Value → zMm → Prop), zWp d zi_44 none 52 [l0, l1, l2, l3, l4, .int l5] [.int x1, .ref x0] h Q = zWp d zi_44 none 54 [l0, l1, l2, l3, l4, .int l5] [.int l5, .int x1, .ref x0] h Q) ∧
    (∀ (d : Nat) (l0 : Value) (l1 : Value) (l2 : Value) (l3 : Value) (l4 : Value) (l5 : Value) (x2 : Int32) (x1 : Int32) (x0 : Nat) (h : zMm) (Q : Option Value → zMm → Prop), zWp d zi_44 none 54 [l0, l1, l2, l3, l4, l5] [.int x2, .int x1, .ref x0] h Q = zWp d zi_44 none 56 [l0, l1, l2, l3, l4, l5] [.int 110, .int x2, .int x1, .ref x0] h Q) ∧
    (∀ (d : Nat) (l0 : Value) (l1 : Value) (l2 : Value) (l3 : Value) (l4 : Value) (l5 : Value) (x3 : Int32) (x2 : Int32) (x1 : Int32) (x0 : Nat) (h : zMm) (Q : Option Value → zMm → Prop), zWp d zi_44 none 56 [l0, l1, l2, l3, l4, l5] [.int x3, .int x2, .int x1, .ref x0] h Q = if x2 = x3 then zWp d zi_44 none 59 [l0, l1, l2, l3, l4, l5] [.int x1, .ref x0] h Q else zWp d zi_44 none 69 [l0, l1, l2, l3, l4, l5] [.int x1, .ref x0] h Q) ∧
    (∀ (d : Nat) (l0 : Nat) (l1 : Value) (l2 : Value) (l3 : Value) (l4 : Value) (l5 : Value) (x1 : Int32) (x0 : Nat) (h : zMm) (Q : Option Value → zMm → Prop), zWp d zi_44 none 59 [.ref l0, l1, l2, l3, l4, l5] [.int x1, .ref x0] h Q = zWp d zi_44 none 60 [.ref l0, l1, l2, l3, l4, l5] [.ref l0, .int x1, .ref x0] h Q) ∧
    (∀ (d : Nat) (l0 : Value) (l1 : Value) (l2 : Value) (l3 : Value) (l4 : Value) (l5 : Value) (x2 : Nat) (x1 : Int32) (x0 : Nat) (I : Nat → Nat → Int32) (L : Nat → Nat → Int64) (P : Nat → Nat → Option Nat) (Q : Option Value → zMm → Prop), zSH[x2]? = some (.inl 5) → zWp d zi_44 none 60 [l0, l1, l2, l3, l4, l5] [.ref x2, .int x1, .ref x0] (zSH, I, L, P) Q = zWp d zi_44 none 63 [l0, l1, l2, l3, l4, l5] [va_rf (P x2 1), .int x1, .ref x0] (zSH, I, L, P) Q) ∧
    (∀ (d : Nat) (l0 : Value) (l1 : Value) (l2 : Value) (l3 : Value) (l4 : Int32) (l5 : Value) (x2 : Nat) (x1 : Int32) (x0 : Nat) (h : zMm) (Q : Option Value → zMm → Prop), zWp d zi_44 none 63 [l0, l1, l2, l3, .int l4, l5] [.ref x2, .int x1, .ref x0] h Q = zWp d zi_44 none 65 [l0, l1, l2, l3, .int l4, l5] [.int l4, .ref x2, .int x1, .ref x0] h Q) ∧
    (∀ (d : Nat) (l0 : Value) (l1 : Value) (l2 : Value) (l3 : Value) (l4 : Value) (l5 : Value) (x3 : Int32) (x2 : Nat) (x1 : Int32) (x0 : Nat) (I : Nat → Nat → Int32) (L : Nat → Nat → Int64) (P : Nat → Nat → Option Nat) (Q : Option Value → zMm → Prop), zAk zSH x2 = some .int → zWp d zi_44 none 65 [l0, l1, l2, l3, l4, l5] [.int x3, .ref x2, .int x1, .ref x0] (zSH, I, L, P) Q = (vp_in x3 (zAn zSH x2) ∧ zWp d zi_44 none 66 [l0, l1, l2, l3, l4, l5] [.int (I x2 x3.toNatClampNeg), .int x1, .ref x0] (zSH, I, L, P) Q)) ∧
    (∀ (d : Nat) (l0 : Value) (l1 : Value) (l2 : Value) (l3 : Value) (l4 : Value) (l5 : Value) (x2 : Int32) (x1 : Int32) (x0 : Nat) (h : zMm) (Q : Option Value → zMm → Prop), zWp d zi_44 none 66 [l0, l1, l2, l3, l4, l5] [.int x2, .int x1, .ref x0] h Q = zWp d zi_44 none 80 [l0, l1, l2, l3, l4, l5] [.int x2, .int x1, .ref x0] h Q) ∧
    (∀ (d : Nat) (l0 : Nat) (l1 : Value) (l2 : Value) (l3 : Value) (l4 : Value) (l5 : Value) (x1 : Int32) (x0 : Nat) (h : zMm) (Q : Option Value → zMm → Prop), zWp d zi_44 none 69 [.ref l0, l1, l2, l3, l4, l5] [.int x1, .ref x0] h Q = zWp d zi_44 none 70 [.ref l0, l1, l2, l3, l4, l5] [.ref l0, .int x1, .ref x0] h Q) ∧
    (∀ (d : Nat) (l0 : Value) (l1 : Value) (l2 : Value) (l3 : Value) (l4 : Value) (l5 : Value) (x2 : Nat) (x1 : Int32) (x0 : Nat) (I : Nat → Nat → Int32) (L : Nat → Nat → Int64) (P : Nat → Nat → Option Nat) (Q : Option Value → zMm → Prop), zSH[x2]? = some (.inl 5) → zWp d zi_44 none 70 [l0, l1, l2, l3, l4, l5] [.ref x2, .int x1, .ref x0] (zSH, I, L, P) Q = zWp d zi_44 none 73 [l0, l1, l2, l3, l4, l5] [va_rf (P x2 1), .int x1, .ref x0] (zSH, I, L, P) Q) ∧
    (∀ (d : Nat) (l0 : Value) (l1 : Value) (l2 : Value) (l3 : Value) (l4 : Int32) (l5 : Value) (x2 : Nat) (x1 : Int32) (x0 : Nat) (h : zMm) (Q : Option Value → zMm → Prop), zWp d zi_44 none 73 [l0, l1, l2, l3, .int l4, l5] [.ref x2, .int x1, .ref x0] h Q = zWp d zi_44 none 75 [l0, l1, l2, l3, .int l4, l5] [.int l4, .ref x2, .int x1, .ref x0] h Q) ∧
    (∀ (d : Nat) (l0 : Value) (l1 : Value) (l2 : Value) (l3 : Value) (l4 : Value) (l5 : Value) (x3 : Int32) (x2 : Nat) (x1 : Int32) (x0 : Nat) (I : Nat → Nat → Int32) (L : Nat → Nat → Int64) (P : Nat → Nat → Option Nat) (Q : Option Value → zMm → Prop), zAk zSH x2 = some .int → zWp d zi_44 none 75 [l0, l1, l2, l3, l4, l5] [.int x3, .ref x2, .int x1, .ref x0] (zSH, I, L, P) Q = (vp_in x3 (zAn zSH x2) ∧ zWp d zi_44 none 76 [l0, l1, l2, l3, l4, l5] [.int (I x2 x3.toNatClampNeg), .int x1, .ref x0] (zSH, I, L, P) Q)) ∧
    (∀ (d : Nat) (l0 : Value) (l1 : Nat) (l2 : Value) (l3 : Value) (l4 : Value) (l5 : Value) (x2 : Int32) (x1 : Int32) (x0 : Nat) (h : zMm) (Q : Option Value → zMm → Prop), zWp d zi_44 none 76 [l0, .ref l1, l2, l3, l4, l5] [.int x2, .int x1, .ref x0] h Q = zWp d zi_44 none 77 [l0, .ref l1, l2, l3, l4, l5] [.ref l1, .int x2, .int x1, .ref x0] h Q) ∧
    (∀ (d : Nat) (l0 : Value) (l1 : Value) (l2 : Value) (l3 : Value) (l4 : Value) (l5 : Value) (x3 : Nat) (x2 : Int32) (x1 : Int32) (x0 : Nat) (h : zMm) (Q : Option Value → zMm → Prop), zWp d zi_44 none 77 [l0, l1, l2, l3, l4, l5] [.ref x3, .int x2, .int x1, .ref x0] h Q = zWM d 45 [.int x2, .ref x3] h (fun r h1 => zWp d zi_44 none 80 [l0, l1, l2, l3, l4, l5] (r.toList ++ [.int x1, .ref x0]) h1 Q)) ∧
    (∀ (d : Nat) (l0 : Value) (l1 : Value) (l2 : Value) (l3 : Value) (l4 : Value) (l5 : Value) (x2 : Int32) (x1 : Int32) (x0 : Nat) (I : Nat → Nat → Int32) (L : Nat → Nat → Int64) (P : Nat → Nat → Option Nat) (Q : Option Value → zMm → Prop), zAk zSH x0 = some .int → zWp d zi_44 none 80 [l0, l1, l2, l3, l4, l5] [.int x2, .int x1, .ref x0] (zSH, I, L, P) Q = (vp_in x1 (zAn zSH x0) ∧ zWp d zi_44 none 81 [l0, l1, l2, l3, l4, l5] [] (zSH, zw I x0 (upd (I x0) x1.toNatClampNeg x2), L, P) Q)) ∧
    (∀ (d : Nat) (l0 : Value) (l1 : Nat) (l2 : Int32) (l3 : Value) (l4 : Value) (l5 : Value)  (h : zMm) (Q : Option Value → zMm → Prop), zWp d zi_44 none 81 [l0, .ref l1, .int l2, l3, l4, l5] [] h Q = zWp d zi_44 none 84 [l0, .ref l1, .int (l2 + 1), l3, l4, l5] [] h Q) ∧
    (∀ (d : Nat) (l0 : Value) (l1 : Value) (l2 : Value) (l3 : Value) (l4 : Value) (l5 : Value)  (h : zMm) (Q : Option Value → zMm → Prop), zWp d zi_44 none 84 [l0, l1, l2, l3, l4, l5] [] h Q = zWp d zi_44 none 248 [l0, l1, l2, l3, l4, l5] [] h Q) ∧
    (∀ (d : Nat) (l0 : Value) (l1 : Value) (l2 : Int32) (l3 : Value) (l4 : Value) (l5 : Value)  (h : zMm) (Q : Option Value → zMm → Prop), zWp d zi_44 none 87 [l0, l1, .int l2, l3, l4, l5] [] h Q = zWp d zi_44 none 88 [l0, l1, .int l2, l3, l4, l5] [.int l2] h Q) ∧
    (∀ (d : Nat) (l0 : Value) (l1 : Value) (l2 : Value) (l3 : Value) (l4 : Value) (l5 : Value) (x0 : Int32) (h : zMm) (Q : Option Value → zMm → Prop), zWp d zi_44 none 88 [l0, l1, l2, l3, l4, l5] [.int x0] h Q = zWp d zi_44 none 89 [l0, l1, l2, l3, l4, l5] [.int 1, .int x0] h Q) ∧
    (∀ (d : Nat) (l0 : Value) (l1 : Value) (l2 : Value) (l3 : Value) (l4 : Value) (l5 : Value) (x1 : Int32) (x0 : Int32) (h : zMm) (Q : Option Value → zMm → Prop), zWp d zi_44 none 89 [l0, l1, l2, l3, l4, l5] [.int x1, .int x0] h Q = if x1 ≤ x0 then zWp d zi_44 none 94 [l0, l1, l2, l3, l4, l5] [] h Q else zWp d zi_44 none 92 [l0, l1, l2, l3, l4, l5] [] h Q) ∧
    (∀ (d : Nat) (l0 : Value) (l1 : Value) (l2 : Value) (l3 : Value) (l4 : Value) (l5 : Value)  (h : zMm) (Q : Option Value → zMm → Prop), zWp d zi_44 none 92 [l0, l1, l2, l3, l4, l5] [] h Q = zWp d zi_44 none 93 [l0, l1, l2, l3, l4, l5] [.int 0] h Q) ∧
    (∀ (d : Nat) (l0 : Value) (l1 : Value) (l2 : Value) (l3 : Value) (l4 : Value) (l5 : Value) (x0 : Int32) (h : zMm) (Q : Option Value → zMm → Prop), zWp d zi_44 none 93 [l0, l1, l2, l3, l4, l5] [.int x0] h Q = Q (some (.int x0)) h) ∧
    (∀ (d : Nat) (l0 : Value) (l1 : Value) (l2 : Value) (l3 : Value) (l4 : Value) (l5 : Int32)  (h : zMm) (Q : Option Value → zMm → Prop), zWp d zi_44 none 94 [l0, l1, l2, l3, l4, .int l5] [] h Q = zWp d zi_44 none 96 [l0, l1, l2, l3, l4, .int l5] [.int l5] h Q) ∧
    (∀ (d : Nat) (l0 : Value) (l1 : Value) (l2 : Value) (l3 : Value) (l4 : Value) (l5 : Value) (x0 : Int32) (h : zMm) (Q : Option Value → zMm → Prop), zWp d zi_44 none 96 [l0, l1, l2, l3, l4, l5] [.int x0] h Q = zWp d zi_44 none 98 [l0, l1, l2, l3, l4, l5] [.int 63, .int x0] h Q) ∧
    (∀ (d : Nat) (l0 : Value) (l1 : Value) (l2 : Value) (l3 : Value) (l4 : Value) (l5 : Value) (x1 : Int32) (x0 : Int32) (h : zMm) (Q : Option Value → zMm → Prop), zWp d zi_44 none 98 [l0, l1, l2, l3, l4, l5] [.int x1, .int x0] h Q = if x0 = x1 then zWp d zi_44 none 101 [l0, l1, l2, l3, l4, l5] [] h Q else zWp d zi_44 none 122 [l0, l1, l2, l3, l4, l5] [] h Q) ∧
    (∀ (d : Nat) (l0 : Nat) (l1 : Value) (l2 : Value) (l3 : Value) (l4 : Value) (l5 : Value)  (h : zMm) (Q : Option Value → zMm → Prop), zWp d zi_44 none 101 [.ref l0, l1, l2, l3, l4, l5] [] h Q = zWp d zi_44 none 102 [.ref l0, l1, l2, l3, l4, l5] [.ref l0] h Q) ∧
    (∀ (d : Nat) (l0 : Value) (l1 : Value) (l2 : Value) (l3 : Value) (l4 : Value) (l5 : Value) (x0 : Nat) (I : Nat → Nat → Int32) (L : Nat → Nat → Int64) (P : Nat → Nat → Option Nat) (Q : Option Value → zMm → Prop), zSH[x0]? = some (.inl 5) → zWp d zi_44 none 102 [l0, l1, l2, l3, l4, l5] [.ref x0] (zSH, I, L, P) Q = zWp d zi_44 none 105 [l0, l1, l2, l3, l4, l5] [va_rf (P x0 2)] (zSH, I, L, P) Q) ∧
    (∀ (d : Nat) (l0 : Value) (l1 : Nat) (l2 : Int32) (l3 : Value) (l4 : Value) (l5 : Value) (x0 : Nat) (h : zMm) (Q : Option Value → zMm → Prop), zWp d zi_44 none 105 [l0, .ref l1, .int l2, l3, l4, l5] [.ref x0] h Q = zWp d zi_44 none 108 [l0, .ref l1, .int (l2 + (-1)), l3, l4, l5] [.ref x0] h Q) ∧
    (∀ (d : Nat) (l0 : Value) (l1 : Value) (l2 : Int32) (l3 : Value) (l4 : Value) (l5 : Value) (x0 : Nat) (h : zMm) (Q : Option Value → zMm → Prop), zWp d zi_44 none 108 [l0, l1, .int l2, l3, l4, l5] [.ref x0] h Q = zWp d zi_44 none 109 [l0, l1, .int l2, l3, l4, l5] [.int l2, .ref x0] h Q) ∧
    (∀ (d : Nat) (l0 : Value) (l1 : Value) (l2 : Value) (l3 : Value) (l4 : Value) (l5 : Value) (x1 : Int32) (x0 : Nat) (I : Nat → Nat → Int32) (L : Nat → Nat → Int64) (P : Nat → Nat → Option Nat) (Q : Option Value → zMm → Prop), zAk zSH x0 = some .int → zWp d zi_44 none 109 [l0, l1, l2, l3, l4, l5] [.int x1, .ref x0] (zSH, I, L, P) Q = (vp_in x1 (zAn zSH x0) ∧ zWp d zi_44 none 110 [l0, l1, l2, l3, l4, l5] [.int (I x0 x1.toNatClampNeg)] (zSH, I, L, P) Q)) ∧
    (∀ (d : Nat) (l0 : Value) (l1 : Value) (l2 : Value) (l3 : Value) (l4 : Value) (l5 : Value) (x0 : Int32) (h : zMm) (Q : Option Value → zMm → Prop), zWp d zi_44 none 110 [l0, l1, l2, l3, l4, l5] [.int x0] h Q = if x0 = 0 then zWp d zi_44 none 117 [l0, l1, l2, l3, l4, l5] [] h Q else zWp d zi_44 none 113 [l0, l1, l2, l3, l4, l5] [] h Q) ∧
    (∀ (d : Nat) (l0 : Value) (l1 : Value) (l2 : Value) (l3 : Value) (l4 : Value) (l5 : Value)  (h : zMm) (Q : Option Value → zMm → Prop), zWp d zi_44 none 113 [l0, l1, l2, l3, l4, l5] [] h Q = zWp d zi_44 none 114 [l0, l1, l2, l3, l4, l5] [.int 1] h Q) ∧
    (∀ (d : Nat) (l0 : Value) (l1 : Value) (l2 : Value) (l3 : Value) (l4 : Value) (l5 : Value) (x0 : Int32) (h : zMm) (Q : Option Value → zMm → Prop), zWp d zi_44 none 114 [l0, l1, l2, l3, l4, l5] [.int x0] h Q = zWp d zi_44 none 118 [l0, l1, l2, l3, l4, l5] [.int x0] h Q) ∧
    (∀ (d : Nat) (l0 : Value) (l1 : Value) (l2 : Value) (l3 : Value) (l4 : Value) (l5 : Value)  (h : zMm) (Q : Option Value → zMm → Prop), zWp d zi_44 none 117 [l0, l1, l2, l3, l4, l5] [] h Q = zWp d zi_44 none 118 [l0, l1, l2, l3, l4, l5] [.int 0] h Q) ∧
    (∀ (d : Nat) (l0 : Value) (l1 : Value) (l2 : Int32) (l3 : Value) (l4 : Value) (l5 : Value) (x0 : Int32) (h : zMm) (Q : Option Value → zMm → Prop), zWp d zi_44 none 118 [l0, l1, .int l2, l3, l4, l5] [.int x0] h Q = zWp d zi_44 none 119 [l0, l1, .int l2, .int x0, l4, l5] [] h Q) ∧
    (∀ (d : Nat) (l0 : Value) (l1 : Value) (l2 : Value) (l3 : Value) (l4 : Value) (l5 : Value)  (h : zMm) (Q : Option Value → zMm → Prop), zWp d zi_44 none 119 [l0, l1, l2, l3, l4, l5] [] h Q = zWp d zi_44 none 248 [l0, l1, l2, l3, l4, l5] [] h Q) ∧
    (∀ (d : Nat) (l0 : Value) (l1 : Value) (l2 : Value) (l3 : Value) (l4 : Value) (l5 : Int32)  (h : zMm) (Q : Option Value → zMm → Prop), zWp d zi_44 none 122 [l0, l1, l2, l3, l4, .int l5] [] h Q = zWp d zi_44 none 124 [l0, l1, l2, l3, l4, .int l5] [.int l5] h Q) ∧
    (∀ (d : Nat) (l0 : Value) (l1 : Value) (l2 : Value) (l3 : Value) (l4 : Value) (l5 : Value) (x0 : Int32) (h : zMm) (Q : Option Value → zMm → Prop), zWp d zi_44 none 124 [l0, l1, l2, l3, l4, l5] [.int x0] h Q = zWp d zi_44 none 126 [l0, l1, l2, l3, l4, l5] [.int 59, .int x0] h Q) ∧
    (∀ (d : Nat) (l0 : Value) (l1 : Value) (l2 : Value) (l3 : Value) (l4 : Value) (l5 : Value) (x1 : Int32) (x0 : Int32) (h : zMm) (Q : Option Value → zMm → Prop), zWp d zi_44 none 126 [l0, l1, l2, l3, l4, l5] [.int x1, .int x0] h Q = if x0 = x1 then zWp d zi_44 none 129 [l0, l1, l2, l3, l4, l5] [] h Q else zWp d zi_44 none 150 [l0, l1, l2, l3, l4, l5] [] h Q) ∧
    (∀ (d : Nat) (l0 : Value) (l1 : Value) (l2 : Value) (l3 : Int32) (l4 : Value) (l5 : Value)  (h : zMm) (Q : Option Value → zMm → Prop), zWp d zi_44 none 129 [l0, l1, l2, .int l3, l4, l5] [] h Q = zWp d zi_44 none 130 [l0, l1, l2, .int l3, l4, l5] [.int l3] h Q) ∧
    (∀ (d : Nat) (l0 : Value) (l1 : Value) (l2 : Value) (l3 : Value) (l4 : Value) (l5 : Value) (x0 : Int32) (h : zMm) (Q : Option Value → zMm → Prop), zWp d zi_44 none 130 [l0, l1, l2, l3, l4, l5] [.int x0] h Q = if x0 = 0 then zWp d zi_44 none 142 [l0, l1, l2, l3, l4, l5] [] h Q else zWp d zi_44 none 133 [l0, l1, l2, l3, l4, l5] [] h Q) ∧
    (∀ (d : Nat) (l0 : Nat) (l1 : Value) (l2 : Value) (l3 : Value) (l4 : Value) (l5 : Value)  (h : zMm) (Q : Option Value → zMm → Prop), zWp d zi_44 none 133 [.ref l0, l1, l2, l3, l4, l5] [] h Q = zWp d zi_44 none 134 [.ref l0, l1, l2, l3, l4, l5] [.ref l0] h Q) ∧
    (∀ (d : Nat) (l0 : Value) (l1 : Value) (l2 : Value) (l3 : Value) (l4 : Value) (l5 : Value) (x0 : Nat) (I : Nat → Nat → Int32) (L : Nat → Nat → Int64) (P : Nat → Nat → Option Nat) (Q : Option Value → zMm → Prop), zSH[x0]? = some (.inl 5) → zWp d zi_44 none 134 [l0, l1, l2, l3, l4, l5] [.ref x0] (zSH, I, L, P) Q = zWp d zi_44 none 137 [l0, l1, l2, l3, l4, l5] [va_rf (P x0 2)] (zSH, I, L, P) Q) ∧
    (∀ (d : Nat) (l0 : Value) (l1 : Value) (l2 : Int32) (l3 : Value) (l4 : Value) (l5 : Value) (x0 : Nat) (h : zMm) (Q : Option Value → zMm → Prop), zWp d zi_44 none 137 [l0, l1, .int l2, l3, l4, l5] [.ref x0] h Q = zWp d zi_44 none 138 [l0, l1, .int l2, l3, l4, l5] [.int l2, .ref x0] h Q) ∧
    (∀ (d : Nat) (l0 : Value) (l1 : Value) (l2 : Value) (l3 : Value) (l4 : Value) (l5 : Value) (x1 : Int32) (x0 : Nat) (h : zMm) (Q : Option Value → zMm → Prop), zWp d zi_44 none 138 [l0, l1, l2, l3, l4, l5] [.int x1, .ref x0] h Q = zWp d zi_44 none 139 [l0, l1, l2, l3, l4, l5] [.int 1, .int x1, .ref x0] h Q) ∧
    (∀ (d : Nat) (l0 : Value) (l1 : Value) (l2 : Value) (l3 : Value) (l4 : Value) (l5 : Value) (x2 : Int32) (x1 : Int32) (x0 : Nat) (h : zMm) (Q : Option Value → zMm → Prop), zWp d zi_44 none 139 [l0, l1, l2, l3, l4, l5] [.int x2, .int x1, .ref x0] h Q = zWp d zi_44 none 140 [l0, l1, l2, l3, l4, l5] [.int (x1 - x2), .ref x0] h Q) ∧
    (∀ (d : Nat) (l0 : Value) (l1 : Value) (l2 : Value) (l3 : Value) (l4 : Value) (l5 : Value) (x1 : Int32) (x0 : Nat) (I : Nat → Nat → Int32) (L : Nat → Nat → Int64) (P : Nat → Nat → Option Nat) (Q : Option Value → zMm → Prop), zAk zSH x0 = some .int → zWp d zi_44 none 140 [l0, l1, l2, l3, l4, l5] [.int x1, .ref x0] (zSH, I, L, P) Q = (vp_in x1 (zAn zSH x0) ∧ zWp d zi_44 none 141 [l0, l1, l2, l3, l4, l5] [.int (I x0 x1.toNatClampNeg)] (zSH, I, L, P) Q)) ∧
    (∀ (d : Nat) (l0 : Value) (l1 : Value) (l2 : Value) (l3 : Value) (l4 : Value) (l5 : Value) (x0 : Int32) (h : zMm) (Q : Option Value → zMm → Prop), zWp d zi_44 none 141 [l0, l1, l2, l3, l4, l5] [.int x0] h Q = Q (some (.int x0)) h) ∧
    (∀ (d : Nat) (l0 : Value) (l1 : Nat) (l2 : Int32) (l3 : Value) (l4 : Value) (l5 : Value)  (h : zMm) (Q : Option Value → zMm → Prop), zWp d zi_44 none 142 [l0, .ref l1, .int l2, l3, l4, l5] [] h Q = zWp d zi_44 none 145 [l0, .ref l1, .int (l2 + (-1)), l3, l4, l5] [] h Q) ∧
    (∀ (d : Nat) (l0 : Value) (l1 : Value) (l2 : Value) (l3 : Value) (l4 : Value) (l5 : Value)  (h : zMm) (Q : Option Value → zMm → Prop), zWp d zi_44 none 145 [l0, l1, l2, l3, l4, l5] [] h Q = zWp d zi_44 none 146 [l0, l1, l2, l3, l4, l5] [.int 1] h Q) ∧
    (∀ (d : Nat) (l0 : Value) (l1 : Value) (l2 : Int32) (l3 : Value) (l4 : Value) (l5 : Value) (x0 : Int32) (h : zMm) (Q : Option Value → zMm → Prop), zWp d zi_44 none 146 [l0, l1, .int l2, l3, l4, l5] [.int x0] h Q = zWp d zi_44 none 147 [l0, l1, .int l2, .int x0, l4, l5] [] h Q) ∧
    (∀ (d : Nat) (l0 : Value) (l1 : Value) (l2 : Value) (l3 : Value) (l4 : Value) (l5 : Value)  (h : zMm) (Q : Option Value → zMm → Prop), zWp d zi_44 none 147 [l0, l1, l2, l3, l4, l5] [] h Q = zWp d zi_44 none 248 [l0, l1, l2, l3, l4, l5] [] h Q) ∧
    (∀ (d : Nat) (l0 : Value) (l1 : Value) (l2 : Value) (l3 : Value) (l4 : Value) (l5 : Int32)  (h : zMm) (Q : Option Value → zMm → Prop), zWp d zi_44 none 150 [l0, l1, l2, l3, l4, .int l5] [] h Q = zWp d zi_44 none 152 [l0, l1, l2, l3, l4, .int l5] [.int l5] h Q) ∧
    (∀ (d : Nat) (l0 : Value) (l1 : Value) (l2 : Value) (l3 : Value) (l4 : Value) (l5 : Value) (x0 : Int32) (h : zMm) (Q : Option Value → zMm → Prop), zWp d zi_44 none 152 [l0, l1, l2, l3, l4, l5] [.int x0] h Q = zWp d zi_44 none 154 [l0, l1, l2, l3, l4, l5] [.int 33, .int x0] h Q) ∧
    (∀ (d : Nat) (l0 : Value) (l1 : Value) (l2 : Value) (l3 : Value) (l4 : Value) (l5 : Value) (x1 : Int32) (x0 : Int32) (h : zMm) (Q : Option Value → zMm → Prop), zWp d zi_44 none 154 [l0, l1, l2, l3, l4, l5] [.int x1, .int x0] h Q = if x0 = x1 then zWp d zi_44 none 157 [l0, l1, l2, l3, l4, l5] [] h Q else zWp d zi_44 none 184 [l0, l1, l2, l3, l4, l5] [] h Q) ∧
    (∀ (d : Nat) (l0 : Nat) (l1 : Value) (l2 : Value) (l3 : Value) (l4 : Value) (l5 : Value)  (h : zMm) (Q : Option Value → zMm → Prop), zWp d zi_44 none 157 [.ref l0, l1, l2, l3, l4, l5] [] h Q = zWp d zi_44 none 158 [.ref l0, l1, l2, l3, l4, l5] [.ref l0] h Q) ∧
    (∀ (d : Nat) (l0 : Value) (l1 : Value) (l2 : Value) (l3 : Value) (l4 : Value) (l5 : Value) (x0 : Nat) (I : Nat → Nat → Int32) (L : Nat → Nat → Int64) (P : Nat → Nat → Option Nat) (Q : Option Value → zMm → Prop), zSH[x0]? = some (.inl 5) → zWp d zi_44 none 158 [l0, l1, l2, l3, l4, l5] [.ref x0] (zSH, I, L, P) Q = zWp d zi_44 none 161 [l0, l1, l2, l3, l4, l5] [va_rf (P x0 2)] (zSH, I, L, P) Q) ∧
    (∀ (d : Nat) (l0 : Value) (l1 : Value) (l2 : Int32) (l3 : Value) (l4 : Value) (l5 : Value) (x0 : Nat) (h : zMm) (Q : Option Value → zMm → Prop), zWp d zi_44 none 161 [l0, l1, .int l2, l3, l4, l5] [.ref x0] h Q = zWp d zi_44 none 162 [l0, l1, .int l2, l3, l4, l5] [.int l2, .ref x0] h Q) ∧
    (∀ (d : Nat) (l0 : Value) (l1 : Value) (l2 : Value) (l3 : Value) (l4 : Value) (l5 : Value) (x1 : Int32) (x0 : Nat) (h : zMm) (Q : Option Value → zMm → Prop), zWp d zi_44 none 162 [l0, l1, l2, l3, l4, l5] [.int x1, .ref x0] h Q = zWp d zi_44 none 163 [l0, l1, l2, l3, l4, l5] [.int 1, .int x1, .ref x0] h Q) ∧
    (∀ (d : Nat) (l0 : Value) (l1 : Value) (l2 : Value) (l3 : Value) (l4 : Value) (l5 : Value) (x2 : Int32) (x1 : Int32) (x0 : Nat) (h : zMm) (Q : Option Value → zMm → Prop), zWp d zi_44 none 163 [l0, l1, l2, l3, l4, l5] [.int x2, .int x1, .ref x0] h Q = zWp d zi_44 none 164 [l0, l1, l2, l3, l4, l5] [.int (x1 - x2), .ref x0] h Q) ∧
    (∀ (d : Nat) (l0 : Nat) (l1 : Value) (l2 : Value) (l3 : Value) (l4 : Value) (l5 : Value) (x1 : Int32) (x0 : Nat) (h : zMm) (Q : Option Value → zMm → Prop), zWp d zi_44 none 164 [.ref l0, l1, l2, l3, l4, l5] [.int x1, .ref x0] h Q = zWp d zi_44 none 165 [.ref l0, l1, l2, l3, l4, l5] [.ref l0, .int x1, .ref x0] h Q) ∧
    (∀ (d : Nat) (l0 : Value) (l1 : Value) (l2 : Value) (l3 : Value) (l4 : Value) (l5 : Value) (x2 : Nat) (x1 : Int32) (x0 : Nat) (I : Nat → Nat → Int32) (L : Nat → Nat → Int64) (P : Nat → Nat → Option Nat) (Q : Option Value → zMm → Prop), zSH[x2]? = some (.inl 5) → zWp d zi_44 none 165 [l0, l1, l2, l3, l4, l5] [.ref x2, .int x1, .ref x0] (zSH, I, L, P) Q = zWp d zi_44 none 168 [l0, l1, l2, l3, l4, l5] [va_rf (P x2 2), .int x1, .ref x0] (zSH, I, L, P) Q) ∧
    (∀ (d : Nat) (l0 : Value) (l1 : Value) (l2 : Int32) (l3 : Value) (l4 : Value) (l5 : Value) (x2 : Nat) (x1 : Int32) (x0 : Nat) (h : zMm) (Q : Option Value → zMm → Prop), zWp d zi_44 none 168 [l0, l1, .int l2, l3, l4, l5] [.ref x2, .int x1, .ref x0] h Q = zWp d zi_44 none 169 [l0, l1, .int l2, l3, l4, l5] [.int l2, .ref x2, .int x1, .ref x0] h Q) ∧
    (∀ (d : Nat) (l0 : Value) (l1 : Value) (l2 : Value) (l3 : Value) (l4 : Value) (l5 : Value) (x3 : Int32) (x2 : Nat) (x1 : Int32) (x0 : Nat) (h : zMm) (Q : Option Value → zMm → Prop), zWp d zi_44 none 169 [l0, l1, l2, l3, l4, l5] [.int x3, .ref x2, .int x1, .ref x0] h Q = zWp d zi_44 none 170 [l0, l1, l2, l3, l4, l5] [.int 1, .int x3, .ref x2, .int x1, .ref x0] h Q) ∧
    (∀ (d : Nat) (l0 : Value) (l1 : Value) (l2 : Value) (l3 : Value) (l4 : Value) (l5 : Value) (x4 : Int32) (x3 : Int32) (x2 : Nat) (x1 : Int32) (x0 : Nat) (h : zMm) (Q : Option Value → zMm → Prop), zWp d zi_44 none 170 [l0, l1, l2, l3, l4, l5] [.int x4, .int x3, .ref x2, .int x1, .ref x0] h Q = zWp d zi_44 none 171 [l0, l1, l2, l3, l4, l5] [.int (x3 - x4), .ref x2, .int x1, .ref x0] h Q) ∧
    (∀ (d : Nat) (l0 : Value) (l1 : Value) (l2 : Value) (l3 : Value) (l4 : Value) (l5 : Value) (x3 : Int32) (x2 : Nat) (x1 : Int32) (x0 : Nat) (I : Nat → Nat → Int32) (L : Nat → Nat → Int64) (P : Nat → Nat → Option Nat) (Q : Option Value → zMm → Prop), zAk zSH x2 = some .int → zWp d zi_44 none 171 [l0, l1, l2, l3, l4, l5] [.int x3, .ref x2, .int x1, .ref x0] (zSH, I, L, P) Q = (vp_in x3 (zAn zSH x2) ∧ zWp d zi_44 none 172 [l0, l1, l2, l3, l4, l5] [.int (I x2 x3.toNatClampNeg), .int x1, .ref x0] (zSH, I, L, P) Q)) ∧
    (∀ (d : Nat) (l0 : Value) (l1 : Value) (l2 : Value) (l3 : Value) (l4 : Value) (l5 : Value) (x2 : Int32) (x1 : Int32) (x0 : Nat) (h : zMm) (Q : Option Value → zMm → Prop), zWp d zi_44 none 172 [l0, l1, l2, l3, l4, l5] [.int x2, .int x1, .ref x0] h Q = if x2 = 0 then zWp d zi_44 none 175 [l0, l1, l2, l3, l4, l5] [.int x1, .ref x0] h Q else zWp d zi_44 none 179 [l0, l1, l2, l3, l4, l5] [.int x1, .ref x0] h Q) ∧
    (∀ (d : Nat) (l0 : Value) (l1 : Value) (l2 : Value) (l3 : Value) (l4 : Value) (l5 : Value) (x1 : Int32) (x0 : Nat) (h : zMm) (Q : Option Value → zMm → Prop), zWp d zi_44 none 175 [l0, l1, l2, l3, l4, l5] [.int x1, .ref x0] h Q = zWp d zi_44 none 176 [l0, l1, l2, l3, l4, l5] [.int 1, .int x1, .ref x0] h Q) ∧
    (∀ (d : Nat) (l0 : Value) (l1 : Value) (l2 : Value) (l3 : Value) (l4 : Value) (l5 : Value) (x2 : Int32) (x1 : Int32) (x0 : Nat) (h : zMm) (Q : Option Value → zMm → Prop), zWp d zi_44 none 176 [l0, l1, l2, l3, l4, l5] [.int x2, .int x1, .ref x0] h Q = zWp d zi_44 none 180 [l0, l1, l2, l3, l4, l5] [.int x2, .int x1, .ref x0] h Q) ∧
    (∀ (d : Nat) (l0 : Value) (l1 : Value) (l2 : Value) (l3 : Value) (l4 : Value) (l5 : Value) (x1 : Int32) (x0 : Nat) (h : zMm) (Q : Option Value → zMm → Prop), zWp d zi_44 none 179 [l0, l1, l2, l3, l4, l5] [.int x1, .ref x0] h Q = zWp d zi_44 none 180 [l0, l1, l2, l3, l4, l5] [.int 0, .int x1, .ref x0] h Q) ∧
    (∀ (d : Nat) (l0 : Value) (l1 : Value) (l2 : Value) (l3 : Value) (l4 : Value) (l5 : Value) (x2 : Int32) (x1 : Int32) (x0 : Nat) (I : Nat → Nat → Int32) (L : Nat → Nat → Int64) (P : Nat → Nat → Option Nat) (Q : Option Value → zMm → Prop), zAk zSH x0 = some .int → zWp d zi_44 none 180 [l0, l1, l2, l3, l4, l5] [.int x2, .int x1, .ref x0] (zSH, I, L, P) Q = (vp_in x1 (zAn zSH x0) ∧ zWp d zi_44 none 181 [l0, l1, l2, l3, l4, l5] [] (zSH, zw I x0 (upd (I x0) x1.toNatClampNeg x2), L, P) Q)) ∧
    (∀ (d : Nat) (l0 : Value) (l1 : Value) (l2 : Value) (l3 : Value) (l4 : Value) (l5 : Value)  (h : zMm) (Q : Option Value → zMm → Prop), zWp d zi_44 none 181 [l0, l1, l2, l3, l4, l5] [] h Q = zWp d zi_44 none 248 [l0, l1, l2, l3, l4, l5] [] h Q) ∧
    (∀ (d : Nat) (l0 : Value) (l1 : Value) (l2 : Value) (l3 : Value) (l4 : Value) (l5 : Int32)  (h : zMm) (Q : Option Value → zMm → Prop), zWp d zi_44 none 184 [l0, l1, l2, l3, l4, .int l5] [] h Q = zWp d zi_44 none 186 [l0, l1, l2, l3, l4, .int l5] [.int l5] h Q) ∧
    (∀ (d : Nat) (l0 : Value) (l1 : Value) (l2 : Value) (l3 : Value) (l4 : Value) (l5 : Value) (x0 : Int32) (h : zMm) (Q : Option Value → zMm → Prop), zWp d zi_44 none 186 [l0, l1, l2, l3, l4, l5] [.int x0] h Q = zWp d zi_44 none 188 [l0, l1, l2, l3, l4, l5] [.int 126, .int x0] h Q) ∧
    (∀ (d : Nat) (l0 : Value) (l1 : Value) (l2 : Value) (l3 : Value) (l4 : Value) (l5 : Value) (x1 : Int32) (x0 : Int32) (h : zMm) (Q : Option Value → zMm → Prop), zWp d zi_44 none 188 [l0, l1, l2, l3, l4, l5] [.int x1, .int x0] h Q = if x0 = x1 then zWp d zi_44 none 191 [l0, l1, l2, l3, l4, l5] [] h Q else zWp d zi_44 none 211 [l0, l1, l2, l3, l4, l5] [] h Q) ∧
    (∀ (d : Nat) (l0 : Nat) (l1 : Value) (l2 : Value) (l3 : Value) (l4 : Value) (l5 : Value)  (h : zMm) (Q : Option Value → zMm → Prop), zWp d zi_44 none 191 [.ref l0, l1, l2, l3, l4, l5] [] h Q = zWp d zi_44 none 192 [.ref l0, l1, l2, l3, l4, l5] [.ref l0] h Q) ∧
    (∀ (d : Nat) (l0 : Value) (l1 : Value) (l2 : Value) (l3 : Value) (l4 : Value) (l5 : Value) (x0 : Nat) (I : Nat → Nat → Int32) (L : Nat → Nat → Int64) (P : Nat → Nat → Option Nat) (Q : Option Value → zMm → Prop), zSH[x0]? = some (.inl 5) → zWp d zi_44 none 192 [l0, l1, l2, l3, l4, l5] [.ref x0] (zSH, I, L, P) Q = zWp d zi_44 none 195 [l0, l1, l2, l3, l4, l5] [va_rf (P x0 2)] (zSH, I, L, P) Q) ∧
    (∀ (d : Nat) (l0 : Value) (l1 : Value) (l2 : Int32) (l3 : Value) (l4 : Value) (l5 : Value) (x0 : Nat) (h : zMm) (Q : Option Value → zMm → Prop), zWp d zi_44 none 195 [l0, l1, .int l2, l3, l4, l5] [.ref x0] h Q = zWp d zi_44 none 196 [l0, l1, .int l2, l3, l4, l5] [.int l2, .ref x0] h Q) ∧
    (∀ (d : Nat) (l0 : Value) (l1 : Value) (l2 : Value) (l3 : Value) (l4 : Value) (l5 : Value) (x1 : Int32) (x0 : Nat) (h : zMm) (Q : Option Value → zMm → Prop), zWp d zi_44 none 196 [l0, l1, l2, l3, l4, l5] [.int x1, .ref x0] h Q = zWp d zi_44 none 197 [l0, l1, l2, l3, l4, l5] [.int 1, .int x1, .ref x0] h Q) ∧
    (∀ (d : Nat) (l0 : Value) (l1 : Value) (l2 : Value) (l3 : Value) (l4 : Value) (l5 : Value) (x2 : Int32) (x1 : Int32) (x0 : Nat) (h : zMm) (Q : Option Value → zMm → Prop), zWp d zi_44 none 197 [l0, l1, l2, l3, l4, l5] [.int x2, .int x1, .ref x0] h Q = zWp d zi_44 none 198 [l0, l1, l2, l3, l4, l5] [.int (x1 - x2), .ref x0] h Q) ∧
    (∀ (d : Nat) (l0 : Nat) (l1 : Value) (l2 : Value) (l3 : Value) (l4 : Value) (l5 : Value) (x1 : Int32) (x0 : Nat) (h : zMm) (Q : Option Value → zMm → Prop), zWp d zi_44 none 198 [.ref l0, l1, l2, l3, l4, l5] [.int x1, .ref x0] h Q = zWp d zi_44 none 199 [.ref l0, l1, l2, l3, l4, l5] [.ref l0, .int x1, .ref x0] h Q) ∧
    (∀ (d : Nat) (l0 : Value) (l1 : Value) (l2 : Value) (l3 : Value) (l4 : Value) (l5 : Value) (x2 : Nat) (x1 : Int32) (x0 : Nat) (I : Nat → Nat → Int32) (L : Nat → Nat → Int64) (P : Nat → Nat → Option Nat) (Q : Option Value → zMm → Prop), zSH[x2]? = some (.inl 5) → zWp d zi_44 none 199 [l0, l1, l2, l3, l4, l5] [.ref x2, .int x1, .ref x0] (zSH, I, L, P) Q = zWp d zi_44 none 202 [l0, l1, l2, l3, l4, l5] [va_rf (P x2 2), .int x1, .ref x0] (zSH, I, L, P) Q) ∧
    (∀ (d : Nat) (l0 : Value) (l1 : Value) (l2 : Int32) (l3 : Value) (l4 : Value) (l5 : Value) (x2 : Nat) (x1 : Int32) (x0 : Nat) (h : zMm) (Q : Option Value → zMm → Prop), zWp d zi_44 none 202 [l0, l1, .int l2, l3, l4, l5] [.ref x2, .int x1, .ref x0] h Q = zWp d zi_44 none 203 [l0, l1, .int l2, l3, l4, l5] [.int l2, .ref x2, .int x1, .ref x0] h Q) ∧
    (∀ (d : Nat) (l0 : Value) (l1 : Value) (l2 : Value) (l3 : Value) (l4 : Value) (l5 : Value) (x3 : Int32) (x2 : Nat) (x1 : Int32) (x0 : Nat) (h : zMm) (Q : Option Value → zMm → Prop), zWp d zi_44 none 203 [l0, l1, l2, l3, l4, l5] [.int x3, .ref x2, .int x1, .ref x0] h Q = zWp d zi_44 none 204 [l0, l1, l2, l3, l4, l5] [.int 1, .int x3, .ref x2, .int x1, .ref x0] h Q) ∧
    (∀ (d : Nat) (l0 : Value) (l1 : Value) (l2 : Value) (l3 : Value) (l4 : Value) (l5 : Value) (x4 : Int32) (x3 : Int32) (x2 : Nat) (x1 : Int32) (x0 : Nat) (h : zMm) (Q : Option Value → zMm → Prop), zWp d zi_44 none 204 [l0, l1, l2, l3, l4, l5] [.int x4, .int x3, .ref x2, .int x1, .ref x0] h Q = zWp d zi_44 none 205 [l0, l1, l2, l3, l4, l5] [.int (x3 - x4), .ref x2, .int x1, .ref x0] h Q) ∧
    (∀ (d : Nat) (l0 : Value) (l1 : Value) (l2 : Value) (l3 : Value) (l4 : Value) (l5 : Value) (x3 : Int32) (x2 : Nat) (x1 : Int32) (x0 : Nat) (I : Nat → Nat → Int32) (L : Nat → Nat → Int64) (P : Nat → Nat → Option Nat) (Q : Option Value → zMm → Prop), zAk zSH x2 = some .int → zWp d zi_44 none 205 [l0, l1, l2, l3, l4, l5] [.int x3, .ref x2, .int x1, .ref x0] (zSH, I, L, P) Q = (vp_in x3 (zAn zSH x2) ∧ zWp d zi_44 none 206 [l0, l1, l2, l3, l4, l5] [.int (I x2 x3.toNatClampNeg), .int x1, .ref x0] (zSH, I, L, P) Q)) ∧
    (∀ (d : Nat) (l0 : Value) (l1 : Value) (l2 : Value) (l3 : Value) (l4 : Value) (l5 : Value) (x2 : Int32) (x1 : Int32) (x0 : Nat) (h : zMm) (Q : Option Value → zMm → Prop), zWp d zi_44 none 206 [l0, l1, l2, l3, l4, l5] [.int x2, .int x1, .ref x0] h Q = zWp d zi_44 none 207 [l0, l1, l2, l3, l4, l5] [.int (-x2), .int x1, .ref x0] h Q) ∧
    (∀ (d : Nat) (l0 : Value) (l1 : Value) (l2 : Value) (l3 : Value) (l4 : Value) (l5 : Value) (x2 : Int32) (x1 : Int32) (x0 : Nat) (I : Nat → Nat → Int32) (L : Nat → Nat → Int64) (P : Nat → Nat → Option Nat) (Q : Option Value → zMm → Prop), zAk zSH x0 = some .int → zWp d zi_44 none 207 [l0, l1, l2, l3, l4, l5] [.int x2, .int x1, .ref x0] (zSH, I, L, P) Q = (vp_in x1 (zAn zSH x0) ∧ zWp d zi_44 none 208 [l0, l1, l2, l3, l4, l5] [] (zSH, zw I x0 (upd (I x0) x1.toNatClampNeg x2), L, P) Q)) ∧
    (∀ (d : Nat) (l0 : Value) (l1 : Value) (l2 : Value) (l3 : Value) (l4 : Value) (l5 : Value)  (h : zMm) (Q : Option Value → zMm → Prop), zWp d zi_44 none 208 [l0, l1, l2, l3, l4, l5] [] h Q = zWp d zi_44 none 248 [l0, l1, l2, l3, l4, l5] [] h Q) ∧
    (∀ (d : Nat) (l0 : Value) (l1 : Value) (l2 : Int32) (l3 : Value) (l4 : Value) (l5 : Value)  (h : zMm) (Q : Option Value → zMm → Prop), zWp d zi_44 none 211 [l0, l1, .int l2, l3, l4, l5] [] h Q = zWp d zi_44 none 212 [l0, l1, .int l2, l3, l4, l5] [.int l2] h Q) ∧
    (∀ (d : Nat) (l0 : Value) (l1 : Value) (l2 : Value) (l3 : Value) (l4 : Value) (l5 : Value) (x0 : Int32) (h : zMm) (Q : Option Value → zMm → Prop), zWp d zi_44 none 212 [l0, l1, l2, l3, l4, l5] [.int x0] h Q = zWp d zi_44 none 213 [l0, l1, l2, l3, l4, l5] [.int 2, .int x0] h Q) ∧
    (∀ (d : Nat) (l0 : Value) (l1 : Value) (l2 : Value) (l3 : Value) (l4 : Value) (l5 : Value) (x1 : Int32) (x0 : Int32) (h : zMm) (Q : Option Value → zMm → Prop), zWp d zi_44 none 213 [l0, l1, l2, l3, l4, l5] [.int x1, .int x0] h Q = if x1 ≤ x0 then zWp d zi_44 none 218 [l0, l1, l2, l3, l4, l5] [] h Q else zWp d zi_44 none 216 [l0, l1, l2, l3, l4, l5] [] h Q) ∧
    (∀ (d : Nat) (l0 : Value) (l1 : Value) (l2 : Value) (l3 : Value) (l4 : Value) (l5 : Value)  (h : zMm) (Q : Option Value → zMm → Prop), zWp d zi_44 none 216 [l0, l1, l2, l3, l4, l5] [] h Q = zWp d zi_44 none 217 [l0, l1, l2, l3, l4, l5] [.int 0] h Q) ∧
    (∀ (d : Nat) (l0 : Value) (l1 : Value) (l2 : Value) (l3 : Value) (l4 : Value) (l5 : Value) (x0 : Int32) (h : zMm) (Q : Option Value → zMm → Prop), zWp d zi_44 none 217 [l0, l1, l2, l3, l4, l5] [.int x0] h Q = Q (some (.int x0)) h) ∧
    (∀ (d : Nat) (l0 : Value) (l1 : Nat) (l2 : Int32) (l3 : Value) (l4 : Value) (l5 : Value)  (h : zMm) (Q : Option Value → zMm → Prop), zWp d zi_44 none 218 [l0, .ref l1, .int l2, l3, l4, l5] [] h Q = zWp d zi_44 none 221 [l0, .ref l1, .int (l2 + (-1)), l3, l4, l5] [] h Q) ∧
    (∀ (d : Nat) (l0 : Nat) (l1 : Value) (l2 : Value) (l3 : Value) (l4 : Value) (l5 : Value)  (h : zMm) (Q : Option Value → zMm → Prop), zWp d zi_44 none 221 [.ref l0, l1, l2, l3, l4, l5] [] h Q = zWp d zi_44 none 222 [.ref l0, l1, l2, l3, l4, l5] [.ref l0] h Q) ∧
    (∀ (d : Nat) (l0 : Value) (l1 : Value) (l2 : Value) (l3 : Value) (l4 : Value) (l5 : Value) (x0 : Nat) (I : Nat → Nat → Int32) (L : Nat → Nat → Int64) (P : Nat → Nat → Option Nat) (Q : Option Value → zMm → Prop), zSH[x0]? = some (.inl 5) → zWp d zi_44 none 222 [l0, l1, l2, l3, l4, l5] [.ref x0] (zSH, I, L, P) Q = zWp d zi_44 none 225 [l0, l1, l2, l3, l4, l5] [va_rf (P x0 2)] (zSH, I, L, P) Q) ∧
    (∀ (d : Nat) (l0 : Value) (l1 : Value) (l2 : Int32) (l3 : Value) (l4 : Value) (l5 : Value) (x0 : Nat) (h : zMm) (Q : Option Value → zMm → Prop), zWp d zi_44 none 225 [l0, l1, .int l2, l3, l4, l5] [.ref x0] h Q = zWp d zi_44 none 226 [l0, l1, .int l2, l3, l4, l5] [.int l2, .ref x0] h Q) ∧
    (∀ (d : Nat) (l0 : Value) (l1 : Value) (l2 : Value) (l3 : Value) (l4 : Value) (l5 : Value) (x1 : Int32) (x0 : Nat) (h : zMm) (Q : Option Value → zMm → Prop), zWp d zi_44 none 226 [l0, l1, l2, l3, l4, l5] [.int x1, .ref x0] h Q = zWp d zi_44 none 227 [l0, l1, l2, l3, l4, l5] [.int 1, .int x1, .ref x0] h Q) ∧
    (∀ (d : Nat) (l0 : Value) (l1 : Value) (l2 : Value) (l3 : Value) (l4 : Value) (l5 : Value) (x2 : Int32) (x1 : Int32) (x0 : Nat) (h : zMm) (Q : Option Value → zMm → Prop), zWp d zi_44 none 227 [l0, l1, l2, l3, l4, l5] [.int x2, .int x1, .ref x0] h Q = zWp d zi_44 none 228 [l0, l1, l2, l3, l4, l5] [.int (x1 - x2), .ref x0] h Q) ∧
    (∀ (d : Nat) (l0 : Value) (l1 : Value) (l2 : Value) (l3 : Value) (l4 : Value) (l5 : Int32) (x1 : Int32) (x0 : Nat) (h : zMm) (Q : Option Value → zMm → Prop), zWp d zi_44 none 228 [l0, l1, l2, l3, l4, .int l5] [.int x1, .ref x0] h Q = zWp d zi_44 none 230 [l0, l1, l2, l3, l4, .int l5] [.int l5, .int x1, .ref x0] h Q) ∧
    (∀ (d : Nat) (l0 : Nat) (l1 : Value) (l2 : Value) (l3 : Value) (l4 : Value) (l5 : Value) (x2 : Int32) (x1 : Int32) (x0 : Nat) (h : zMm) (Q : Option Value → zMm → Prop), zWp d zi_44 none 230 [.ref l0, l1, l2, l3, l4, l5] [.int x2, .int x1, .ref x0] h Q = zWp d zi_44 none 231 [.ref l0, l1, l2, l3, l4, l5] [.ref l0, .int x2, .int x1, .ref x0] h Q) ∧
    (∀ (d : Nat) (l0 : Value) (l1 : Value) (l2 : Value) (l3 : Value) (l4 : Value) (l5 : Value) (x3 : Nat) (x2 : Int32) (x1 : Int32) (x0 : Nat) (I : Nat → Nat → Int32) (L : Nat → Nat → Int64) (P : Nat → Nat → Option Nat) (Q : Option Value → zMm → Prop), zSH[x3]? = some (.inl 5) → zWp d zi_44 none 231 [l0, l1, l2, l3, l4, l5] [.ref x3, .int x2, .int x1, .ref x0] (zSH, I, L, P) Q = zWp d zi_44 none 234 [l0, l1, l2, l3, l4, l5] [va_rf (P x3 2), .int x2, .int x1, .ref x0] (zSH, I, L, P) Q) ∧
    (∀ (d : Nat) (l0 : Value) (l1 : Value) (l2 : Int32) (l3 : Value) (l4 : Value) (l5 : Value) (x3 : Nat) (x2 : Int32) (x1 : Int32) (x0 : Nat) (h : zMm) (Q : Option Value → zMm → Prop), zWp d zi_44 none 234 [l0, l1, .int l2, l3, l4, l5] [.ref x3, .int x2, .int x1, .ref x0] h Q = zWp d zi_44 none 235 [l0, l1, .int l2, l3, l4, l5] [.int l2, .ref x3, .int x2, .int x1, .ref x0] h Q) ∧
    (∀ (d : Nat) (l0 : Value) (l1 : Value) (l2 : Value) (l3 : Value) (l4 : Value) (l5 : Value) (x4 : Int32) (x3 : Nat) (x2 : Int32) (x1 : Int32) (x0 : Nat) (h : zMm) (Q : Option Value → zMm → Prop), zWp d zi_44 none 235 [l0, l1, l2, l3, l4, l5] [.int x4, .ref x3, .int x2, .int x1, .ref x0] h Q = zWp d zi_44 none 236 [l0, l1, l2, l3, l4, l5] [.int 1, .int x4, .ref x3, .int x2, .int x1, .ref x0] h Q) ∧
    (∀ (d : Nat) (l0 : Value) (l1 : Value) (l2 : Value) (l3 : Value) (l4 : Value) (l5 : Value) (x5 : Int32) (x4 : Int32) (x3 : Nat) (x2 : Int32) (x1 : Int32) (x0 : Nat) (h : zMm) (Q : Option Value → zMm → Prop), zWp d zi_44 none 236 [l0, l1, l2, l3, l4, l5] [.int x5, .int x4, .ref x3, .int x2, .int x1, .ref x0] h Q = zWp d zi_44 none 237 [l0, l1, l2, l3, l4, l5] [.int (x4 - x5), .ref x3, .int x2, .int x1, .ref x0] h Q) ∧
    (∀ (d : Nat) (l0 : Value) (l1 : Value) (l2 : Value) (l3 : Value) (l4 : Value) (l5 : Value) (x4 : Int32) (x3 : Nat) (x2 : Int32) (x1 : Int32) (x0 : Nat) (I : Nat → Nat → Int32) (L : Nat → Nat → Int64) (P : Nat → Nat → Option Nat) (Q : Option Value → zMm → Prop), zAk zSH x3 = some .int → zWp d zi_44 none 237 [l0, l1, l2, l3, l4, l5] [.int x4, .ref x3, .int x2, .int x1, .ref x0] (zSH, I, L, P) Q = (vp_in x4 (zAn zSH x3) ∧ zWp d zi_44 none 238 [l0, l1, l2, l3, l4, l5] [.int (I x3 x4.toNatClampNeg), .int x2, .int x1, .ref x0] (zSH, I, L, P) Q)) ∧
    (∀ (d : Nat) (l0 : Nat) (l1 : Value) (l2 : Value) (l3 : Value) (l4 : Value) (l5 : Value) (x3 : Int32) (x2 : Int32) (x1 : Int32) (x0 : Nat) (h : zMm) (Q : Option Value → zMm → Prop), zWp d zi_44 none 238 [.ref l0, l1, l2, l3, l4, l5] [.int x3, .int x2, .int x1, .ref x0] h Q = zWp d zi_44 none 239 [.ref l0, l1, l2, l3, l4, l5] [.ref l0, .int x3, .int x2, .int x1, .ref x0] h Q) ∧
    (∀ (d : Nat) (l0 : Value) (l1 : Value) (l2 : Value) (l3 : Value) (l4 : Value) (l5 : Value) (x4 : Nat) (x3 : Int32) (x2 : Int32) (x1 : Int32) (x0 : Nat) (I : Nat → Nat → Int32) (L : Nat → Nat → Int64) (P : Nat → Nat → Option Nat) (Q : Option Value → zMm → Prop), zSH[x4]? = some (.inl 5) → zWp d zi_44 none 239 [l0, l1, l2, l3, l4, l5] [.ref x4, .int x3, .int x2, .int x1, .ref x0] (zSH, I, L, P) Q = zWp d zi_44 none 242 [l0, l1, l2, l3, l4, l5] [va_rf (P x4 2), .int x3, .int x2, .int x1, .ref x0] (zSH, I, L, P) Q) ∧
    (∀ (d : Nat) (l0 : Value) (l1 : Value) (l2 : Int32) (l3 : Value) (l4 : Value) (l5 : Value) (x4 : Nat) (x3 : Int32) (x2 : Int32) (x1 : Int32) (x0 : Nat) (h : zMm) (Q : Option Value → zMm → Prop), zWp d zi_44 none 242 [l0, l1, .int l2, l3, l4, l5] [.ref x4, .int x3, .int x2, .int x1, .ref x0] h Q = zWp d zi_44 none 243 [l0, l1, .int l2, l3, l4, l5] [.int l2, .ref x4, .int x3, .int x2, .int x1, .ref x0] h Q) ∧
    (∀ (d : Nat) (l0 : Value) (l1 : Value) (l2 : Value) (l3 : Value) (l4 : Value) (l5 : Value) (x5 : Int32) (x4 : Nat) (x3 : Int32) (x2 : Int32) (x1 : Int32) (x0 : Nat) (I : Nat → Nat → Int32) (L : Nat → Nat → Int64) (P : Nat → Nat → Option Nat) (Q : Option Value → zMm → Prop), zAk zSH x4 = some .int → zWp d zi_44 none 243 [l0, l1, l2, l3, l4, l5] [.int x5, .ref x4, .int x3, .int x2, .int x1, .ref x0] (zSH, I, L, P) Q = (vp_in x5 (zAn zSH x4) ∧ zWp d zi_44 none 244 [l0, l1, l2, l3, l4, l5] [.int (I x4 x5.toNatClampNeg), .int x3, .int x2, .int x1, .ref x0] (zSH, I, L, P) Q)) ∧
    (∀ (d : Nat) (l0 : Value) (l1 : Value) (l2 : Value) (l3 : Value) (l4 : Value) (l5 : Value) (x4 : Int32) (x3 : Int32) (x2 : Int32) (x1 : Int32) (x0 : Nat) (h : zMm) (Q : Option Value → zMm → Prop), zWp d zi_44 none 244 [l0, l1, l2, l3, l4, l5] [.int x4, .int x3, .int x2, .int x1, .ref x0] h Q = zWM d 46 [.int x2, .int x3, .int x4] h (fun r h1 => zWp d zi_44 none 247 [l0, l1, l2, l3, l4, l5] (r.toList ++ [.int x1, .ref x0]) h1 Q)) ∧
    (∀ (d : Nat) (l0 : Value) (l1 : Value) (l2 : Value) (l3 : Value) (l4 : Value) (l5 : Value) (x2 : Int32) (x1 : Int32) (x0 : Nat) (I : Nat → Nat → Int32) (L : Nat → Nat → Int64) (P : Nat → Nat → Option Nat) (Q : Option Value → zMm → Prop), zAk zSH x0 = some .int → zWp d zi_44 none 247 [l0, l1, l2, l3, l4, l5] [.int x2, .int x1, .ref x0] (zSH, I, L, P) Q = (vp_in x1 (zAn zSH x0) ∧ zWp d zi_44 none 248 [l0, l1, l2, l3, l4, l5] [] (zSH, zw I x0 (upd (I x0) x1.toNatClampNeg x2), L, P) Q)) ∧
    (∀ (d : Nat) (l0 : Value) (l1 : Value) (l2 : Value) (l3 : Int32) (l4 : Int32) (l5 : Value)  (h : zMm) (Q : Option Value → zMm → Prop), zWp d zi_44 none 248 [l0, l1, l2, .int l3, .int l4, l5] [] h Q = zWp d zi_44 none 251 [l0, l1, l2, .int l3, .int (l4 + 1), l5] [] h Q) ∧
    (∀ (d : Nat) (l0 : Value) (l1 : Value) (l2 : Value) (l3 : Value) (l4 : Value) (l5 : Value)  (h : zMm) (Q : Option Value → zMm → Prop), zWp d zi_44 none 251 [l0, l1, l2, l3, l4, l5] [] h Q = zWp d zi_44 none 7 [l0, l1, l2, l3, l4, l5] [] h Q) ∧
    (∀ (d : Nat) (l0 : Value) (l1 : Value) (l2 : Value) (l3 : Value) (l4 : Value) (l5 : Value)  (h : zMm) (Q : Option Value → zMm → Prop), zWp d zi_44 none 254 [l0, l1, l2, l3, l4, l5] [] h Q = zWp d zi_44 none 255 [l0, l1, l2, l3, l4, l5] [.int 0] h Q) ∧
    (∀ (d : Nat) (l0 : Value) (l1 : Value) (l2 : Value) (l3 : Value) (l4 : Value) (l5 : Value) (x0 : Int32) (h : zMm) (Q : Option Value → zMm → Prop), zWp d zi_44 none 255 [l0, l1, l2, l3, l4, l5] [.int x0] h Q = Q (some (.int x0)) h) :=
  ⟨(fun d l0 l1 l2 l3 l4 l5  h Q => zr_iconst rfl (by decide)),
   (fun d l0 l1 l2 l3 l4 l5 x0 h Q => zr_istore_n (n := 2) rfl (Nat.le_of_ble_eq_true rfl) rfl),
   (fun d l0 l1 l2 l3 l4 l5  h Q => zr_iconst rfl (by decide)),
   (fun d l0 l1 l2 l3 l4 l5 x0 h Q => zr_istore_n (n := 3) rfl (Nat.le_of_ble_eq_true rfl) rfl),
   (fun d l0 l1 l2 l3 l4 l5  h Q => zr_iconst rfl (by decide)),
   (fun d l0 l1 l2 l3 l4 l5 x0 h Q => zr_istore (n := 4) rfl (Nat.le_of_ble_eq_true rfl) rfl),
   (fun d l0 l1 l2 l3 l4 l5 x0 h Q => zr_aload_n rfl rfl),
   (fun d l0 l1 l2 l3 l4 l5 x1 x0 I L P Q p0 => zr_getI rfl lf_5_21 (fun _ _ _ => rfl) p0),
   (fun d l0 l1 l2 l3 l4 l5 x1 x0 h Q => zr_ic_ge rfl (by decide)),
   (fun d l0 l1 l2 l3 l4 l5  h Q => zr_aload_n rfl rfl),
   (fun d l0 l1 l2 l3 l4 l5 x0 I L P Q p0 => zr_getQ rfl lf_5_11 (fun _ _ _ => rfl) p0),
   (fun d l0 l1 l2 l3 l4 l5 x0 h Q => zr_iload rfl rfl),
   (fun d l0 l1 l2 l3 l4 l5 x1 x0 I L P Q p0 => zr_ald rfl p0),
   (fun d l0 l1 l2 l3 l4 l5 x0 h Q => zr_istore (n := 5) rfl (Nat.le_of_ble_eq_true rfl) rfl),
   (fun d l0 l1 l2 l3 l4 l5  h Q => zr_iload rfl rfl),
   (fun d l0 l1 l2 l3 l4 l5 x0 h Q => zr_bipush rfl (by decide)),
   (fun d l0 l1 l2 l3 l4 l5 x1 x0 h Q => zr_ic_eq rfl (by decide)),
   (fun d l0 l1 l2 l3 l4 l5  h Q => zr_iload rfl rfl),
   (fun d l0 l1 l2 l3 l4 l5 x0 h Q => zr_bipush rfl (by decide)),
   (fun d l0 l1 l2 l3 l4 l5 x1 x0 h Q => zr_ic_ne rfl (by decide)),
   (fun d l0 l1 l2 l3 l4 l5  h Q => zr_iload_n rfl rfl),
   (fun d l0 l1 l2 l3 l4 l5 x0 h Q => zr_bipush rfl (by decide)),
   (fun d l0 l1 l2 l3 l4 l5 x1 x0 h Q => zr_ic_lt rfl (by decide)),
   (fun d l0 l1 l2 l3 l4 l5  h Q => zr_iconst rfl (by decide)),
   (fun d l0 l1 l2 l3 l4 l5 x0 h Q => zr_iret rfl rfl),
   (fun d l0 l1 l2 l3 l4 l5  h Q => zr_aload_n rfl rfl),
   (fun d l0 l1 l2 l3 l4 l5 x0 I L P Q p0 => zr_getQ rfl lf_5_18 (fun _ _ _ => rfl) p0),
   (fun d l0 l1 l2 l3 l4 l5 x0 h Q => zr_iload_n rfl rfl),
   (fun d l0 l1 l2 l3 l4 l5 x1 x0 h Q => zr_iload rfl rfl),
   (fun d l0 l1 l2 l3 l4 l5 x2 x1 x0 h Q => zr_bipush rfl (by decide)),
   (fun d l0 l1 l2 l3 l4 l5 x3 x2 x1 x0 h Q => zr_ic_ne rfl (by decide)),
   (fun d l0 l1 l2 l3 l4 l5 x1 x0 h Q => zr_aload_n rfl rfl),
   (fun d l0 l1 l2 l3 l4 l5 x2 x1 x0 I L P Q p0 => zr_getQ rfl lf_5_15 (fun _ _ _ => rfl) p0),
   (fun d l0 l1 l2 l3 l4 l5 x2 x1 x0 h Q => zr_iload rfl rfl),
   (fun d l0 l1 l2 l3 l4 l5 x3 x2 x1 x0 I L P Q p0 => zr_ald rfl p0),
   (fun d l0 l1 l2 l3 l4 l5 x2 x1 x0 h Q => zr_goto rfl (by decide)),
   (fun d l0 l1 l2 l3 l4 l5 x1 x0 h Q => zr_aload_n rfl rfl),
   (fun d l0 l1 l2 l3 l4 l5 x2 x1 x0 I L P Q p0 => zr_getQ rfl lf_5_15 (fun _ _ _ => rfl) p0),
   (fun d l0 l1 l2 l3 l4 l5 x2 x1 x0 h Q => zr_iload rfl rfl),
   (fun d l0 l1 l2 l3 l4 l5 x3 x2 x1 x0 I L P Q p0 => zr_ald rfl p0),
   (fun d l0 l1 l2 l3 l4 l5 x2 x1 x0 h Q => zr_aload_n rfl rfl),
   (fun d l0 l1 l2 l3 l4 l5 x3 x2 x1 x0 h Q => zr_sta (as := [.ref x3, .int x2]) (rest := [.int x1, .ref x0]) rfl lm_5_25 (by decide) m_45 kd_45 rfl (Nat.le_of_ble_eq_true rfl)),
   (fun d l0 l1 l2 l3 l4 l5 x2 x1 x0 I L P Q p0 => zr_ast rfl p0),
   (fun d l0 l1 l2 l3 l4 l5  h Q => zr_iinc (n := 2) (kc := 1) rfl rfl (Nat.le_of_ble_eq_true rfl) rfl (by decide)),
   (fun d l0 l1 l2 l3 l4 l5  h Q => zr_goto rfl (by decide)),
   (fun d l0 l1 l2 l3 l4 l5  h Q => zr_iload_n rfl rfl),
   (fun d l0 l1 l2 l3 l4 l5 x0 h Q => zr_iconst rfl (by decide)),
   (fun d l0 l1 l2 l3 l4 l5 x1 x0 h Q => zr_ic_ge rfl (by decide)),
   (fun d l0 l1 l2 l3 l4 l5  h Q => zr_iconst rfl (by decide)),
   (fun d l0 l1 l2 l3 l4 l5 x0 h Q => zr_iret rfl rfl),
   (fun d l0 l1 l2 l3 l4 l5  h Q => zr_iload rfl rfl),
   (fun d l0 l1 l2 l3 l4 l5 x0 h Q => zr_bipush rfl (by decide)),
   (fun d l0 l1 l2 l3 l4 l5 x1 x0 h Q => zr_ic_ne rfl (by decide)),
   (fun d l0 l1 l2 l3 l4 l5  h Q => zr_aload_n rfl rfl),
   (fun d l0 l1 l2 l3 l4 l5 x0 I L P Q p0 => zr_getQ rfl lf_5_18 (fun _ _ _ => rfl) p0),
   (fun d l0 l1 l2 l3 l4 l5 x0 h Q => zr_iinc (n := 2) (kc := (-1)) rfl rfl (Nat.le_of_ble_eq_true rfl) rfl (by decide)),
   (fun d l0 l1 l2 l3 l4 l5 x0 h Q => zr_iload_n rfl rfl),
   (fun d l0 l1 l2 l3 l4 l5 x1 x0 I L P Q p0 => zr_ald rfl p0),
   (fun d l0 l1 l2 l3 l4 l5 x0 h Q => zr_if_eq rfl (by decide)),
   (fun d l0 l1 l2 l3 l4 l5  h Q => zr_iconst rfl (by decide)),
   (fun d l0 l1 l2 l3 l4 l5 x0 h Q => zr_goto rfl (by decide)),
   (fun d l0 l1 l2 l3 l4 l5  h Q => zr_iconst rfl (by decide)),
   (fun d l0 l1 l2 l3 l4 l5 x0 h Q => zr_istore_n (n := 3) rfl (Nat.le_of_ble_eq_true rfl) rfl),
   (fun d l0 l1 l2 l3 l4 l5  h Q => zr_goto rfl (by decide)),
   (fun d l0 l1 l2 l3 l4 l5  h Q => zr_iload rfl rfl),
   (fun d l0 l1 l2 l3 l4 l5 x0 h Q => zr_bipush rfl (by decide)),
   (fun d l0 l1 l2 l3 l4 l5 x1 x0 h Q => zr_ic_ne rfl (by decide)),
   (fun d l0 l1 l2 l3 l4 l5  h Q => zr_iload_n rfl rfl),
   (fun d l0 l1 l2 l3 l4 l5 x0 h Q => zr_if_eq rfl (by decide)),
   (fun d l0 l1 l2 l3 l4 l5  h Q => zr_aload_n rfl rfl),
   (fun d l0 l1 l2 l3 l4 l5 x0 I L P Q p0 => zr_getQ rfl lf_5_18 (fun _ _ _ => rfl) p0),
   (fun d l0 l1 l2 l3 l4 l5 x0 h Q => zr_iload_n rfl rfl),
   (fun d l0 l1 l2 l3 l4 l5 x1 x0 h Q => zr_iconst rfl (by decide)),
   (fun d l0 l1 l2 l3 l4 l5 x2 x1 x0 h Q => zr_isub rfl),
   (fun d l0 l1 l2 l3 l4 l5 x1 x0 I L P Q p0 => zr_ald rfl p0),
   (fun d l0 l1 l2 l3 l4 l5 x0 h Q => zr_iret rfl rfl),
   (fun d l0 l1 l2 l3 l4 l5  h Q => zr_iinc (n := 2) (kc := (-1)) rfl rfl (Nat.le_of_ble_eq_true rfl) rfl (by decide)),
   (fun d l0 l1 l2 l3 l4 l5  h Q => zr_iconst rfl (by decide)),
   (fun d l0 l1 l2 l3 l4 l5 x0 h Q => zr_istore_n (n := 3) rfl (Nat.le_of_ble_eq_true rfl) rfl),
   (fun d l0 l1 l2 l3 l4 l5  h Q => zr_goto rfl (by decide)),
   (fun d l0 l1 l2 l3 l4 l5  h Q => zr_iload rfl rfl),
   (fun d l0 l1 l2 l3 l4 l5 x0 h Q => zr_bipush rfl (by decide)),
   (fun d l0 l1 l2 l3 l4 l5 x1 x0 h Q => zr_ic_ne rfl (by decide)),
   (fun d l0 l1 l2 l3 l4 l5  h Q => zr_aload_n rfl rfl),
   (fun d l0 l1 l2 l3 l4 l5 x0 I L P Q p0 => zr_getQ rfl lf_5_18 (fun _ _ _ => rfl) p0),
   (fun d l0 l1 l2 l3 l4 l5 x0 h Q => zr_iload_n rfl rfl),
   (fun d l0 l1 l2 l3 l4 l5 x1 x0 h Q => zr_iconst rfl (by decide)),
   (fun d l0 l1 l2 l3 l4 l5 x2 x1 x0 h Q => zr_isub rfl),
   (fun d l0 l1 l2 l3 l4 l5 x1 x0 h Q => zr_aload_n rfl rfl),
   (fun d l0 l1 l2 l3 l4 l5 x2 x1 x0 I L P Q p0 => zr_getQ rfl lf_5_18 (fun _ _ _ => rfl) p0),
   (fun d l0 l1 l2 l3 l4 l5 x2 x1 x0 h Q => zr_iload_n rfl rfl),
   (fun d l0 l1 l2 l3 l4 l5 x3 x2 x1 x0 h Q => zr_iconst rfl (by decide)),
   (fun d l0 l1 l2 l3 l4 l5 x4 x3 x2 x1 x0 h Q => zr_isub rfl),
   (fun d l0 l1 l2 l3 l4 l5 x3 x2 x1 x0 I L P Q p0 => zr_ald rfl p0),
   (fun d l0 l1 l2 l3 l4 l5 x2 x1 x0 h Q => zr_if_ne rfl (by decide)),
   (fun d l0 l1 l2 l3 l4 l5 x1 x0 h Q => zr_iconst rfl (by decide)),
   (fun d l0 l1 l2 l3 l4 l5 x2 x1 x0 h Q => zr_goto rfl (by decide)),
   (fun d l0 l1 l2 l3 l4 l5 x1 x0 h Q => zr_iconst rfl (by decide)),
   (fun d l0 l1 l2 l3 l4 l5 x2 x1 x0 I L P Q p0 => zr_ast rfl p0),
   (fun d l0 l1 l2 l3 l4 l5  h Q => zr_goto rfl (by decide)),
   (fun d l0 l1 l2 l3 l4 l5  h Q => zr_iload rfl rfl),
   (fun d l0 l1 l2 l3 l4 l5 x0 h Q => zr_bipush rfl (by decide)),
   (fun d l0 l1 l2 l3 l4 l5 x1 x0 h Q => zr_ic_ne rfl (by decide)),
   (fun d l0 l1 l2 l3 l4 l5  h Q => zr_aload_n rfl rfl),
   (fun d l0 l1 l2 l3 l4 l5 x0 I L P Q p0 => zr_getQ rfl lf_5_18 (fun _ _ _ => rfl) p0),
   (fun d l0 l1 l2 l3 l4 l5 x0 h Q => zr_iload_n rfl rfl),
   (fun d l0 l1 l2 l3 l4 l5 x1 x0 h Q => zr_iconst rfl (by decide)),
   (fun d l0 l1 l2 l3 l4 l5 x2 x1 x0 h Q => zr_isub rfl),
   (fun d l0 l1 l2 l3 l4 l5 x1 x0 h Q => zr_aload_n rfl rfl),
   (fun d l0 l1 l2 l3 l4 l5 x2 x1 x0 I L P Q p0 => zr_getQ rfl lf_5_18 (fun _ _ _ => rfl) p0),
   (fun d l0 l1 l2 l3 l4 l5 x2 x1 x0 h Q => zr_iload_n rfl rfl),
   (fun d l0 l1 l2 l3 l4 l5 x3 x2 x1 x0 h Q => zr_iconst rfl (by decide)),
   (fun d l0 l1 l2 l3 l4 l5 x4 x3 x2 x1 x0 h Q => zr_isub rfl),
   (fun d l0 l1 l2 l3 l4 l5 x3 x2 x1 x0 I L P Q p0 => zr_ald rfl p0),
   (fun d l0 l1 l2 l3 l4 l5 x2 x1 x0 h Q => zr_ineg rfl),
   (fun d l0 l1 l2 l3 l4 l5 x2 x1 x0 I L P Q p0 => zr_ast rfl p0),
   (fun d l0 l1 l2 l3 l4 l5  h Q => zr_goto rfl (by decide)),
   (fun d l0 l1 l2 l3 l4 l5  h Q => zr_iload_n rfl rfl),
   (fun d l0 l1 l2 l3 l4 l5 x0 h Q => zr_iconst rfl (by decide)),
   (fun d l0 l1 l2 l3 l4 l5 x1 x0 h Q => zr_ic_ge rfl (by decide)),
   (fun d l0 l1 l2 l3 l4 l5  h Q => zr_iconst rfl (by decide)),
   (fun d l0 l1 l2 l3 l4 l5 x0 h Q => zr_iret rfl rfl),
   (fun d l0 l1 l2 l3 l4 l5  h Q => zr_iinc (n := 2) (kc := (-1)) rfl rfl (Nat.le_of_ble_eq_true rfl) rfl (by decide)),
   (fun d l0 l1 l2 l3 l4 l5  h Q => zr_aload_n rfl rfl),
   (fun d l0 l1 l2 l3 l4 l5 x0 I L P Q p0 => zr_getQ rfl lf_5_18 (fun _ _ _ => rfl) p0),
   (fun d l0 l1 l2 l3 l4 l5 x0 h Q => zr_iload_n rfl rfl),
   (fun d l0 l1 l2 l3 l4 l5 x1 x0 h Q => zr_iconst rfl (by decide)),
   (fun d l0 l1 l2 l3 l4 l5 x2 x1 x0 h Q => zr_isub rfl),
   (fun d l0 l1 l2 l3 l4 l5 x1 x0 h Q => zr_iload rfl rfl),
   (fun d l0 l1 l2 l3 l4 l5 x2 x1 x0 h Q => zr_aload_n rfl rfl),
   (fun d l0 l1 l2 l3 l4 l5 x3 x2 x1 x0 I L P Q p0 => zr_getQ rfl lf_5_18 (fun _ _ _ => rfl) p0),
   (fun d l0 l1 l2 l3 l4 l5 x3 x2 x1 x0 h Q => zr_iload_n rfl rfl),
   (fun d l0 l1 l2 l3 l4 l5 x4 x3 x2 x1 x0 h Q => zr_iconst rfl (by decide)),
   (fun d l0 l1 l2 l3 l4 l5 x5 x4 x3 x2 x1 x0 h Q => zr_isub rfl),
   (fun d l0 l1 l2 l3 l4 l5 x4 x3 x2 x1 x0 I L P Q p0 => zr_ald rfl p0),
   (fun d l0 l1 l2 l3 l4 l5 x3 x2 x1 x0 h Q => zr_aload_n rfl rfl),
   (fun d l0 l1 l2 l3 l4 l5 x4 x3 x2 x1 x0 I L P Q p0 => zr_getQ rfl lf_5_18 (fun _ _ _ => rfl) p0),
   (fun d l0 l1 l2 l3 l4 l5 x4 x3 x2 x1 x0 h Q => zr_iload_n rfl rfl),
   (fun d l0 l1 l2 l3 l4 l5 x5 x4 x3 x2 x1 x0 I L P Q p0 => zr_ald rfl p0),
   (fun d l0 l1 l2 l3 l4 l5 x4 x3 x2 x1 x0 h Q => zr_sta (as := [.int x4, .int x3, .int x2]) (rest := [.int x1, .ref x0]) rfl lm_5_29 (by decide) m_46 kd_46 rfl (Nat.le_of_ble_eq_true rfl)),
   (fun d l0 l1 l2 l3 l4 l5 x2 x1 x0 I L P Q p0 => zr_ast rfl p0),
   (fun d l0 l1 l2 l3 l4 l5  h Q => zr_iinc (n := 4) (kc := 1) rfl rfl (Nat.le_of_ble_eq_true rfl) rfl (by decide)),
   (fun d l0 l1 l2 l3 l4 l5  h Q => zr_goto rfl (by decide)),
   (fun d l0 l1 l2 l3 l4 l5  h Q => zr_iconst rfl (by decide)),
   (fun d l0 l1 l2 l3 l4 l5 x0 h Q => zr_iret rfl rfl)⟩
theorem H_X5_worth_7 : ∀ (d : Nat) (l0 : Value) (l1 : Value) (l2 : Value) (l3 : Value) (l4 : Int32) (l5 : Value)  (h : zMm) (Q : Option Value → zMm → Prop), zWp d zi_44 none 7 [l0, l1, l2, l3, .int l4, l5] [] h Q = zWp d zi_44 none 9 [l0, l1, l2, l3, .int l4, l5] [.int l4] h Q := fun d l0 l1 l2 l3 l4 l5  h Q => zr_iload rfl rfl
theorem E_X5_valueOf : ∀ (d : Nat) (a0 : Int32) (a1 : Nat) (h : zMm) (Q : Option Value → zMm → Prop), zWM (d + 1) 45 [.int a0, .ref a1] h Q = zWp d zi_45 none 0 [.int a0, .ref a1] [] h Q := fun d a0 a1 h Q => zW_M m_45 (Nat.le_of_ble_eq_true rfl) rfl
set_option maxRecDepth 100000 in
theorem R_X5_valueOf :
    (∀ (d : Nat) (l0 : Int32) (l1 : Value)  (h : zMm) (Q : Option Value → zMm → Prop), zWp d zi_45 none 0 [.int l0, l1] [] h Q = zWp d zi_45 none 1 [.int l0, l1] [.int l0] h Q) ∧
    (∀ (d : Nat) (l0 : Value) (l1 : Value) (x0 : Int32) (h : zMm) (Q : Option Value → zMm → Prop), zWp d zi_45 none 1 [l0, l1] [.int x0] h Q = if x0 < 0 then zWp d zi_45 none 16 [l0, l1] [] h Q else zWp d zi_45 none 4 [l0, l1] [] h Q) ∧
    (∀ (d : Nat) (l0 : Int32) (l1 : Value)  (h : zMm) (Q : Option Value → zMm → Prop), zWp d zi_45 none 4 [.int l0, l1] [] h Q = zWp d zi_45 none 5 [.int l0, l1] [.int l0] h Q) ∧
    (∀ (d : Nat) (l0 : Value) (l1 : Nat) (x0 : Int32) (h : zMm) (Q : Option Value → zMm → Prop), zWp d zi_45 none 5 [l0, .ref l1] [.int x0] h Q = zWp d zi_45 none 6 [l0, .ref l1] [.ref l1, .int x0] h Q) ∧
    (∀ (d : Nat) (l0 : Value) (l1 : Value) (x1 : Nat) (x0 : Int32) (I : Nat → Nat → Int32) (L : Nat → Nat → Int64) (P : Nat → Nat → Option Nat) (Q : Option Value → zMm → Prop), zAk zSH x1 = some .int → zWp d zi_45 none 6 [l0, l1] [.ref x1, .int x0] (zSH, I, L, P) Q = zWp d zi_45 none 7 [l0, l1] [.int (Int32.ofNat (zAn zSH x1)), .int x0] (zSH, I, L, P) Q) ∧
    (∀ (d : Nat) (l0 : Value) (l1 : Value) (x1 : Int32) (x0 : Int32) (h : zMm) (Q : Option Value → zMm → Prop), zWp d zi_45 none 7 [l0, l1] [.int x1, .int x0] h Q = if x1 ≤ x0 then zWp d zi_45 none 16 [l0, l1] [] h Q else zWp d zi_45 none 10 [l0, l1] [] h Q) ∧
    (∀ (d : Nat) (l0 : Value) (l1 : Nat)  (h : zMm) (Q : Option Value → zMm → Prop), zWp d zi_45 none 10 [l0, .ref l1] [] h Q = zWp d zi_45 none 11 [l0, .ref l1] [.ref l1] h Q) ∧
    (∀ (d : Nat) (l0 : Int32) (l1 : Value) (x0 : Nat) (h : zMm) (Q : Option Value → zMm → Prop), zWp d zi_45 none 11 [.int l0, l1] [.ref x0] h Q = zWp d zi_45 none 12 [.int l0, l1] [.int l0, .ref x0] h Q) ∧
    (∀ (d : Nat) (l0 : Value) (l1 : Value) (x1 : Int32) (x0 : Nat) (I : Nat → Nat → Int32) (L : Nat → Nat → Int64) (P : Nat → Nat → Option Nat) (Q : Option Value → zMm → Prop), zAk zSH x0 = some .int → zWp d zi_45 none 12 [l0, l1] [.int x1, .ref x0] (zSH, I, L, P) Q = (vp_in x1 (zAn zSH x0) ∧ zWp d zi_45 none 13 [l0, l1] [.int (I x0 x1.toNatClampNeg)] (zSH, I, L, P) Q)) ∧
    (∀ (d : Nat) (l0 : Value) (l1 : Value) (x0 : Int32) (h : zMm) (Q : Option Value → zMm → Prop), zWp d zi_45 none 13 [l0, l1] [.int x0] h Q = zWp d zi_45 none 17 [l0, l1] [.int x0] h Q) ∧
    (∀ (d : Nat) (l0 : Value) (l1 : Value)  (h : zMm) (Q : Option Value → zMm → Prop), zWp d zi_45 none 16 [l0, l1] [] h Q = zWp d zi_45 none 17 [l0, l1] [.int 0] h Q) ∧
    (∀ (d : Nat) (l0 : Value) (l1 : Value) (x0 : Int32) (h : zMm) (Q : Option Value → zMm → Prop), zWp d zi_45 none 17 [l0, l1] [.int x0] h Q = Q (some (.int x0)) h) :=
  ⟨(fun d l0 l1  h Q => zr_iload_n rfl rfl),
   (fun d l0 l1 x0 h Q => zr_if_lt rfl (by decide)),
   (fun d l0 l1  h Q => zr_iload_n rfl rfl),
   (fun d l0 l1 x0 h Q => zr_aload_n rfl rfl),
   (fun d l0 l1 x1 x0 I L P Q p0 => zr_alen rfl p0),
   (fun d l0 l1 x1 x0 h Q => zr_ic_ge rfl (by decide)),
   (fun d l0 l1  h Q => zr_aload_n rfl rfl),
   (fun d l0 l1 x0 h Q => zr_iload_n rfl rfl),
   (fun d l0 l1 x1 x0 I L P Q p0 => zr_ald rfl p0),
   (fun d l0 l1 x0 h Q => zr_goto rfl (by decide)),
   (fun d l0 l1  h Q => zr_iconst rfl (by decide)),
   (fun d l0 l1 x0 h Q => zr_iret rfl rfl)⟩
theorem E_X5_joined : ∀ (d : Nat) (a0 : Int32) (a1 : Int32) (a2 : Int32) (h : zMm) (Q : Option Value → zMm → Prop), zWM (d + 1) 46 [.int a0, .int a1, .int a2] h Q = zWp d zi_46 none 0 [.int a0, .int a1, .int a2] [] h Q := fun d a0 a1 a2 h Q => zW_M m_46 (Nat.le_of_ble_eq_true rfl) rfl
set_option maxRecDepth 100000 in
theorem R_X5_joined :
    (∀ (d : Nat) (l0 : Int32) (l1 : Value) (l2 : Value)  (h : zMm) (Q : Option Value → zMm → Prop), zWp d zi_46 none 0 [.int l0, l1, l2] [] h Q = zWp d zi_46 none 1 [.int l0, l1, l2] [.int l0] h Q) ∧
    (∀ (d : Nat) (l0 : Value) (l1 : Value) (l2 : Value) (x0 : Int32) (h : zMm) (Q : Option Value → zMm → Prop), zWp d zi_46 none 1 [l0, l1, l2] [.int x0] h Q = if x0 = 37 then zWp d zi_46 none 177 [l0, l1, l2] [] h Q else if x0 = 38 then zWp d zi_46 none 106 [l0, l1, l2] [] h Q else if x0 = 42 then zWp d zi_46 none 161 [l0, l1, l2] [] h Q else if x0 = 43 then zWp d zi_46 none 153 [l0, l1, l2] [] h Q else if x0 = 45 then zWp d zi_46 none 157 [l0, l1, l2] [] h Q else if x0 = 47 then zWp d zi_46 none 165 [l0, l1, l2] [] h Q else if x0 = 60 then zWp d zi_46 none 120 [l0, l1, l2] [] h Q else if x0 = 61 then zWp d zi_46 none 131 [l0, l1, l2] [] h Q else if x0 = 62 then zWp d zi_46 none 142 [l0, l1, l2] [] h Q else if x0 = 124 then zWp d zi_46 none 92 [l0, l1, l2] [] h Q else zWp d zi_46 none 189 [l0, l1, l2] [] h Q) ∧
    (∀ (d : Nat) (l0 : Value) (l1 : Int32) (l2 : Value)  (h : zMm) (Q : Option Value → zMm → Prop), zWp d zi_46 none 92 [l0, .int l1, l2] [] h Q = zWp d zi_46 none 93 [l0, .int l1, l2] [.int l1] h Q) ∧
    (∀ (d : Nat) (l0 : Value) (l1 : Value) (l2 : Value) (x0 : Int32) (h : zMm) (Q : Option Value → zMm → Prop), zWp d zi_46 none 93 [l0, l1, l2] [.int x0] h Q = if x0 = 0 then zWp d zi_46 none 96 [l0, l1, l2] [] h Q else zWp d zi_46 none 100 [l0, l1, l2] [] h Q) ∧
    (∀ (d : Nat) (l0 : Value) (l1 : Value) (l2 : Int32)  (h : zMm) (Q : Option Value → zMm → Prop), zWp d zi_46 none 96 [l0, l1, .int l2] [] h Q = zWp d zi_46 none 97 [l0, l1, .int l2] [.int l2] h Q) ∧
    (∀ (d : Nat) (l0 : Value) (l1 : Value) (l2 : Value) (x0 : Int32) (h : zMm) (Q : Option Value → zMm → Prop), zWp d zi_46 none 97 [l0, l1, l2] [.int x0] h Q = if x0 = 0 then zWp d zi_46 none 104 [l0, l1, l2] [] h Q else zWp d zi_46 none 100 [l0, l1, l2] [] h Q) ∧
    (∀ (d : Nat) (l0 : Value) (l1 : Value) (l2 : Value)  (h : zMm) (Q : Option Value → zMm → Prop), zWp d zi_46 none 100 [l0, l1, l2] [] h Q = zWp d zi_46 none 101 [l0, l1, l2] [.int 1] h Q) ∧
    (∀ (d : Nat) (l0 : Value) (l1 : Value) (l2 : Value) (x0 : Int32) (h : zMm) (Q : Option Value → zMm → Prop), zWp d zi_46 none 101 [l0, l1, l2] [.int x0] h Q = zWp d zi_46 none 105 [l0, l1, l2] [.int x0] h Q) ∧
    (∀ (d : Nat) (l0 : Value) (l1 : Value) (l2 : Value)  (h : zMm) (Q : Option Value → zMm → Prop), zWp d zi_46 none 104 [l0, l1, l2] [] h Q = zWp d zi_46 none 105 [l0, l1, l2] [.int 0] h Q) ∧
    (∀ (d : Nat) (l0 : Value) (l1 : Value) (l2 : Value) (x0 : Int32) (h : zMm) (Q : Option Value → zMm → Prop), zWp d zi_46 none 105 [l0, l1, l2] [.int x0] h Q = Q (some (.int x0)) h) ∧
    (∀ (d : Nat) (l0 : Value) (l1 : Int32) (l2 : Value)  (h : zMm) (Q : Option Value → zMm → Prop), zWp d zi_46 none 106 [l0, .int l1, l2] [] h Q = zWp d zi_46 none 107 [l0, .int l1, l2] [.int l1] h Q) ∧
    (∀ (d : Nat) (l0 : Value) (l1 : Value) (l2 : Value) (x0 : Int32) (h : zMm) (Q : Option Value → zMm → Prop), zWp d zi_46 none 107 [l0, l1, l2] [.int x0] h Q = if x0 = 0 then zWp d zi_46 none 118 [l0, l1, l2] [] h Q else zWp d zi_46 none 110 [l0, l1, l2] [] h Q) ∧
    (∀ (d : Nat) (l0 : Value) (l1 : Value) (l2 : Int32)  (h : zMm) (Q : Option Value → zMm → Prop), zWp d zi_46 none 110 [l0, l1, .int l2] [] h Q = zWp d zi_46 none 111 [l0, l1, .int l2] [.int l2] h Q) ∧
    (∀ (d : Nat) (l0 : Value) (l1 : Value) (l2 : Value) (x0 : Int32) (h : zMm) (Q : Option Value → zMm → Prop), zWp d zi_46 none 111 [l0, l1, l2] [.int x0] h Q = if x0 = 0 then zWp d zi_46 none 118 [l0, l1, l2] [] h Q else zWp d zi_46 none 114 [l0, l1, l2] [] h Q) ∧
    (∀ (d : Nat) (l0 : Value) (l1 : Value) (l2 : Value)  (h : zMm) (Q : Option Value → zMm → Prop), zWp d zi_46 none 114 [l0, l1, l2] [] h Q = zWp d zi_46 none 115 [l0, l1, l2] [.int 1] h Q) ∧
    (∀ (d : Nat) (l0 : Value) (l1 : Value) (l2 : Value) (x0 : Int32) (h : zMm) (Q : Option Value → zMm → Prop), zWp d zi_46 none 115 [l0, l1, l2] [.int x0] h Q = zWp d zi_46 none 119 [l0, l1, l2] [.int x0] h Q) ∧
    (∀ (d : Nat) (l0 : Value) (l1 : Value) (l2 : Value)  (h : zMm) (Q : Option Value → zMm → Prop), zWp d zi_46 none 118 [l0, l1, l2] [] h Q = zWp d zi_46 none 119 [l0, l1, l2] [.int 0] h Q) ∧
    (∀ (d : Nat) (l0 : Value) (l1 : Value) (l2 : Value) (x0 : Int32) (h : zMm) (Q : Option Value → zMm → Prop), zWp d zi_46 none 119 [l0, l1, l2] [.int x0] h Q = Q (some (.int x0)) h) ∧
    (∀ (d : Nat) (l0 : Value) (l1 : Int32) (l2 : Value)  (h : zMm) (Q : Option Value → zMm → Prop), zWp d zi_46 none 120 [l0, .int l1, l2] [] h Q = zWp d zi_46 none 121 [l0, .int l1, l2] [.int l1] h Q) ∧
    (∀ (d : Nat) (l0 : Value) (l1 : Value) (l2 : Int32) (x0 : Int32) (h : zMm) (Q : Option Value → zMm → Prop), zWp d zi_46 none 121 [l0, l1, .int l2] [.int x0] h Q = zWp d zi_46 none 122 [l0, l1, .int l2] [.int l2, .int x0] h Q) ∧
    (∀ (d : Nat) (l0 : Value) (l1 : Value) (l2 : Value) (x1 : Int32) (x0 : Int32) (h : zMm) (Q : Option Value → zMm → Prop), zWp d zi_46 none 122 [l0, l1, l2] [.int x1, .int x0] h Q = if x1 ≤ x0 then zWp d zi_46 none 129 [l0, l1, l2] [] h Q else zWp d zi_46 none 125 [l0, l1, l2] [] h Q) ∧
    (∀ (d : Nat) (l0 : Value) (l1 : Value) (l2 : Value)  (h : zMm) (Q : Option Value → zMm → Prop), zWp d zi_46 none 125 [l0, l1, l2] [] h Q = zWp d zi_46 none 126 [l0, l1, l2] [.int 1] h Q) ∧
    (∀ (d : Nat) (l0 : Value) (l1 : Value) (l2 : Value) (x0 : Int32) (h : zMm) (Q : Option Value → zMm → Prop), zWp d zi_46 none 126 [l0, l1, l2] [.int x0] h Q = zWp d zi_46 none 130 [l0, l1, l2] [.int x0] h Q) ∧
    (∀ (d : Nat) (l0 : Value) (l1 : Value) (l2 : Value)  (h : zMm) (Q : Option Value → zMm → Prop), zWp d zi_46 none 129 [l0, l1, l2] [] h Q = zWp d zi_46 none 130 [l0, l1, l2] [.int 0] h Q) ∧
    (∀ (d : Nat) (l0 : Value) (l1 : Value) (l2 : Value) (x0 : Int32) (h : zMm) (Q : Option Value → zMm → Prop), zWp d zi_46 none 130 [l0, l1, l2] [.int x0] h Q = Q (some (.int x0)) h) ∧
    (∀ (d : Nat) (l0 : Value) (l1 : Int32) (l2 : Value)  (h : zMm) (Q : Option Value → zMm → Prop), zWp d zi_46 none 131 [l0, .int l1, l2] [] h Q = zWp d zi_46 none 132 [l0, .int l1, l2] [.int l1] h Q) ∧
    (∀ (d : Nat) (l0 : Value) (l1 : Value) (l2 : Int32) (x0 : Int32) (h : zMm) (Q : Option Value → zMm → Prop), zWp d zi_46 none 132 [l0, l1, .int l2] [.int x0] h Q = zWp d zi_46 none 133 [l0, l1, .int l2] [.int l2, .int x0] h Q) ∧
    (∀ (d : Nat) (l0 : Value) (l1 : Value) (l2 : Value) (x1 : Int32) (x0 : Int32) (h : zMm) (Q : Option Value → zMm → Prop), zWp d zi_46 none 133 [l0, l1, l2] [.int x1, .int x0] h Q = if x0 = x1 then zWp d zi_46 none 136 [l0, l1, l2] [] h Q else zWp d zi_46 none 140 [l0, l1, l2] [] h Q) ∧
    (∀ (d : Nat) (l0 : Value) (l1 : Value) (l2 : Value)  (h : zMm) (Q : Option Value → zMm → Prop), zWp d zi_46 none 136 [l0, l1, l2] [] h Q = zWp d zi_46 none 137 [l0, l1, l2] [.int 1] h Q) ∧
    (∀ (d : Nat) (l0 : Value) (l1 : Value) (l2 : Value) (x0 : Int32) (h : zMm) (Q : Option Value → zMm → Prop), zWp d zi_46 none 137 [l0, l1, l2] [.int x0] h Q = zWp d zi_46 none 141 [l0, l1, l2] [.int x0] h Q) ∧
    (∀ (d : Nat) (l0 : Value) (l1 : Value) (l2 : Value)  (h : zMm) (Q : Option Value → zMm → Prop), zWp d zi_46 none 140 [l0, l1, l2] [] h Q = zWp d zi_46 none 141 [l0, l1, l2] [.int 0] h Q) ∧
    (∀ (d : Nat) (l0 : Value) (l1 : Value) (l2 : Value) (x0 : Int32) (h : zMm) (Q : Option Value → zMm → Prop), zWp d zi_46 none 141 [l0, l1, l2] [.int x0] h Q = Q (some (.int x0)) h) ∧
    (∀ (d : Nat) (l0 : Value) (l1 : Int32) (l2 : Value)  (h : zMm) (Q : Option Value → zMm → Prop), zWp d zi_46 none 142 [l0, .int l1, l2] [] h Q = zWp d zi_46 none 143 [l0, .int l1, l2] [.int l1] h Q) ∧
    (∀ (d : Nat) (l0 : Value) (l1 : Value) (l2 : Int32) (x0 : Int32) (h : zMm) (Q : Option Value → zMm → Prop), zWp d zi_46 none 143 [l0, l1, .int l2] [.int x0] h Q = zWp d zi_46 none 144 [l0, l1, .int l2] [.int l2, .int x0] h Q) ∧
    (∀ (d : Nat) (l0 : Value) (l1 : Value) (l2 : Value) (x1 : Int32) (x0 : Int32) (h : zMm) (Q : Option Value → zMm → Prop), zWp d zi_46 none 144 [l0, l1, l2] [.int x1, .int x0] h Q = if x0 ≤ x1 then zWp d zi_46 none 151 [l0, l1, l2] [] h Q else zWp d zi_46 none 147 [l0, l1, l2] [] h Q) ∧
    (∀ (d : Nat) (l0 : Value) (l1 : Value) (l2 : Value)  (h : zMm) (Q : Option Value → zMm → Prop), zWp d zi_46 none 147 [l0, l1, l2] [] h Q = zWp d zi_46 none 148 [l0, l1, l2] [.int 1] h Q) ∧
    (∀ (d : Nat) (l0 : Value) (l1 : Value) (l2 : Value) (x0 : Int32) (h : zMm) (Q : Option Value → zMm → Prop), zWp d zi_46 none 148 [l0, l1, l2] [.int x0] h Q = zWp d zi_46 none 152 [l0, l1, l2] [.int x0] h Q) ∧
    (∀ (d : Nat) (l0 : Value) (l1 : Value) (l2 : Value)  (h : zMm) (Q : Option Value → zMm → Prop), zWp d zi_46 none 151 [l0, l1, l2] [] h Q = zWp d zi_46 none 152 [l0, l1, l2] [.int 0] h Q) ∧
    (∀ (d : Nat) (l0 : Value) (l1 : Value) (l2 : Value) (x0 : Int32) (h : zMm) (Q : Option Value → zMm → Prop), zWp d zi_46 none 152 [l0, l1, l2] [.int x0] h Q = Q (some (.int x0)) h) ∧
    (∀ (d : Nat) (l0 : Value) (l1 : Int32) (l2 : Value)  (h : zMm) (Q : Option Value → zMm → Prop), zWp d zi_46 none 153 [l0, .int l1, l2] [] h Q = zWp d zi_46 none 154 [l0, .int l1, l2] [.int l1] h Q) ∧
    (∀ (d : Nat) (l0 : Value) (l1 : Value) (l2 : Int32) (x0 : Int32) (h : zMm) (Q : Option Value → zMm → Prop), zWp d zi_46 none 154 [l0, l1, .int l2] [.int x0] h Q = zWp d zi_46 none 155 [l0, l1, .int l2] [.int l2, .int x0] h Q) ∧
    (∀ (d : Nat) (l0 : Value) (l1 : Value) (l2 : Value) (x1 : Int32) (x0 : Int32) (h : zMm) (Q : Option Value → zMm → Prop), zWp d zi_46 none 155 [l0, l1, l2] [.int x1, .int x0] h Q = zWp d zi_46 none 156 [l0, l1, l2] [.int (x0 + x1)] h Q) ∧
    (∀ (d : Nat) (l0 : Value) (l1 : Value) (l2 : Value) (x0 : Int32) (h : zMm) (Q : Option Value → zMm → Prop), zWp d zi_46 none 156 [l0, l1, l2] [.int x0] h Q = Q (some (.int x0)) h) ∧
    (∀ (d : Nat) (l0 : Value) (l1 : Int32) (l2 : Value)  (h : zMm) (Q : Option Value → zMm → Prop), zWp d zi_46 none 157 [l0, .int l1, l2] [] h Q = zWp d zi_46 none 158 [l0, .int l1, l2] [.int l1] h Q) ∧
    (∀ (d : Nat) (l0 : Value) (l1 : Value) (l2 : Int32) (x0 : Int32) (h : zMm) (Q : Option Value → zMm → Prop), zWp d zi_46 none 158 [l0, l1, .int l2] [.int x0] h Q = zWp d zi_46 none 159 [l0, l1, .int l2] [.int l2, .int x0] h Q) ∧
    (∀ (d : Nat) (l0 : Value) (l1 : Value) (l2 : Value) (x1 : Int32) (x0 : Int32) (h : zMm) (Q : Option Value → zMm → Prop), zWp d zi_46 none 159 [l0, l1, l2] [.int x1, .int x0] h Q = zWp d zi_46 none 160 [l0, l1, l2] [.int (x0 - x1)] h Q) ∧
    (∀ (d : Nat) (l0 : Value) (l1 : Value) (l2 : Value) (x0 : Int32) (h : zMm) (Q : Option Value → zMm → Prop), zWp d zi_46 none 160 [l0, l1, l2] [.int x0] h Q = Q (some (.int x0)) h) ∧
    (∀ (d : Nat) (l0 : Value) (l1 : Int32) (l2 : Value)  (h : zMm) (Q : Option Value → zMm → Prop), zWp d zi_46 none 161 [l0, .int l1, l2] [] h Q = zWp d zi_46 none 162 [l0, .int l1, l2] [.int l1] h Q) ∧
    (∀ (d : Nat) (l0 : Value) (l1 : Value) (l2 : Int32) (x0 : Int32) (h : zMm) (Q : Option Value → zMm → Prop), zWp d zi_46 none 162 [l0, l1, .int l2] [.int x0] h Q = zWp d zi_46 none 163 [l0, l1, .int l2] [.int l2, .int x0] h Q) ∧
    (∀ (d : Nat) (l0 : Value) (l1 : Value) (l2 : Value) (x1 : Int32) (x0 : Int32) (h : zMm) (Q : Option Value → zMm → Prop), zWp d zi_46 none 163 [l0, l1, l2] [.int x1, .int x0] h Q = zWp d zi_46 none 164 [l0, l1, l2] [.int (x0 * x1)] h Q) ∧
    (∀ (d : Nat) (l0 : Value) (l1 : Value) (l2 : Value) (x0 : Int32) (h : zMm) (Q : Option Value → zMm → Prop), zWp d zi_46 none 164 [l0, l1, l2] [.int x0] h Q = Q (some (.int x0)) h) ∧
    (∀ (d : Nat) (l0 : Value) (l1 : Value) (l2 : Int32)  (h : zMm) (Q : Option Value → zMm → Prop), zWp d zi_46 none 165 [l0, l1, .int l2] [] h Q = zWp d zi_46 none 166 [l0, l1, .int l2] [.int l2] h Q) ∧
    (∀ (d : Nat) (l0 : Value) (l1 : Value) (l2 : Value) (x0 : Int32) (h : zMm) (Q : Option Value → zMm → Prop), zWp d zi_46 none 166 [l0, l1, l2] [.int x0] h Q = if x0 = 0 then zWp d zi_46 none 169 [l0, l1, l2] [] h Q else zWp d zi_46 none 173 [l0, l1, l2] [] h Q) ∧
    (∀ (d : Nat) (l0 : Value) (l1 : Value) (l2 : Value)  (h : zMm) (Q : Option Value → zMm → Prop), zWp d zi_46 none 169 [l0, l1, l2] [] h Q = zWp d zi_46 none 170 [l0, l1, l2] [.int 0] h Q) ∧
    (∀ (d : Nat) (l0 : Value) (l1 : Value) (l2 : Value) (x0 : Int32) (h : zMm) (Q : Option Value → zMm → Prop), zWp d zi_46 none 170 [l0, l1, l2] [.int x0] h Q = zWp d zi_46 none 176 [l0, l1, l2] [.int x0] h Q) ∧
    (∀ (d : Nat) (l0 : Value) (l1 : Int32) (l2 : Value)  (h : zMm) (Q : Option Value → zMm → Prop), zWp d zi_46 none 173 [l0, .int l1, l2] [] h Q = zWp d zi_46 none 174 [l0, .int l1, l2] [.int l1] h Q) ∧
    (∀ (d : Nat) (l0 : Value) (l1 : Value) (l2 : Int32) (x0 : Int32) (h : zMm) (Q : Option Value → zMm → Prop), zWp d zi_46 none 174 [l0, l1, .int l2] [.int x0] h Q = zWp d zi_46 none 175 [l0, l1, .int l2] [.int l2, .int x0] h Q) ∧
    (∀ (d : Nat) (l0 : Value) (l1 : Value) (l2 : Value) (x1 : Int32) (x0 : Int32) (h : zMm) (Q : Option Value → zMm → Prop), zWp d zi_46 none 175 [l0, l1, l2] [.int x1, .int x0] h Q = (¬ x1 = 0 ∧ zWp d zi_46 none 176 [l0, l1, l2] [.int (x0 / x1)] h Q)) ∧
    (∀ (d : Nat) (l0 : Value) (l1 : Value) (l2 : Value) (x0 : Int32) (h : zMm) (Q : Option Value → zMm → Prop), zWp d zi_46 none 176 [l0, l1, l2] [.int x0] h Q = Q (some (.int x0)) h) ∧
    (∀ (d : Nat) (l0 : Value) (l1 : Value) (l2 : Int32)  (h : zMm) (Q : Option Value → zMm → Prop), zWp d zi_46 none 177 [l0, l1, .int l2] [] h Q = zWp d zi_46 none 178 [l0, l1, .int l2] [.int l2] h Q) ∧
    (∀ (d : Nat) (l0 : Value) (l1 : Value) (l2 : Value) (x0 : Int32) (h : zMm) (Q : Option Value → zMm → Prop), zWp d zi_46 none 178 [l0, l1, l2] [.int x0] h Q = if x0 = 0 then zWp d zi_46 none 181 [l0, l1, l2] [] h Q else zWp d zi_46 none 185 [l0, l1, l2] [] h Q) ∧
    (∀ (d : Nat) (l0 : Value) (l1 : Value) (l2 : Value)  (h : zMm) (Q : Option Value → zMm → Prop), zWp d zi_46 none 181 [l0, l1, l2] [] h Q = zWp d zi_46 none 182 [l0, l1, l2] [.int 0] h Q) ∧
    (∀ (d : Nat) (l0 : Value) (l1 : Value) (l2 : Value) (x0 : Int32) (h : zMm) (Q : Option Value → zMm → Prop), zWp d zi_46 none 182 [l0, l1, l2] [.int x0] h Q = zWp d zi_46 none 188 [l0, l1, l2] [.int x0] h Q) ∧
    (∀ (d : Nat) (l0 : Value) (l1 : Int32) (l2 : Value)  (h : zMm) (Q : Option Value → zMm → Prop), zWp d zi_46 none 185 [l0, .int l1, l2] [] h Q = zWp d zi_46 none 186 [l0, .int l1, l2] [.int l1] h Q) ∧
    (∀ (d : Nat) (l0 : Value) (l1 : Value) (l2 : Int32) (x0 : Int32) (h : zMm) (Q : Option Value → zMm → Prop), zWp d zi_46 none 186 [l0, l1, .int l2] [.int x0] h Q = zWp d zi_46 none 187 [l0, l1, .int l2] [.int l2, .int x0] h Q) ∧
    (∀ (d : Nat) (l0 : Value) (l1 : Value) (l2 : Value) (x1 : Int32) (x0 : Int32) (h : zMm) (Q : Option Value → zMm → Prop), zWp d zi_46 none 187 [l0, l1, l2] [.int x1, .int x0] h Q = (¬ x1 = 0 ∧ zWp d zi_46 none 188 [l0, l1, l2] [.int (x0 - x0 / x1 * x1)] h Q)) ∧
    (∀ (d : Nat) (l0 : Value) (l1 : Value) (l2 : Value) (x0 : Int32) (h : zMm) (Q : Option Value → zMm → Prop), zWp d zi_46 none 188 [l0, l1, l2] [.int x0] h Q = Q (some (.int x0)) h) ∧
    (∀ (d : Nat) (l0 : Value) (l1 : Value) (l2 : Value)  (h : zMm) (Q : Option Value → zMm → Prop), zWp d zi_46 none 189 [l0, l1, l2] [] h Q = zWp d zi_46 none 190 [l0, l1, l2] [.int 0] h Q) ∧
    (∀ (d : Nat) (l0 : Value) (l1 : Value) (l2 : Value) (x0 : Int32) (h : zMm) (Q : Option Value → zMm → Prop), zWp d zi_46 none 190 [l0, l1, l2] [.int x0] h Q = Q (some (.int x0)) h) :=
  ⟨(fun d l0 l1 l2  h Q => zr_iload_n rfl rfl),
   (fun d l0 l1 l2 x0 h Q => by
      by_cases e0 : x0 = 37
      · subst e0; rw [if_pos rfl]; exact zr_look (off := 176) rfl (by decide) (by decide) (by decide)
      rw [if_neg e0]
      by_cases e1 : x0 = 38
      · subst e1; rw [if_pos rfl]; exact zr_look (off := 105) rfl (by decide) (by decide) (by decide)
      rw [if_neg e1]
      by_cases e2 : x0 = 42
      · subst e2; rw [if_pos rfl]; exact zr_look (off := 160) rfl (by decide) (by decide) (by decide)
      rw [if_neg e2]
      by_cases e3 : x0 = 43
      · subst e3; rw [if_pos rfl]; exact zr_look (off := 152) rfl (by decide) (by decide) (by decide)
      rw [if_neg e3]
      by_cases e4 : x0 = 45
      · subst e4; rw [if_pos rfl]; exact zr_look (off := 156) rfl (by decide) (by decide) (by decide)
      rw [if_neg e4]
      by_cases e5 : x0 = 47
      · subst e5; rw [if_pos rfl]; exact zr_look (off := 164) rfl (by decide) (by decide) (by decide)
      rw [if_neg e5]
      by_cases e6 : x0 = 60
      · subst e6; rw [if_pos rfl]; exact zr_look (off := 119) rfl (by decide) (by decide) (by decide)
      rw [if_neg e6]
      by_cases e7 : x0 = 61
      · subst e7; rw [if_pos rfl]; exact zr_look (off := 130) rfl (by decide) (by decide) (by decide)
      rw [if_neg e7]
      by_cases e8 : x0 = 62
      · subst e8; rw [if_pos rfl]; exact zr_look (off := 141) rfl (by decide) (by decide) (by decide)
      rw [if_neg e8]
      by_cases e9 : x0 = 124
      · subst e9; rw [if_pos rfl]; exact zr_look (off := 91) rfl (by decide) (by decide) (by decide)
      rw [if_neg e9]
      exact zr_look (off := 188) rfl (by decide) (by show Op.lookupswitch.offset [(37, 176), (38, 105), (42, 160), (43, 152), (45, 156), (47, 164), (60, 119), (61, 130), (62, 141), (124, 91)] _ _ = _; rw [lv_osw e0 (by decide), lv_osw e1 (by decide), lv_osw e2 (by decide), lv_osw e3 (by decide), lv_osw e4 (by decide), lv_osw e5 (by decide), lv_osw e6 (by decide), lv_osw e7 (by decide), lv_osw e8 (by decide), lv_osw e9 (by decide)]; rfl) (by decide)),
   (fun d l0 l1 l2  h Q => zr_iload_n rfl rfl),
   (fun d l0 l1 l2 x0 h Q => zr_if_ne rfl (by decide)),
   (fun d l0 l1 l2  h Q => zr_iload_n rfl rfl),
   (fun d l0 l1 l2 x0 h Q => zr_if_eq rfl (by decide)),
   (fun d l0 l1 l2  h Q => zr_iconst rfl (by decide)),
   (fun d l0 l1 l2 x0 h Q => zr_goto rfl (by decide)),
   (fun d l0 l1 l2  h Q => zr_iconst rfl (by decide)),
   (fun d l0 l1 l2 x0 h Q => zr_iret rfl rfl),
   (fun d l0 l1 l2  h Q => zr_iload_n rfl rfl),
   (fun d l0 l1 l2 x0 h Q => zr_if_eq rfl (by decide)),
   (fun d l0 l1 l2  h Q => zr_iload_n rfl rfl),
   (fun d l0 l1 l2 x0 h Q => zr_if_eq rfl (by decide)),
   (fun d l0 l1 l2  h Q => zr_iconst rfl (by decide)),
   (fun d l0 l1 l2 x0 h Q => zr_goto rfl (by decide)),
   (fun d l0 l1 l2  h Q => zr_iconst rfl (by decide)),
   (fun d l0 l1 l2 x0 h Q => zr_iret rfl rfl),
   (fun d l0 l1 l2  h Q => zr_iload_n rfl rfl),
   (fun d l0 l1 l2 x0 h Q => zr_iload_n rfl rfl),
   (fun d l0 l1 l2 x1 x0 h Q => zr_ic_ge rfl (by decide)),
   (fun d l0 l1 l2  h Q => zr_iconst rfl (by decide)),
   (fun d l0 l1 l2 x0 h Q => zr_goto rfl (by decide)),
   (fun d l0 l1 l2  h Q => zr_iconst rfl (by decide)),
   (fun d l0 l1 l2 x0 h Q => zr_iret rfl rfl),
   (fun d l0 l1 l2  h Q => zr_iload_n rfl rfl),
   (fun d l0 l1 l2 x0 h Q => zr_iload_n rfl rfl),
   (fun d l0 l1 l2 x1 x0 h Q => zr_ic_ne rfl (by decide)),
   (fun d l0 l1 l2  h Q => zr_iconst rfl (by decide)),
   (fun d l0 l1 l2 x0 h Q => zr_goto rfl (by decide)),
   (fun d l0 l1 l2  h Q => zr_iconst rfl (by decide)),
   (fun d l0 l1 l2 x0 h Q => zr_iret rfl rfl),
   (fun d l0 l1 l2  h Q => zr_iload_n rfl rfl),
   (fun d l0 l1 l2 x0 h Q => zr_iload_n rfl rfl),
   (fun d l0 l1 l2 x1 x0 h Q => zr_ic_le rfl (by decide)),
   (fun d l0 l1 l2  h Q => zr_iconst rfl (by decide)),
   (fun d l0 l1 l2 x0 h Q => zr_goto rfl (by decide)),
   (fun d l0 l1 l2  h Q => zr_iconst rfl (by decide)),
   (fun d l0 l1 l2 x0 h Q => zr_iret rfl rfl),
   (fun d l0 l1 l2  h Q => zr_iload_n rfl rfl),
   (fun d l0 l1 l2 x0 h Q => zr_iload_n rfl rfl),
   (fun d l0 l1 l2 x1 x0 h Q => zr_iadd rfl),
   (fun d l0 l1 l2 x0 h Q => zr_iret rfl rfl),
   (fun d l0 l1 l2  h Q => zr_iload_n rfl rfl),
   (fun d l0 l1 l2 x0 h Q => zr_iload_n rfl rfl),
   (fun d l0 l1 l2 x1 x0 h Q => zr_isub rfl),
   (fun d l0 l1 l2 x0 h Q => zr_iret rfl rfl),
   (fun d l0 l1 l2  h Q => zr_iload_n rfl rfl),
   (fun d l0 l1 l2 x0 h Q => zr_iload_n rfl rfl),
   (fun d l0 l1 l2 x1 x0 h Q => zr_imul rfl),
   (fun d l0 l1 l2 x0 h Q => zr_iret rfl rfl),
   (fun d l0 l1 l2  h Q => zr_iload_n rfl rfl),
   (fun d l0 l1 l2 x0 h Q => zr_if_ne rfl (by decide)),
   (fun d l0 l1 l2  h Q => zr_iconst rfl (by decide)),
   (fun d l0 l1 l2 x0 h Q => zr_goto rfl (by decide)),
   (fun d l0 l1 l2  h Q => zr_iload_n rfl rfl),
   (fun d l0 l1 l2 x0 h Q => zr_iload_n rfl rfl),
   (fun d l0 l1 l2 x1 x0 h Q => zr_idiv rfl),
   (fun d l0 l1 l2 x0 h Q => zr_iret rfl rfl),
   (fun d l0 l1 l2  h Q => zr_iload_n rfl rfl),
   (fun d l0 l1 l2 x0 h Q => zr_if_ne rfl (by decide)),
   (fun d l0 l1 l2  h Q => zr_iconst rfl (by decide)),
   (fun d l0 l1 l2 x0 h Q => zr_goto rfl (by decide)),
   (fun d l0 l1 l2  h Q => zr_iload_n rfl rfl),
   (fun d l0 l1 l2 x0 h Q => zr_iload_n rfl rfl),
   (fun d l0 l1 l2 x1 x0 h Q => zr_irem rfl),
   (fun d l0 l1 l2 x0 h Q => zr_iret rfl rfl),
   (fun d l0 l1 l2  h Q => zr_iconst rfl (by decide)),
   (fun d l0 l1 l2 x0 h Q => zr_iret rfl rfl)⟩
theorem E_X6_isRow : ∀ (d : Nat) (a0 : Int32) (h : zMm) (Q : Option Value → zMm → Prop), zWM (d + 1) 48 [.int a0] h Q = zWp d zi_48 none 0 [.int a0] [] h Q := fun d a0 h Q => zW_M m_48 (Nat.le_of_ble_eq_true rfl) rfl
set_option maxRecDepth 100000 in
theorem R_X6_isRow :
    (∀ (d : Nat) (l0 : Int32)  (h : zMm) (Q : Option Value → zMm → Prop), zWp d zi_48 none 0 [.int l0] [] h Q = zWp d zi_48 none 1 [.int l0] [.int l0] h Q) ∧
    (∀ (d : Nat) (l0 : Value) (x0 : Int32) (h : zMm) (Q : Option Value → zMm → Prop), zWp d zi_48 none 1 [l0] [.int x0] h Q = if x0 < 0 then zWp d zi_48 none 13 [l0] [] h Q else zWp d zi_48 none 4 [l0] [] h Q) ∧
    (∀ (d : Nat) (l0 : Int32)  (h : zMm) (Q : Option Value → zMm → Prop), zWp d zi_48 none 4 [.int l0] [] h Q = zWp d zi_48 none 5 [.int l0] [.int l0] h Q) ∧
    (∀ (d : Nat) (l0 : Value) (x0 : Int32) (h : zMm) (Q : Option Value → zMm → Prop), zWp d zi_48 none 5 [l0] [.int x0] h Q = zWp d zi_48 none 6 [l0] [.int 4, .int x0] h Q) ∧
    (∀ (d : Nat) (l0 : Value) (x1 : Int32) (x0 : Int32) (h : zMm) (Q : Option Value → zMm → Prop), zWp d zi_48 none 6 [l0] [.int x1, .int x0] h Q = if x1 < x0 then zWp d zi_48 none 13 [l0] [] h Q else zWp d zi_48 none 9 [l0] [] h Q) ∧
    (∀ (d : Nat) (l0 : Value)  (h : zMm) (Q : Option Value → zMm → Prop), zWp d zi_48 none 9 [l0] [] h Q = zWp d zi_48 none 10 [l0] [.int 1] h Q) ∧
    (∀ (d : Nat) (l0 : Value) (x0 : Int32) (h : zMm) (Q : Option Value → zMm → Prop), zWp d zi_48 none 10 [l0] [.int x0] h Q = zWp d zi_48 none 14 [l0] [.int x0] h Q) ∧
    (∀ (d : Nat) (l0 : Value)  (h : zMm) (Q : Option Value → zMm → Prop), zWp d zi_48 none 13 [l0] [] h Q = zWp d zi_48 none 14 [l0] [.int 0] h Q) ∧
    (∀ (d : Nat) (l0 : Value) (x0 : Int32) (h : zMm) (Q : Option Value → zMm → Prop), x0 = 0 ∨ x0 = 1 → zWp d zi_48 none 14 [l0] [.int x0] h Q = Q (some (.int x0)) h) :=
  ⟨(fun d l0  h Q => zr_iload_n rfl rfl),
   (fun d l0 x0 h Q => zr_if_lt rfl (by decide)),
   (fun d l0  h Q => zr_iload_n rfl rfl),
   (fun d l0 x0 h Q => zr_iconst rfl (by decide)),
   (fun d l0 x1 x0 h Q => zr_ic_gt rfl (by decide)),
   (fun d l0  h Q => zr_iconst rfl (by decide)),
   (fun d l0 x0 h Q => zr_goto rfl (by decide)),
   (fun d l0  h Q => zr_iconst rfl (by decide)),
   (fun d l0 x0 h Q p0 => zr_zret rfl rfl p0)⟩
theorem E_X6_becomeRow : ∀ (d : Nat) (a0 : Nat) (a1 : Int32) (a2 : Int32) (h : zMm) (Q : Option Value → zMm → Prop), zWM (d + 1) 49 [.ref a0, .int a1, .int a2] h Q = zWp d zi_49 none 0 [.ref a0, .int a1, .int a2, .retAddr 0] [] h Q := fun d a0 a1 a2 h Q => zW_M m_49 (Nat.le_of_ble_eq_true rfl) rfl
set_option maxRecDepth 100000 in
theorem R_X6_becomeRow :
    (∀ (d : Nat) (l0 : Nat) (l1 : Value) (l2 : Value) (l3 : Value)  (h : zMm) (Q : Option Value → zMm → Prop), zWp d zi_49 none 0 [.ref l0, l1, l2, l3] [] h Q = zWp d zi_49 none 1 [.ref l0, l1, l2, l3] [.ref l0] h Q) ∧
    (∀ (d : Nat) (l0 : Value) (l1 : Int32) (l2 : Value) (l3 : Value) (x0 : Nat) (h : zMm) (Q : Option Value → zMm → Prop), zWp d zi_49 none 1 [l0, .int l1, l2, l3] [.ref x0] h Q = zWp d zi_49 none 2 [l0, .int l1, l2, l3] [.int l1, .ref x0] h Q) ∧
    (∀ (d : Nat) (l0 : Value) (l1 : Value) (l2 : Value) (l3 : Value) (x1 : Int32) (x0 : Nat) (I : Nat → Nat → Int32) (L : Nat → Nat → Int64) (P : Nat → Nat → Option Nat) (Q : Option Value → zMm → Prop), zSH[x0]? = some (.inl 6) → zWp d zi_49 none 2 [l0, l1, l2, l3] [.int x1, .ref x0] (zSH, I, L, P) Q = zWp d zi_49 none 5 [l0, l1, l2, l3] [] (zSH, zw I x0 (upd (I x0) 1 x1), L, P) Q) ∧
    (∀ (d : Nat) (l0 : Nat) (l1 : Value) (l2 : Value) (l3 : Value)  (h : zMm) (Q : Option Value → zMm → Prop), zWp d zi_49 none 5 [.ref l0, l1, l2, l3] [] h Q = zWp d zi_49 none 6 [.ref l0, l1, l2, l3] [.ref l0] h Q) ∧
    (∀ (d : Nat) (l0 : Value) (l1 : Value) (l2 : Int32) (l3 : Value) (x0 : Nat) (h : zMm) (Q : Option Value → zMm → Prop), zWp d zi_49 none 6 [l0, l1, .int l2, l3] [.ref x0] h Q = zWp d zi_49 none 7 [l0, l1, .int l2, l3] [.int l2, .ref x0] h Q) ∧
    (∀ (d : Nat) (l0 : Value) (l1 : Value) (l2 : Value) (l3 : Value) (x1 : Int32) (x0 : Nat) (I : Nat → Nat → Int32) (L : Nat → Nat → Int64) (P : Nat → Nat → Option Nat) (Q : Option Value → zMm → Prop), zSH[x0]? = some (.inl 6) → zWp d zi_49 none 7 [l0, l1, l2, l3] [.int x1, .ref x0] (zSH, I, L, P) Q = zWp d zi_49 none 10 [l0, l1, l2, l3] [] (zSH, zw I x0 (upd (I x0) 3 x1), L, P) Q) ∧
    (∀ (d : Nat) (l0 : Value) (l1 : Value) (l2 : Value) (l3 : Value)  (h : zMm) (Q : Option Value → zMm → Prop), zWp d zi_49 none 10 [l0, l1, l2, l3] [] h Q = zWp d zi_49 none 11 [l0, l1, l2, l3] [.int 0] h Q) ∧
    (∀ (d : Nat) (l0 : Value) (l1 : Value) (l2 : Int32) (l3 : Value) (x0 : Int32) (h : zMm) (Q : Option Value → zMm → Prop), zWp d zi_49 none 11 [l0, l1, .int l2, l3] [.int x0] h Q = zWp d zi_49 none 12 [l0, l1, .int l2, .int x0] [] h Q) ∧
    (∀ (d : Nat) (l0 : Value) (l1 : Value) (l2 : Value) (l3 : Value) (x0 : Int32) (h : zMm) (Q : Option Value → zMm → Prop), zWp d zi_49 none 13 [l0, l1, l2, l3] [.int x0] h Q = zWp d zi_49 none 15 [l0, l1, l2, l3] [.int 60, .int x0] h Q) ∧
    (∀ (d : Nat) (l0 : Value) (l1 : Value) (l2 : Value) (l3 : Value) (x1 : Int32) (x0 : Int32) (h : zMm) (Q : Option Value → zMm → Prop), zWp d zi_49 none 15 [l0, l1, l2, l3] [.int x1, .int x0] h Q = if x1 ≤ x0 then zWp d zi_49 none 31 [l0, l1, l2, l3] [] h Q else zWp d zi_49 none 18 [l0, l1, l2, l3] [] h Q) ∧
    (∀ (d : Nat) (l0 : Nat) (l1 : Value) (l2 : Value) (l3 : Value)  (h : zMm) (Q : Option Value → zMm → Prop), zWp d zi_49 none 18 [.ref l0, l1, l2, l3] [] h Q = zWp d zi_49 none 19 [.ref l0, l1, l2, l3] [.ref l0] h Q) ∧
    (∀ (d : Nat) (l0 : Value) (l1 : Value) (l2 : Value) (l3 : Value) (x0 : Nat) (I : Nat → Nat → Int32) (L : Nat → Nat → Int64) (P : Nat → Nat → Option Nat) (Q : Option Value → zMm → Prop), zSH[x0]? = some (.inl 6) → zWp d zi_49 none 19 [l0, l1, l2, l3] [.ref x0] (zSH, I, L, P) Q = zWp d zi_49 none 22 [l0, l1, l2, l3] [va_rf (P x0 0)] (zSH, I, L, P) Q) ∧
    (∀ (d : Nat) (l0 : Value) (l1 : Value) (l2 : Value) (l3 : Int32) (x0 : Nat) (h : zMm) (Q : Option Value → zMm → Prop), zWp d zi_49 none 22 [l0, l1, l2, .int l3] [.ref x0] h Q = zWp d zi_49 none 23 [l0, l1, l2, .int l3] [.int l3, .ref x0] h Q) ∧
    (∀ (d : Nat) (l0 : Value) (l1 : Value) (l2 : Value) (l3 : Value) (x1 : Int32) (x0 : Nat) (h : zMm) (Q : Option Value → zMm → Prop), zWp d zi_49 none 23 [l0, l1, l2, l3] [.int x1, .ref x0] h Q = zWp d zi_49 none 24 [l0, l1, l2, l3] [.long 0, .int x1, .ref x0] h Q) ∧
    (∀ (d : Nat) (l0 : Value) (l1 : Value) (l2 : Value) (l3 : Value) (x2 : Int64) (x1 : Int32) (x0 : Nat) (I : Nat → Nat → Int32) (L : Nat → Nat → Int64) (P : Nat → Nat → Option Nat) (Q : Option Value → zMm → Prop), zAk zSH x0 = some .long → zWp d zi_49 none 24 [l0, l1, l2, l3] [.long x2, .int x1, .ref x0] (zSH, I, L, P) Q = (vp_in x1 (zAn zSH x0) ∧ zWp d zi_49 none 25 [l0, l1, l2, l3] [] (zSH, I, zw L x0 (vp_updL (L x0) x1.toNatClampNeg x2), P) Q)) ∧
    (∀ (d : Nat) (l0 : Value) (l1 : Value) (l2 : Int32) (l3 : Int32)  (h : zMm) (Q : Option Value → zMm → Prop), zWp d zi_49 none 25 [l0, l1, .int l2, .int l3] [] h Q = zWp d zi_49 none 28 [l0, l1, .int l2, .int (l3 + 1)] [] h Q) ∧
    (∀ (d : Nat) (l0 : Value) (l1 : Value) (l2 : Value) (l3 : Value)  (h : zMm) (Q : Option Value → zMm → Prop), zWp d zi_49 none 28 [l0, l1, l2, l3] [] h Q = zWp d zi_49 none 12 [l0, l1, l2, l3] [] h Q) ∧
    (∀ (d : Nat) (l0 : Value) (l1 : Value) (l2 : Value) (l3 : Value)  (h : zMm) (Q : Option Value → zMm → Prop), zWp d zi_49 none 31 [l0, l1, l2, l3] [] h Q = Q none h) :=
  ⟨(fun d l0 l1 l2 l3  h Q => zr_aload_n rfl rfl),
   (fun d l0 l1 l2 l3 x0 h Q => zr_iload_n rfl rfl),
   (fun d l0 l1 l2 l3 x1 x0 I L P Q p0 => zr_putI rfl lf_6_13 (by decide) rfl p0),
   (fun d l0 l1 l2 l3  h Q => zr_aload_n rfl rfl),
   (fun d l0 l1 l2 l3 x0 h Q => zr_iload_n rfl rfl),
   (fun d l0 l1 l2 l3 x1 x0 I L P Q p0 => zr_putI rfl lf_6_20 (by decide) rfl p0),
   (fun d l0 l1 l2 l3  h Q => zr_iconst rfl (by decide)),
   (fun d l0 l1 l2 l3 x0 h Q => zr_istore_n (n := 3) rfl (Nat.le_of_ble_eq_true rfl) rfl),
   (fun d l0 l1 l2 l3 x0 h Q => zr_bipush rfl (by decide)),
   (fun d l0 l1 l2 l3 x1 x0 h Q => zr_ic_ge rfl (by decide)),
   (fun d l0 l1 l2 l3  h Q => zr_aload_n rfl rfl),
   (fun d l0 l1 l2 l3 x0 I L P Q p0 => zr_getQ rfl lf_6_9 (fun _ _ _ => rfl) p0),
   (fun d l0 l1 l2 l3 x0 h Q => zr_iload_n rfl rfl),
   (fun d l0 l1 l2 l3 x1 x0 h Q => zr_lconst rfl (by decide)),
   (fun d l0 l1 l2 l3 x2 x1 x0 I L P Q p0 => zr_lst rfl p0),
   (fun d l0 l1 l2 l3  h Q => zr_iinc (n := 3) (kc := 1) rfl rfl (Nat.le_of_ble_eq_true rfl) rfl (by decide)),
   (fun d l0 l1 l2 l3  h Q => zr_goto rfl (by decide)),
   (fun d l0 l1 l2 l3  h Q => zr_vret rfl rfl)⟩
theorem H_X6_becomeRow_12 : ∀ (d : Nat) (l0 : Value) (l1 : Value) (l2 : Value) (l3 : Int32)  (h : zMm) (Q : Option Value → zMm → Prop), zWp d zi_49 none 12 [l0, l1, l2, .int l3] [] h Q = zWp d zi_49 none 13 [l0, l1, l2, .int l3] [.int l3] h Q := fun d l0 l1 l2 l3  h Q => zr_iload_n rfl rfl
theorem E_X6_hasPlaces : ∀ (d : Nat) (a0 : Nat) (a1 : Int32) (a2 : Int32) (h : zMm) (Q : Option Value → zMm → Prop), zWM (d + 1) 50 [.ref a0, .int a1, .int a2] h Q = zWp d zi_50 none 0 [.ref a0, .int a1, .int a2] [] h Q := fun d a0 a1 a2 h Q => zW_M m_50 (Nat.le_of_ble_eq_true rfl) rfl
set_option maxRecDepth 100000 in
theorem R_X6_hasPlaces :
    (∀ (d : Nat) (l0 : Value) (l1 : Int32) (l2 : Value)  (h : zMm) (Q : Option Value → zMm → Prop), zWp d zi_50 none 0 [l0, .int l1, l2] [] h Q = zWp d zi_50 none 1 [l0, .int l1, l2] [.int l1] h Q) ∧
    (∀ (d : Nat) (l0 : Value) (l1 : Value) (l2 : Value) (x0 : Int32) (h : zMm) (Q : Option Value → zMm → Prop), zWp d zi_50 none 1 [l0, l1, l2] [.int x0] h Q = if x0 < 0 then zWp d zi_50 none 30 [l0, l1, l2] [] h Q else zWp d zi_50 none 4 [l0, l1, l2] [] h Q) ∧
    (∀ (d : Nat) (l0 : Value) (l1 : Value) (l2 : Int32)  (h : zMm) (Q : Option Value → zMm → Prop), zWp d zi_50 none 4 [l0, l1, .int l2] [] h Q = zWp d zi_50 none 5 [l0, l1, .int l2] [.int l2] h Q) ∧
    (∀ (d : Nat) (l0 : Value) (l1 : Value) (l2 : Value) (x0 : Int32) (h : zMm) (Q : Option Value → zMm → Prop), zWp d zi_50 none 5 [l0, l1, l2] [.int x0] h Q = if x0 < 0 then zWp d zi_50 none 30 [l0, l1, l2] [] h Q else zWp d zi_50 none 8 [l0, l1, l2] [] h Q) ∧
    (∀ (d : Nat) (l0 : Value) (l1 : Value) (l2 : Int32)  (h : zMm) (Q : Option Value → zMm → Prop), zWp d zi_50 none 8 [l0, l1, .int l2] [] h Q = zWp d zi_50 none 9 [l0, l1, .int l2] [.int l2] h Q) ∧
    (∀ (d : Nat) (l0 : Nat) (l1 : Value) (l2 : Value) (x0 : Int32) (h : zMm) (Q : Option Value → zMm → Prop), zWp d zi_50 none 9 [.ref l0, l1, l2] [.int x0] h Q = zWp d zi_50 none 10 [.ref l0, l1, l2] [.ref l0, .int x0] h Q) ∧
    (∀ (d : Nat) (l0 : Value) (l1 : Value) (l2 : Value) (x1 : Nat) (x0 : Int32) (I : Nat → Nat → Int32) (L : Nat → Nat → Int64) (P : Nat → Nat → Option Nat) (Q : Option Value → zMm → Prop), zSH[x1]? = some (.inl 6) → zWp d zi_50 none 10 [l0, l1, l2] [.ref x1, .int x0] (zSH, I, L, P) Q = zWp d zi_50 none 13 [l0, l1, l2] [.int (I x1 3), .int x0] (zSH, I, L, P) Q) ∧
    (∀ (d : Nat) (l0 : Value) (l1 : Value) (l2 : Value) (x1 : Int32) (x0 : Int32) (h : zMm) (Q : Option Value → zMm → Prop), zWp d zi_50 none 13 [l0, l1, l2] [.int x1, .int x0] h Q = if x1 < x0 then zWp d zi_50 none 30 [l0, l1, l2] [] h Q else zWp d zi_50 none 16 [l0, l1, l2] [] h Q) ∧
    (∀ (d : Nat) (l0 : Value) (l1 : Int32) (l2 : Value)  (h : zMm) (Q : Option Value → zMm → Prop), zWp d zi_50 none 16 [l0, .int l1, l2] [] h Q = zWp d zi_50 none 17 [l0, .int l1, l2] [.int l1] h Q) ∧
    (∀ (d : Nat) (l0 : Nat) (l1 : Value) (l2 : Value) (x0 : Int32) (h : zMm) (Q : Option Value → zMm → Prop), zWp d zi_50 none 17 [.ref l0, l1, l2] [.int x0] h Q = zWp d zi_50 none 18 [.ref l0, l1, l2] [.ref l0, .int x0] h Q) ∧
    (∀ (d : Nat) (l0 : Value) (l1 : Value) (l2 : Value) (x1 : Nat) (x0 : Int32) (I : Nat → Nat → Int32) (L : Nat → Nat → Int64) (P : Nat → Nat → Option Nat) (Q : Option Value → zMm → Prop), zSH[x1]? = some (.inl 6) → zWp d zi_50 none 18 [l0, l1, l2] [.ref x1, .int x0] (zSH, I, L, P) Q = zWp d zi_50 none 21 [l0, l1, l2] [.int (I x1 3), .int x0] (zSH, I, L, P) Q) ∧
    (∀ (d : Nat) (l0 : Value) (l1 : Value) (l2 : Int32) (x1 : Int32) (x0 : Int32) (h : zMm) (Q : Option Value → zMm → Prop), zWp d zi_50 none 21 [l0, l1, .int l2] [.int x1, .int x0] h Q = zWp d zi_50 none 22 [l0, l1, .int l2] [.int l2, .int x1, .int x0] h Q) ∧
    (∀ (d : Nat) (l0 : Value) (l1 : Value) (l2 : Value) (x2 : Int32) (x1 : Int32) (x0 : Int32) (h : zMm) (Q : Option Value → zMm → Prop), zWp d zi_50 none 22 [l0, l1, l2] [.int x2, .int x1, .int x0] h Q = zWp d zi_50 none 23 [l0, l1, l2] [.int (x1 - x2), .int x0] h Q) ∧
    (∀ (d : Nat) (l0 : Value) (l1 : Value) (l2 : Value) (x1 : Int32) (x0 : Int32) (h : zMm) (Q : Option Value → zMm → Prop), zWp d zi_50 none 23 [l0, l1, l2] [.int x1, .int x0] h Q = if x1 < x0 then zWp d zi_50 none 30 [l0, l1, l2] [] h Q else zWp d zi_50 none 26 [l0, l1, l2] [] h Q) ∧
    (∀ (d : Nat) (l0 : Value) (l1 : Value) (l2 : Value)  (h : zMm) (Q : Option Value → zMm → Prop), zWp d zi_50 none 26 [l0, l1, l2] [] h Q = zWp d zi_50 none 27 [l0, l1, l2] [.int 1] h Q) ∧
    (∀ (d : Nat) (l0 : Value) (l1 : Value) (l2 : Value) (x0 : Int32) (h : zMm) (Q : Option Value → zMm → Prop), zWp d zi_50 none 27 [l0, l1, l2] [.int x0] h Q = zWp d zi_50 none 31 [l0, l1, l2] [.int x0] h Q) ∧
    (∀ (d : Nat) (l0 : Value) (l1 : Value) (l2 : Value)  (h : zMm) (Q : Option Value → zMm → Prop), zWp d zi_50 none 30 [l0, l1, l2] [] h Q = zWp d zi_50 none 31 [l0, l1, l2] [.int 0] h Q) ∧
    (∀ (d : Nat) (l0 : Value) (l1 : Value) (l2 : Value) (x0 : Int32) (h : zMm) (Q : Option Value → zMm → Prop), x0 = 0 ∨ x0 = 1 → zWp d zi_50 none 31 [l0, l1, l2] [.int x0] h Q = Q (some (.int x0)) h) :=
  ⟨(fun d l0 l1 l2  h Q => zr_iload_n rfl rfl),
   (fun d l0 l1 l2 x0 h Q => zr_if_lt rfl (by decide)),
   (fun d l0 l1 l2  h Q => zr_iload_n rfl rfl),
   (fun d l0 l1 l2 x0 h Q => zr_if_lt rfl (by decide)),
   (fun d l0 l1 l2  h Q => zr_iload_n rfl rfl),
   (fun d l0 l1 l2 x0 h Q => zr_aload_n rfl rfl),
   (fun d l0 l1 l2 x1 x0 I L P Q p0 => zr_getI rfl lf_6_20 (fun _ _ _ => rfl) p0),
   (fun d l0 l1 l2 x1 x0 h Q => zr_ic_gt rfl (by decide)),
   (fun d l0 l1 l2  h Q => zr_iload_n rfl rfl),
   (fun d l0 l1 l2 x0 h Q => zr_aload_n rfl rfl),
   (fun d l0 l1 l2 x1 x0 I L P Q p0 => zr_getI rfl lf_6_20 (fun _ _ _ => rfl) p0),
   (fun d l0 l1 l2 x1 x0 h Q => zr_iload_n rfl rfl),
   (fun d l0 l1 l2 x2 x1 x0 h Q => zr_isub rfl),
   (fun d l0 l1 l2 x1 x0 h Q => zr_ic_gt rfl (by decide)),
   (fun d l0 l1 l2  h Q => zr_iconst rfl (by decide)),
   (fun d l0 l1 l2 x0 h Q => zr_goto rfl (by decide)),
   (fun d l0 l1 l2  h Q => zr_iconst rfl (by decide)),
   (fun d l0 l1 l2 x0 h Q p0 => zr_zret rfl rfl p0)⟩
theorem E_X6_lowest : ∀ (d : Nat) (a0 : Int32) (a1 : Int64) (h : zMm) (Q : Option Value → zMm → Prop), zWM (d + 1) 51 [.int a0, .long a1] h Q = zWp d zi_51 none 0 [.int a0, .long a1, .retAddr 0] [] h Q := fun d a0 a1 h Q => zW_M m_51 (Nat.le_of_ble_eq_true rfl) rfl
set_option maxRecDepth 100000 in
theorem R_X6_lowest :
    (∀ (d : Nat) (l0 : Int32) (l1 : Value) (l2 : Value)  (h : zMm) (Q : Option Value → zMm → Prop), zWp d zi_51 none 0 [.int l0, l1, l2] [] h Q = zWp d zi_51 none 1 [.int l0, l1, l2] [.int l0] h Q) ∧
    (∀ (d : Nat) (l0 : Value) (l1 : Value) (l2 : Value) (x0 : Int32) (h : zMm) (Q : Option Value → zMm → Prop), zWp d zi_51 none 1 [l0, l1, l2] [.int x0] h Q = if x0 = 0 then zWp d zi_51 none 36 [l0, l1, l2] [] h Q else if x0 = 1 then zWp d zi_51 none 41 [l0, l1, l2] [] h Q else if x0 = 2 then zWp d zi_51 none 46 [l0, l1, l2] [] h Q else if x0 = 3 then zWp d zi_51 none 62 [l0, l1, l2] [] h Q else if x0 = 4 then zWp d zi_51 none 50 [l0, l1, l2] [] h Q else zWp d zi_51 none 62 [l0, l1, l2] [] h Q) ∧
    (∀ (d : Nat) (l0 : Value) (l1 : Int64) (l2 : Value)  (h : zMm) (Q : Option Value → zMm → Prop), zWp d zi_51 none 36 [l0, .long l1, l2] [] h Q = zWp d zi_51 none 37 [l0, .long l1, l2] [.long l1] h Q) ∧
    (∀ (d : Nat) (l0 : Value) (l1 : Value) (l2 : Value) (x0 : Int64) (h : zMm) (Q : Option Value → zMm → Prop), zWp d zi_51 none 37 [l0, l1, l2] [.long x0] h Q = zWp d zi_51 none 38 [l0, l1, l2] [.int x0.toInt32] h Q) ∧
    (∀ (d : Nat) (l0 : Value) (l1 : Value) (l2 : Value) (x0 : Int32) (h : zMm) (Q : Option Value → zMm → Prop), zWp d zi_51 none 38 [l0, l1, l2] [.int x0] h Q = zWp d zi_51 none 39 [l0, l1, l2] [.int x0.toInt8.toInt32] h Q) ∧
    (∀ (d : Nat) (l0 : Value) (l1 : Value) (l2 : Value) (x0 : Int32) (h : zMm) (Q : Option Value → zMm → Prop), zWp d zi_51 none 39 [l0, l1, l2] [.int x0] h Q = zWp d zi_51 none 40 [l0, l1, l2] [.long x0.toInt64] h Q) ∧
    (∀ (d : Nat) (l0 : Value) (l1 : Value) (l2 : Value) (x0 : Int64) (h : zMm) (Q : Option Value → zMm → Prop), zWp d zi_51 none 40 [l0, l1, l2] [.long x0] h Q = Q (some (.long x0)) h) ∧
    (∀ (d : Nat) (l0 : Value) (l1 : Int64) (l2 : Value)  (h : zMm) (Q : Option Value → zMm → Prop), zWp d zi_51 none 41 [l0, .long l1, l2] [] h Q = zWp d zi_51 none 42 [l0, .long l1, l2] [.long l1] h Q) ∧
    (∀ (d : Nat) (l0 : Value) (l1 : Value) (l2 : Value) (x0 : Int64) (h : zMm) (Q : Option Value → zMm → Prop), zWp d zi_51 none 42 [l0, l1, l2] [.long x0] h Q = zWp d zi_51 none 43 [l0, l1, l2] [.int x0.toInt32] h Q) ∧
    (∀ (d : Nat) (l0 : Value) (l1 : Value) (l2 : Value) (x0 : Int32) (h : zMm) (Q : Option Value → zMm → Prop), zWp d zi_51 none 43 [l0, l1, l2] [.int x0] h Q = zWp d zi_51 none 44 [l0, l1, l2] [.int x0.toInt16.toInt32] h Q) ∧
    (∀ (d : Nat) (l0 : Value) (l1 : Value) (l2 : Value) (x0 : Int32) (h : zMm) (Q : Option Value → zMm → Prop), zWp d zi_51 none 44 [l0, l1, l2] [.int x0] h Q = zWp d zi_51 none 45 [l0, l1, l2] [.long x0.toInt64] h Q) ∧
    (∀ (d : Nat) (l0 : Value) (l1 : Value) (l2 : Value) (x0 : Int64) (h : zMm) (Q : Option Value → zMm → Prop), zWp d zi_51 none 45 [l0, l1, l2] [.long x0] h Q = Q (some (.long x0)) h) ∧
    (∀ (d : Nat) (l0 : Value) (l1 : Int64) (l2 : Value)  (h : zMm) (Q : Option Value → zMm → Prop), zWp d zi_51 none 46 [l0, .long l1, l2] [] h Q = zWp d zi_51 none 47 [l0, .long l1, l2] [.long l1] h Q) ∧
    (∀ (d : Nat) (l0 : Value) (l1 : Value) (l2 : Value) (x0 : Int64) (h : zMm) (Q : Option Value → zMm → Prop), zWp d zi_51 none 47 [l0, l1, l2] [.long x0] h Q = zWp d zi_51 none 48 [l0, l1, l2] [.int x0.toInt32] h Q) ∧
    (∀ (d : Nat) (l0 : Value) (l1 : Value) (l2 : Value) (x0 : Int32) (h : zMm) (Q : Option Value → zMm → Prop), zWp d zi_51 none 48 [l0, l1, l2] [.int x0] h Q = zWp d zi_51 none 49 [l0, l1, l2] [.long x0.toInt64] h Q) ∧
    (∀ (d : Nat) (l0 : Value) (l1 : Value) (l2 : Value) (x0 : Int64) (h : zMm) (Q : Option Value → zMm → Prop), zWp d zi_51 none 49 [l0, l1, l2] [.long x0] h Q = Q (some (.long x0)) h) ∧
    (∀ (d : Nat) (l0 : Value) (l1 : Int64) (l2 : Value)  (h : zMm) (Q : Option Value → zMm → Prop), zWp d zi_51 none 50 [l0, .long l1, l2] [] h Q = zWp d zi_51 none 51 [l0, .long l1, l2] [.long l1] h Q) ∧
    (∀ (d : Nat) (l0 : Value) (l1 : Value) (l2 : Value) (x0 : Int64) (h : zMm) (Q : Option Value → zMm → Prop), zWp d zi_51 none 51 [l0, l1, l2] [.long x0] h Q = zWp d zi_51 none 52 [l0, l1, l2] [.long 0, .long x0] h Q) ∧
    (∀ (d : Nat) (l0 : Value) (l1 : Value) (l2 : Value) (x1 : Int64) (x0 : Int64) (h : zMm) (Q : Option Value → zMm → Prop), zWp d zi_51 none 52 [l0, l1, l2] [.long x1, .long x0] h Q = zWp d zi_51 none 53 [l0, l1, l2] [.int (lg_cmp x0 x1)] h Q) ∧
    (∀ (d : Nat) (l0 : Value) (l1 : Value) (l2 : Value) (x0 : Int32) (h : zMm) (Q : Option Value → zMm → Prop), zWp d zi_51 none 53 [l0, l1, l2] [.int x0] h Q = if x0 = 0 then zWp d zi_51 none 60 [l0, l1, l2] [] h Q else zWp d zi_51 none 56 [l0, l1, l2] [] h Q) ∧
    (∀ (d : Nat) (l0 : Value) (l1 : Value) (l2 : Value)  (h : zMm) (Q : Option Value → zMm → Prop), zWp d zi_51 none 56 [l0, l1, l2] [] h Q = zWp d zi_51 none 57 [l0, l1, l2] [.long 1] h Q) ∧
    (∀ (d : Nat) (l0 : Value) (l1 : Value) (l2 : Value) (x0 : Int64) (h : zMm) (Q : Option Value → zMm → Prop), zWp d zi_51 none 57 [l0, l1, l2] [.long x0] h Q = zWp d zi_51 none 61 [l0, l1, l2] [.long x0] h Q) ∧
    (∀ (d : Nat) (l0 : Value) (l1 : Value) (l2 : Value)  (h : zMm) (Q : Option Value → zMm → Prop), zWp d zi_51 none 60 [l0, l1, l2] [] h Q = zWp d zi_51 none 61 [l0, l1, l2] [.long 0] h Q) ∧
    (∀ (d : Nat) (l0 : Value) (l1 : Value) (l2 : Value) (x0 : Int64) (h : zMm) (Q : Option Value → zMm → Prop), zWp d zi_51 none 61 [l0, l1, l2] [.long x0] h Q = Q (some (.long x0)) h) ∧
    (∀ (d : Nat) (l0 : Value) (l1 : Int64) (l2 : Value)  (h : zMm) (Q : Option Value → zMm → Prop), zWp d zi_51 none 62 [l0, .long l1, l2] [] h Q = zWp d zi_51 none 63 [l0, .long l1, l2] [.long l1] h Q) ∧
    (∀ (d : Nat) (l0 : Value) (l1 : Value) (l2 : Value) (x0 : Int64) (h : zMm) (Q : Option Value → zMm → Prop), zWp d zi_51 none 63 [l0, l1, l2] [.long x0] h Q = Q (some (.long x0)) h) :=
  ⟨(fun d l0 l1 l2  h Q => zr_iload_n rfl rfl),
   (fun d l0 l1 l2 x0 h Q => by
      by_cases e0 : x0 = 0
      · subst e0; rw [if_pos rfl]; exact zr_tabI rfl (by decide) rfl (by decide)
      rw [if_neg e0]
      have n0 : ¬ x0.toInt = 0 := fun z => e0 (Int32.toInt_inj.mp z)
      by_cases e1 : x0 = 1
      · subst e1; rw [if_pos rfl]; exact zr_tabI rfl (by decide) rfl (by decide)
      rw [if_neg e1]
      have n1 : ¬ x0.toInt = 1 := fun z => e1 (Int32.toInt_inj.mp z)
      by_cases e2 : x0 = 2
      · subst e2; rw [if_pos rfl]; exact zr_tabI rfl (by decide) rfl (by decide)
      rw [if_neg e2]
      have n2 : ¬ x0.toInt = 2 := fun z => e2 (Int32.toInt_inj.mp z)
      by_cases e3 : x0 = 3
      · subst e3; rw [if_pos rfl]; exact zr_tabI rfl (by decide) rfl (by decide)
      rw [if_neg e3]
      have n3 : ¬ x0.toInt = 3 := fun z => e3 (Int32.toInt_inj.mp z)
      by_cases e4 : x0 = 4
      · subst e4; rw [if_pos rfl]; exact zr_tabI rfl (by decide) rfl (by decide)
      rw [if_neg e4]
      have n4 : ¬ x0.toInt = 4 := fun z => e4 (Int32.toInt_inj.mp z)
      exact zr_tabD rfl (by omega) (by decide)),
   (fun d l0 l1 l2  h Q => zr_lload_n rfl rfl),
   (fun d l0 l1 l2 x0 h Q => zr_l2i rfl),
   (fun d l0 l1 l2 x0 h Q => zr_i2b rfl),
   (fun d l0 l1 l2 x0 h Q => zr_i2l rfl),
   (fun d l0 l1 l2 x0 h Q => zr_lret rfl rfl),
   (fun d l0 l1 l2  h Q => zr_lload_n rfl rfl),
   (fun d l0 l1 l2 x0 h Q => zr_l2i rfl),
   (fun d l0 l1 l2 x0 h Q => zr_i2s rfl),
   (fun d l0 l1 l2 x0 h Q => zr_i2l rfl),
   (fun d l0 l1 l2 x0 h Q => zr_lret rfl rfl),
   (fun d l0 l1 l2  h Q => zr_lload_n rfl rfl),
   (fun d l0 l1 l2 x0 h Q => zr_l2i rfl),
   (fun d l0 l1 l2 x0 h Q => zr_i2l rfl),
   (fun d l0 l1 l2 x0 h Q => zr_lret rfl rfl),
   (fun d l0 l1 l2  h Q => zr_lload_n rfl rfl),
   (fun d l0 l1 l2 x0 h Q => zr_lconst rfl (by decide)),
   (fun d l0 l1 l2 x1 x0 h Q => zr_lcmp rfl),
   (fun d l0 l1 l2 x0 h Q => zr_if_eq rfl (by decide)),
   (fun d l0 l1 l2  h Q => zr_lconst rfl (by decide)),
   (fun d l0 l1 l2 x0 h Q => zr_goto rfl (by decide)),
   (fun d l0 l1 l2  h Q => zr_lconst rfl (by decide)),
   (fun d l0 l1 l2 x0 h Q => zr_lret rfl rfl),
   (fun d l0 l1 l2  h Q => zr_lload_n rfl rfl),
   (fun d l0 l1 l2 x0 h Q => zr_lret rfl rfl)⟩
theorem E_X7_next : ∀ (d : Nat) (a0 : Int32) (h : zMm) (Q : Option Value → zMm → Prop), zWM (d + 1) 53 [.int a0] h Q = zWp d zi_53 none 0 [.int a0] [] h Q := fun d a0 h Q => zW_M m_53 (Nat.le_of_ble_eq_true rfl) rfl
set_option maxRecDepth 100000 in
theorem R_X7_next :
    (∀ (d : Nat) (l0 : Int32)  (h : zMm) (Q : Option Value → zMm → Prop), zWp d zi_53 none 0 [.int l0] [] h Q = zWp d zi_53 none 1 [.int l0] [.int l0] h Q) ∧
    (∀ (d : Nat) (l0 : Value) (x0 : Int32) (h : zMm) (Q : Option Value → zMm → Prop), zWp d zi_53 none 1 [l0] [.int x0] h Q = zWp d zi_53 none 3 [l0] [.int 1103515245, .int x0] h Q) ∧
    (∀ (d : Nat) (l0 : Value) (x1 : Int32) (x0 : Int32) (h : zMm) (Q : Option Value → zMm → Prop), zWp d zi_53 none 3 [l0] [.int x1, .int x0] h Q = zWp d zi_53 none 4 [l0] [.int (x0 * x1)] h Q) ∧
    (∀ (d : Nat) (l0 : Value) (x0 : Int32) (h : zMm) (Q : Option Value → zMm → Prop), zWp d zi_53 none 4 [l0] [.int x0] h Q = zWp d zi_53 none 7 [l0] [.int 12345, .int x0] h Q) ∧
    (∀ (d : Nat) (l0 : Value) (x1 : Int32) (x0 : Int32) (h : zMm) (Q : Option Value → zMm → Prop), zWp d zi_53 none 7 [l0] [.int x1, .int x0] h Q = zWp d zi_53 none 8 [l0] [.int (x0 + x1)] h Q) ∧
    (∀ (d : Nat) (l0 : Value) (x0 : Int32) (h : zMm) (Q : Option Value → zMm → Prop), zWp d zi_53 none 8 [l0] [.int x0] h Q = Q (some (.int x0)) h) :=
  ⟨(fun d l0  h Q => zr_iload_n rfl rfl),
   (fun d l0 x0 h Q => zr_ldc rfl lk_7_21),
   (fun d l0 x1 x0 h Q => zr_imul rfl),
   (fun d l0 x0 h Q => zr_sipush rfl (by decide)),
   (fun d l0 x1 x0 h Q => zr_iadd rfl),
   (fun d l0 x0 h Q => zr_iret rfl rfl)⟩
theorem E_X7_drawn : ∀ (d : Nat) (a0 : Int32) (a1 : Int32) (h : zMm) (Q : Option Value → zMm → Prop), zWM (d + 1) 54 [.int a0, .int a1] h Q = zWp d zi_54 none 0 [.int a0, .int a1] [] h Q := fun d a0 a1 h Q => zW_M m_54 (Nat.le_of_ble_eq_true rfl) rfl
set_option maxRecDepth 100000 in
theorem R_X7_drawn :
    (∀ (d : Nat) (l0 : Value) (l1 : Int32)  (h : zMm) (Q : Option Value → zMm → Prop), zWp d zi_54 none 0 [l0, .int l1] [] h Q = zWp d zi_54 none 1 [l0, .int l1] [.int l1] h Q) ∧
    (∀ (d : Nat) (l0 : Value) (l1 : Value) (x0 : Int32) (h : zMm) (Q : Option Value → zMm → Prop), zWp d zi_54 none 1 [l0, l1] [.int x0] h Q = if x0 ≤ 0 then zWp d zi_54 none 13 [l0, l1] [] h Q else zWp d zi_54 none 4 [l0, l1] [] h Q) ∧
    (∀ (d : Nat) (l0 : Int32) (l1 : Value)  (h : zMm) (Q : Option Value → zMm → Prop), zWp d zi_54 none 4 [.int l0, l1] [] h Q = zWp d zi_54 none 5 [.int l0, l1] [.int l0] h Q) ∧
    (∀ (d : Nat) (l0 : Value) (l1 : Value) (x0 : Int32) (h : zMm) (Q : Option Value → zMm → Prop), zWp d zi_54 none 5 [l0, l1] [.int x0] h Q = zWp d zi_54 none 7 [l0, l1] [.int 8, .int x0] h Q) ∧
    (∀ (d : Nat) (l0 : Value) (l1 : Value) (x1 : Int32) (x0 : Int32) (h : zMm) (Q : Option Value → zMm → Prop), zWp d zi_54 none 7 [l0, l1] [.int x1, .int x0] h Q = zWp d zi_54 none 8 [l0, l1] [.int ((x0.toUInt32 >>> (x1.toUInt32 &&& Int32.toUInt32 31)).toInt32)] h Q) ∧
    (∀ (d : Nat) (l0 : Value) (l1 : Int32) (x0 : Int32) (h : zMm) (Q : Option Value → zMm → Prop), zWp d zi_54 none 8 [l0, .int l1] [.int x0] h Q = zWp d zi_54 none 9 [l0, .int l1] [.int l1, .int x0] h Q) ∧
    (∀ (d : Nat) (l0 : Value) (l1 : Value) (x1 : Int32) (x0 : Int32) (h : zMm) (Q : Option Value → zMm → Prop), zWp d zi_54 none 9 [l0, l1] [.int x1, .int x0] h Q = (¬ x1 = 0 ∧ zWp d zi_54 none 10 [l0, l1] [.int (x0 - x0 / x1 * x1)] h Q)) ∧
    (∀ (d : Nat) (l0 : Value) (l1 : Value) (x0 : Int32) (h : zMm) (Q : Option Value → zMm → Prop), zWp d zi_54 none 10 [l0, l1] [.int x0] h Q = zWp d zi_54 none 14 [l0, l1] [.int x0] h Q) ∧
    (∀ (d : Nat) (l0 : Value) (l1 : Value)  (h : zMm) (Q : Option Value → zMm → Prop), zWp d zi_54 none 13 [l0, l1] [] h Q = zWp d zi_54 none 14 [l0, l1] [.int 0] h Q) ∧
    (∀ (d : Nat) (l0 : Value) (l1 : Value) (x0 : Int32) (h : zMm) (Q : Option Value → zMm → Prop), zWp d zi_54 none 14 [l0, l1] [.int x0] h Q = Q (some (.int x0)) h) :=
  ⟨(fun d l0 l1  h Q => zr_iload_n rfl rfl),
   (fun d l0 l1 x0 h Q => zr_if_le rfl (by decide)),
   (fun d l0 l1  h Q => zr_iload_n rfl rfl),
   (fun d l0 l1 x0 h Q => zr_bipush rfl (by decide)),
   (fun d l0 l1 x1 x0 h Q => zr_iushr rfl),
   (fun d l0 l1 x0 h Q => zr_iload_n rfl rfl),
   (fun d l0 l1 x1 x0 h Q => zr_irem rfl),
   (fun d l0 l1 x0 h Q => zr_goto rfl (by decide)),
   (fun d l0 l1  h Q => zr_iconst rfl (by decide)),
   (fun d l0 l1 x0 h Q => zr_iret rfl rfl)⟩
theorem E_X7_copy : ∀ (d : Nat) (a0 : Nat) (a1 : Nat) (h : zMm) (Q : Option Value → zMm → Prop), zWM (d + 1) 55 [.ref a0, .ref a1] h Q = zWp d zi_55 none 0 [.ref a0, .ref a1] [] h Q := fun d a0 a1 h Q => zW_M m_55 (Nat.le_of_ble_eq_true rfl) rfl
set_option maxRecDepth 100000 in
theorem R_X7_copy :
    (∀ (d : Nat) (l0 : Nat) (l1 : Value)  (h : zMm) (Q : Option Value → zMm → Prop), zWp d zi_55 none 0 [.ref l0, l1] [] h Q = zWp d zi_55 none 1 [.ref l0, l1] [.ref l0] h Q) ∧
    (∀ (d : Nat) (l0 : Value) (l1 : Nat) (x0 : Nat) (h : zMm) (Q : Option Value → zMm → Prop), zWp d zi_55 none 1 [l0, .ref l1] [.ref x0] h Q = zWp d zi_55 none 2 [l0, .ref l1] [.ref l1, .ref x0] h Q) ∧
    (∀ (d : Nat) (l0 : Value) (l1 : Value) (x1 : Nat) (x0 : Nat) (I : Nat → Nat → Int32) (L : Nat → Nat → Int64) (P : Nat → Nat → Option Nat) (Q : Option Value → zMm → Prop), zSH[x1]? = some (.inl 7) → zWp d zi_55 none 2 [l0, l1] [.ref x1, .ref x0] (zSH, I, L, P) Q = zWp d zi_55 none 5 [l0, l1] [.int (I x1 0), .ref x0] (zSH, I, L, P) Q) ∧
    (∀ (d : Nat) (l0 : Value) (l1 : Value) (x1 : Int32) (x0 : Nat) (I : Nat → Nat → Int32) (L : Nat → Nat → Int64) (P : Nat → Nat → Option Nat) (Q : Option Value → zMm → Prop), zSH[x0]? = some (.inl 7) → zWp d zi_55 none 5 [l0, l1] [.int x1, .ref x0] (zSH, I, L, P) Q = zWp d zi_55 none 8 [l0, l1] [] (zSH, zw I x0 (upd (I x0) 0 x1), L, P) Q) ∧
    (∀ (d : Nat) (l0 : Nat) (l1 : Value)  (h : zMm) (Q : Option Value → zMm → Prop), zWp d zi_55 none 8 [.ref l0, l1] [] h Q = zWp d zi_55 none 9 [.ref l0, l1] [.ref l0] h Q) ∧
    (∀ (d : Nat) (l0 : Value) (l1 : Nat) (x0 : Nat) (h : zMm) (Q : Option Value → zMm → Prop), zWp d zi_55 none 9 [l0, .ref l1] [.ref x0] h Q = zWp d zi_55 none 10 [l0, .ref l1] [.ref l1, .ref x0] h Q) ∧
    (∀ (d : Nat) (l0 : Value) (l1 : Value) (x1 : Nat) (x0 : Nat) (I : Nat → Nat → Int32) (L : Nat → Nat → Int64) (P : Nat → Nat → Option Nat) (Q : Option Value → zMm → Prop), zSH[x1]? = some (.inl 7) → zWp d zi_55 none 10 [l0, l1] [.ref x1, .ref x0] (zSH, I, L, P) Q = zWp d zi_55 none 13 [l0, l1] [.int (I x1 1), .ref x0] (zSH, I, L, P) Q) ∧
    (∀ (d : Nat) (l0 : Value) (l1 : Value) (x1 : Int32) (x0 : Nat) (I : Nat → Nat → Int32) (L : Nat → Nat → Int64) (P : Nat → Nat → Option Nat) (Q : Option Value → zMm → Prop), zSH[x0]? = some (.inl 7) → zWp d zi_55 none 13 [l0, l1] [.int x1, .ref x0] (zSH, I, L, P) Q = zWp d zi_55 none 16 [l0, l1] [] (zSH, zw I x0 (upd (I x0) 1 x1), L, P) Q) ∧
    (∀ (d : Nat) (l0 : Nat) (l1 : Value)  (h : zMm) (Q : Option Value → zMm → Prop), zWp d zi_55 none 16 [.ref l0, l1] [] h Q = zWp d zi_55 none 17 [.ref l0, l1] [.ref l0] h Q) ∧
    (∀ (d : Nat) (l0 : Value) (l1 : Nat) (x0 : Nat) (h : zMm) (Q : Option Value → zMm → Prop), zWp d zi_55 none 17 [l0, .ref l1] [.ref x0] h Q = zWp d zi_55 none 18 [l0, .ref l1] [.ref l1, .ref x0] h Q) ∧
    (∀ (d : Nat) (l0 : Value) (l1 : Value) (x1 : Nat) (x0 : Nat) (I : Nat → Nat → Int32) (L : Nat → Nat → Int64) (P : Nat → Nat → Option Nat) (Q : Option Value → zMm → Prop), zSH[x1]? = some (.inl 7) → zWp d zi_55 none 18 [l0, l1] [.ref x1, .ref x0] (zSH, I, L, P) Q = zWp d zi_55 none 21 [l0, l1] [.int (I x1 2), .ref x0] (zSH, I, L, P) Q) ∧
    (∀ (d : Nat) (l0 : Value) (l1 : Value) (x1 : Int32) (x0 : Nat) (I : Nat → Nat → Int32) (L : Nat → Nat → Int64) (P : Nat → Nat → Option Nat) (Q : Option Value → zMm → Prop), zSH[x0]? = some (.inl 7) → zWp d zi_55 none 21 [l0, l1] [.int x1, .ref x0] (zSH, I, L, P) Q = zWp d zi_55 none 24 [l0, l1] [] (zSH, zw I x0 (upd (I x0) 2 x1), L, P) Q) ∧
    (∀ (d : Nat) (l0 : Nat) (l1 : Value)  (h : zMm) (Q : Option Value → zMm → Prop), zWp d zi_55 none 24 [.ref l0, l1] [] h Q = zWp d zi_55 none 25 [.ref l0, l1] [.ref l0] h Q) ∧
    (∀ (d : Nat) (l0 : Value) (l1 : Nat) (x0 : Nat) (h : zMm) (Q : Option Value → zMm → Prop), zWp d zi_55 none 25 [l0, .ref l1] [.ref x0] h Q = zWp d zi_55 none 26 [l0, .ref l1] [.ref l1, .ref x0] h Q) ∧
    (∀ (d : Nat) (l0 : Value) (l1 : Value) (x1 : Nat) (x0 : Nat) (I : Nat → Nat → Int32) (L : Nat → Nat → Int64) (P : Nat → Nat → Option Nat) (Q : Option Value → zMm → Prop), zSH[x1]? = some (.inl 7) → zWp d zi_55 none 26 [l0, l1] [.ref x1, .ref x0] (zSH, I, L, P) Q = zWp d zi_55 none 29 [l0, l1] [.int (I x1 3), .ref x0] (zSH, I, L, P) Q) ∧
    (∀ (d : Nat) (l0 : Value) (l1 : Value) (x1 : Int32) (x0 : Nat) (I : Nat → Nat → Int32) (L : Nat → Nat → Int64) (P : Nat → Nat → Option Nat) (Q : Option Value → zMm → Prop), zSH[x0]? = some (.inl 7) → zWp d zi_55 none 29 [l0, l1] [.int x1, .ref x0] (zSH, I, L, P) Q = zWp d zi_55 none 32 [l0, l1] [] (zSH, zw I x0 (upd (I x0) 3 x1), L, P) Q) ∧
    (∀ (d : Nat) (l0 : Nat) (l1 : Value)  (h : zMm) (Q : Option Value → zMm → Prop), zWp d zi_55 none 32 [.ref l0, l1] [] h Q = zWp d zi_55 none 33 [.ref l0, l1] [.ref l0] h Q) ∧
    (∀ (d : Nat) (l0 : Value) (l1 : Nat) (x0 : Nat) (h : zMm) (Q : Option Value → zMm → Prop), zWp d zi_55 none 33 [l0, .ref l1] [.ref x0] h Q = zWp d zi_55 none 34 [l0, .ref l1] [.ref l1, .ref x0] h Q) ∧
    (∀ (d : Nat) (l0 : Value) (l1 : Value) (x1 : Nat) (x0 : Nat) (I : Nat → Nat → Int32) (L : Nat → Nat → Int64) (P : Nat → Nat → Option Nat) (Q : Option Value → zMm → Prop), zSH[x1]? = some (.inl 7) → zWp d zi_55 none 34 [l0, l1] [.ref x1, .ref x0] (zSH, I, L, P) Q = zWp d zi_55 none 37 [l0, l1] [.int (I x1 4), .ref x0] (zSH, I, L, P) Q) ∧
    (∀ (d : Nat) (l0 : Value) (l1 : Value) (x1 : Int32) (x0 : Nat) (I : Nat → Nat → Int32) (L : Nat → Nat → Int64) (P : Nat → Nat → Option Nat) (Q : Option Value → zMm → Prop), zSH[x0]? = some (.inl 7) → zWp d zi_55 none 37 [l0, l1] [.int x1, .ref x0] (zSH, I, L, P) Q = zWp d zi_55 none 40 [l0, l1] [] (zSH, zw I x0 (upd (I x0) 4 x1), L, P) Q) ∧
    (∀ (d : Nat) (l0 : Nat) (l1 : Value)  (h : zMm) (Q : Option Value → zMm → Prop), zWp d zi_55 none 40 [.ref l0, l1] [] h Q = zWp d zi_55 none 41 [.ref l0, l1] [.ref l0] h Q) ∧
    (∀ (d : Nat) (l0 : Value) (l1 : Nat) (x0 : Nat) (h : zMm) (Q : Option Value → zMm → Prop), zWp d zi_55 none 41 [l0, .ref l1] [.ref x0] h Q = zWp d zi_55 none 42 [l0, .ref l1] [.ref l1, .ref x0] h Q) ∧
    (∀ (d : Nat) (l0 : Value) (l1 : Value) (x1 : Nat) (x0 : Nat) (I : Nat → Nat → Int32) (L : Nat → Nat → Int64) (P : Nat → Nat → Option Nat) (Q : Option Value → zMm → Prop), zSH[x1]? = some (.inl 7) → zWp d zi_55 none 42 [l0, l1] [.ref x1, .ref x0] (zSH, I, L, P) Q = zWp d zi_55 none 45 [l0, l1] [.int (I x1 5), .ref x0] (zSH, I, L, P) Q) ∧
    (∀ (d : Nat) (l0 : Value) (l1 : Value) (x1 : Int32) (x0 : Nat) (I : Nat → Nat → Int32) (L : Nat → Nat → Int64) (P : Nat → Nat → Option Nat) (Q : Option Value → zMm → Prop), zSH[x0]? = some (.inl 7) → zWp d zi_55 none 45 [l0, l1] [.int x1, .ref x0] (zSH, I, L, P) Q = zWp d zi_55 none 48 [l0, l1] [] (zSH, zw I x0 (upd (I x0) 5 x1), L, P) Q) ∧
    (∀ (d : Nat) (l0 : Value) (l1 : Value)  (h : zMm) (Q : Option Value → zMm → Prop), zWp d zi_55 none 48 [l0, l1] [] h Q = Q none h) :=
  ⟨(fun d l0 l1  h Q => zr_aload_n rfl rfl),
   (fun d l0 l1 x0 h Q => zr_aload_n rfl rfl),
   (fun d l0 l1 x1 x0 I L P Q p0 => zr_getI rfl lf_7_9 (fun _ _ _ => rfl) p0),
   (fun d l0 l1 x1 x0 I L P Q p0 => zr_putI rfl lf_7_9 (by decide) rfl p0),
   (fun d l0 l1  h Q => zr_aload_n rfl rfl),
   (fun d l0 l1 x0 h Q => zr_aload_n rfl rfl),
   (fun d l0 l1 x1 x0 I L P Q p0 => zr_getI rfl lf_7_15 (fun _ _ _ => rfl) p0),
   (fun d l0 l1 x1 x0 I L P Q p0 => zr_putI rfl lf_7_15 (by decide) rfl p0),
   (fun d l0 l1  h Q => zr_aload_n rfl rfl),
   (fun d l0 l1 x0 h Q => zr_aload_n rfl rfl),
   (fun d l0 l1 x1 x0 I L P Q p0 => zr_getI rfl lf_7_22 (fun _ _ _ => rfl) p0),
   (fun d l0 l1 x1 x0 I L P Q p0 => zr_putI rfl lf_7_22 (by decide) rfl p0),
   (fun d l0 l1  h Q => zr_aload_n rfl rfl),
   (fun d l0 l1 x0 h Q => zr_aload_n rfl rfl),
   (fun d l0 l1 x1 x0 I L P Q p0 => zr_getI rfl lf_7_25 (fun _ _ _ => rfl) p0),
   (fun d l0 l1 x1 x0 I L P Q p0 => zr_putI rfl lf_7_25 (by decide) rfl p0),
   (fun d l0 l1  h Q => zr_aload_n rfl rfl),
   (fun d l0 l1 x0 h Q => zr_aload_n rfl rfl),
   (fun d l0 l1 x1 x0 I L P Q p0 => zr_getI rfl lf_7_28 (fun _ _ _ => rfl) p0),
   (fun d l0 l1 x1 x0 I L P Q p0 => zr_putI rfl lf_7_28 (by decide) rfl p0),
   (fun d l0 l1  h Q => zr_aload_n rfl rfl),
   (fun d l0 l1 x0 h Q => zr_aload_n rfl rfl),
   (fun d l0 l1 x1 x0 I L P Q p0 => zr_getI rfl lf_7_18 (fun _ _ _ => rfl) p0),
   (fun d l0 l1 x1 x0 I L P Q p0 => zr_putI rfl lf_7_18 (by decide) rfl p0),
   (fun d l0 l1  h Q => zr_vret rfl rfl)⟩
theorem E_X7_pass : ∀ (d : Nat) (a0 : Nat) (a1 : Int32) (a2 : Int32) (a3 : Int32) (h : zMm) (Q : Option Value → zMm → Prop), zWM (d + 1) 56 [.ref a0, .int a1, .int a2, .int a3] h Q = zWp d zi_56 none 0 [.ref a0, .int a1, .int a2, .int a3, .retAddr 0, .retAddr 0, .retAddr 0, .retAddr 0] [] h Q := fun d a0 a1 a2 a3 h Q => zW_M m_56 (Nat.le_of_ble_eq_true rfl) rfl
set_option maxRecDepth 100000 in
theorem R_X7_pass :
    (∀ (d : Nat) (l0 : Value) (l1 : Int32) (l2 : Value) (l3 : Value) (l4 : Value) (l5 : Value) (l6 : Value) (l7 : Value)  (h : zMm) (Q : Option Value → zMm → Prop), zWp d zi_56 none 0 [l0, .int l1, l2, l3, l4, l5, l6, l7] [] h Q = zWp d zi_56 none 1 [l0, .int l1, l2, l3, l4, l5, l6, l7] [.int l1] h Q) ∧
    (∀ (d : Nat) (l0 : Value) (l1 : Value) (l2 : Value) (l3 : Int32) (l4 : Value) (l5 : Value) (l6 : Value) (l7 : Value) (x0 : Int32) (h : zMm) (Q : Option Value → zMm → Prop), zWp d zi_56 none 1 [l0, l1, l2, .int l3, l4, l5, l6, l7] [.int x0] h Q = zWp d zi_56 none 3 [l0, l1, l2, .int l3, .int x0, l5, l6, l7] [] h Q) ∧
    (∀ (d : Nat) (l0 : Value) (l1 : Value) (l2 : Value) (l3 : Value) (l4 : Value) (l5 : Value) (l6 : Value) (l7 : Value)  (h : zMm) (Q : Option Value → zMm → Prop), zWp d zi_56 none 3 [l0, l1, l2, l3, l4, l5, l6, l7] [] h Q = zWp d zi_56 none 4 [l0, l1, l2, l3, l4, l5, l6, l7] [.int 0] h Q) ∧
    (∀ (d : Nat) (l0 : Value) (l1 : Value) (l2 : Value) (l3 : Value) (l4 : Int32) (l5 : Value) (l6 : Value) (l7 : Value) (x0 : Int32) (h : zMm) (Q : Option Value → zMm → Prop), zWp d zi_56 none 4 [l0, l1, l2, l3, .int l4, l5, l6, l7] [.int x0] h Q = zWp d zi_56 none 6 [l0, l1, l2, l3, .int l4, .int x0, l6, l7] [] h Q) ∧
    (∀ (d : Nat) (l0 : Value) (l1 : Value) (l2 : Int32) (l3 : Value) (l4 : Value) (l5 : Value) (l6 : Value) (l7 : Value) (x0 : Int32) (h : zMm) (Q : Option Value → zMm → Prop), zWp d zi_56 none 8 [l0, l1, .int l2, l3, l4, l5, l6, l7] [.int x0] h Q = zWp d zi_56 none 9 [l0, l1, .int l2, l3, l4, l5, l6, l7] [.int l2, .int x0] h Q) ∧
    (∀ (d : Nat) (l0 : Value) (l1 : Value) (l2 : Value) (l3 : Value) (l4 : Value) (l5 : Value) (l6 : Value) (l7 : Value) (x1 : Int32) (x0 : Int32) (h : zMm) (Q : Option Value → zMm → Prop), zWp d zi_56 none 9 [l0, l1, l2, l3, l4, l5, l6, l7] [.int x1, .int x0] h Q = if x1 ≤ x0 then zWp d zi_56 none 167 [l0, l1, l2, l3, l4, l5, l6, l7] [] h Q else zWp d zi_56 none 12 [l0, l1, l2, l3, l4, l5, l6, l7] [] h Q) ∧
    (∀ (d : Nat) (l0 : Value) (l1 : Value) (l2 : Value) (l3 : Value) (l4 : Int32) (l5 : Value) (l6 : Value) (l7 : Value)  (h : zMm) (Q : Option Value → zMm → Prop), zWp d zi_56 none 12 [l0, l1, l2, l3, .int l4, l5, l6, l7] [] h Q = zWp d zi_56 none 14 [l0, l1, l2, l3, .int l4, l5, l6, l7] [.int l4] h Q) ∧
    (∀ (d : Nat) (l0 : Value) (l1 : Value) (l2 : Value) (l3 : Value) (l4 : Value) (l5 : Value) (l6 : Value) (l7 : Value) (x0 : Int32) (h : zMm) (Q : Option Value → zMm → Prop), zWp d zi_56 none 14 [l0, l1, l2, l3, l4, l5, l6, l7] [.int x0] h Q = zWM d 53 [.int x0] h (fun r h1 => zWp d zi_56 none 17 [l0, l1, l2, l3, l4, l5, l6, l7] (r.toList ++ []) h1 Q)) ∧
    (∀ (d : Nat) (l0 : Value) (l1 : Value) (l2 : Value) (l3 : Int32) (l4 : Value) (l5 : Value) (l6 : Value) (l7 : Value) (x0 : Int32) (h : zMm) (Q : Option Value → zMm → Prop), zWp d zi_56 none 17 [l0, l1, l2, .int l3, l4, l5, l6, l7] [.int x0] h Q = zWp d zi_56 none 19 [l0, l1, l2, .int l3, .int x0, l5, l6, l7] [] h Q) ∧
    (∀ (d : Nat) (l0 : Nat) (l1 : Value) (l2 : Value) (l3 : Value) (l4 : Value) (l5 : Value) (l6 : Value) (l7 : Value)  (h : zMm) (Q : Option Value → zMm → Prop), zWp d zi_56 none 19 [.ref l0, l1, l2, l3, l4, l5, l6, l7] [] h Q = zWp d zi_56 none 20 [.ref l0, l1, l2, l3, l4, l5, l6, l7] [.ref l0] h Q) ∧
    (∀ (d : Nat) (l0 : Value) (l1 : Value) (l2 : Value) (l3 : Value) (l4 : Value) (l5 : Value) (l6 : Value) (l7 : Value) (x0 : Nat) (h : zMm) (Q : Option Value → zMm → Prop), zWp d zi_56 none 20 [l0, l1, l2, l3, l4, l5, l6, l7] [.ref x0] h Q = zWp d zi_56 none 22 [l0, l1, l2, l3, l4, l5, l6, l7] [.int 99, .ref x0] h Q) ∧
    (∀ (d : Nat) (l0 : Nat) (l1 : Value) (l2 : Value) (l3 : Value) (l4 : Value) (l5 : Value) (l6 : Value) (l7 : Value) (x1 : Int32) (x0 : Nat) (h : zMm) (Q : Option Value → zMm → Prop), zWp d zi_56 none 22 [.ref l0, l1, l2, l3, l4, l5, l6, l7] [.int x1, .ref x0] h Q = zWp d zi_56 none 23 [.ref l0, l1, l2, l3, l4, l5, l6, l7] [.ref l0, .int x1, .ref x0] h Q) ∧
    (∀ (d : Nat) (l0 : Value) (l1 : Value) (l2 : Value) (l3 : Value) (l4 : Value) (l5 : Value) (l6 : Value) (l7 : Value) (x2 : Nat) (x1 : Int32) (x0 : Nat) (I : Nat → Nat → Int32) (L : Nat → Nat → Int64) (P : Nat → Nat → Option Nat) (Q : Option Value → zMm → Prop), zSH[x2]? = some (.inl 7) → zWp d zi_56 none 23 [l0, l1, l2, l3, l4, l5, l6, l7] [.ref x2, .int x1, .ref x0] (zSH, I, L, P) Q = zWp d zi_56 none 26 [l0, l1, l2, l3, l4, l5, l6, l7] [.int (I x2 0), .int x1, .ref x0] (zSH, I, L, P) Q) ∧
    (∀ (d : Nat) (l0 : Value) (l1 : Value) (l2 : Value) (l3 : Value) (l4 : Int32) (l5 : Value) (l6 : Value) (l7 : Value) (x2 : Int32) (x1 : Int32) (x0 : Nat) (h : zMm) (Q : Option Value → zMm → Prop), zWp d zi_56 none 26 [l0, l1, l2, l3, .int l4, l5, l6, l7] [.int x2, .int x1, .ref x0] h Q = zWp d zi_56 none 28 [l0, l1, l2, l3, .int l4, l5, l6, l7] [.int l4, .int x2, .int x1, .ref x0] h Q) ∧
    (∀ (d : Nat) (l0 : Value) (l1 : Value) (l2 : Value) (l3 : Value) (l4 : Value) (l5 : Value) (l6 : Value) (l7 : Value) (x3 : Int32) (x2 : Int32) (x1 : Int32) (x0 : Nat) (h : zMm) (Q : Option Value → zMm → Prop), zWp d zi_56 none 28 [l0, l1, l2, l3, l4, l5, l6, l7] [.int x3, .int x2, .int x1, .ref x0] h Q = zWp d zi_56 none 30 [l0, l1, l2, l3, l4, l5, l6, l7] [.int 12, .int x3, .int x2, .int x1, .ref x0] h Q) ∧
    (∀ (d : Nat) (l0 : Value) (l1 : Value) (l2 : Value) (l3 : Value) (l4 : Value) (l5 : Value) (l6 : Value) (l7 : Value) (x4 : Int32) (x3 : Int32) (x2 : Int32) (x1 : Int32) (x0 : Nat) (h : zMm) (Q : Option Value → zMm → Prop), zWp d zi_56 none 30 [l0, l1, l2, l3, l4, l5, l6, l7] [.int x4, .int x3, .int x2, .int x1, .ref x0] h Q = zWM d 54 [.int x3, .int x4] h (fun r h1 => zWp d zi_56 none 33 [l0, l1, l2, l3, l4, l5, l6, l7] (r.toList ++ [.int x2, .int x1, .ref x0]) h1 Q)) ∧
    (∀ (d : Nat) (l0 : Value) (l1 : Value) (l2 : Value) (l3 : Value) (l4 : Value) (l5 : Value) (l6 : Value) (l7 : Value) (x3 : Int32) (x2 : Int32) (x1 : Int32) (x0 : Nat) (h : zMm) (Q : Option Value → zMm → Prop), zWp d zi_56 none 33 [l0, l1, l2, l3, l4, l5, l6, l7] [.int x3, .int x2, .int x1, .ref x0] h Q = zWp d zi_56 none 34 [l0, l1, l2, l3, l4, l5, l6, l7] [.int (x2 + x3), .int x1, .ref x0] h Q) ∧
    (∀ (d : Nat) (l0 : Value) (l1 : Value) (l2 : Value) (l3 : Value) (l4 : Value) (l5 : Value) (l6 : Value) (l7 : Value) (x2 : Int32) (x1 : Int32) (x0 : Nat) (h : zMm) (Q : Option Value → zMm → Prop), zWp d zi_56 none 34 [l0, l1, l2, l3, l4, l5, l6, l7] [.int x2, .int x1, .ref x0] h Q = zWp d zi_56 none 37 [l0, l1, l2, l3, l4, l5, l6, l7] [.int (if x2 < x1 then x2 else x1), .ref x0] h Q) ∧
    (∀ (d : Nat) (l0 : Value) (l1 : Value) (l2 : Value) (l3 : Value) (l4 : Value) (l5 : Value) (l6 : Value) (l7 : Value) (x1 : Int32) (x0 : Nat) (I : Nat → Nat → Int32) (L : Nat → Nat → Int64) (P : Nat → Nat → Option Nat) (Q : Option Value → zMm → Prop), zSH[x0]? = some (.inl 7) → zWp d zi_56 none 37 [l0, l1, l2, l3, l4, l5, l6, l7] [.int x1, .ref x0] (zSH, I, L, P) Q = zWp d zi_56 none 40 [l0, l1, l2, l3, l4, l5, l6, l7] [] (zSH, zw I x0 (upd (I x0) 0 x1), L, P) Q) ∧
    (∀ (d : Nat) (l0 : Value) (l1 : Value) (l2 : Value) (l3 : Value) (l4 : Int32) (l5 : Value) (l6 : Value) (l7 : Value)  (h : zMm) (Q : Option Value → zMm → Prop), zWp d zi_56 none 40 [l0, l1, l2, l3, .int l4, l5, l6, l7] [] h Q = zWp d zi_56 none 42 [l0, l1, l2, l3, .int l4, l5, l6, l7] [.int l4] h Q) ∧
    (∀ (d : Nat) (l0 : Value) (l1 : Value) (l2 : Value) (l3 : Value) (l4 : Value) (l5 : Value) (l6 : Value) (l7 : Value) (x0 : Int32) (h : zMm) (Q : Option Value → zMm → Prop), zWp d zi_56 none 42 [l0, l1, l2, l3, l4, l5, l6, l7] [.int x0] h Q = zWM d 53 [.int x0] h (fun r h1 => zWp d zi_56 none 45 [l0, l1, l2, l3, l4, l5, l6, l7] (r.toList ++ []) h1 Q)) ∧
    (∀ (d : Nat) (l0 : Value) (l1 : Value) (l2 : Value) (l3 : Int32) (l4 : Value) (l5 : Value) (l6 : Value) (l7 : Value) (x0 : Int32) (h : zMm) (Q : Option Value → zMm → Prop), zWp d zi_56 none 45 [l0, l1, l2, .int l3, l4, l5, l6, l7] [.int x0] h Q = zWp d zi_56 none 47 [l0, l1, l2, .int l3, .int x0, l5, l6, l7] [] h Q) ∧
    (∀ (d : Nat) (l0 : Nat) (l1 : Value) (l2 : Value) (l3 : Value) (l4 : Value) (l5 : Value) (l6 : Value) (l7 : Value)  (h : zMm) (Q : Option Value → zMm → Prop), zWp d zi_56 none 47 [.ref l0, l1, l2, l3, l4, l5, l6, l7] [] h Q = zWp d zi_56 none 48 [.ref l0, l1, l2, l3, l4, l5, l6, l7] [.ref l0] h Q) ∧
    (∀ (d : Nat) (l0 : Value) (l1 : Value) (l2 : Value) (l3 : Value) (l4 : Value) (l5 : Value) (l6 : Value) (l7 : Value) (x0 : Nat) (h : zMm) (Q : Option Value → zMm → Prop), zWp d zi_56 none 48 [l0, l1, l2, l3, l4, l5, l6, l7] [.ref x0] h Q = zWp d zi_56 none 50 [l0, l1, l2, l3, l4, l5, l6, l7] [.int 99, .ref x0] h Q) ∧
    (∀ (d : Nat) (l0 : Nat) (l1 : Value) (l2 : Value) (l3 : Value) (l4 : Value) (l5 : Value) (l6 : Value) (l7 : Value) (x1 : Int32) (x0 : Nat) (h : zMm) (Q : Option Value → zMm → Prop), zWp d zi_56 none 50 [.ref l0, l1, l2, l3, l4, l5, l6, l7] [.int x1, .ref x0] h Q = zWp d zi_56 none 51 [.ref l0, l1, l2, l3, l4, l5, l6, l7] [.ref l0, .int x1, .ref x0] h Q) ∧
    (∀ (d : Nat) (l0 : Value) (l1 : Value) (l2 : Value) (l3 : Value) (l4 : Value) (l5 : Value) (l6 : Value) (l7 : Value) (x2 : Nat) (x1 : Int32) (x0 : Nat) (I : Nat → Nat → Int32) (L : Nat → Nat → Int64) (P : Nat → Nat → Option Nat) (Q : Option Value → zMm → Prop), zSH[x2]? = some (.inl 7) → zWp d zi_56 none 51 [l0, l1, l2, l3, l4, l5, l6, l7] [.ref x2, .int x1, .ref x0] (zSH, I, L, P) Q = zWp d zi_56 none 54 [l0, l1, l2, l3, l4, l5, l6, l7] [.int (I x2 1), .int x1, .ref x0] (zSH, I, L, P) Q) ∧
    (∀ (d : Nat) (l0 : Value) (l1 : Value) (l2 : Value) (l3 : Value) (l4 : Int32) (l5 : Value) (l6 : Value) (l7 : Value) (x2 : Int32) (x1 : Int32) (x0 : Nat) (h : zMm) (Q : Option Value → zMm → Prop), zWp d zi_56 none 54 [l0, l1, l2, l3, .int l4, l5, l6, l7] [.int x2, .int x1, .ref x0] h Q = zWp d zi_56 none 56 [l0, l1, l2, l3, .int l4, l5, l6, l7] [.int l4, .int x2, .int x1, .ref x0] h Q) ∧
    (∀ (d : Nat) (l0 : Value) (l1 : Value) (l2 : Value) (l3 : Value) (l4 : Value) (l5 : Value) (l6 : Value) (l7 : Value) (x3 : Int32) (x2 : Int32) (x1 : Int32) (x0 : Nat) (h : zMm) (Q : Option Value → zMm → Prop), zWp d zi_56 none 56 [l0, l1, l2, l3, l4, l5, l6, l7] [.int x3, .int x2, .int x1, .ref x0] h Q = zWp d zi_56 none 58 [l0, l1, l2, l3, l4, l5, l6, l7] [.int 6, .int x3, .int x2, .int x1, .ref x0] h Q) ∧
    (∀ (d : Nat) (l0 : Value) (l1 : Value) (l2 : Value) (l3 : Value) (l4 : Value) (l5 : Value) (l6 : Value) (l7 : Value) (x4 : Int32) (x3 : Int32) (x2 : Int32) (x1 : Int32) (x0 : Nat) (h : zMm) (Q : Option Value → zMm → Prop), zWp d zi_56 none 58 [l0, l1, l2, l3, l4, l5, l6, l7] [.int x4, .int x3, .int x2, .int x1, .ref x0] h Q = zWM d 54 [.int x3, .int x4] h (fun r h1 => zWp d zi_56 none 61 [l0, l1, l2, l3, l4, l5, l6, l7] (r.toList ++ [.int x2, .int x1, .ref x0]) h1 Q)) ∧
    (∀ (d : Nat) (l0 : Value) (l1 : Value) (l2 : Value) (l3 : Value) (l4 : Value) (l5 : Value) (l6 : Value) (l7 : Value) (x3 : Int32) (x2 : Int32) (x1 : Int32) (x0 : Nat) (h : zMm) (Q : Option Value → zMm → Prop), zWp d zi_56 none 61 [l0, l1, l2, l3, l4, l5, l6, l7] [.int x3, .int x2, .int x1, .ref x0] h Q = zWp d zi_56 none 62 [l0, l1, l2, l3, l4, l5, l6, l7] [.int (x2 + x3), .int x1, .ref x0] h Q) ∧
    (∀ (d : Nat) (l0 : Value) (l1 : Value) (l2 : Value) (l3 : Value) (l4 : Value) (l5 : Value) (l6 : Value) (l7 : Value) (x2 : Int32) (x1 : Int32) (x0 : Nat) (h : zMm) (Q : Option Value → zMm → Prop), zWp d zi_56 none 62 [l0, l1, l2, l3, l4, l5, l6, l7] [.int x2, .int x1, .ref x0] h Q = zWp d zi_56 none 65 [l0, l1, l2, l3, l4, l5, l6, l7] [.int (if x2 < x1 then x2 else x1), .ref x0] h Q) ∧
    (∀ (d : Nat) (l0 : Value) (l1 : Value) (l2 : Value) (l3 : Value) (l4 : Value) (l5 : Value) (l6 : Value) (l7 : Value) (x1 : Int32) (x0 : Nat) (I : Nat → Nat → Int32) (L : Nat → Nat → Int64) (P : Nat → Nat → Option Nat) (Q : Option Value → zMm → Prop), zSH[x0]? = some (.inl 7) → zWp d zi_56 none 65 [l0, l1, l2, l3, l4, l5, l6, l7] [.int x1, .ref x0] (zSH, I, L, P) Q = zWp d zi_56 none 68 [l0, l1, l2, l3, l4, l5, l6, l7] [] (zSH, zw I x0 (upd (I x0) 1 x1), L, P) Q) ∧
    (∀ (d : Nat) (l0 : Value) (l1 : Value) (l2 : Value) (l3 : Value) (l4 : Int32) (l5 : Value) (l6 : Value) (l7 : Value)  (h : zMm) (Q : Option Value → zMm → Prop), zWp d zi_56 none 68 [l0, l1, l2, l3, .int l4, l5, l6, l7] [] h Q = zWp d zi_56 none 70 [l0, l1, l2, l3, .int l4, l5, l6, l7] [.int l4] h Q) ∧
    (∀ (d : Nat) (l0 : Value) (l1 : Value) (l2 : Value) (l3 : Value) (l4 : Value) (l5 : Value) (l6 : Value) (l7 : Value) (x0 : Int32) (h : zMm) (Q : Option Value → zMm → Prop), zWp d zi_56 none 70 [l0, l1, l2, l3, l4, l5, l6, l7] [.int x0] h Q = zWM d 53 [.int x0] h (fun r h1 => zWp d zi_56 none 73 [l0, l1, l2, l3, l4, l5, l6, l7] (r.toList ++ []) h1 Q)) ∧
    (∀ (d : Nat) (l0 : Value) (l1 : Value) (l2 : Value) (l3 : Int32) (l4 : Value) (l5 : Value) (l6 : Value) (l7 : Value) (x0 : Int32) (h : zMm) (Q : Option Value → zMm → Prop), zWp d zi_56 none 73 [l0, l1, l2, .int l3, l4, l5, l6, l7] [.int x0] h Q = zWp d zi_56 none 75 [l0, l1, l2, .int l3, .int x0, l5, l6, l7] [] h Q) ∧
    (∀ (d : Nat) (l0 : Nat) (l1 : Value) (l2 : Value) (l3 : Value) (l4 : Value) (l5 : Value) (l6 : Value) (l7 : Value)  (h : zMm) (Q : Option Value → zMm → Prop), zWp d zi_56 none 75 [.ref l0, l1, l2, l3, l4, l5, l6, l7] [] h Q = zWp d zi_56 none 76 [.ref l0, l1, l2, l3, l4, l5, l6, l7] [.ref l0] h Q) ∧
    (∀ (d : Nat) (l0 : Value) (l1 : Value) (l2 : Value) (l3 : Value) (l4 : Value) (l5 : Value) (l6 : Value) (l7 : Value) (x0 : Nat) (I : Nat → Nat → Int32) (L : Nat → Nat → Int64) (P : Nat → Nat → Option Nat) (Q : Option Value → zMm → Prop), zSH[x0]? = some (.inl 7) → zWp d zi_56 none 76 [l0, l1, l2, l3, l4, l5, l6, l7] [.ref x0] (zSH, I, L, P) Q = zWp d zi_56 none 79 [l0, l1, l2, l3, l4, l5, l6, l7] [.int (I x0 3)] (zSH, I, L, P) Q) ∧
    (∀ (d : Nat) (l0 : Nat) (l1 : Value) (l2 : Value) (l3 : Value) (l4 : Value) (l5 : Value) (l6 : Value) (l7 : Value) (x0 : Int32) (h : zMm) (Q : Option Value → zMm → Prop), zWp d zi_56 none 79 [.ref l0, l1, l2, l3, l4, l5, l6, l7] [.int x0] h Q = zWp d zi_56 none 80 [.ref l0, l1, l2, l3, l4, l5, l6, l7] [.ref l0, .int x0] h Q) ∧
    (∀ (d : Nat) (l0 : Value) (l1 : Value) (l2 : Value) (l3 : Value) (l4 : Value) (l5 : Value) (l6 : Value) (l7 : Value) (x1 : Nat) (x0 : Int32) (I : Nat → Nat → Int32) (L : Nat → Nat → Int64) (P : Nat → Nat → Option Nat) (Q : Option Value → zMm → Prop), zSH[x1]? = some (.inl 7) → zWp d zi_56 none 80 [l0, l1, l2, l3, l4, l5, l6, l7] [.ref x1, .int x0] (zSH, I, L, P) Q = zWp d zi_56 none 83 [l0, l1, l2, l3, l4, l5, l6, l7] [.int (I x1 2), .int x0] (zSH, I, L, P) Q) ∧
    (∀ (d : Nat) (l0 : Value) (l1 : Value) (l2 : Value) (l3 : Value) (l4 : Value) (l5 : Value) (l6 : Value) (l7 : Value) (x1 : Int32) (x0 : Int32) (h : zMm) (Q : Option Value → zMm → Prop), zWp d zi_56 none 83 [l0, l1, l2, l3, l4, l5, l6, l7] [.int x1, .int x0] h Q = zWp d zi_56 none 84 [l0, l1, l2, l3, l4, l5, l6, l7] [.int (x0 >>> (x1 &&& 31))] h Q) ∧
    (∀ (d : Nat) (l0 : Value) (l1 : Value) (l2 : Value) (l3 : Value) (l4 : Value) (l5 : Value) (l6 : Value) (l7 : Value) (x0 : Int32) (h : zMm) (Q : Option Value → zMm → Prop), zWp d zi_56 none 84 [l0, l1, l2, l3, l4, l5, l6, l7] [.int x0] h Q = zWp d zi_56 none 85 [l0, l1, l2, l3, l4, l5, l6, l7] [.int 1, .int x0] h Q) ∧
    (∀ (d : Nat) (l0 : Value) (l1 : Value) (l2 : Value) (l3 : Value) (l4 : Value) (l5 : Value) (l6 : Value) (l7 : Value) (x1 : Int32) (x0 : Int32) (h : zMm) (Q : Option Value → zMm → Prop), zWp d zi_56 none 85 [l0, l1, l2, l3, l4, l5, l6, l7] [.int x1, .int x0] h Q = zWp d zi_56 none 86 [l0, l1, l2, l3, l4, l5, l6, l7] [.int (x0 &&& x1)] h Q) ∧
    (∀ (d : Nat) (l0 : Value) (l1 : Value) (l2 : Value) (l3 : Value) (l4 : Value) (l5 : Value) (l6 : Value) (l7 : Value) (x0 : Int32) (h : zMm) (Q : Option Value → zMm → Prop), zWp d zi_56 none 86 [l0, l1, l2, l3, l4, l5, l6, l7] [.int x0] h Q = zWp d zi_56 none 87 [l0, l1, l2, l3, l4, l5, l6, l7] [.int 1, .int x0] h Q) ∧
    (∀ (d : Nat) (l0 : Value) (l1 : Value) (l2 : Value) (l3 : Value) (l4 : Value) (l5 : Value) (l6 : Value) (l7 : Value) (x1 : Int32) (x0 : Int32) (h : zMm) (Q : Option Value → zMm → Prop), zWp d zi_56 none 87 [l0, l1, l2, l3, l4, l5, l6, l7] [.int x1, .int x0] h Q = if x0 = x1 then zWp d zi_56 none 90 [l0, l1, l2, l3, l4, l5, l6, l7] [] h Q else zWp d zi_56 none 94 [l0, l1, l2, l3, l4, l5, l6, l7] [] h Q) ∧
    (∀ (d : Nat) (l0 : Value) (l1 : Value) (l2 : Value) (l3 : Value) (l4 : Value) (l5 : Value) (l6 : Value) (l7 : Value)  (h : zMm) (Q : Option Value → zMm → Prop), zWp d zi_56 none 90 [l0, l1, l2, l3, l4, l5, l6, l7] [] h Q = zWp d zi_56 none 91 [l0, l1, l2, l3, l4, l5, l6, l7] [.int 1] h Q) ∧
    (∀ (d : Nat) (l0 : Value) (l1 : Value) (l2 : Value) (l3 : Value) (l4 : Value) (l5 : Value) (l6 : Value) (l7 : Value) (x0 : Int32) (h : zMm) (Q : Option Value → zMm → Prop), zWp d zi_56 none 91 [l0, l1, l2, l3, l4, l5, l6, l7] [.int x0] h Q = zWp d zi_56 none 95 [l0, l1, l2, l3, l4, l5, l6, l7] [.int x0] h Q) ∧
    (∀ (d : Nat) (l0 : Value) (l1 : Value) (l2 : Value) (l3 : Value) (l4 : Value) (l5 : Value) (l6 : Value) (l7 : Value)  (h : zMm) (Q : Option Value → zMm → Prop), zWp d zi_56 none 94 [l0, l1, l2, l3, l4, l5, l6, l7] [] h Q = zWp d zi_56 none 95 [l0, l1, l2, l3, l4, l5, l6, l7] [.int 0] h Q) ∧
    (∀ (d : Nat) (l0 : Value) (l1 : Value) (l2 : Value) (l3 : Value) (l4 : Value) (l5 : Int32) (l6 : Value) (l7 : Value) (x0 : Int32) (h : zMm) (Q : Option Value → zMm → Prop), zWp d zi_56 none 95 [l0, l1, l2, l3, l4, .int l5, l6, l7] [.int x0] h Q = zWp d zi_56 none 97 [l0, l1, l2, l3, l4, .int l5, .int x0, l7] [] h Q) ∧
    (∀ (d : Nat) (l0 : Value) (l1 : Value) (l2 : Value) (l3 : Value) (l4 : Int32) (l5 : Value) (l6 : Value) (l7 : Value)  (h : zMm) (Q : Option Value → zMm → Prop), zWp d zi_56 none 97 [l0, l1, l2, l3, .int l4, l5, l6, l7] [] h Q = zWp d zi_56 none 99 [l0, l1, l2, l3, .int l4, l5, l6, l7] [.int l4] h Q) ∧
    (∀ (d : Nat) (l0 : Value) (l1 : Value) (l2 : Value) (l3 : Value) (l4 : Value) (l5 : Value) (l6 : Value) (l7 : Value) (x0 : Int32) (h : zMm) (Q : Option Value → zMm → Prop), zWp d zi_56 none 99 [l0, l1, l2, l3, l4, l5, l6, l7] [.int x0] h Q = zWp d zi_56 none 101 [l0, l1, l2, l3, l4, l5, l6, l7] [.int 12, .int x0] h Q) ∧
    (∀ (d : Nat) (l0 : Value) (l1 : Value) (l2 : Value) (l3 : Value) (l4 : Value) (l5 : Value) (l6 : Value) (l7 : Value) (x1 : Int32) (x0 : Int32) (h : zMm) (Q : Option Value → zMm → Prop), zWp d zi_56 none 101 [l0, l1, l2, l3, l4, l5, l6, l7] [.int x1, .int x0] h Q = zWM d 54 [.int x0, .int x1] h (fun r h1 => zWp d zi_56 none 104 [l0, l1, l2, l3, l4, l5, l6, l7] (r.toList ++ []) h1 Q)) ∧
    (∀ (d : Nat) (l0 : Value) (l1 : Value) (l2 : Value) (l3 : Int32) (l4 : Value) (l5 : Value) (l6 : Value) (l7 : Value) (x0 : Int32) (h : zMm) (Q : Option Value → zMm → Prop), zWp d zi_56 none 104 [l0, l1, l2, .int l3, l4, l5, l6, l7] [.int x0] h Q = zWp d zi_56 none 105 [l0, l1, l2, .int l3, l4, l5, l6, l7] [.int l3, .int x0] h Q) ∧
    (∀ (d : Nat) (l0 : Value) (l1 : Value) (l2 : Value) (l3 : Value) (l4 : Value) (l5 : Value) (l6 : Value) (l7 : Value) (x1 : Int32) (x0 : Int32) (h : zMm) (Q : Option Value → zMm → Prop), zWp d zi_56 none 105 [l0, l1, l2, l3, l4, l5, l6, l7] [.int x1, .int x0] h Q = if x1 ≤ x0 then zWp d zi_56 none 151 [l0, l1, l2, l3, l4, l5, l6, l7] [] h Q else zWp d zi_56 none 108 [l0, l1, l2, l3, l4, l5, l6, l7] [] h Q) ∧
    (∀ (d : Nat) (l0 : Value) (l1 : Value) (l2 : Value) (l3 : Value) (l4 : Value) (l5 : Value) (l6 : Int32) (l7 : Value)  (h : zMm) (Q : Option Value → zMm → Prop), zWp d zi_56 none 108 [l0, l1, l2, l3, l4, l5, .int l6, l7] [] h Q = zWp d zi_56 none 110 [l0, l1, l2, l3, l4, l5, .int l6, l7] [.int l6] h Q) ∧
    (∀ (d : Nat) (l0 : Value) (l1 : Value) (l2 : Value) (l3 : Value) (l4 : Value) (l5 : Value) (l6 : Value) (l7 : Value) (x0 : Int32) (h : zMm) (Q : Option Value → zMm → Prop), zWp d zi_56 none 110 [l0, l1, l2, l3, l4, l5, l6, l7] [.int x0] h Q = if x0 = 0 then zWp d zi_56 none 113 [l0, l1, l2, l3, l4, l5, l6, l7] [] h Q else zWp d zi_56 none 151 [l0, l1, l2, l3, l4, l5, l6, l7] [] h Q) ∧
    (∀ (d : Nat) (l0 : Nat) (l1 : Value) (l2 : Value) (l3 : Value) (l4 : Value) (l5 : Value) (l6 : Value) (l7 : Value)  (h : zMm) (Q : Option Value → zMm → Prop), zWp d zi_56 none 113 [.ref l0, l1, l2, l3, l4, l5, l6, l7] [] h Q = zWp d zi_56 none 114 [.ref l0, l1, l2, l3, l4, l5, l6, l7] [.ref l0] h Q) ∧
    (∀ (d : Nat) (l0 : Value) (l1 : Value) (l2 : Value) (l3 : Value) (l4 : Value) (l5 : Value) (l6 : Value) (l7 : Value) (x0 : Nat) (I : Nat → Nat → Int32) (L : Nat → Nat → Int64) (P : Nat → Nat → Option Nat) (Q : Option Value → zMm → Prop), zSH[x0]? = some (.inl 7) → zWp d zi_56 none 114 [l0, l1, l2, l3, l4, l5, l6, l7] [.ref x0] (zSH, I, L, P) Q = zWp d zi_56 none 117 [l0, l1, l2, l3, l4, l5, l6, l7] [.int (I x0 0)] (zSH, I, L, P) Q) ∧
    (∀ (d : Nat) (l0 : Value) (l1 : Value) (l2 : Value) (l3 : Value) (l4 : Value) (l5 : Value) (l6 : Value) (l7 : Value) (x0 : Int32) (h : zMm) (Q : Option Value → zMm → Prop), zWp d zi_56 none 117 [l0, l1, l2, l3, l4, l5, l6, l7] [.int x0] h Q = zWp d zi_56 none 118 [l0, l1, l2, l3, l4, l5, l6, l7] [.int 2, .int x0] h Q) ∧
    (∀ (d : Nat) (l0 : Value) (l1 : Value) (l2 : Value) (l3 : Value) (l4 : Value) (l5 : Value) (l6 : Value) (l7 : Value) (x1 : Int32) (x0 : Int32) (h : zMm) (Q : Option Value → zMm → Prop), zWp d zi_56 none 118 [l0, l1, l2, l3, l4, l5, l6, l7] [.int x1, .int x0] h Q = (¬ x1 = 0 ∧ zWp d zi_56 none 119 [l0, l1, l2, l3, l4, l5, l6, l7] [.int (x0 / x1)] h Q)) ∧
    (∀ (d : Nat) (l0 : Value) (l1 : Value) (l2 : Value) (l3 : Value) (l4 : Value) (l5 : Value) (l6 : Int32) (l7 : Value) (x0 : Int32) (h : zMm) (Q : Option Value → zMm → Prop), zWp d zi_56 none 119 [l0, l1, l2, l3, l4, l5, .int l6, l7] [.int x0] h Q = zWp d zi_56 none 121 [l0, l1, l2, l3, l4, l5, .int l6, .int x0] [] h Q) ∧
    (∀ (d : Nat) (l0 : Nat) (l1 : Value) (l2 : Value) (l3 : Value) (l4 : Value) (l5 : Value) (l6 : Value) (l7 : Value)  (h : zMm) (Q : Option Value → zMm → Prop), zWp d zi_56 none 121 [.ref l0, l1, l2, l3, l4, l5, l6, l7] [] h Q = zWp d zi_56 none 122 [.ref l0, l1, l2, l3, l4, l5, l6, l7] [.ref l0] h Q) ∧
    (∀ (d : Nat) (l0 : Value) (l1 : Value) (l2 : Value) (l3 : Value) (l4 : Value) (l5 : Value) (l6 : Value) (l7 : Value) (x0 : Nat) (h : zMm) (Q : Option Value → zMm → Prop), zWp d zi_56 none 122 [l0, l1, l2, l3, l4, l5, l6, l7] [.ref x0] h Q = zWp d zi_56 none 123 [l0, l1, l2, l3, l4, l5, l6, l7] [.ref x0, .ref x0] h Q) ∧
    (∀ (d : Nat) (l0 : Value) (l1 : Value) (l2 : Value) (l3 : Value) (l4 : Value) (l5 : Value) (l6 : Value) (l7 : Value) (x1 : Nat) (x0 : Nat) (I : Nat → Nat → Int32) (L : Nat → Nat → Int64) (P : Nat → Nat → Option Nat) (Q : Option Value → zMm → Prop), zSH[x1]? = some (.inl 7) → zWp d zi_56 none 123 [l0, l1, l2, l3, l4, l5, l6, l7] [.ref x1, .ref x0] (zSH, I, L, P) Q = zWp d zi_56 none 126 [l0, l1, l2, l3, l4, l5, l6, l7] [.int (I x1 0), .ref x0] (zSH, I, L, P) Q) ∧
    (∀ (d : Nat) (l0 : Value) (l1 : Value) (l2 : Value) (l3 : Value) (l4 : Value) (l5 : Value) (l6 : Value) (l7 : Int32) (x1 : Int32) (x0 : Nat) (h : zMm) (Q : Option Value → zMm → Prop), zWp d zi_56 none 126 [l0, l1, l2, l3, l4, l5, l6, .int l7] [.int x1, .ref x0] h Q = zWp d zi_56 none 128 [l0, l1, l2, l3, l4, l5, l6, .int l7] [.int l7, .int x1, .ref x0] h Q) ∧
    (∀ (d : Nat) (l0 : Value) (l1 : Value) (l2 : Value) (l3 : Value) (l4 : Value) (l5 : Value) (l6 : Value) (l7 : Value) (x2 : Int32) (x1 : Int32) (x0 : Nat) (h : zMm) (Q : Option Value → zMm → Prop), zWp d zi_56 none 128 [l0, l1, l2, l3, l4, l5, l6, l7] [.int x2, .int x1, .ref x0] h Q = zWp d zi_56 none 129 [l0, l1, l2, l3, l4, l5, l6, l7] [.int (x1 - x2), .ref x0] h Q) ∧
    (∀ (d : Nat) (l0 : Value) (l1 : Value) (l2 : Value) (l3 : Value) (l4 : Value) (l5 : Value) (l6 : Value) (l7 : Value) (x1 : Int32) (x0 : Nat) (I : Nat → Nat → Int32) (L : Nat → Nat → Int64) (P : Nat → Nat → Option Nat) (Q : Option Value → zMm → Prop), zSH[x0]? = some (.inl 7) → zWp d zi_56 none 129 [l0, l1, l2, l3, l4, l5, l6, l7] [.int x1, .ref x0] (zSH, I, L, P) Q = zWp d zi_56 none 132 [l0, l1, l2, l3, l4, l5, l6, l7] [] (zSH, zw I x0 (upd (I x0) 0 x1), L, P) Q) ∧
    (∀ (d : Nat) (l0 : Nat) (l1 : Value) (l2 : Value) (l3 : Value) (l4 : Value) (l5 : Value) (l6 : Value) (l7 : Value)  (h : zMm) (Q : Option Value → zMm → Prop), zWp d zi_56 none 132 [.ref l0, l1, l2, l3, l4, l5, l6, l7] [] h Q = zWp d zi_56 none 133 [.ref l0, l1, l2, l3, l4, l5, l6, l7] [.ref l0] h Q) ∧
    (∀ (d : Nat) (l0 : Value) (l1 : Value) (l2 : Value) (l3 : Value) (l4 : Value) (l5 : Value) (l6 : Value) (l7 : Value) (x0 : Nat) (h : zMm) (Q : Option Value → zMm → Prop), zWp d zi_56 none 133 [l0, l1, l2, l3, l4, l5, l6, l7] [.ref x0] h Q = zWp d zi_56 none 134 [l0, l1, l2, l3, l4, l5, l6, l7] [.ref x0, .ref x0] h Q) ∧
    (∀ (d : Nat) (l0 : Value) (l1 : Value) (l2 : Value) (l3 : Value) (l4 : Value) (l5 : Value) (l6 : Value) (l7 : Value) (x1 : Nat) (x0 : Nat) (I : Nat → Nat → Int32) (L : Nat → Nat → Int64) (P : Nat → Nat → Option Nat) (Q : Option Value → zMm → Prop), zSH[x1]? = some (.inl 7) → zWp d zi_56 none 134 [l0, l1, l2, l3, l4, l5, l6, l7] [.ref x1, .ref x0] (zSH, I, L, P) Q = zWp d zi_56 none 137 [l0, l1, l2, l3, l4, l5, l6, l7] [.int (I x1 4), .ref x0] (zSH, I, L, P) Q) ∧
    (∀ (d : Nat) (l0 : Value) (l1 : Value) (l2 : Value) (l3 : Value) (l4 : Value) (l5 : Value) (l6 : Value) (l7 : Int32) (x1 : Int32) (x0 : Nat) (h : zMm) (Q : Option Value → zMm → Prop), zWp d zi_56 none 137 [l0, l1, l2, l3, l4, l5, l6, .int l7] [.int x1, .ref x0] h Q = zWp d zi_56 none 139 [l0, l1, l2, l3, l4, l5, l6, .int l7] [.int l7, .int x1, .ref x0] h Q) ∧
    (∀ (d : Nat) (l0 : Value) (l1 : Value) (l2 : Value) (l3 : Value) (l4 : Value) (l5 : Value) (l6 : Value) (l7 : Value) (x2 : Int32) (x1 : Int32) (x0 : Nat) (h : zMm) (Q : Option Value → zMm → Prop), zWp d zi_56 none 139 [l0, l1, l2, l3, l4, l5, l6, l7] [.int x2, .int x1, .ref x0] h Q = zWp d zi_56 none 140 [l0, l1, l2, l3, l4, l5, l6, l7] [.int (x1 + x2), .ref x0] h Q) ∧
    (∀ (d : Nat) (l0 : Value) (l1 : Value) (l2 : Value) (l3 : Value) (l4 : Value) (l5 : Value) (l6 : Value) (l7 : Value) (x1 : Int32) (x0 : Nat) (I : Nat → Nat → Int32) (L : Nat → Nat → Int64) (P : Nat → Nat → Option Nat) (Q : Option Value → zMm → Prop), zSH[x0]? = some (.inl 7) → zWp d zi_56 none 140 [l0, l1, l2, l3, l4, l5, l6, l7] [.int x1, .ref x0] (zSH, I, L, P) Q = zWp d zi_56 none 143 [l0, l1, l2, l3, l4, l5, l6, l7] [] (zSH, zw I x0 (upd (I x0) 4 x1), L, P) Q) ∧
    (∀ (d : Nat) (l0 : Nat) (l1 : Value) (l2 : Value) (l3 : Value) (l4 : Value) (l5 : Value) (l6 : Value) (l7 : Value)  (h : zMm) (Q : Option Value → zMm → Prop), zWp d zi_56 none 143 [.ref l0, l1, l2, l3, l4, l5, l6, l7] [] h Q = zWp d zi_56 none 144 [.ref l0, l1, l2, l3, l4, l5, l6, l7] [.ref l0] h Q) ∧
    (∀ (d : Nat) (l0 : Nat) (l1 : Value) (l2 : Value) (l3 : Value) (l4 : Value) (l5 : Value) (l6 : Value) (l7 : Value) (x0 : Nat) (h : zMm) (Q : Option Value → zMm → Prop), zWp d zi_56 none 144 [.ref l0, l1, l2, l3, l4, l5, l6, l7] [.ref x0] h Q = zWp d zi_56 none 145 [.ref l0, l1, l2, l3, l4, l5, l6, l7] [.ref l0, .ref x0] h Q) ∧
    (∀ (d : Nat) (l0 : Value) (l1 : Value) (l2 : Value) (l3 : Value) (l4 : Value) (l5 : Value) (l6 : Value) (l7 : Value) (x1 : Nat) (x0 : Nat) (I : Nat → Nat → Int32) (L : Nat → Nat → Int64) (P : Nat → Nat → Option Nat) (Q : Option Value → zMm → Prop), zSH[x1]? = some (.inl 7) → zWp d zi_56 none 145 [l0, l1, l2, l3, l4, l5, l6, l7] [.ref x1, .ref x0] (zSH, I, L, P) Q = zWp d zi_56 none 148 [l0, l1, l2, l3, l4, l5, l6, l7] [.int (I x1 2), .ref x0] (zSH, I, L, P) Q) ∧
    (∀ (d : Nat) (l0 : Value) (l1 : Value) (l2 : Value) (l3 : Value) (l4 : Value) (l5 : Value) (l6 : Value) (l7 : Value) (x1 : Int32) (x0 : Nat) (I : Nat → Nat → Int32) (L : Nat → Nat → Int64) (P : Nat → Nat → Option Nat) (Q : Option Value → zMm → Prop), zSH[x0]? = some (.inl 7) → zWp d zi_56 none 148 [l0, l1, l2, l3, l4, l5, l6, l7] [.int x1, .ref x0] (zSH, I, L, P) Q = zWp d zi_56 none 151 [l0, l1, l2, l3, l4, l5, l6, l7] [] (zSH, zw I x0 (upd (I x0) 5 x1), L, P) Q) ∧
    (∀ (d : Nat) (l0 : Nat) (l1 : Value) (l2 : Value) (l3 : Value) (l4 : Value) (l5 : Value) (l6 : Value) (l7 : Value)  (h : zMm) (Q : Option Value → zMm → Prop), zWp d zi_56 none 151 [.ref l0, l1, l2, l3, l4, l5, l6, l7] [] h Q = zWp d zi_56 none 152 [.ref l0, l1, l2, l3, l4, l5, l6, l7] [.ref l0] h Q) ∧
    (∀ (d : Nat) (l0 : Value) (l1 : Value) (l2 : Value) (l3 : Value) (l4 : Value) (l5 : Value) (l6 : Value) (l7 : Value) (x0 : Nat) (h : zMm) (Q : Option Value → zMm → Prop), zWp d zi_56 none 152 [l0, l1, l2, l3, l4, l5, l6, l7] [.ref x0] h Q = zWp d zi_56 none 153 [l0, l1, l2, l3, l4, l5, l6, l7] [.ref x0, .ref x0] h Q) ∧
    (∀ (d : Nat) (l0 : Value) (l1 : Value) (l2 : Value) (l3 : Value) (l4 : Value) (l5 : Value) (l6 : Value) (l7 : Value) (x1 : Nat) (x0 : Nat) (I : Nat → Nat → Int32) (L : Nat → Nat → Int64) (P : Nat → Nat → Option Nat) (Q : Option Value → zMm → Prop), zSH[x1]? = some (.inl 7) → zWp d zi_56 none 153 [l0, l1, l2, l3, l4, l5, l6, l7] [.ref x1, .ref x0] (zSH, I, L, P) Q = zWp d zi_56 none 156 [l0, l1, l2, l3, l4, l5, l6, l7] [.int (I x1 2), .ref x0] (zSH, I, L, P) Q) ∧
    (∀ (d : Nat) (l0 : Value) (l1 : Value) (l2 : Value) (l3 : Value) (l4 : Value) (l5 : Value) (l6 : Value) (l7 : Value) (x1 : Int32) (x0 : Nat) (h : zMm) (Q : Option Value → zMm → Prop), zWp d zi_56 none 156 [l0, l1, l2, l3, l4, l5, l6, l7] [.int x1, .ref x0] h Q = zWp d zi_56 none 157 [l0, l1, l2, l3, l4, l5, l6, l7] [.int 1, .int x1, .ref x0] h Q) ∧
    (∀ (d : Nat) (l0 : Value) (l1 : Value) (l2 : Value) (l3 : Value) (l4 : Value) (l5 : Value) (l6 : Value) (l7 : Value) (x2 : Int32) (x1 : Int32) (x0 : Nat) (h : zMm) (Q : Option Value → zMm → Prop), zWp d zi_56 none 157 [l0, l1, l2, l3, l4, l5, l6, l7] [.int x2, .int x1, .ref x0] h Q = zWp d zi_56 none 158 [l0, l1, l2, l3, l4, l5, l6, l7] [.int (x1 + x2), .ref x0] h Q) ∧
    (∀ (d : Nat) (l0 : Value) (l1 : Value) (l2 : Value) (l3 : Value) (l4 : Value) (l5 : Value) (l6 : Value) (l7 : Value) (x1 : Int32) (x0 : Nat) (I : Nat → Nat → Int32) (L : Nat → Nat → Int64) (P : Nat → Nat → Option Nat) (Q : Option Value → zMm → Prop), zSH[x0]? = some (.inl 7) → zWp d zi_56 none 158 [l0, l1, l2, l3, l4, l5, l6, l7] [.int x1, .ref x0] (zSH, I, L, P) Q = zWp d zi_56 none 161 [l0, l1, l2, l3, l4, l5, l6, l7] [] (zSH, zw I x0 (upd (I x0) 2 x1), L, P) Q) ∧
    (∀ (d : Nat) (l0 : Value) (l1 : Value) (l2 : Value) (l3 : Value) (l4 : Int32) (l5 : Int32) (l6 : Value) (l7 : Value)  (h : zMm) (Q : Option Value → zMm → Prop), zWp d zi_56 none 161 [l0, l1, l2, l3, .int l4, .int l5, l6, l7] [] h Q = zWp d zi_56 none 164 [l0, l1, l2, l3, .int l4, .int (l5 + 1), l6, l7] [] h Q) ∧
    (∀ (d : Nat) (l0 : Value) (l1 : Value) (l2 : Value) (l3 : Value) (l4 : Value) (l5 : Value) (l6 : Value) (l7 : Value)  (h : zMm) (Q : Option Value → zMm → Prop), zWp d zi_56 none 164 [l0, l1, l2, l3, l4, l5, l6, l7] [] h Q = zWp d zi_56 none 6 [l0, l1, l2, l3, l4, l5, l6, l7] [] h Q) ∧
    (∀ (d : Nat) (l0 : Value) (l1 : Value) (l2 : Value) (l3 : Value) (l4 : Value) (l5 : Value) (l6 : Value) (l7 : Value)  (h : zMm) (Q : Option Value → zMm → Prop), zWp d zi_56 none 167 [l0, l1, l2, l3, l4, l5, l6, l7] [] h Q = Q none h) :=
  ⟨(fun d l0 l1 l2 l3 l4 l5 l6 l7  h Q => zr_iload_n rfl rfl),
   (fun d l0 l1 l2 l3 l4 l5 l6 l7 x0 h Q => zr_istore (n := 4) rfl (Nat.le_of_ble_eq_true rfl) rfl),
   (fun d l0 l1 l2 l3 l4 l5 l6 l7  h Q => zr_iconst rfl (by decide)),
   (fun d l0 l1 l2 l3 l4 l5 l6 l7 x0 h Q => zr_istore (n := 5) rfl (Nat.le_of_ble_eq_true rfl) rfl),
   (fun d l0 l1 l2 l3 l4 l5 l6 l7 x0 h Q => zr_iload_n rfl rfl),
   (fun d l0 l1 l2 l3 l4 l5 l6 l7 x1 x0 h Q => zr_ic_ge rfl (by decide)),
   (fun d l0 l1 l2 l3 l4 l5 l6 l7  h Q => zr_iload rfl rfl),
   (fun d l0 l1 l2 l3 l4 l5 l6 l7 x0 h Q => zr_sta (as := [.int x0]) (rest := []) rfl lm_7_31 (by decide) m_53 kd_53 rfl (Nat.le_of_ble_eq_true rfl)),
   (fun d l0 l1 l2 l3 l4 l5 l6 l7 x0 h Q => zr_istore (n := 4) rfl (Nat.le_of_ble_eq_true rfl) rfl),
   (fun d l0 l1 l2 l3 l4 l5 l6 l7  h Q => zr_aload_n rfl rfl),
   (fun d l0 l1 l2 l3 l4 l5 l6 l7 x0 h Q => zr_bipush rfl (by decide)),
   (fun d l0 l1 l2 l3 l4 l5 l6 l7 x1 x0 h Q => zr_aload_n rfl rfl),
   (fun d l0 l1 l2 l3 l4 l5 l6 l7 x2 x1 x0 I L P Q p0 => zr_getI rfl lf_7_9 (fun _ _ _ => rfl) p0),
   (fun d l0 l1 l2 l3 l4 l5 l6 l7 x2 x1 x0 h Q => zr_iload rfl rfl),
   (fun d l0 l1 l2 l3 l4 l5 l6 l7 x3 x2 x1 x0 h Q => zr_bipush rfl (by decide)),
   (fun d l0 l1 l2 l3 l4 l5 l6 l7 x4 x3 x2 x1 x0 h Q => zr_sta (as := [.int x4, .int x3]) (rest := [.int x2, .int x1, .ref x0]) rfl lm_7_35 (by decide) m_54 kd_54 rfl (Nat.le_of_ble_eq_true rfl)),
   (fun d l0 l1 l2 l3 l4 l5 l6 l7 x3 x2 x1 x0 h Q => zr_iadd rfl),
   (fun d l0 l1 l2 l3 l4 l5 l6 l7 x2 x1 x0 h Q => zr_min rfl lm_7_39 (Nat.le_of_ble_eq_true rfl)),
   (fun d l0 l1 l2 l3 l4 l5 l6 l7 x1 x0 I L P Q p0 => zr_putI rfl lf_7_9 (by decide) rfl p0),
   (fun d l0 l1 l2 l3 l4 l5 l6 l7  h Q => zr_iload rfl rfl),
   (fun d l0 l1 l2 l3 l4 l5 l6 l7 x0 h Q => zr_sta (as := [.int x0]) (rest := []) rfl lm_7_31 (by decide) m_53 kd_53 rfl (Nat.le_of_ble_eq_true rfl)),
   (fun d l0 l1 l2 l3 l4 l5 l6 l7 x0 h Q => zr_istore (n := 4) rfl (Nat.le_of_ble_eq_true rfl) rfl),
   (fun d l0 l1 l2 l3 l4 l5 l6 l7  h Q => zr_aload_n rfl rfl),
   (fun d l0 l1 l2 l3 l4 l5 l6 l7 x0 h Q => zr_bipush rfl (by decide)),
   (fun d l0 l1 l2 l3 l4 l5 l6 l7 x1 x0 h Q => zr_aload_n rfl rfl),
   (fun d l0 l1 l2 l3 l4 l5 l6 l7 x2 x1 x0 I L P Q p0 => zr_getI rfl lf_7_15 (fun _ _ _ => rfl) p0),
   (fun d l0 l1 l2 l3 l4 l5 l6 l7 x2 x1 x0 h Q => zr_iload rfl rfl),
   (fun d l0 l1 l2 l3 l4 l5 l6 l7 x3 x2 x1 x0 h Q => zr_bipush rfl (by decide)),
   (fun d l0 l1 l2 l3 l4 l5 l6 l7 x4 x3 x2 x1 x0 h Q => zr_sta (as := [.int x4, .int x3]) (rest := [.int x2, .int x1, .ref x0]) rfl lm_7_35 (by decide) m_54 kd_54 rfl (Nat.le_of_ble_eq_true rfl)),
   (fun d l0 l1 l2 l3 l4 l5 l6 l7 x3 x2 x1 x0 h Q => zr_iadd rfl),
   (fun d l0 l1 l2 l3 l4 l5 l6 l7 x2 x1 x0 h Q => zr_min rfl lm_7_39 (Nat.le_of_ble_eq_true rfl)),
   (fun d l0 l1 l2 l3 l4 l5 l6 l7 x1 x0 I L P Q p0 => zr_putI rfl lf_7_15 (by decide) rfl p0),
   (fun d l0 l1 l2 l3 l4 l5 l6 l7  h Q => zr_iload rfl rfl),
   (fun d l0 l1 l2 l3 l4 l5 l6 l7 x0 h Q => zr_sta (as := [.int x0]) (rest := []) rfl lm_7_31 (by decide) m_53 kd_53 rfl (Nat.le_of_ble_eq_true rfl)),
   (fun d l0 l1 l2 l3 l4 l5 l6 l7 x0 h Q => zr_istore (n := 4) rfl (Nat.le_of_ble_eq_true rfl) rfl),
   (fun d l0 l1 l2 l3 l4 l5 l6 l7  h Q => zr_aload_n rfl rfl),
   (fun d l0 l1 l2 l3 l4 l5 l6 l7 x0 I L P Q p0 => zr_getI rfl lf_7_25 (fun _ _ _ => rfl) p0),
   (fun d l0 l1 l2 l3 l4 l5 l6 l7 x0 h Q => zr_aload_n rfl rfl),
   (fun d l0 l1 l2 l3 l4 l5 l6 l7 x1 x0 I L P Q p0 => zr_getI rfl lf_7_22 (fun _ _ _ => rfl) p0),
   (fun d l0 l1 l2 l3 l4 l5 l6 l7 x1 x0 h Q => zr_ishr rfl),
   (fun d l0 l1 l2 l3 l4 l5 l6 l7 x0 h Q => zr_iconst rfl (by decide)),
   (fun d l0 l1 l2 l3 l4 l5 l6 l7 x1 x0 h Q => zr_iand rfl),
   (fun d l0 l1 l2 l3 l4 l5 l6 l7 x0 h Q => zr_iconst rfl (by decide)),
   (fun d l0 l1 l2 l3 l4 l5 l6 l7 x1 x0 h Q => zr_ic_ne rfl (by decide)),
   (fun d l0 l1 l2 l3 l4 l5 l6 l7  h Q => zr_iconst rfl (by decide)),
   (fun d l0 l1 l2 l3 l4 l5 l6 l7 x0 h Q => zr_goto rfl (by decide)),
   (fun d l0 l1 l2 l3 l4 l5 l6 l7  h Q => zr_iconst rfl (by decide)),
   (fun d l0 l1 l2 l3 l4 l5 l6 l7 x0 h Q => zr_istore (n := 6) rfl (Nat.le_of_ble_eq_true rfl) rfl),
   (fun d l0 l1 l2 l3 l4 l5 l6 l7  h Q => zr_iload rfl rfl),
   (fun d l0 l1 l2 l3 l4 l5 l6 l7 x0 h Q => zr_bipush rfl (by decide)),
   (fun d l0 l1 l2 l3 l4 l5 l6 l7 x1 x0 h Q => zr_sta (as := [.int x1, .int x0]) (rest := []) rfl lm_7_35 (by decide) m_54 kd_54 rfl (Nat.le_of_ble_eq_true rfl)),
   (fun d l0 l1 l2 l3 l4 l5 l6 l7 x0 h Q => zr_iload_n rfl rfl),
   (fun d l0 l1 l2 l3 l4 l5 l6 l7 x1 x0 h Q => zr_ic_ge rfl (by decide)),
   (fun d l0 l1 l2 l3 l4 l5 l6 l7  h Q => zr_iload rfl rfl),
   (fun d l0 l1 l2 l3 l4 l5 l6 l7 x0 h Q => zr_if_ne rfl (by decide)),
   (fun d l0 l1 l2 l3 l4 l5 l6 l7  h Q => zr_aload_n rfl rfl),
   (fun d l0 l1 l2 l3 l4 l5 l6 l7 x0 I L P Q p0 => zr_getI rfl lf_7_9 (fun _ _ _ => rfl) p0),
   (fun d l0 l1 l2 l3 l4 l5 l6 l7 x0 h Q => zr_iconst rfl (by decide)),
   (fun d l0 l1 l2 l3 l4 l5 l6 l7 x1 x0 h Q => zr_idiv rfl),
   (fun d l0 l1 l2 l3 l4 l5 l6 l7 x0 h Q => zr_istore (n := 7) rfl (Nat.le_of_ble_eq_true rfl) rfl),
   (fun d l0 l1 l2 l3 l4 l5 l6 l7  h Q => zr_aload_n rfl rfl),
   (fun d l0 l1 l2 l3 l4 l5 l6 l7 x0 h Q => zr_dup rfl rfl),
   (fun d l0 l1 l2 l3 l4 l5 l6 l7 x1 x0 I L P Q p0 => zr_getI rfl lf_7_9 (fun _ _ _ => rfl) p0),
   (fun d l0 l1 l2 l3 l4 l5 l6 l7 x1 x0 h Q => zr_iload rfl rfl),
   (fun d l0 l1 l2 l3 l4 l5 l6 l7 x2 x1 x0 h Q => zr_isub rfl),
   (fun d l0 l1 l2 l3 l4 l5 l6 l7 x1 x0 I L P Q p0 => zr_putI rfl lf_7_9 (by decide) rfl p0),
   (fun d l0 l1 l2 l3 l4 l5 l6 l7  h Q => zr_aload_n rfl rfl),
   (fun d l0 l1 l2 l3 l4 l5 l6 l7 x0 h Q => zr_dup rfl rfl),
   (fun d l0 l1 l2 l3 l4 l5 l6 l7 x1 x0 I L P Q p0 => zr_getI rfl lf_7_28 (fun _ _ _ => rfl) p0),
   (fun d l0 l1 l2 l3 l4 l5 l6 l7 x1 x0 h Q => zr_iload rfl rfl),
   (fun d l0 l1 l2 l3 l4 l5 l6 l7 x2 x1 x0 h Q => zr_iadd rfl),
   (fun d l0 l1 l2 l3 l4 l5 l6 l7 x1 x0 I L P Q p0 => zr_putI rfl lf_7_28 (by decide) rfl p0),
   (fun d l0 l1 l2 l3 l4 l5 l6 l7  h Q => zr_aload_n rfl rfl),
   (fun d l0 l1 l2 l3 l4 l5 l6 l7 x0 h Q => zr_aload_n rfl rfl),
   (fun d l0 l1 l2 l3 l4 l5 l6 l7 x1 x0 I L P Q p0 => zr_getI rfl lf_7_22 (fun _ _ _ => rfl) p0),
   (fun d l0 l1 l2 l3 l4 l5 l6 l7 x1 x0 I L P Q p0 => zr_putI rfl lf_7_18 (by decide) rfl p0),
   (fun d l0 l1 l2 l3 l4 l5 l6 l7  h Q => zr_aload_n rfl rfl),
   (fun d l0 l1 l2 l3 l4 l5 l6 l7 x0 h Q => zr_dup rfl rfl),
   (fun d l0 l1 l2 l3 l4 l5 l6 l7 x1 x0 I L P Q p0 => zr_getI rfl lf_7_22 (fun _ _ _ => rfl) p0),
   (fun d l0 l1 l2 l3 l4 l5 l6 l7 x1 x0 h Q => zr_iconst rfl (by decide)),
   (fun d l0 l1 l2 l3 l4 l5 l6 l7 x2 x1 x0 h Q => zr_iadd rfl),
   (fun d l0 l1 l2 l3 l4 l5 l6 l7 x1 x0 I L P Q p0 => zr_putI rfl lf_7_22 (by decide) rfl p0),
   (fun d l0 l1 l2 l3 l4 l5 l6 l7  h Q => zr_iinc (n := 5) (kc := 1) rfl rfl (Nat.le_of_ble_eq_true rfl) rfl (by decide)),
   (fun d l0 l1 l2 l3 l4 l5 l6 l7  h Q => zr_goto rfl (by decide)),
   (fun d l0 l1 l2 l3 l4 l5 l6 l7  h Q => zr_vret rfl rfl)⟩
theorem H_X7_pass_6 : ∀ (d : Nat) (l0 : Value) (l1 : Value) (l2 : Value) (l3 : Value) (l4 : Value) (l5 : Int32) (l6 : Value) (l7 : Value)  (h : zMm) (Q : Option Value → zMm → Prop), zWp d zi_56 none 6 [l0, l1, l2, l3, l4, .int l5, l6, l7] [] h Q = zWp d zi_56 none 8 [l0, l1, l2, l3, l4, .int l5, l6, l7] [.int l5] h Q := fun d l0 l1 l2 l3 l4 l5 l6 l7  h Q => zr_iload rfl rfl
theorem E_J6_bitCount_0f7a4 : ∀ (d : Nat) (a0 : Int32) (h : zMm) (Q : Option Value → zMm → Prop), zWM (d + 1) 216 [.int a0] h Q = zWp d zi_216 none 0 [.int a0] [] h Q := fun d a0 h Q => zW_M m_216 (Nat.le_of_ble_eq_true rfl) rfl
set_option maxRecDepth 100000 in
theorem R_J6_bitCount_0f7a4 :
    (∀ (d : Nat) (l0 : Int32)  (h : zMm) (Q : Option Value → zMm → Prop), zWp d zi_216 none 0 [.int l0] [] h Q = zWp d zi_216 none 1 [.int l0] [.int l0] h Q) ∧
    (∀ (d : Nat) (l0 : Int32) (x0 : Int32) (h : zMm) (Q : Option Value → zMm → Prop), zWp d zi_216 none 1 [.int l0] [.int x0] h Q = zWp d zi_216 none 2 [.int l0] [.int l0, .int x0] h Q) ∧
    (∀ (d : Nat) (l0 : Value) (x1 : Int32) (x0 : Int32) (h : zMm) (Q : Option Value → zMm → Prop), zWp d zi_216 none 2 [l0] [.int x1, .int x0] h Q = zWp d zi_216 none 3 [l0] [.int 1, .int x1, .int x0] h Q) ∧
    (∀ (d : Nat) (l0 : Value) (x2 : Int32) (x1 : Int32) (x0 : Int32) (h : zMm) (Q : Option Value → zMm → Prop), zWp d zi_216 none 3 [l0] [.int x2, .int x1, .int x0] h Q = zWp d zi_216 none 4 [l0] [.int ((x1.toUInt32 >>> (x2.toUInt32 &&& Int32.toUInt32 31)).toInt32), .int x0] h Q) ∧
    (∀ (d : Nat) (l0 : Value) (x1 : Int32) (x0 : Int32) (h : zMm) (Q : Option Value → zMm → Prop), zWp d zi_216 none 4 [l0] [.int x1, .int x0] h Q = zWp d zi_216 none 7 [l0] [.int 1431655765, .int x1, .int x0] h Q) ∧
    (∀ (d : Nat) (l0 : Value) (x2 : Int32) (x1 : Int32) (x0 : Int32) (h : zMm) (Q : Option Value → zMm → Prop), zWp d zi_216 none 7 [l0] [.int x2, .int x1, .int x0] h Q = zWp d zi_216 none 8 [l0] [.int (x1 &&& x2), .int x0] h Q) ∧
    (∀ (d : Nat) (l0 : Value) (x1 : Int32) (x0 : Int32) (h : zMm) (Q : Option Value → zMm → Prop), zWp d zi_216 none 8 [l0] [.int x1, .int x0] h Q = zWp d zi_216 none 9 [l0] [.int (x0 - x1)] h Q) ∧
    (∀ (d : Nat) (l0 : Value) (x0 : Int32) (h : zMm) (Q : Option Value → zMm → Prop), zWp d zi_216 none 9 [l0] [.int x0] h Q = zWp d zi_216 none 10 [.int x0] [] h Q) ∧
    (∀ (d : Nat) (l0 : Int32)  (h : zMm) (Q : Option Value → zMm → Prop), zWp d zi_216 none 10 [.int l0] [] h Q = zWp d zi_216 none 11 [.int l0] [.int l0] h Q) ∧
    (∀ (d : Nat) (l0 : Value) (x0 : Int32) (h : zMm) (Q : Option Value → zMm → Prop), zWp d zi_216 none 11 [l0] [.int x0] h Q = zWp d zi_216 none 14 [l0] [.int 858993459, .int x0] h Q) ∧
    (∀ (d : Nat) (l0 : Value) (x1 : Int32) (x0 : Int32) (h : zMm) (Q : Option Value → zMm → Prop), zWp d zi_216 none 14 [l0] [.int x1, .int x0] h Q = zWp d zi_216 none 15 [l0] [.int (x0 &&& x1)] h Q) ∧
    (∀ (d : Nat) (l0 : Int32) (x0 : Int32) (h : zMm) (Q : Option Value → zMm → Prop), zWp d zi_216 none 15 [.int l0] [.int x0] h Q = zWp d zi_216 none 16 [.int l0] [.int l0, .int x0] h Q) ∧
    (∀ (d : Nat) (l0 : Value) (x1 : Int32) (x0 : Int32) (h : zMm) (Q : Option Value → zMm → Prop), zWp d zi_216 none 16 [l0] [.int x1, .int x0] h Q = zWp d zi_216 none 17 [l0] [.int 2, .int x1, .int x0] h Q) ∧
    (∀ (d : Nat) (l0 : Value) (x2 : Int32) (x1 : Int32) (x0 : Int32) (h : zMm) (Q : Option Value → zMm → Prop), zWp d zi_216 none 17 [l0] [.int x2, .int x1, .int x0] h Q = zWp d zi_216 none 18 [l0] [.int ((x1.toUInt32 >>> (x2.toUInt32 &&& Int32.toUInt32 31)).toInt32), .int x0] h Q) ∧
    (∀ (d : Nat) (l0 : Value) (x1 : Int32) (x0 : Int32) (h : zMm) (Q : Option Value → zMm → Prop), zWp d zi_216 none 18 [l0] [.int x1, .int x0] h Q = zWp d zi_216 none 21 [l0] [.int 858993459, .int x1, .int x0] h Q) ∧
    (∀ (d : Nat) (l0 : Value) (x2 : Int32) (x1 : Int32) (x0 : Int32) (h : zMm) (Q : Option Value → zMm → Prop), zWp d zi_216 none 21 [l0] [.int x2, .int x1, .int x0] h Q = zWp d zi_216 none 22 [l0] [.int (x1 &&& x2), .int x0] h Q) ∧
    (∀ (d : Nat) (l0 : Value) (x1 : Int32) (x0 : Int32) (h : zMm) (Q : Option Value → zMm → Prop), zWp d zi_216 none 22 [l0] [.int x1, .int x0] h Q = zWp d zi_216 none 23 [l0] [.int (x0 + x1)] h Q) ∧
    (∀ (d : Nat) (l0 : Value) (x0 : Int32) (h : zMm) (Q : Option Value → zMm → Prop), zWp d zi_216 none 23 [l0] [.int x0] h Q = zWp d zi_216 none 24 [.int x0] [] h Q) ∧
    (∀ (d : Nat) (l0 : Int32)  (h : zMm) (Q : Option Value → zMm → Prop), zWp d zi_216 none 24 [.int l0] [] h Q = zWp d zi_216 none 25 [.int l0] [.int l0] h Q) ∧
    (∀ (d : Nat) (l0 : Int32) (x0 : Int32) (h : zMm) (Q : Option Value → zMm → Prop), zWp d zi_216 none 25 [.int l0] [.int x0] h Q = zWp d zi_216 none 26 [.int l0] [.int l0, .int x0] h Q) ∧
    (∀ (d : Nat) (l0 : Value) (x1 : Int32) (x0 : Int32) (h : zMm) (Q : Option Value → zMm → Prop), zWp d zi_216 none 26 [l0] [.int x1, .int x0] h Q = zWp d zi_216 none 27 [l0] [.int 4, .int x1, .int x0] h Q) ∧
    (∀ (d : Nat) (l0 : Value) (x2 : Int32) (x1 : Int32) (x0 : Int32) (h : zMm) (Q : Option Value → zMm → Prop), zWp d zi_216 none 27 [l0] [.int x2, .int x1, .int x0] h Q = zWp d zi_216 none 28 [l0] [.int ((x1.toUInt32 >>> (x2.toUInt32 &&& Int32.toUInt32 31)).toInt32), .int x0] h Q) ∧
    (∀ (d : Nat) (l0 : Value) (x1 : Int32) (x0 : Int32) (h : zMm) (Q : Option Value → zMm → Prop), zWp d zi_216 none 28 [l0] [.int x1, .int x0] h Q = zWp d zi_216 none 29 [l0] [.int (x0 + x1)] h Q) ∧
    (∀ (d : Nat) (l0 : Value) (x0 : Int32) (h : zMm) (Q : Option Value → zMm → Prop), zWp d zi_216 none 29 [l0] [.int x0] h Q = zWp d zi_216 none 32 [l0] [.int 252645135, .int x0] h Q) ∧
    (∀ (d : Nat) (l0 : Value) (x1 : Int32) (x0 : Int32) (h : zMm) (Q : Option Value → zMm → Prop), zWp d zi_216 none 32 [l0] [.int x1, .int x0] h Q = zWp d zi_216 none 33 [l0] [.int (x0 &&& x1)] h Q) ∧
    (∀ (d : Nat) (l0 : Value) (x0 : Int32) (h : zMm) (Q : Option Value → zMm → Prop), zWp d zi_216 none 33 [l0] [.int x0] h Q = zWp d zi_216 none 34 [.int x0] [] h Q) ∧
    (∀ (d : Nat) (l0 : Int32)  (h : zMm) (Q : Option Value → zMm → Prop), zWp d zi_216 none 34 [.int l0] [] h Q = zWp d zi_216 none 35 [.int l0] [.int l0] h Q) ∧
    (∀ (d : Nat) (l0 : Int32) (x0 : Int32) (h : zMm) (Q : Option Value → zMm → Prop), zWp d zi_216 none 35 [.int l0] [.int x0] h Q = zWp d zi_216 none 36 [.int l0] [.int l0, .int x0] h Q) ∧
    (∀ (d : Nat) (l0 : Value) (x1 : Int32) (x0 : Int32) (h : zMm) (Q : Option Value → zMm → Prop), zWp d zi_216 none 36 [l0] [.int x1, .int x0] h Q = zWp d zi_216 none 38 [l0] [.int 8, .int x1, .int x0] h Q) ∧
    (∀ (d : Nat) (l0 : Value) (x2 : Int32) (x1 : Int32) (x0 : Int32) (h : zMm) (Q : Option Value → zMm → Prop), zWp d zi_216 none 38 [l0] [.int x2, .int x1, .int x0] h Q = zWp d zi_216 none 39 [l0] [.int ((x1.toUInt32 >>> (x2.toUInt32 &&& Int32.toUInt32 31)).toInt32), .int x0] h Q) ∧
    (∀ (d : Nat) (l0 : Value) (x1 : Int32) (x0 : Int32) (h : zMm) (Q : Option Value → zMm → Prop), zWp d zi_216 none 39 [l0] [.int x1, .int x0] h Q = zWp d zi_216 none 40 [l0] [.int (x0 + x1)] h Q) ∧
    (∀ (d : Nat) (l0 : Value) (x0 : Int32) (h : zMm) (Q : Option Value → zMm → Prop), zWp d zi_216 none 40 [l0] [.int x0] h Q = zWp d zi_216 none 41 [.int x0] [] h Q) ∧
    (∀ (d : Nat) (l0 : Int32)  (h : zMm) (Q : Option Value → zMm → Prop), zWp d zi_216 none 41 [.int l0] [] h Q = zWp d zi_216 none 42 [.int l0] [.int l0] h Q) ∧
    (∀ (d : Nat) (l0 : Int32) (x0 : Int32) (h : zMm) (Q : Option Value → zMm → Prop), zWp d zi_216 none 42 [.int l0] [.int x0] h Q = zWp d zi_216 none 43 [.int l0] [.int l0, .int x0] h Q) ∧
    (∀ (d : Nat) (l0 : Value) (x1 : Int32) (x0 : Int32) (h : zMm) (Q : Option Value → zMm → Prop), zWp d zi_216 none 43 [l0] [.int x1, .int x0] h Q = zWp d zi_216 none 45 [l0] [.int 16, .int x1, .int x0] h Q) ∧
    (∀ (d : Nat) (l0 : Value) (x2 : Int32) (x1 : Int32) (x0 : Int32) (h : zMm) (Q : Option Value → zMm → Prop), zWp d zi_216 none 45 [l0] [.int x2, .int x1, .int x0] h Q = zWp d zi_216 none 46 [l0] [.int ((x1.toUInt32 >>> (x2.toUInt32 &&& Int32.toUInt32 31)).toInt32), .int x0] h Q) ∧
    (∀ (d : Nat) (l0 : Value) (x1 : Int32) (x0 : Int32) (h : zMm) (Q : Option Value → zMm → Prop), zWp d zi_216 none 46 [l0] [.int x1, .int x0] h Q = zWp d zi_216 none 47 [l0] [.int (x0 + x1)] h Q) ∧
    (∀ (d : Nat) (l0 : Value) (x0 : Int32) (h : zMm) (Q : Option Value → zMm → Prop), zWp d zi_216 none 47 [l0] [.int x0] h Q = zWp d zi_216 none 48 [.int x0] [] h Q) ∧
    (∀ (d : Nat) (l0 : Int32)  (h : zMm) (Q : Option Value → zMm → Prop), zWp d zi_216 none 48 [.int l0] [] h Q = zWp d zi_216 none 49 [.int l0] [.int l0] h Q) ∧
    (∀ (d : Nat) (l0 : Value) (x0 : Int32) (h : zMm) (Q : Option Value → zMm → Prop), zWp d zi_216 none 49 [l0] [.int x0] h Q = zWp d zi_216 none 51 [l0] [.int 63, .int x0] h Q) ∧
    (∀ (d : Nat) (l0 : Value) (x1 : Int32) (x0 : Int32) (h : zMm) (Q : Option Value → zMm → Prop), zWp d zi_216 none 51 [l0] [.int x1, .int x0] h Q = zWp d zi_216 none 52 [l0] [.int (x0 &&& x1)] h Q) ∧
    (∀ (d : Nat) (l0 : Value) (x0 : Int32) (h : zMm) (Q : Option Value → zMm → Prop), zWp d zi_216 none 52 [l0] [.int x0] h Q = Q (some (.int x0)) h) :=
  ⟨(fun d l0  h Q => zr_iload_n rfl rfl),
   (fun d l0 x0 h Q => zr_iload_n rfl rfl),
   (fun d l0 x1 x0 h Q => zr_iconst rfl (by decide)),
   (fun d l0 x2 x1 x0 h Q => zr_iushr rfl),
   (fun d l0 x1 x0 h Q => zr_ldc_w rfl lk_11_265),
   (fun d l0 x2 x1 x0 h Q => zr_iand rfl),
   (fun d l0 x1 x0 h Q => zr_isub rfl),
   (fun d l0 x0 h Q => zr_istore_n (n := 0) rfl (Nat.le_of_ble_eq_true rfl) rfl),
   (fun d l0  h Q => zr_iload_n rfl rfl),
   (fun d l0 x0 h Q => zr_ldc_w rfl lk_11_266),
   (fun d l0 x1 x0 h Q => zr_iand rfl),
   (fun d l0 x0 h Q => zr_iload_n rfl rfl),
   (fun d l0 x1 x0 h Q => zr_iconst rfl (by decide)),
   (fun d l0 x2 x1 x0 h Q => zr_iushr rfl),
   (fun d l0 x1 x0 h Q => zr_ldc_w rfl lk_11_266),
   (fun d l0 x2 x1 x0 h Q => zr_iand rfl),
   (fun d l0 x1 x0 h Q => zr_iadd rfl),
   (fun d l0 x0 h Q => zr_istore_n (n := 0) rfl (Nat.le_of_ble_eq_true rfl) rfl),
   (fun d l0  h Q => zr_iload_n rfl rfl),
   (fun d l0 x0 h Q => zr_iload_n rfl rfl),
   (fun d l0 x1 x0 h Q => zr_iconst rfl (by decide)),
   (fun d l0 x2 x1 x0 h Q => zr_iushr rfl),
   (fun d l0 x1 x0 h Q => zr_iadd rfl),
   (fun d l0 x0 h Q => zr_ldc_w rfl lk_11_267),
   (fun d l0 x1 x0 h Q => zr_iand rfl),
   (fun d l0 x0 h Q => zr_istore_n (n := 0) rfl (Nat.le_of_ble_eq_true rfl) rfl),
   (fun d l0  h Q => zr_iload_n rfl rfl),
   (fun d l0 x0 h Q => zr_iload_n rfl rfl),
   (fun d l0 x1 x0 h Q => zr_bipush rfl (by decide)),
   (fun d l0 x2 x1 x0 h Q => zr_iushr rfl),
   (fun d l0 x1 x0 h Q => zr_iadd rfl),
   (fun d l0 x0 h Q => zr_istore_n (n := 0) rfl (Nat.le_of_ble_eq_true rfl) rfl),
   (fun d l0  h Q => zr_iload_n rfl rfl),
   (fun d l0 x0 h Q => zr_iload_n rfl rfl),
   (fun d l0 x1 x0 h Q => zr_bipush rfl (by decide)),
   (fun d l0 x2 x1 x0 h Q => zr_iushr rfl),
   (fun d l0 x1 x0 h Q => zr_iadd rfl),
   (fun d l0 x0 h Q => zr_istore_n (n := 0) rfl (Nat.le_of_ble_eq_true rfl) rfl),
   (fun d l0  h Q => zr_iload_n rfl rfl),
   (fun d l0 x0 h Q => zr_bipush rfl (by decide)),
   (fun d l0 x1 x0 h Q => zr_iand rfl),
   (fun d l0 x0 h Q => zr_iret rfl rfl)⟩
