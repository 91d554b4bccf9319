theorem E_X9_cracks : ∀ (d : Nat) (a0 : Nat) (a1 : Int32) (a2 : Int32) (h : zMm) (Q : Option Value → zMm → Prop), zWM (d + 1) 97 [.ref a0, .int a1, .int a2] h Q = zWp d zi_97 none 0 [.ref a0, .int a1, .int a2] [] h Q := fun d a0 a1 a2 h Q => zW_M m_97 (Nat.le_of_ble_eq_true rfl) rfl
set_option maxRecDepth 100000 in
theorem R_X9_cracks :
    (∀ (d : Nat) (l0 : Nat) (l1 : Value) (l2 : Value)  (h : zMm) (Q : Option Value → zMm → Prop), zWp d zi_97 none 0 [.ref l0, l1, l2] [] h Q = zWp d zi_97 none 1 [.ref l0, l1, l2] [.ref l0] h Q) ∧
    (∀ (d : Nat) (l0 : Value) (l1 : Value) (l2 : Value) (x0 : Nat) (I : Nat → Nat → Int32) (L : Nat → Nat → Int64) (P : Nat → Nat → Option Nat) (Q : Option Value → zMm → Prop), zSH[x0]? = some (.inl 9) → zWp d zi_97 none 1 [l0, l1, l2] [.ref x0] (zSH, I, L, P) Q = zWp d zi_97 none 4 [l0, l1, l2] [va_rf (P x0 2)] (zSH, I, L, P) Q) ∧
    (∀ (d : Nat) (l0 : Value) (l1 : Int32) (l2 : Value) (x0 : Nat) (h : zMm) (Q : Option Value → zMm → Prop), zWp d zi_97 none 4 [l0, .int l1, l2] [.ref x0] h Q = zWp d zi_97 none 5 [l0, .int l1, l2] [.int l1, .ref x0] h Q) ∧
    (∀ (d : Nat) (l0 : Value) (l1 : Value) (l2 : Value) (x1 : Int32) (x0 : Nat) (I : Nat → Nat → Int32) (L : Nat → Nat → Int64) (P : Nat → Nat → Option Nat) (Q : Option Value → zMm → Prop), zSH[x0]? = some (.inl 3) → zWp d zi_97 none 5 [l0, l1, l2] [.int x1, .ref x0] (zSH, I, L, P) Q = zWM d 22 [.ref x0, .int x1] (zSH, I, L, P) (fun r h1 => zWp d zi_97 none 8 [l0, l1, l2] (r.toList ++ []) h1 Q)) ∧
    (∀ (d : Nat) (l0 : Value) (l1 : Value) (l2 : Value) (x0 : Int32) (h : zMm) (Q : Option Value → zMm → Prop), zWp d zi_97 none 8 [l0, l1, l2] [.int x0] h Q = if x0 = 0 then zWp d zi_97 none 20 [l0, l1, l2] [] h Q else zWp d zi_97 none 11 [l0, l1, l2] [] h Q) ∧
    (∀ (d : Nat) (l0 : Value) (l1 : Value) (l2 : Int32)  (h : zMm) (Q : Option Value → zMm → Prop), zWp d zi_97 none 11 [l0, l1, .int l2] [] h Q = zWp d zi_97 none 12 [l0, l1, .int l2] [.int l2] h Q) ∧
    (∀ (d : Nat) (l0 : Value) (l1 : Value) (l2 : Value) (x0 : Int32) (h : zMm) (Q : Option Value → zMm → Prop), zWp d zi_97 none 12 [l0, l1, l2] [.int x0] h Q = if x0 < 0 then zWp d zi_97 none 20 [l0, l1, l2] [] h Q else zWp d zi_97 none 15 [l0, l1, l2] [] h Q) ∧
    (∀ (d : Nat) (l0 : Value) (l1 : Value) (l2 : Int32)  (h : zMm) (Q : Option Value → zMm → Prop), zWp d zi_97 none 15 [l0, l1, .int l2] [] h Q = zWp d zi_97 none 16 [l0, l1, .int l2] [.int l2] h Q) ∧
    (∀ (d : Nat) (l0 : Value) (l1 : Value) (l2 : Value) (x0 : Int32) (h : zMm) (Q : Option Value → zMm → Prop), zWp d zi_97 none 16 [l0, l1, l2] [.int x0] h Q = zWp d zi_97 none 17 [l0, l1, l2] [.int 1, .int x0] h Q) ∧
    (∀ (d : Nat) (l0 : Value) (l1 : Value) (l2 : Value) (x1 : Int32) (x0 : Int32) (h : zMm) (Q : Option Value → zMm → Prop), zWp d zi_97 none 17 [l0, l1, l2] [.int x1, .int x0] h Q = if x0 ≤ x1 then zWp d zi_97 none 22 [l0, l1, l2] [] h Q else zWp d zi_97 none 20 [l0, l1, l2] [] h Q) ∧
    (∀ (d : Nat) (l0 : Value) (l1 : Value) (l2 : Value)  (h : zMm) (Q : Option Value → zMm → Prop), zWp d zi_97 none 20 [l0, l1, l2] [] h Q = zWp d zi_97 none 21 [l0, l1, l2] [.int (-1)] h Q) ∧
    (∀ (d : Nat) (l0 : Value) (l1 : Value) (l2 : Value) (x0 : Int32) (h : zMm) (Q : Option Value → zMm → Prop), zWp d zi_97 none 21 [l0, l1, l2] [.int x0] h Q = Q (some (.int x0)) h) ∧
    (∀ (d : Nat) (l0 : Value) (l1 : Value) (l2 : Int32)  (h : zMm) (Q : Option Value → zMm → Prop), zWp d zi_97 none 22 [l0, l1, .int l2] [] h Q = zWp d zi_97 none 23 [l0, l1, .int l2] [.int l2] h Q) ∧
    (∀ (d : Nat) (l0 : Value) (l1 : Value) (l2 : Value) (x0 : Int32) (h : zMm) (Q : Option Value → zMm → Prop), zWp d zi_97 none 23 [l0, l1, l2] [.int x0] h Q = if x0 = 0 then zWp d zi_97 none 26 [l0, l1, l2] [] h Q else zWp d zi_97 none 41 [l0, l1, l2] [] h Q) ∧
    (∀ (d : Nat) (l0 : Nat) (l1 : Value) (l2 : Value)  (h : zMm) (Q : Option Value → zMm → Prop), zWp d zi_97 none 26 [.ref l0, l1, l2] [] h Q = zWp d zi_97 none 27 [.ref l0, l1, l2] [.ref l0] h Q) ∧
    (∀ (d : Nat) (l0 : Value) (l1 : Value) (l2 : Value) (x0 : Nat) (I : Nat → Nat → Int32) (L : Nat → Nat → Int64) (P : Nat → Nat → Option Nat) (Q : Option Value → zMm → Prop), zSH[x0]? = some (.inl 9) → zWp d zi_97 none 27 [l0, l1, l2] [.ref x0] (zSH, I, L, P) Q = zWp d zi_97 none 30 [l0, l1, l2] [va_rf (P x0 2)] (zSH, I, L, P) Q) ∧
    (∀ (d : Nat) (l0 : Value) (l1 : Int32) (l2 : Value) (x0 : Nat) (h : zMm) (Q : Option Value → zMm → Prop), zWp d zi_97 none 30 [l0, .int l1, l2] [.ref x0] h Q = zWp d zi_97 none 31 [l0, .int l1, l2] [.int l1, .ref x0] h Q) ∧
    (∀ (d : Nat) (l0 : Nat) (l1 : Value) (l2 : Value) (x1 : Int32) (x0 : Nat) (h : zMm) (Q : Option Value → zMm → Prop), zWp d zi_97 none 31 [.ref l0, l1, l2] [.int x1, .ref x0] h Q = zWp d zi_97 none 32 [.ref l0, l1, l2] [.ref l0, .int x1, .ref x0] h Q) ∧
    (∀ (d : Nat) (l0 : Value) (l1 : Value) (l2 : Value) (x2 : Nat) (x1 : Int32) (x0 : Nat) (I : Nat → Nat → Int32) (L : Nat → Nat → Int64) (P : Nat → Nat → Option Nat) (Q : Option Value → zMm → Prop), zSH[x2]? = some (.inl 9) → zWp d zi_97 none 32 [l0, l1, l2] [.ref x2, .int x1, .ref x0] (zSH, I, L, P) Q = zWM d 99 [.ref x2] (zSH, I, L, P) (fun r h1 => zWp d zi_97 none 35 [l0, l1, l2] (r.toList ++ [.int x1, .ref x0]) h1 Q)) ∧
    (∀ (d : Nat) (l0 : Value) (l1 : Value) (l2 : Value) (x2 : Nat) (x1 : Int32) (x0 : Nat) (I : Nat → Nat → Int32) (L : Nat → Nat → Int64) (P : Nat → Nat → Option Nat) (Q : Option Value → zMm → Prop), zSH[x0]? = some (.inl 3) → zWp d zi_97 none 35 [l0, l1, l2] [.ref x2, .int x1, .ref x0] (zSH, I, L, P) Q = zWM d 27 [.ref x0, .int x1, .ref x2] (zSH, I, L, P) (fun r h1 => zWp d zi_97 none 38 [l0, l1, l2] (r.toList ++ []) h1 Q)) ∧
    (∀ (d : Nat) (l0 : Value) (l1 : Value) (l2 : Value) (x0 : Int32) (h : zMm) (Q : Option Value → zMm → Prop), zWp d zi_97 none 38 [l0, l1, l2] [.int x0] h Q = zWp d zi_97 none 53 [l0, l1, l2] [.int x0] h Q) ∧
    (∀ (d : Nat) (l0 : Nat) (l1 : Value) (l2 : Value)  (h : zMm) (Q : Option Value → zMm → Prop), zWp d zi_97 none 41 [.ref l0, l1, l2] [] h Q = zWp d zi_97 none 42 [.ref l0, l1, l2] [.ref l0] h Q) ∧
    (∀ (d : Nat) (l0 : Value) (l1 : Value) (l2 : Value) (x0 : Nat) (I : Nat → Nat → Int32) (L : Nat → Nat → Int64) (P : Nat → Nat → Option Nat) (Q : Option Value → zMm → Prop), zSH[x0]? = some (.inl 9) → zWp d zi_97 none 42 [l0, l1, l2] [.ref x0] (zSH, I, L, P) Q = zWp d zi_97 none 45 [l0, l1, l2] [va_rf (P x0 2)] (zSH, I, L, P) Q) ∧
    (∀ (d : Nat) (l0 : Value) (l1 : Int32) (l2 : Value) (x0 : Nat) (h : zMm) (Q : Option Value → zMm → Prop), zWp d zi_97 none 45 [l0, .int l1, l2] [.ref x0] h Q = zWp d zi_97 none 46 [l0, .int l1, l2] [.int l1, .ref x0] h Q) ∧
    (∀ (d : Nat) (l0 : Nat) (l1 : Value) (l2 : Value) (x1 : Int32) (x0 : Nat) (h : zMm) (Q : Option Value → zMm → Prop), zWp d zi_97 none 46 [.ref l0, l1, l2] [.int x1, .ref x0] h Q = zWp d zi_97 none 47 [.ref l0, l1, l2] [.ref l0, .int x1, .ref x0] h Q) ∧
    (∀ (d : Nat) (l0 : Value) (l1 : Value) (l2 : Value) (x2 : Nat) (x1 : Int32) (x0 : Nat) (I : Nat → Nat → Int32) (L : Nat → Nat → Int64) (P : Nat → Nat → Option Nat) (Q : Option Value → zMm → Prop), zSH[x2]? = some (.inl 9) → zWp d zi_97 none 47 [l0, l1, l2] [.ref x2, .int x1, .ref x0] (zSH, I, L, P) Q = zWM d 99 [.ref x2] (zSH, I, L, P) (fun r h1 => zWp d zi_97 none 50 [l0, l1, l2] (r.toList ++ [.int x1, .ref x0]) h1 Q)) ∧
    (∀ (d : Nat) (l0 : Value) (l1 : Value) (l2 : Value) (x2 : Nat) (x1 : Int32) (x0 : Nat) (I : Nat → Nat → Int32) (L : Nat → Nat → Int64) (P : Nat → Nat → Option Nat) (Q : Option Value → zMm → Prop), zSH[x0]? = some (.inl 3) → zWp d zi_97 none 50 [l0, l1, l2] [.ref x2, .int x1, .ref x0] (zSH, I, L, P) Q = zWM d 28 [.ref x0, .int x1, .ref x2] (zSH, I, L, P) (fun r h1 => zWp d zi_97 none 53 [l0, l1, l2] (r.toList ++ []) h1 Q)) ∧
    (∀ (d : Nat) (l0 : Value) (l1 : Value) (l2 : Value) (x0 : Int32) (h : zMm) (Q : Option Value → zMm → Prop), zWp d zi_97 none 53 [l0, l1, l2] [.int x0] h Q = Q (some (.int x0)) h) :=
  ⟨(fun d l0 l1 l2  h Q => zr_aload_n rfl rfl),
   (fun d l0 l1 l2 x0 I L P Q p0 => zr_getQ rfl lf_9_22 (fun _ _ _ => rfl) p0),
   (fun d l0 l1 l2 x0 h Q => zr_iload_n rfl rfl),
   (fun d l0 l1 l2 x1 x0 I L P Q p0 => zr_vir (as := [.int x1]) (rest := []) rfl lm_9_167 m_22 kd_22 rfl (Nat.le_of_ble_eq_true rfl) p0),
   (fun d l0 l1 l2 x0 h Q => zr_if_eq rfl (by decide)),
   (fun d l0 l1 l2  h Q => zr_iload_n rfl rfl),
   (fun d l0 l1 l2 x0 h Q => zr_if_lt rfl (by decide)),
   (fun d l0 l1 l2  h Q => zr_iload_n rfl rfl),
   (fun d l0 l1 l2 x0 h Q => zr_iconst rfl (by decide)),
   (fun d l0 l1 l2 x1 x0 h Q => zr_ic_le rfl (by decide)),
   (fun d l0 l1 l2  h Q => zr_iconst rfl (by decide)),
   (fun d l0 l1 l2 x0 h Q => zr_iret rfl rfl),
   (fun d l0 l1 l2  h Q => zr_iload_n rfl rfl),
   (fun d l0 l1 l2 x0 h Q => zr_if_ne rfl (by decide)),
   (fun d l0 l1 l2  h Q => zr_aload_n rfl rfl),
   (fun d l0 l1 l2 x0 I L P Q p0 => zr_getQ rfl lf_9_22 (fun _ _ _ => rfl) p0),
   (fun d l0 l1 l2 x0 h Q => zr_iload_n rfl rfl),
   (fun d l0 l1 l2 x1 x0 h Q => zr_aload_n rfl rfl),
   (fun d l0 l1 l2 x2 x1 x0 I L P Q p0 => zr_vir (as := []) (rest := [.int x1, .ref x0]) rfl lm_9_247 m_99 kd_99 rfl (Nat.le_of_ble_eq_true rfl) p0),
   (fun d l0 l1 l2 x2 x1 x0 I L P Q p0 => zr_vir (as := [.ref x2, .int x1]) (rest := []) rfl lm_9_270 m_27 kd_27 rfl (Nat.le_of_ble_eq_true rfl) p0),
   (fun d l0 l1 l2 x0 h Q => zr_goto rfl (by decide)),
   (fun d l0 l1 l2  h Q => zr_aload_n rfl rfl),
   (fun d l0 l1 l2 x0 I L P Q p0 => zr_getQ rfl lf_9_22 (fun _ _ _ => rfl) p0),
   (fun d l0 l1 l2 x0 h Q => zr_iload_n rfl rfl),
   (fun d l0 l1 l2 x1 x0 h Q => zr_aload_n rfl rfl),
   (fun d l0 l1 l2 x2 x1 x0 I L P Q p0 => zr_vir (as := []) (rest := [.int x1, .ref x0]) rfl lm_9_247 m_99 kd_99 rfl (Nat.le_of_ble_eq_true rfl) p0),
   (fun d l0 l1 l2 x2 x1 x0 I L P Q p0 => zr_vir (as := [.ref x2, .int x1]) (rest := []) rfl lm_9_274 m_28 kd_28 rfl (Nat.le_of_ble_eq_true rfl) p0),
   (fun d l0 l1 l2 x0 h Q => zr_iret rfl rfl)⟩
theorem E_X9_boarded : ∀ (d : Nat) (a0 : Nat) (a1 : Int32) (h : zMm) (Q : Option Value → zMm → Prop), zWM (d + 1) 98 [.ref a0, .int a1] h Q = zWp d zi_98 none 0 [.ref a0, .int a1, .retAddr 0, .retAddr 0, .retAddr 0] [] h Q := fun d a0 a1 h Q => zW_M m_98 (Nat.le_of_ble_eq_true rfl) rfl
set_option maxRecDepth 100000 in
theorem R_X9_boarded :
    (∀ (d : Nat) (l0 : Value) (l1 : Int32) (l2 : Value) (l3 : Value) (l4 : Value)  (h : zMm) (Q : Option Value → zMm → Prop), zWp d zi_98 none 0 [l0, .int l1, l2, l3, l4] [] h Q = zWp d zi_98 none 1 [l0, .int l1, l2, l3, l4] [.int l1] h Q) ∧
    (∀ (d : Nat) (l0 : Value) (l1 : Value) (l2 : Value) (l3 : Value) (l4 : Value) (x0 : Int32) (h : zMm) (Q : Option Value → zMm → Prop), zWp d zi_98 none 1 [l0, l1, l2, l3, l4] [.int x0] h Q = zWp d zi_98 none 2 [l0, l1, l2, l3, l4] [.int (-1), .int x0] h Q) ∧
    (∀ (d : Nat) (l0 : Value) (l1 : Value) (l2 : Value) (l3 : Value) (l4 : Value) (x1 : Int32) (x0 : Int32) (h : zMm) (Q : Option Value → zMm → Prop), zWp d zi_98 none 2 [l0, l1, l2, l3, l4] [.int x1, .int x0] h Q = if x0 = x1 then zWp d zi_98 none 33 [l0, l1, l2, l3, l4] [] h Q else zWp d zi_98 none 5 [l0, l1, l2, l3, l4] [] h Q) ∧
    (∀ (d : Nat) (l0 : Nat) (l1 : Value) (l2 : Value) (l3 : Value) (l4 : Value)  (h : zMm) (Q : Option Value → zMm → Prop), zWp d zi_98 none 5 [.ref l0, l1, l2, l3, l4] [] h Q = zWp d zi_98 none 6 [.ref l0, l1, l2, l3, l4] [.ref l0] h Q) ∧
    (∀ (d : Nat) (l0 : Value) (l1 : Value) (l2 : Value) (l3 : Value) (l4 : Value) (x0 : Nat) (I : Nat → Nat → Int32) (L : Nat → Nat → Int64) (P : Nat → Nat → Option Nat) (Q : Option Value → zMm → Prop), zSH[x0]? = some (.inl 9) → zWp d zi_98 none 6 [l0, l1, l2, l3, l4] [.ref x0] (zSH, I, L, P) Q = zWp d zi_98 none 9 [l0, l1, l2, l3, l4] [va_rf (P x0 2)] (zSH, I, L, P) Q) ∧
    (∀ (d : Nat) (l0 : Value) (l1 : Int32) (l2 : Value) (l3 : Value) (l4 : Value) (x0 : Nat) (h : zMm) (Q : Option Value → zMm → Prop), zWp d zi_98 none 9 [l0, .int l1, l2, l3, l4] [.ref x0] h Q = zWp d zi_98 none 10 [l0, .int l1, l2, l3, l4] [.int l1, .ref x0] h Q) ∧
    (∀ (d : Nat) (l0 : Value) (l1 : Value) (l2 : Value) (l3 : Value) (l4 : Value) (x1 : Int32) (x0 : Nat) (I : Nat → Nat → Int32) (L : Nat → Nat → Int64) (P : Nat → Nat → Option Nat) (Q : Option Value → zMm → Prop), zSH[x0]? = some (.inl 3) → zWp d zi_98 none 10 [l0, l1, l2, l3, l4] [.int x1, .ref x0] (zSH, I, L, P) Q = zWM d 22 [.ref x0, .int x1] (zSH, I, L, P) (fun r h1 => zWp d zi_98 none 13 [l0, l1, l2, l3, l4] (r.toList ++ []) h1 Q)) ∧
    (∀ (d : Nat) (l0 : Value) (l1 : Value) (l2 : Value) (l3 : Value) (l4 : Value) (x0 : Int32) (h : zMm) (Q : Option Value → zMm → Prop), zWp d zi_98 none 13 [l0, l1, l2, l3, l4] [.int x0] h Q = if x0 = 0 then zWp d zi_98 none 31 [l0, l1, l2, l3, l4] [] h Q else zWp d zi_98 none 16 [l0, l1, l2, l3, l4] [] h Q) ∧
    (∀ (d : Nat) (l0 : Nat) (l1 : Value) (l2 : Value) (l3 : Value) (l4 : Value)  (h : zMm) (Q : Option Value → zMm → Prop), zWp d zi_98 none 16 [.ref l0, l1, l2, l3, l4] [] h Q = zWp d zi_98 none 17 [.ref l0, l1, l2, l3, l4] [.ref l0] h Q) ∧
    (∀ (d : Nat) (l0 : Value) (l1 : Value) (l2 : Value) (l3 : Value) (l4 : Value) (x0 : Nat) (I : Nat → Nat → Int32) (L : Nat → Nat → Int64) (P : Nat → Nat → Option Nat) (Q : Option Value → zMm → Prop), zSH[x0]? = some (.inl 9) → zWp d zi_98 none 17 [l0, l1, l2, l3, l4] [.ref x0] (zSH, I, L, P) Q = zWp d zi_98 none 20 [l0, l1, l2, l3, l4] [va_rf (P x0 2)] (zSH, I, L, P) Q) ∧
    (∀ (d : Nat) (l0 : Value) (l1 : Int32) (l2 : Value) (l3 : Value) (l4 : Value) (x0 : Nat) (h : zMm) (Q : Option Value → zMm → Prop), zWp d zi_98 none 20 [l0, .int l1, l2, l3, l4] [.ref x0] h Q = zWp d zi_98 none 21 [l0, .int l1, l2, l3, l4] [.int l1, .ref x0] h Q) ∧
    (∀ (d : Nat) (l0 : Nat) (l1 : Value) (l2 : Value) (l3 : Value) (l4 : Value) (x1 : Int32) (x0 : Nat) (h : zMm) (Q : Option Value → zMm → Prop), zWp d zi_98 none 21 [.ref l0, l1, l2, l3, l4] [.int x1, .ref x0] h Q = zWp d zi_98 none 22 [.ref l0, l1, l2, l3, l4] [.ref l0, .int x1, .ref x0] h Q) ∧
    (∀ (d : Nat) (l0 : Value) (l1 : Value) (l2 : Value) (l3 : Value) (l4 : Value) (x2 : Nat) (x1 : Int32) (x0 : Nat) (I : Nat → Nat → Int32) (L : Nat → Nat → Int64) (P : Nat → Nat → Option Nat) (Q : Option Value → zMm → Prop), zSH[x2]? = some (.inl 9) → zWp d zi_98 none 22 [l0, l1, l2, l3, l4] [.ref x2, .int x1, .ref x0] (zSH, I, L, P) Q = zWM d 99 [.ref x2] (zSH, I, L, P) (fun r h1 => zWp d zi_98 none 25 [l0, l1, l2, l3, l4] (r.toList ++ [.int x1, .ref x0]) h1 Q)) ∧
    (∀ (d : Nat) (l0 : Value) (l1 : Value) (l2 : Value) (l3 : Value) (l4 : Value) (x2 : Nat) (x1 : Int32) (x0 : Nat) (I : Nat → Nat → Int32) (L : Nat → Nat → Int64) (P : Nat → Nat → Option Nat) (Q : Option Value → zMm → Prop), zSH[x0]? = some (.inl 3) → zWp d zi_98 none 25 [l0, l1, l2, l3, l4] [.ref x2, .int x1, .ref x0] (zSH, I, L, P) Q = zWM d 29 [.ref x0, .int x1, .ref x2] (zSH, I, L, P) (fun r h1 => zWp d zi_98 none 28 [l0, l1, l2, l3, l4] (r.toList ++ []) h1 Q)) ∧
    (∀ (d : Nat) (l0 : Value) (l1 : Value) (l2 : Value) (l3 : Value) (l4 : Value) (x0 : Int32) (h : zMm) (Q : Option Value → zMm → Prop), zWp d zi_98 none 28 [l0, l1, l2, l3, l4] [.int x0] h Q = zWp d zi_98 none 32 [l0, l1, l2, l3, l4] [.int x0] h Q) ∧
    (∀ (d : Nat) (l0 : Value) (l1 : Value) (l2 : Value) (l3 : Value) (l4 : Value)  (h : zMm) (Q : Option Value → zMm → Prop), zWp d zi_98 none 31 [l0, l1, l2, l3, l4] [] h Q = zWp d zi_98 none 32 [l0, l1, l2, l3, l4] [.int (-1)] h Q) ∧
    (∀ (d : Nat) (l0 : Value) (l1 : Value) (l2 : Value) (l3 : Value) (l4 : Value) (x0 : Int32) (h : zMm) (Q : Option Value → zMm → Prop), zWp d zi_98 none 32 [l0, l1, l2, l3, l4] [.int x0] h Q = Q (some (.int x0)) h) ∧
    (∀ (d : Nat) (l0 : Value) (l1 : Value) (l2 : Value) (l3 : Value) (l4 : Value)  (h : zMm) (Q : Option Value → zMm → Prop), zWp d zi_98 none 33 [l0, l1, l2, l3, l4] [] h Q = zWp d zi_98 none 34 [l0, l1, l2, l3, l4] [.int 0] h Q) ∧
    (∀ (d : Nat) (l0 : Value) (l1 : Int32) (l2 : Value) (l3 : Value) (l4 : Value) (x0 : Int32) (h : zMm) (Q : Option Value → zMm → Prop), zWp d zi_98 none 34 [l0, .int l1, l2, l3, l4] [.int x0] h Q = zWp d zi_98 none 35 [l0, .int l1, .int x0, l3, l4] [] h Q) ∧
    (∀ (d : Nat) (l0 : Value) (l1 : Value) (l2 : Value) (l3 : Value) (l4 : Value)  (h : zMm) (Q : Option Value → zMm → Prop), zWp d zi_98 none 35 [l0, l1, l2, l3, l4] [] h Q = zWp d zi_98 none 36 [l0, l1, l2, l3, l4] [.int 0] h Q) ∧
    (∀ (d : Nat) (l0 : Value) (l1 : Value) (l2 : Int32) (l3 : Value) (l4 : Value) (x0 : Int32) (h : zMm) (Q : Option Value → zMm → Prop), zWp d zi_98 none 36 [l0, l1, .int l2, l3, l4] [.int x0] h Q = zWp d zi_98 none 37 [l0, l1, .int l2, .int x0, l4] [] h Q) ∧
    (∀ (d : Nat) (l0 : Nat) (l1 : Value) (l2 : Value) (l3 : Value) (l4 : Value) (x0 : Int32) (h : zMm) (Q : Option Value → zMm → Prop), zWp d zi_98 none 38 [.ref l0, l1, l2, l3, l4] [.int x0] h Q = zWp d zi_98 none 39 [.ref l0, l1, l2, l3, l4] [.ref l0, .int x0] h Q) ∧
    (∀ (d : Nat) (l0 : Value) (l1 : Value) (l2 : Value) (l3 : Value) (l4 : Value) (x1 : Nat) (x0 : Int32) (I : Nat → Nat → Int32) (L : Nat → Nat → Int64) (P : Nat → Nat → Option Nat) (Q : Option Value → zMm → Prop), zSH[x1]? = some (.inl 9) → zWp d zi_98 none 39 [l0, l1, l2, l3, l4] [.ref x1, .int x0] (zSH, I, L, P) Q = zWp d zi_98 none 42 [l0, l1, l2, l3, l4] [va_rf (P x1 2), .int x0] (zSH, I, L, P) Q) ∧
    (∀ (d : Nat) (l0 : Value) (l1 : Value) (l2 : Value) (l3 : Value) (l4 : Value) (x1 : Nat) (x0 : Int32) (I : Nat → Nat → Int32) (L : Nat → Nat → Int64) (P : Nat → Nat → Option Nat) (Q : Option Value → zMm → Prop), zSH[x1]? = some (.inl 3) → zWp d zi_98 none 42 [l0, l1, l2, l3, l4] [.ref x1, .int x0] (zSH, I, L, P) Q = zWp d zi_98 none 45 [l0, l1, l2, l3, l4] [.int (I x1 3), .int x0] (zSH, I, L, P) Q) ∧
    (∀ (d : Nat) (l0 : Value) (l1 : Value) (l2 : Value) (l3 : Value) (l4 : Value) (x1 : Int32) (x0 : Int32) (h : zMm) (Q : Option Value → zMm → Prop), zWp d zi_98 none 45 [l0, l1, l2, l3, l4] [.int x1, .int x0] h Q = if x1 ≤ x0 then zWp d zi_98 none 83 [l0, l1, l2, l3, l4] [] h Q else zWp d zi_98 none 48 [l0, l1, l2, l3, l4] [] h Q) ∧
    (∀ (d : Nat) (l0 : Nat) (l1 : Value) (l2 : Value) (l3 : Value) (l4 : Value)  (h : zMm) (Q : Option Value → zMm → Prop), zWp d zi_98 none 48 [.ref l0, l1, l2, l3, l4] [] h Q = zWp d zi_98 none 49 [.ref l0, l1, l2, l3, l4] [.ref l0] h Q) ∧
    (∀ (d : Nat) (l0 : Value) (l1 : Value) (l2 : Value) (l3 : Value) (l4 : Value) (x0 : Nat) (I : Nat → Nat → Int32) (L : Nat → Nat → Int64) (P : Nat → Nat → Option Nat) (Q : Option Value → zMm → Prop), zSH[x0]? = some (.inl 9) → zWp d zi_98 none 49 [l0, l1, l2, l3, l4] [.ref x0] (zSH, I, L, P) Q = zWp d zi_98 none 52 [l0, l1, l2, l3, l4] [va_rf (P x0 2)] (zSH, I, L, P) Q) ∧
    (∀ (d : Nat) (l0 : Value) (l1 : Value) (l2 : Value) (l3 : Int32) (l4 : Value) (x0 : Nat) (h : zMm) (Q : Option Value → zMm → Prop), zWp d zi_98 none 52 [l0, l1, l2, .int l3, l4] [.ref x0] h Q = zWp d zi_98 none 53 [l0, l1, l2, .int l3, l4] [.int l3, .ref x0] h Q) ∧
    (∀ (d : Nat) (l0 : Nat) (l1 : Value) (l2 : Value) (l3 : Value) (l4 : Value) (x1 : Int32) (x0 : Nat) (h : zMm) (Q : Option Value → zMm → Prop), zWp d zi_98 none 53 [.ref l0, l1, l2, l3, l4] [.int x1, .ref x0] h Q = zWp d zi_98 none 54 [.ref l0, l1, l2, l3, l4] [.ref l0, .int x1, .ref x0] h Q) ∧
    (∀ (d : Nat) (l0 : Value) (l1 : Value) (l2 : Value) (l3 : Value) (l4 : Value) (x2 : Nat) (x1 : Int32) (x0 : Nat) (I : Nat → Nat → Int32) (L : Nat → Nat → Int64) (P : Nat → Nat → Option Nat) (Q : Option Value → zMm → Prop), zSH[x2]? = some (.inl 9) → zWp d zi_98 none 54 [l0, l1, l2, l3, l4] [.ref x2, .int x1, .ref x0] (zSH, I, L, P) Q = zWM d 99 [.ref x2] (zSH, I, L, P) (fun r h1 => zWp d zi_98 none 57 [l0, l1, l2, l3, l4] (r.toList ++ [.int x1, .ref x0]) h1 Q)) ∧
    (∀ (d : Nat) (l0 : Value) (l1 : Value) (l2 : Value) (l3 : Value) (l4 : Value) (x2 : Nat) (x1 : Int32) (x0 : Nat) (I : Nat → Nat → Int32) (L : Nat → Nat → Int64) (P : Nat → Nat → Option Nat) (Q : Option Value → zMm → Prop), zSH[x0]? = some (.inl 3) → zWp d zi_98 none 57 [l0, l1, l2, l3, l4] [.ref x2, .int x1, .ref x0] (zSH, I, L, P) Q = zWM d 29 [.ref x0, .int x1, .ref x2] (zSH, I, L, P) (fun r h1 => zWp d zi_98 none 60 [l0, l1, l2, l3, l4] (r.toList ++ []) h1 Q)) ∧
    (∀ (d : Nat) (l0 : Value) (l1 : Value) (l2 : Value) (l3 : Int32) (l4 : Value) (x0 : Int32) (h : zMm) (Q : Option Value → zMm → Prop), zWp d zi_98 none 60 [l0, l1, l2, .int l3, l4] [.int x0] h Q = zWp d zi_98 none 62 [l0, l1, l2, .int l3, .int x0] [] h Q) ∧
    (∀ (d : Nat) (l0 : Value) (l1 : Value) (l2 : Value) (l3 : Value) (l4 : Int32)  (h : zMm) (Q : Option Value → zMm → Prop), zWp d zi_98 none 62 [l0, l1, l2, l3, .int l4] [] h Q = zWp d zi_98 none 64 [l0, l1, l2, l3, .int l4] [.int l4] h Q) ∧
    (∀ (d : Nat) (l0 : Value) (l1 : Value) (l2 : Value) (l3 : Value) (l4 : Value) (x0 : Int32) (h : zMm) (Q : Option Value → zMm → Prop), zWp d zi_98 none 64 [l0, l1, l2, l3, l4] [.int x0] h Q = zWp d zi_98 none 66 [l0, l1, l2, l3, l4] [.int (-2), .int x0] h Q) ∧
    (∀ (d : Nat) (l0 : Value) (l1 : Value) (l2 : Value) (l3 : Value) (l4 : Value) (x1 : Int32) (x0 : Int32) (h : zMm) (Q : Option Value → zMm → Prop), zWp d zi_98 none 66 [l0, l1, l2, l3, l4] [.int x1, .int x0] h Q = if x0 = x1 then zWp d zi_98 none 69 [l0, l1, l2, l3, l4] [] h Q else zWp d zi_98 none 72 [l0, l1, l2, l3, l4] [] h Q) ∧
    (∀ (d : Nat) (l0 : Value) (l1 : Value) (l2 : Value) (l3 : Value) (l4 : Value)  (h : zMm) (Q : Option Value → zMm → Prop), zWp d zi_98 none 69 [l0, l1, l2, l3, l4] [] h Q = zWp d zi_98 none 71 [l0, l1, l2, l3, l4] [.int (-2)] h Q) ∧
    (∀ (d : Nat) (l0 : Value) (l1 : Value) (l2 : Value) (l3 : Value) (l4 : Value) (x0 : Int32) (h : zMm) (Q : Option Value → zMm → Prop), zWp d zi_98 none 71 [l0, l1, l2, l3, l4] [.int x0] h Q = Q (some (.int x0)) h) ∧
    (∀ (d : Nat) (l0 : Value) (l1 : Value) (l2 : Int32) (l3 : Value) (l4 : Value)  (h : zMm) (Q : Option Value → zMm → Prop), zWp d zi_98 none 72 [l0, l1, .int l2, l3, l4] [] h Q = zWp d zi_98 none 73 [l0, l1, .int l2, l3, l4] [.int l2] h Q) ∧
    (∀ (d : Nat) (l0 : Value) (l1 : Value) (l2 : Value) (l3 : Value) (l4 : Int32) (x0 : Int32) (h : zMm) (Q : Option Value → zMm → Prop), zWp d zi_98 none 73 [l0, l1, l2, l3, .int l4] [.int x0] h Q = zWp d zi_98 none 75 [l0, l1, l2, l3, .int l4] [.int l4, .int x0] h Q) ∧
    (∀ (d : Nat) (l0 : Value) (l1 : Value) (l2 : Value) (l3 : Value) (l4 : Value) (x1 : Int32) (x0 : Int32) (h : zMm) (Q : Option Value → zMm → Prop), zWp d zi_98 none 75 [l0, l1, l2, l3, l4] [.int x1, .int x0] h Q = zWp d zi_98 none 76 [l0, l1, l2, l3, l4] [.int (x0 + x1)] h Q) ∧
    (∀ (d : Nat) (l0 : Value) (l1 : Int32) (l2 : Value) (l3 : Value) (l4 : Value) (x0 : Int32) (h : zMm) (Q : Option Value → zMm → Prop), zWp d zi_98 none 76 [l0, .int l1, l2, l3, l4] [.int x0] h Q = zWp d zi_98 none 77 [l0, .int l1, .int x0, l3, l4] [] h Q) ∧
    (∀ (d : Nat) (l0 : Value) (l1 : Value) (l2 : Int32) (l3 : Int32) (l4 : Value)  (h : zMm) (Q : Option Value → zMm → Prop), zWp d zi_98 none 77 [l0, l1, .int l2, .int l3, l4] [] h Q = zWp d zi_98 none 80 [l0, l1, .int l2, .int (l3 + 1), l4] [] h Q) ∧
    (∀ (d : Nat) (l0 : Value) (l1 : Value) (l2 : Value) (l3 : Value) (l4 : Value)  (h : zMm) (Q : Option Value → zMm → Prop), zWp d zi_98 none 80 [l0, l1, l2, l3, l4] [] h Q = zWp d zi_98 none 37 [l0, l1, l2, l3, l4] [] h Q) ∧
    (∀ (d : Nat) (l0 : Value) (l1 : Value) (l2 : Int32) (l3 : Value) (l4 : Value)  (h : zMm) (Q : Option Value → zMm → Prop), zWp d zi_98 none 83 [l0, l1, .int l2, l3, l4] [] h Q = zWp d zi_98 none 84 [l0, l1, .int l2, l3, l4] [.int l2] h Q) ∧
    (∀ (d : Nat) (l0 : Value) (l1 : Value) (l2 : Value) (l3 : Value) (l4 : Value) (x0 : Int32) (h : zMm) (Q : Option Value → zMm → Prop), zWp d zi_98 none 84 [l0, l1, l2, l3, l4] [.int x0] h Q = Q (some (.int x0)) h) :=
  ⟨(fun d l0 l1 l2 l3 l4  h Q => zr_iload_n rfl rfl),
   (fun d l0 l1 l2 l3 l4 x0 h Q => zr_iconst rfl (by decide)),
   (fun d l0 l1 l2 l3 l4 x1 x0 h Q => zr_ic_eq rfl (by decide)),
   (fun d l0 l1 l2 l3 l4  h Q => zr_aload_n rfl rfl),
   (fun d l0 l1 l2 l3 l4 x0 I L P Q p0 => zr_getQ rfl lf_9_22 (fun _ _ _ => rfl) p0),
   (fun d l0 l1 l2 l3 l4 x0 h Q => zr_iload_n rfl rfl),
   (fun d l0 l1 l2 l3 l4 x1 x0 I L P Q p0 => zr_vir (as := [.int x1]) (rest := []) rfl lm_9_167 m_22 kd_22 rfl (Nat.le_of_ble_eq_true rfl) p0),
   (fun d l0 l1 l2 l3 l4 x0 h Q => zr_if_eq rfl (by decide)),
   (fun d l0 l1 l2 l3 l4  h Q => zr_aload_n rfl rfl),
   (fun d l0 l1 l2 l3 l4 x0 I L P Q p0 => zr_getQ rfl lf_9_22 (fun _ _ _ => rfl) p0),
   (fun d l0 l1 l2 l3 l4 x0 h Q => zr_iload_n rfl rfl),
   (fun d l0 l1 l2 l3 l4 x1 x0 h Q => zr_aload_n rfl rfl),
   (fun d l0 l1 l2 l3 l4 x2 x1 x0 I L P Q p0 => zr_vir (as := []) (rest := [.int x1, .ref x0]) rfl lm_9_247 m_99 kd_99 rfl (Nat.le_of_ble_eq_true rfl) p0),
   (fun d l0 l1 l2 l3 l4 x2 x1 x0 I L P Q p0 => zr_vir (as := [.ref x2, .int x1]) (rest := []) rfl lm_9_277 m_29 kd_29 rfl (Nat.le_of_ble_eq_true rfl) p0),
   (fun d l0 l1 l2 l3 l4 x0 h Q => zr_goto rfl (by decide)),
   (fun d l0 l1 l2 l3 l4  h Q => zr_iconst rfl (by decide)),
   (fun d l0 l1 l2 l3 l4 x0 h Q => zr_iret rfl rfl),
   (fun d l0 l1 l2 l3 l4  h Q => zr_iconst rfl (by decide)),
   (fun d l0 l1 l2 l3 l4 x0 h Q => zr_istore_n (n := 2) rfl (Nat.le_of_ble_eq_true rfl) rfl),
   (fun d l0 l1 l2 l3 l4  h Q => zr_iconst rfl (by decide)),
   (fun d l0 l1 l2 l3 l4 x0 h Q => zr_istore_n (n := 3) rfl (Nat.le_of_ble_eq_true rfl) rfl),
   (fun d l0 l1 l2 l3 l4 x0 h Q => zr_aload_n rfl rfl),
   (fun d l0 l1 l2 l3 l4 x1 x0 I L P Q p0 => zr_getQ rfl lf_9_22 (fun _ _ _ => rfl) p0),
   (fun d l0 l1 l2 l3 l4 x1 x0 I L P Q p0 => zr_getI rfl lf_9_139 (fun _ _ _ => rfl) p0),
   (fun d l0 l1 l2 l3 l4 x1 x0 h Q => zr_ic_ge rfl (by decide)),
   (fun d l0 l1 l2 l3 l4  h Q => zr_aload_n rfl rfl),
   (fun d l0 l1 l2 l3 l4 x0 I L P Q p0 => zr_getQ rfl lf_9_22 (fun _ _ _ => rfl) p0),
   (fun d l0 l1 l2 l3 l4 x0 h Q => zr_iload_n rfl rfl),
   (fun d l0 l1 l2 l3 l4 x1 x0 h Q => zr_aload_n rfl rfl),
   (fun d l0 l1 l2 l3 l4 x2 x1 x0 I L P Q p0 => zr_vir (as := []) (rest := [.int x1, .ref x0]) rfl lm_9_247 m_99 kd_99 rfl (Nat.le_of_ble_eq_true rfl) p0),
   (fun d l0 l1 l2 l3 l4 x2 x1 x0 I L P Q p0 => zr_vir (as := [.ref x2, .int x1]) (rest := []) rfl lm_9_277 m_29 kd_29 rfl (Nat.le_of_ble_eq_true rfl) p0),
   (fun d l0 l1 l2 l3 l4 x0 h Q => zr_istore (n := 4) rfl (Nat.le_of_ble_eq_true rfl) rfl),
   (fun d l0 l1 l2 l3 l4  h Q => zr_iload rfl rfl),
   (fun d l0 l1 l2 l3 l4 x0 h Q => zr_bipush rfl (by decide)),
   (fun d l0 l1 l2 l3 l4 x1 x0 h Q => zr_ic_ne rfl (by decide)),
   (fun d l0 l1 l2 l3 l4  h Q => zr_bipush rfl (by decide)),
   (fun d l0 l1 l2 l3 l4 x0 h Q => zr_iret rfl rfl),
   (fun d l0 l1 l2 l3 l4  h Q => zr_iload_n rfl rfl),
   (fun d l0 l1 l2 l3 l4 x0 h Q => zr_iload rfl rfl),
   (fun d l0 l1 l2 l3 l4 x1 x0 h Q => zr_iadd rfl),
   (fun d l0 l1 l2 l3 l4 x0 h Q => zr_istore_n (n := 2) rfl (Nat.le_of_ble_eq_true rfl) rfl),
   (fun d l0 l1 l2 l3 l4  h Q => zr_iinc (n := 3) (kc := 1) rfl rfl (Nat.le_of_ble_eq_true rfl) rfl (by decide)),
   (fun d l0 l1 l2 l3 l4  h Q => zr_goto rfl (by decide)),
   (fun d l0 l1 l2 l3 l4  h Q => zr_iload_n rfl rfl),
   (fun d l0 l1 l2 l3 l4 x0 h Q => zr_iret rfl rfl)⟩
theorem H_X9_boarded_37 : ∀ (d : Nat) (l0 : Value) (l1 : Value) (l2 : Value) (l3 : Int32) (l4 : Value)  (h : zMm) (Q : Option Value → zMm → Prop), zWp d zi_98 none 37 [l0, l1, l2, .int l3, l4] [] h Q = zWp d zi_98 none 38 [l0, l1, l2, .int l3, l4] [.int l3] h Q := fun d l0 l1 l2 l3 l4  h Q => zr_iload_n rfl rfl
theorem E_X9_burnt : ∀ (d : Nat) (a0 : Nat) (h : zMm) (Q : Option Value → zMm → Prop), zWM (d + 1) 99 [.ref a0] h Q = zWp d zi_99 none 0 [.ref a0] [] h Q := fun d a0 h Q => zW_M m_99 (Nat.le_of_ble_eq_true rfl) rfl
set_option maxRecDepth 100000 in
theorem R_X9_burnt :
    (∀ (d : Nat) (l0 : Nat)  (h : zMm) (Q : Option Value → zMm → Prop), zWp d zi_99 none 0 [.ref l0] [] h Q = zWp d zi_99 none 1 [.ref l0] [.ref l0] h Q) ∧
    (∀ (d : Nat) (l0 : Value) (x0 : Nat) (I : Nat → Nat → Int32) (L : Nat → Nat → Int64) (P : Nat → Nat → Option Nat) (Q : Option Value → zMm → Prop), zSH[x0]? = some (.inl 9) → zWp d zi_99 none 1 [l0] [.ref x0] (zSH, I, L, P) Q = zWp d zi_99 none 4 [l0] [va_rf (P x0 4)] (zSH, I, L, P) Q) ∧
    (∀ (d : Nat) (l0 : Value) (x0 : Nat) (I : Nat → Nat → Int32) (L : Nat → Nat → Int64) (P : Nat → Nat → Option Nat) (Q : Option Value → zMm → Prop), zSH[x0]? = some (.inl 2) → zWp d zi_99 none 4 [l0] [.ref x0] (zSH, I, L, P) Q = zWp d zi_99 none 7 [l0] [.int (I x0 6)] (zSH, I, L, P) Q) ∧
    (∀ (d : Nat) (l0 : Value) (x0 : Int32) (h : zMm) (Q : Option Value → zMm → Prop), zWp d zi_99 none 7 [l0] [.int x0] h Q = if x0 = 0 then zWp d zi_99 none 10 [l0] [] h Q else zWp d zi_99 none 41 [l0] [] h Q) ∧
    (∀ (d : Nat) (l0 : Nat)  (h : zMm) (Q : Option Value → zMm → Prop), zWp d zi_99 none 10 [.ref l0] [] h Q = zWp d zi_99 none 11 [.ref l0] [.ref l0] h Q) ∧
    (∀ (d : Nat) (l0 : Value) (x0 : Nat) (I : Nat → Nat → Int32) (L : Nat → Nat → Int64) (P : Nat → Nat → Option Nat) (Q : Option Value → zMm → Prop), zSH[x0]? = some (.inl 9) → zWp d zi_99 none 11 [l0] [.ref x0] (zSH, I, L, P) Q = zWp d zi_99 none 14 [l0] [va_rf (P x0 4)] (zSH, I, L, P) Q) ∧
    (∀ (d : Nat) (l0 : Nat) (x0 : Nat) (h : zMm) (Q : Option Value → zMm → Prop), zWp d zi_99 none 14 [.ref l0] [.ref x0] h Q = zWp d zi_99 none 15 [.ref l0] [.ref l0, .ref x0] h Q) ∧
    (∀ (d : Nat) (l0 : Value) (x1 : Nat) (x0 : Nat) (I : Nat → Nat → Int32) (L : Nat → Nat → Int64) (P : Nat → Nat → Option Nat) (Q : Option Value → zMm → Prop), zSH[x1]? = some (.inl 9) → zWp d zi_99 none 15 [l0] [.ref x1, .ref x0] (zSH, I, L, P) Q = zWp d zi_99 none 18 [l0] [va_rf (P x1 0), .ref x0] (zSH, I, L, P) Q) ∧
    (∀ (d : Nat) (l0 : Nat) (x1 : Nat) (x0 : Nat) (h : zMm) (Q : Option Value → zMm → Prop), zWp d zi_99 none 18 [.ref l0] [.ref x1, .ref x0] h Q = zWp d zi_99 none 19 [.ref l0] [.ref l0, .ref x1, .ref x0] h Q) ∧
    (∀ (d : Nat) (l0 : Value) (x2 : Nat) (x1 : Nat) (x0 : Nat) (I : Nat → Nat → Int32) (L : Nat → Nat → Int64) (P : Nat → Nat → Option Nat) (Q : Option Value → zMm → Prop), zSH[x2]? = some (.inl 9) → zWp d zi_99 none 19 [l0] [.ref x2, .ref x1, .ref x0] (zSH, I, L, P) Q = zWp d zi_99 none 22 [l0] [va_rf (P x2 11), .ref x1, .ref x0] (zSH, I, L, P) Q) ∧
    (∀ (d : Nat) (l0 : Nat) (x2 : Nat) (x1 : Nat) (x0 : Nat) (h : zMm) (Q : Option Value → zMm → Prop), zWp d zi_99 none 22 [.ref l0] [.ref x2, .ref x1, .ref x0] h Q = zWp d zi_99 none 23 [.ref l0] [.ref l0, .ref x2, .ref x1, .ref x0] h Q) ∧
    (∀ (d : Nat) (l0 : Value) (x3 : Nat) (x2 : Nat) (x1 : Nat) (x0 : Nat) (I : Nat → Nat → Int32) (L : Nat → Nat → Int64) (P : Nat → Nat → Option Nat) (Q : Option Value → zMm → Prop), zSH[x3]? = some (.inl 9) → zWp d zi_99 none 23 [l0] [.ref x3, .ref x2, .ref x1, .ref x0] (zSH, I, L, P) Q = zWp d zi_99 none 26 [l0] [.int (I x3 14), .ref x2, .ref x1, .ref x0] (zSH, I, L, P) Q) ∧
    (∀ (d : Nat) (l0 : Nat) (x3 : Int32) (x2 : Nat) (x1 : Nat) (x0 : Nat) (h : zMm) (Q : Option Value → zMm → Prop), zWp d zi_99 none 26 [.ref l0] [.int x3, .ref x2, .ref x1, .ref x0] h Q = zWp d zi_99 none 27 [.ref l0] [.ref l0, .int x3, .ref x2, .ref x1, .ref x0] h Q) ∧
    (∀ (d : Nat) (l0 : Value) (x4 : Nat) (x3 : Int32) (x2 : Nat) (x1 : Nat) (x0 : Nat) (I : Nat → Nat → Int32) (L : Nat → Nat → Int64) (P : Nat → Nat → Option Nat) (Q : Option Value → zMm → Prop), zSH[x4]? = some (.inl 9) → zWp d zi_99 none 27 [l0] [.ref x4, .int x3, .ref x2, .ref x1, .ref x0] (zSH, I, L, P) Q = zWp d zi_99 none 30 [l0] [.int (I x4 15), .int x3, .ref x2, .ref x1, .ref x0] (zSH, I, L, P) Q) ∧
    (∀ (d : Nat) (l0 : Value) (x4 : Int32) (x3 : Int32) (x2 : Nat) (x1 : Nat) (x0 : Nat) (I : Nat → Nat → Int32) (L : Nat → Nat → Int64) (P : Nat → Nat → Option Nat) (Q : Option Value → zMm → Prop), zSH[x0]? = some (.inl 2) → zWp d zi_99 none 30 [l0] [.int x4, .int x3, .ref x2, .ref x1, .ref x0] (zSH, I, L, P) Q = zWM d 14 [.ref x0, .ref x1, .ref x2, .int x3, .int x4] (zSH, I, L, P) (fun r h1 => zWp d zi_99 none 33 [l0] (r.toList ++ []) h1 Q)) ∧
    (∀ (d : Nat) (l0 : Nat)  (h : zMm) (Q : Option Value → zMm → Prop), zWp d zi_99 none 33 [.ref l0] [] h Q = zWp d zi_99 none 34 [.ref l0] [.ref l0] h Q) ∧
    (∀ (d : Nat) (l0 : Value) (x0 : Nat) (I : Nat → Nat → Int32) (L : Nat → Nat → Int64) (P : Nat → Nat → Option Nat) (Q : Option Value → zMm → Prop), zSH[x0]? = some (.inl 9) → zWp d zi_99 none 34 [l0] [.ref x0] (zSH, I, L, P) Q = zWp d zi_99 none 37 [l0] [va_rf (P x0 4)] (zSH, I, L, P) Q) ∧
    (∀ (d : Nat) (l0 : Value) (x0 : Nat) (h : zMm) (Q : Option Value → zMm → Prop), zWp d zi_99 none 37 [l0] [.ref x0] h Q = zWp d zi_99 none 38 [l0] [.int 1, .ref x0] h Q) ∧
    (∀ (d : Nat) (l0 : Value) (x1 : Int32) (x0 : Nat) (I : Nat → Nat → Int32) (L : Nat → Nat → Int64) (P : Nat → Nat → Option Nat) (Q : Option Value → zMm → Prop), zSH[x0]? = some (.inl 2) → x1 = 0 ∨ x1 = 1 → zWp d zi_99 none 38 [l0] [.int x1, .ref x0] (zSH, I, L, P) Q = zWp d zi_99 none 41 [l0] [] (zSH, zw I x0 (upd (I x0) 6 x1), L, P) Q) ∧
    (∀ (d : Nat) (l0 : Nat)  (h : zMm) (Q : Option Value → zMm → Prop), zWp d zi_99 none 41 [.ref l0] [] h Q = zWp d zi_99 none 42 [.ref l0] [.ref l0] h Q) ∧
    (∀ (d : Nat) (l0 : Value) (x0 : Nat) (I : Nat → Nat → Int32) (L : Nat → Nat → Int64) (P : Nat → Nat → Option Nat) (Q : Option Value → zMm → Prop), zSH[x0]? = some (.inl 9) → zWp d zi_99 none 42 [l0] [.ref x0] (zSH, I, L, P) Q = zWp d zi_99 none 45 [l0] [va_rf (P x0 4)] (zSH, I, L, P) Q) ∧
    (∀ (d : Nat) (l0 : Value) (x0 : Nat) (h : zMm) (Q : Option Value → zMm → Prop), zWp d zi_99 none 45 [l0] [.ref x0] h Q = Q (some (.ref x0)) h) :=
  ⟨(fun d l0  h Q => zr_aload_n rfl rfl),
   (fun d l0 x0 I L P Q p0 => zr_getQ rfl lf_9_36 (fun _ _ _ => rfl) p0),
   (fun d l0 x0 I L P Q p0 => zr_getI rfl lf_9_105 (fun _ _ _ => rfl) p0),
   (fun d l0 x0 h Q => zr_if_ne rfl (by decide)),
   (fun d l0  h Q => zr_aload_n rfl rfl),
   (fun d l0 x0 I L P Q p0 => zr_getQ rfl lf_9_36 (fun _ _ _ => rfl) p0),
   (fun d l0 x0 h Q => zr_aload_n rfl rfl),
   (fun d l0 x1 x0 I L P Q p0 => zr_getQ rfl lf_9_10 (fun _ _ _ => rfl) p0),
   (fun d l0 x1 x0 h Q => zr_aload_n rfl rfl),
   (fun d l0 x2 x1 x0 I L P Q p0 => zr_getQ rfl lf_9_76 (fun _ _ _ => rfl) p0),
   (fun d l0 x2 x1 x0 h Q => zr_aload_n rfl rfl),
   (fun d l0 x3 x2 x1 x0 I L P Q p0 => zr_getI rfl lf_9_182 (fun _ _ _ => rfl) p0),
   (fun d l0 x3 x2 x1 x0 h Q => zr_aload_n rfl rfl),
   (fun d l0 x4 x3 x2 x1 x0 I L P Q p0 => zr_getI rfl lf_9_185 (fun _ _ _ => rfl) p0),
   (fun d l0 x4 x3 x2 x1 x0 I L P Q p0 => zr_vir (as := [.int x4, .int x3, .ref x2, .ref x1]) (rest := []) rfl lm_9_280 m_14 kd_14 rfl (Nat.le_of_ble_eq_true rfl) p0),
   (fun d l0  h Q => zr_aload_n rfl rfl),
   (fun d l0 x0 I L P Q p0 => zr_getQ rfl lf_9_36 (fun _ _ _ => rfl) p0),
   (fun d l0 x0 h Q => zr_iconst rfl (by decide)),
   (fun d l0 x1 x0 I L P Q p0 p1 => zr_putZ rfl lf_9_105 (by decide) rfl p0 p1),
   (fun d l0  h Q => zr_aload_n rfl rfl),
   (fun d l0 x0 I L P Q p0 => zr_getQ rfl lf_9_36 (fun _ _ _ => rfl) p0),
   (fun d l0 x0 h Q => zr_aret rfl rfl)⟩
theorem E_X9_watch : ∀ (d : Nat) (a0 : Nat) (a1 : Int32) (a2 : Int32) (h : zMm) (Q : Option Value → zMm → Prop), zWM (d + 1) 100 [.ref a0, .int a1, .int a2] h Q = zWp d zi_100 none 0 [.ref a0, .int a1, .int a2, .retAddr 0] [] h Q := fun d a0 a1 a2 h Q => zW_M m_100 (Nat.le_of_ble_eq_true rfl) rfl
set_option maxRecDepth 100000 in
theorem R_X9_watch :
    (∀ (d : Nat) (l0 : Value) (l1 : Int32) (l2 : Value) (l3 : Value)  (h : zMm) (Q : Option Value → zMm → Prop), zWp d zi_100 none 0 [l0, .int l1, l2, l3] [] h Q = zWp d zi_100 none 1 [l0, .int l1, l2, l3] [.int l1] h Q) ∧
    (∀ (d : Nat) (l0 : Value) (l1 : Value) (l2 : Value) (l3 : Value) (x0 : Int32) (h : zMm) (Q : Option Value → zMm → Prop), zWp d zi_100 none 1 [l0, l1, l2, l3] [.int x0] h Q = if x0 < 0 then zWp d zi_100 none 19 [l0, l1, l2, l3] [] h Q else zWp d zi_100 none 4 [l0, l1, l2, l3] [] h Q) ∧
    (∀ (d : Nat) (l0 : Value) (l1 : Int32) (l2 : Value) (l3 : Value)  (h : zMm) (Q : Option Value → zMm → Prop), zWp d zi_100 none 4 [l0, .int l1, l2, l3] [] h Q = zWp d zi_100 none 5 [l0, .int l1, l2, l3] [.int l1] h Q) ∧
    (∀ (d : Nat) (l0 : Value) (l1 : Value) (l2 : Value) (l3 : Value) (x0 : Int32) (h : zMm) (Q : Option Value → zMm → Prop), zWp d zi_100 none 5 [l0, l1, l2, l3] [.int x0] h Q = zWp d zi_100 none 7 [l0, l1, l2, l3] [.int 30, .int x0] h Q) ∧
    (∀ (d : Nat) (l0 : Value) (l1 : Value) (l2 : Value) (l3 : Value) (x1 : Int32) (x0 : Int32) (h : zMm) (Q : Option Value → zMm → Prop), zWp d zi_100 none 7 [l0, l1, l2, l3] [.int x1, .int x0] h Q = if x1 ≤ x0 then zWp d zi_100 none 19 [l0, l1, l2, l3] [] h Q else zWp d zi_100 none 10 [l0, l1, l2, l3] [] h Q) ∧
    (∀ (d : Nat) (l0 : Value) (l1 : Value) (l2 : Int32) (l3 : Value)  (h : zMm) (Q : Option Value → zMm → Prop), zWp d zi_100 none 10 [l0, l1, .int l2, l3] [] h Q = zWp d zi_100 none 11 [l0, l1, .int l2, l3] [.int l2] h Q) ∧
    (∀ (d : Nat) (l0 : Value) (l1 : Value) (l2 : Value) (l3 : Value) (x0 : Int32) (h : zMm) (Q : Option Value → zMm → Prop), zWp d zi_100 none 11 [l0, l1, l2, l3] [.int x0] h Q = if x0 < 0 then zWp d zi_100 none 19 [l0, l1, l2, l3] [] h Q else zWp d zi_100 none 14 [l0, l1, l2, l3] [] h Q) ∧
    (∀ (d : Nat) (l0 : Value) (l1 : Value) (l2 : Int32) (l3 : Value)  (h : zMm) (Q : Option Value → zMm → Prop), zWp d zi_100 none 14 [l0, l1, .int l2, l3] [] h Q = zWp d zi_100 none 15 [l0, l1, .int l2, l3] [.int l2] h Q) ∧
    (∀ (d : Nat) (l0 : Value) (l1 : Value) (l2 : Value) (l3 : Value) (x0 : Int32) (h : zMm) (Q : Option Value → zMm → Prop), zWp d zi_100 none 15 [l0, l1, l2, l3] [.int x0] h Q = zWp d zi_100 none 16 [l0, l1, l2, l3] [.int 1, .int x0] h Q) ∧
    (∀ (d : Nat) (l0 : Value) (l1 : Value) (l2 : Value) (l3 : Value) (x1 : Int32) (x0 : Int32) (h : zMm) (Q : Option Value → zMm → Prop), zWp d zi_100 none 16 [l0, l1, l2, l3] [.int x1, .int x0] h Q = if x0 ≤ x1 then zWp d zi_100 none 21 [l0, l1, l2, l3] [] h Q else zWp d zi_100 none 19 [l0, l1, l2, l3] [] h Q) ∧
    (∀ (d : Nat) (l0 : Value) (l1 : Value) (l2 : Value) (l3 : Value)  (h : zMm) (Q : Option Value → zMm → Prop), zWp d zi_100 none 19 [l0, l1, l2, l3] [] h Q = zWp d zi_100 none 20 [l0, l1, l2, l3] [.int (-1)] h Q) ∧
    (∀ (d : Nat) (l0 : Value) (l1 : Value) (l2 : Value) (l3 : Value) (x0 : Int32) (h : zMm) (Q : Option Value → zMm → Prop), zWp d zi_100 none 20 [l0, l1, l2, l3] [.int x0] h Q = Q (some (.int x0)) h) ∧
    (∀ (d : Nat) (l0 : Value) (l1 : Value) (l2 : Value) (l3 : Value)  (h : zMm) (Q : Option Value → zMm → Prop), zWp d zi_100 none 21 [l0, l1, l2, l3] [] h Q = zWp d zi_100 none 22 [l0, l1, l2, l3] [.int 1] h Q) ∧
    (∀ (d : Nat) (l0 : Value) (l1 : Int32) (l2 : Value) (l3 : Value) (x0 : Int32) (h : zMm) (Q : Option Value → zMm → Prop), zWp d zi_100 none 22 [l0, .int l1, l2, l3] [.int x0] h Q = zWp d zi_100 none 23 [l0, .int l1, l2, l3] [.int l1, .int x0] h Q) ∧
    (∀ (d : Nat) (l0 : Value) (l1 : Value) (l2 : Value) (l3 : Value) (x1 : Int32) (x0 : Int32) (h : zMm) (Q : Option Value → zMm → Prop), zWp d zi_100 none 23 [l0, l1, l2, l3] [.int x1, .int x0] h Q = zWp d zi_100 none 24 [l0, l1, l2, l3] [.int (x0 <<< (x1 &&& 31))] h Q) ∧
    (∀ (d : Nat) (l0 : Value) (l1 : Value) (l2 : Int32) (l3 : Value) (x0 : Int32) (h : zMm) (Q : Option Value → zMm → Prop), zWp d zi_100 none 24 [l0, l1, .int l2, l3] [.int x0] h Q = zWp d zi_100 none 25 [l0, l1, .int l2, .int x0] [] h Q) ∧
    (∀ (d : Nat) (l0 : Nat) (l1 : Value) (l2 : Value) (l3 : Value)  (h : zMm) (Q : Option Value → zMm → Prop), zWp d zi_100 none 25 [.ref l0, l1, l2, l3] [] h Q = zWp d zi_100 none 26 [.ref l0, l1, l2, l3] [.ref l0] h Q) ∧
    (∀ (d : Nat) (l0 : Value) (l1 : Value) (l2 : Value) (l3 : Value) (x0 : Nat) (I : Nat → Nat → Int32) (L : Nat → Nat → Int64) (P : Nat → Nat → Option Nat) (Q : Option Value → zMm → Prop), zSH[x0]? = some (.inl 9) → zWp d zi_100 none 26 [l0, l1, l2, l3] [.ref x0] (zSH, I, L, P) Q = zWp d zi_100 none 29 [l0, l1, l2, l3] [va_rf (P x0 5)] (zSH, I, L, P) Q) ∧
    (∀ (d : Nat) (l0 : Value) (l1 : Value) (l2 : Int32) (l3 : Value) (x0 : Nat) (h : zMm) (Q : Option Value → zMm → Prop), zWp d zi_100 none 29 [l0, l1, .int l2, l3] [.ref x0] h Q = zWp d zi_100 none 30 [l0, l1, .int l2, l3] [.int l2, .ref x0] h Q) ∧
    (∀ (d : Nat) (l0 : Value) (l1 : Value) (l2 : Value) (l3 : Value) (x1 : Int32) (x0 : Nat) (h : zMm) (Q : Option Value → zMm → Prop), zWp d zi_100 none 30 [l0, l1, l2, l3] [.int x1, .ref x0] h Q = zWp d zi_100 none 31 [l0, l1, l2, l3] [.int 1, .int x1, .ref x0] h Q) ∧
    (∀ (d : Nat) (l0 : Value) (l1 : Value) (l2 : Value) (l3 : Value) (x2 : Int32) (x1 : Int32) (x0 : Nat) (h : zMm) (Q : Option Value → zMm → Prop), zWp d zi_100 none 31 [l0, l1, l2, l3] [.int x2, .int x1, .ref x0] h Q = if x1 = x2 then zWp d zi_100 none 34 [l0, l1, l2, l3] [.ref x0] h Q else zWp d zi_100 none 46 [l0, l1, l2, l3] [.ref x0] h Q) ∧
    (∀ (d : Nat) (l0 : Nat) (l1 : Value) (l2 : Value) (l3 : Value) (x0 : Nat) (h : zMm) (Q : Option Value → zMm → Prop), zWp d zi_100 none 34 [.ref l0, l1, l2, l3] [.ref x0] h Q = zWp d zi_100 none 35 [.ref l0, l1, l2, l3] [.ref l0, .ref x0] h Q) ∧
    (∀ (d : Nat) (l0 : Value) (l1 : Value) (l2 : Value) (l3 : Value) (x1 : Nat) (x0 : Nat) (I : Nat → Nat → Int32) (L : Nat → Nat → Int64) (P : Nat → Nat → Option Nat) (Q : Option Value → zMm → Prop), zSH[x1]? = some (.inl 9) → zWp d zi_100 none 35 [l0, l1, l2, l3] [.ref x1, .ref x0] (zSH, I, L, P) Q = zWp d zi_100 none 38 [l0, l1, l2, l3] [va_rf (P x1 5), .ref x0] (zSH, I, L, P) Q) ∧
    (∀ (d : Nat) (l0 : Value) (l1 : Value) (l2 : Value) (l3 : Value) (x1 : Nat) (x0 : Nat) (I : Nat → Nat → Int32) (L : Nat → Nat → Int64) (P : Nat → Nat → Option Nat) (Q : Option Value → zMm → Prop), zSH[x1]? = some (.inl 7) → zWp d zi_100 none 38 [l0, l1, l2, l3] [.ref x1, .ref x0] (zSH, I, L, P) Q = zWp d zi_100 none 41 [l0, l1, l2, l3] [.int (I x1 3), .ref x0] (zSH, I, L, P) Q) ∧
    (∀ (d : Nat) (l0 : Value) (l1 : Value) (l2 : Value) (l3 : Int32) (x1 : Int32) (x0 : Nat) (h : zMm) (Q : Option Value → zMm → Prop), zWp d zi_100 none 41 [l0, l1, l2, .int l3] [.int x1, .ref x0] h Q = zWp d zi_100 none 42 [l0, l1, l2, .int l3] [.int l3, .int x1, .ref x0] h Q) ∧
    (∀ (d : Nat) (l0 : Value) (l1 : Value) (l2 : Value) (l3 : Value) (x2 : Int32) (x1 : Int32) (x0 : Nat) (h : zMm) (Q : Option Value → zMm → Prop), zWp d zi_100 none 42 [l0, l1, l2, l3] [.int x2, .int x1, .ref x0] h Q = zWp d zi_100 none 43 [l0, l1, l2, l3] [.int (x1 ||| x2), .ref x0] h Q) ∧
    (∀ (d : Nat) (l0 : Value) (l1 : Value) (l2 : Value) (l3 : Value) (x1 : Int32) (x0 : Nat) (h : zMm) (Q : Option Value → zMm → Prop), zWp d zi_100 none 43 [l0, l1, l2, l3] [.int x1, .ref x0] h Q = zWp d zi_100 none 57 [l0, l1, l2, l3] [.int x1, .ref x0] h Q) ∧
    (∀ (d : Nat) (l0 : Nat) (l1 : Value) (l2 : Value) (l3 : Value) (x0 : Nat) (h : zMm) (Q : Option Value → zMm → Prop), zWp d zi_100 none 46 [.ref l0, l1, l2, l3] [.ref x0] h Q = zWp d zi_100 none 47 [.ref l0, l1, l2, l3] [.ref l0, .ref x0] h Q) ∧
    (∀ (d : Nat) (l0 : Value) (l1 : Value) (l2 : Value) (l3 : Value) (x1 : Nat) (x0 : Nat) (I : Nat → Nat → Int32) (L : Nat → Nat → Int64) (P : Nat → Nat → Option Nat) (Q : Option Value → zMm → Prop), zSH[x1]? = some (.inl 9) → zWp d zi_100 none 47 [l0, l1, l2, l3] [.ref x1, .ref x0] (zSH, I, L, P) Q = zWp d zi_100 none 50 [l0, l1, l2, l3] [va_rf (P x1 5), .ref x0] (zSH, I, L, P) Q) ∧
    (∀ (d : Nat) (l0 : Value) (l1 : Value) (l2 : Value) (l3 : Value) (x1 : Nat) (x0 : Nat) (I : Nat → Nat → Int32) (L : Nat → Nat → Int64) (P : Nat → Nat → Option Nat) (Q : Option Value → zMm → Prop), zSH[x1]? = some (.inl 7) → zWp d zi_100 none 50 [l0, l1, l2, l3] [.ref x1, .ref x0] (zSH, I, L, P) Q = zWp d zi_100 none 53 [l0, l1, l2, l3] [.int (I x1 3), .ref x0] (zSH, I, L, P) Q) ∧
    (∀ (d : Nat) (l0 : Value) (l1 : Value) (l2 : Value) (l3 : Int32) (x1 : Int32) (x0 : Nat) (h : zMm) (Q : Option Value → zMm → Prop), zWp d zi_100 none 53 [l0, l1, l2, .int l3] [.int x1, .ref x0] h Q = zWp d zi_100 none 54 [l0, l1, l2, .int l3] [.int l3, .int x1, .ref x0] h Q) ∧
    (∀ (d : Nat) (l0 : Value) (l1 : Value) (l2 : Value) (l3 : Value) (x2 : Int32) (x1 : Int32) (x0 : Nat) (h : zMm) (Q : Option Value → zMm → Prop), zWp d zi_100 none 54 [l0, l1, l2, l3] [.int x2, .int x1, .ref x0] h Q = zWp d zi_100 none 55 [l0, l1, l2, l3] [.int (-1), .int x2, .int x1, .ref x0] h Q) ∧
    (∀ (d : Nat) (l0 : Value) (l1 : Value) (l2 : Value) (l3 : Value) (x3 : Int32) (x2 : Int32) (x1 : Int32) (x0 : Nat) (h : zMm) (Q : Option Value → zMm → Prop), zWp d zi_100 none 55 [l0, l1, l2, l3] [.int x3, .int x2, .int x1, .ref x0] h Q = zWp d zi_100 none 56 [l0, l1, l2, l3] [.int (x2 ^^^ x3), .int x1, .ref x0] h Q) ∧
    (∀ (d : Nat) (l0 : Value) (l1 : Value) (l2 : Value) (l3 : Value) (x2 : Int32) (x1 : Int32) (x0 : Nat) (h : zMm) (Q : Option Value → zMm → Prop), zWp d zi_100 none 56 [l0, l1, l2, l3] [.int x2, .int x1, .ref x0] h Q = zWp d zi_100 none 57 [l0, l1, l2, l3] [.int (x1 &&& x2), .ref x0] h Q) ∧
    (∀ (d : Nat) (l0 : Value) (l1 : Value) (l2 : Value) (l3 : Value) (x1 : Int32) (x0 : Nat) (I : Nat → Nat → Int32) (L : Nat → Nat → Int64) (P : Nat → Nat → Option Nat) (Q : Option Value → zMm → Prop), zSH[x0]? = some (.inl 7) → zWp d zi_100 none 57 [l0, l1, l2, l3] [.int x1, .ref x0] (zSH, I, L, P) Q = zWp d zi_100 none 60 [l0, l1, l2, l3] [] (zSH, zw I x0 (upd (I x0) 3 x1), L, P) Q) ∧
    (∀ (d : Nat) (l0 : Nat) (l1 : Value) (l2 : Value) (l3 : Value)  (h : zMm) (Q : Option Value → zMm → Prop), zWp d zi_100 none 60 [.ref l0, l1, l2, l3] [] h Q = zWp d zi_100 none 61 [.ref l0, l1, l2, l3] [.ref l0] h Q) ∧
    (∀ (d : Nat) (l0 : Value) (l1 : Value) (l2 : Value) (l3 : Value) (x0 : Nat) (I : Nat → Nat → Int32) (L : Nat → Nat → Int64) (P : Nat → Nat → Option Nat) (Q : Option Value → zMm → Prop), zSH[x0]? = some (.inl 9) → zWp d zi_100 none 61 [l0, l1, l2, l3] [.ref x0] (zSH, I, L, P) Q = zWp d zi_100 none 64 [l0, l1, l2, l3] [va_rf (P x0 5)] (zSH, I, L, P) Q) ∧
    (∀ (d : Nat) (l0 : Value) (l1 : Value) (l2 : Value) (l3 : Value) (x0 : Nat) (I : Nat → Nat → Int32) (L : Nat → Nat → Int64) (P : Nat → Nat → Option Nat) (Q : Option Value → zMm → Prop), zSH[x0]? = some (.inl 7) → zWp d zi_100 none 64 [l0, l1, l2, l3] [.ref x0] (zSH, I, L, P) Q = zWp d zi_100 none 67 [l0, l1, l2, l3] [.int (I x0 3)] (zSH, I, L, P) Q) ∧
    (∀ (d : Nat) (l0 : Value) (l1 : Value) (l2 : Value) (l3 : Value) (x0 : Int32) (h : zMm) (Q : Option Value → zMm → Prop), zWp d zi_100 none 67 [l0, l1, l2, l3] [.int x0] h Q = zWM d 216 [.int x0] h (fun r h1 => zWp d zi_100 none 70 [l0, l1, l2, l3] (r.toList ++ []) h1 Q)) ∧
    (∀ (d : Nat) (l0 : Value) (l1 : Value) (l2 : Value) (l3 : Value) (x0 : Int32) (h : zMm) (Q : Option Value → zMm → Prop), zWp d zi_100 none 70 [l0, l1, l2, l3] [.int x0] h Q = Q (some (.int x0)) h) :=
  ⟨(fun d l0 l1 l2 l3  h Q => zr_iload_n rfl rfl),
   (fun d l0 l1 l2 l3 x0 h Q => zr_if_lt rfl (by decide)),
   (fun d l0 l1 l2 l3  h Q => zr_iload_n rfl rfl),
   (fun d l0 l1 l2 l3 x0 h Q => zr_bipush rfl (by decide)),
   (fun d l0 l1 l2 l3 x1 x0 h Q => zr_ic_ge rfl (by decide)),
   (fun d l0 l1 l2 l3  h Q => zr_iload_n rfl rfl),
   (fun d l0 l1 l2 l3 x0 h Q => zr_if_lt rfl (by decide)),
   (fun d l0 l1 l2 l3  h Q => zr_iload_n rfl rfl),
   (fun d l0 l1 l2 l3 x0 h Q => zr_iconst rfl (by decide)),
   (fun d l0 l1 l2 l3 x1 x0 h Q => zr_ic_le rfl (by decide)),
   (fun d l0 l1 l2 l3  h Q => zr_iconst rfl (by decide)),
   (fun d l0 l1 l2 l3 x0 h Q => zr_iret rfl rfl),
   (fun d l0 l1 l2 l3  h Q => zr_iconst rfl (by decide)),
   (fun d l0 l1 l2 l3 x0 h Q => zr_iload_n rfl rfl),
   (fun d l0 l1 l2 l3 x1 x0 h Q => zr_ishl rfl),
   (fun d l0 l1 l2 l3 x0 h Q => zr_istore_n (n := 3) rfl (Nat.le_of_ble_eq_true rfl) rfl),
   (fun d l0 l1 l2 l3  h Q => zr_aload_n rfl rfl),
   (fun d l0 l1 l2 l3 x0 I L P Q p0 => zr_getQ rfl lf_9_43 (fun _ _ _ => rfl) p0),
   (fun d l0 l1 l2 l3 x0 h Q => zr_iload_n rfl rfl),
   (fun d l0 l1 l2 l3 x1 x0 h Q => zr_iconst rfl (by decide)),
   (fun d l0 l1 l2 l3 x2 x1 x0 h Q => zr_ic_ne rfl (by decide)),
   (fun d l0 l1 l2 l3 x0 h Q => zr_aload_n rfl rfl),
   (fun d l0 l1 l2 l3 x1 x0 I L P Q p0 => zr_getQ rfl lf_9_43 (fun _ _ _ => rfl) p0),
   (fun d l0 l1 l2 l3 x1 x0 I L P Q p0 => zr_getI rfl lf_9_284 (fun _ _ _ => rfl) p0),
   (fun d l0 l1 l2 l3 x1 x0 h Q => zr_iload_n rfl rfl),
   (fun d l0 l1 l2 l3 x2 x1 x0 h Q => zr_ior rfl),
   (fun d l0 l1 l2 l3 x1 x0 h Q => zr_goto rfl (by decide)),
   (fun d l0 l1 l2 l3 x0 h Q => zr_aload_n rfl rfl),
   (fun d l0 l1 l2 l3 x1 x0 I L P Q p0 => zr_getQ rfl lf_9_43 (fun _ _ _ => rfl) p0),
   (fun d l0 l1 l2 l3 x1 x0 I L P Q p0 => zr_getI rfl lf_9_284 (fun _ _ _ => rfl) p0),
   (fun d l0 l1 l2 l3 x1 x0 h Q => zr_iload_n rfl rfl),
   (fun d l0 l1 l2 l3 x2 x1 x0 h Q => zr_iconst rfl (by decide)),
   (fun d l0 l1 l2 l3 x3 x2 x1 x0 h Q => zr_ixor rfl),
   (fun d l0 l1 l2 l3 x2 x1 x0 h Q => zr_iand rfl),
   (fun d l0 l1 l2 l3 x1 x0 I L P Q p0 => zr_putI rfl lf_9_284 (by decide) rfl p0),
   (fun d l0 l1 l2 l3  h Q => zr_aload_n rfl rfl),
   (fun d l0 l1 l2 l3 x0 I L P Q p0 => zr_getQ rfl lf_9_43 (fun _ _ _ => rfl) p0),
   (fun d l0 l1 l2 l3 x0 I L P Q p0 => zr_getI rfl lf_9_284 (fun _ _ _ => rfl) p0),
   (fun d l0 l1 l2 l3 x0 h Q => zr_sta (as := [.int x0]) (rest := []) rfl lm_9_287 (by decide) m_216 kd_216 rfl (Nat.le_of_ble_eq_true rfl)),
   (fun d l0 l1 l2 l3 x0 h Q => zr_iret rfl rfl)⟩
theorem E_X9_nights : ∀ (d : Nat) (a0 : Nat) (a1 : Int32) (a2 : Int32) (h : zMm) (Q : Option Value → zMm → Prop), zWM (d + 1) 101 [.ref a0, .int a1, .int a2] h Q = zWp d zi_101 none 0 [.ref a0, .int a1, .int a2] [] h Q := fun d a0 a1 a2 h Q => zW_M m_101 (Nat.le_of_ble_eq_true rfl) rfl
set_option maxRecDepth 100000 in
theorem R_X9_nights :
    (∀ (d : Nat) (l0 : Value) (l1 : Value) (l2 : Int32)  (h : zMm) (Q : Option Value → zMm → Prop), zWp d zi_101 none 0 [l0, l1, .int l2] [] h Q = zWp d zi_101 none 1 [l0, l1, .int l2] [.int l2] h Q) ∧
    (∀ (d : Nat) (l0 : Value) (l1 : Value) (l2 : Value) (x0 : Int32) (h : zMm) (Q : Option Value → zMm → Prop), zWp d zi_101 none 1 [l0, l1, l2] [.int x0] h Q = zWp d zi_101 none 2 [l0, l1, l2] [.int 1, .int x0] h Q) ∧
    (∀ (d : Nat) (l0 : Value) (l1 : Value) (l2 : Value) (x1 : Int32) (x0 : Int32) (h : zMm) (Q : Option Value → zMm → Prop), zWp d zi_101 none 2 [l0, l1, l2] [.int x1, .int x0] h Q = if x0 < x1 then zWp d zi_101 none 11 [l0, l1, l2] [] h Q else zWp d zi_101 none 5 [l0, l1, l2] [] h Q) ∧
    (∀ (d : Nat) (l0 : Value) (l1 : Value) (l2 : Int32)  (h : zMm) (Q : Option Value → zMm → Prop), zWp d zi_101 none 5 [l0, l1, .int l2] [] h Q = zWp d zi_101 none 6 [l0, l1, .int l2] [.int l2] h Q) ∧
    (∀ (d : Nat) (l0 : Value) (l1 : Value) (l2 : Value) (x0 : Int32) (h : zMm) (Q : Option Value → zMm → Prop), zWp d zi_101 none 6 [l0, l1, l2] [.int x0] h Q = zWp d zi_101 none 8 [l0, l1, l2] [.int 30, .int x0] h Q) ∧
    (∀ (d : Nat) (l0 : Value) (l1 : Value) (l2 : Value) (x1 : Int32) (x0 : Int32) (h : zMm) (Q : Option Value → zMm → Prop), zWp d zi_101 none 8 [l0, l1, l2] [.int x1, .int x0] h Q = if x0 ≤ x1 then zWp d zi_101 none 13 [l0, l1, l2] [] h Q else zWp d zi_101 none 11 [l0, l1, l2] [] h Q) ∧
    (∀ (d : Nat) (l0 : Value) (l1 : Value) (l2 : Value)  (h : zMm) (Q : Option Value → zMm → Prop), zWp d zi_101 none 11 [l0, l1, l2] [] h Q = zWp d zi_101 none 12 [l0, l1, l2] [.int (-1)] h Q) ∧
    (∀ (d : Nat) (l0 : Value) (l1 : Value) (l2 : Value) (x0 : Int32) (h : zMm) (Q : Option Value → zMm → Prop), zWp d zi_101 none 12 [l0, l1, l2] [.int x0] h Q = Q (some (.int x0)) h) ∧
    (∀ (d : Nat) (l0 : Value) (l1 : Value) (l2 : Int32)  (h : zMm) (Q : Option Value → zMm → Prop), zWp d zi_101 none 13 [l0, l1, .int l2] [] h Q = zWp d zi_101 none 14 [l0, l1, .int l2] [.int l2] h Q) ∧
    (∀ (d : Nat) (l0 : Value) (l1 : Value) (l2 : Value) (x0 : Int32) (h : zMm) (Q : Option Value → zMm → Prop), zWp d zi_101 none 14 [l0, l1, l2] [.int x0] h Q = zWp d zi_101 none 16 [l0, l1, l2] [.int 30, .int x0] h Q) ∧
    (∀ (d : Nat) (l0 : Nat) (l1 : Value) (l2 : Value) (x1 : Int32) (x0 : Int32) (h : zMm) (Q : Option Value → zMm → Prop), zWp d zi_101 none 16 [.ref l0, l1, l2] [.int x1, .int x0] h Q = zWp d zi_101 none 17 [.ref l0, l1, l2] [.ref l0, .int x1, .int x0] h Q) ∧
    (∀ (d : Nat) (l0 : Value) (l1 : Value) (l2 : Value) (x2 : Nat) (x1 : Int32) (x0 : Int32) (I : Nat → Nat → Int32) (L : Nat → Nat → Int64) (P : Nat → Nat → Option Nat) (Q : Option Value → zMm → Prop), zSH[x2]? = some (.inl 9) → zWp d zi_101 none 17 [l0, l1, l2] [.ref x2, .int x1, .int x0] (zSH, I, L, P) Q = zWp d zi_101 none 20 [l0, l1, l2] [va_rf (P x2 5), .int x1, .int x0] (zSH, I, L, P) Q) ∧
    (∀ (d : Nat) (l0 : Value) (l1 : Value) (l2 : Value) (x2 : Nat) (x1 : Int32) (x0 : Int32) (I : Nat → Nat → Int32) (L : Nat → Nat → Int64) (P : Nat → Nat → Option Nat) (Q : Option Value → zMm → Prop), zSH[x2]? = some (.inl 7) → zWp d zi_101 none 20 [l0, l1, l2] [.ref x2, .int x1, .int x0] (zSH, I, L, P) Q = zWp d zi_101 none 23 [l0, l1, l2] [.int (I x2 2), .int x1, .int x0] (zSH, I, L, P) Q) ∧
    (∀ (d : Nat) (l0 : Value) (l1 : Value) (l2 : Value) (x2 : Int32) (x1 : Int32) (x0 : Int32) (h : zMm) (Q : Option Value → zMm → Prop), zWp d zi_101 none 23 [l0, l1, l2] [.int x2, .int x1, .int x0] h Q = zWp d zi_101 none 24 [l0, l1, l2] [.int (x1 - x2), .int x0] h Q) ∧
    (∀ (d : Nat) (l0 : Value) (l1 : Value) (l2 : Value) (x1 : Int32) (x0 : Int32) (h : zMm) (Q : Option Value → zMm → Prop), zWp d zi_101 none 24 [l0, l1, l2] [.int x1, .int x0] h Q = if x0 ≤ x1 then zWp d zi_101 none 30 [l0, l1, l2] [] h Q else zWp d zi_101 none 27 [l0, l1, l2] [] h Q) ∧
    (∀ (d : Nat) (l0 : Value) (l1 : Value) (l2 : Value)  (h : zMm) (Q : Option Value → zMm → Prop), zWp d zi_101 none 27 [l0, l1, l2] [] h Q = zWp d zi_101 none 29 [l0, l1, l2] [.int (-5)] h Q) ∧
    (∀ (d : Nat) (l0 : Value) (l1 : Value) (l2 : Value) (x0 : Int32) (h : zMm) (Q : Option Value → zMm → Prop), zWp d zi_101 none 29 [l0, l1, l2] [.int x0] h Q = Q (some (.int x0)) h) ∧
    (∀ (d : Nat) (l0 : Nat) (l1 : Value) (l2 : Value)  (h : zMm) (Q : Option Value → zMm → Prop), zWp d zi_101 none 30 [.ref l0, l1, l2] [] h Q = zWp d zi_101 none 31 [.ref l0, l1, l2] [.ref l0] h Q) ∧
    (∀ (d : Nat) (l0 : Value) (l1 : Value) (l2 : Value) (x0 : Nat) (I : Nat → Nat → Int32) (L : Nat → Nat → Int64) (P : Nat → Nat → Option Nat) (Q : Option Value → zMm → Prop), zSH[x0]? = some (.inl 9) → zWp d zi_101 none 31 [l0, l1, l2] [.ref x0] (zSH, I, L, P) Q = zWp d zi_101 none 34 [l0, l1, l2] [va_rf (P x0 5)] (zSH, I, L, P) Q) ∧
    (∀ (d : Nat) (l0 : Value) (l1 : Int32) (l2 : Value) (x0 : Nat) (h : zMm) (Q : Option Value → zMm → Prop), zWp d zi_101 none 34 [l0, .int l1, l2] [.ref x0] h Q = zWp d zi_101 none 35 [l0, .int l1, l2] [.int l1, .ref x0] h Q) ∧
    (∀ (d : Nat) (l0 : Value) (l1 : Value) (l2 : Int32) (x1 : Int32) (x0 : Nat) (h : zMm) (Q : Option Value → zMm → Prop), zWp d zi_101 none 35 [l0, l1, .int l2] [.int x1, .ref x0] h Q = zWp d zi_101 none 36 [l0, l1, .int l2] [.int l2, .int x1, .ref x0] h Q) ∧
    (∀ (d : Nat) (l0 : Nat) (l1 : Value) (l2 : Value) (x2 : Int32) (x1 : Int32) (x0 : Nat) (h : zMm) (Q : Option Value → zMm → Prop), zWp d zi_101 none 36 [.ref l0, l1, l2] [.int x2, .int x1, .ref x0] h Q = zWp d zi_101 none 37 [.ref l0, l1, l2] [.ref l0, .int x2, .int x1, .ref x0] h Q) ∧
    (∀ (d : Nat) (l0 : Value) (l1 : Value) (l2 : Value) (x3 : Nat) (x2 : Int32) (x1 : Int32) (x0 : Nat) (I : Nat → Nat → Int32) (L : Nat → Nat → Int64) (P : Nat → Nat → Option Nat) (Q : Option Value → zMm → Prop), zSH[x3]? = some (.inl 9) → zWp d zi_101 none 37 [l0, l1, l2] [.ref x3, .int x2, .int x1, .ref x0] (zSH, I, L, P) Q = zWp d zi_101 none 40 [l0, l1, l2] [.int (I x3 16), .int x2, .int x1, .ref x0] (zSH, I, L, P) Q) ∧
    (∀ (d : Nat) (l0 : Value) (l1 : Value) (l2 : Value) (x3 : Int32) (x2 : Int32) (x1 : Int32) (x0 : Nat) (I : Nat → Nat → Int32) (L : Nat → Nat → Int64) (P : Nat → Nat → Option Nat) (Q : Option Value → zMm → Prop), zSH[x0]? = some (.inl 7) → zWp d zi_101 none 40 [l0, l1, l2] [.int x3, .int x2, .int x1, .ref x0] (zSH, I, L, P) Q = zWM d 56 [.ref x0, .int x1, .int x2, .int x3] (zSH, I, L, P) (fun r h1 => zWp d zi_101 none 43 [l0, l1, l2] (r.toList ++ []) h1 Q)) ∧
    (∀ (d : Nat) (l0 : Nat) (l1 : Value) (l2 : Value)  (h : zMm) (Q : Option Value → zMm → Prop), zWp d zi_101 none 43 [.ref l0, l1, l2] [] h Q = zWp d zi_101 none 44 [.ref l0, l1, l2] [.ref l0] h Q) ∧
    (∀ (d : Nat) (l0 : Value) (l1 : Value) (l2 : Value) (x0 : Nat) (I : Nat → Nat → Int32) (L : Nat → Nat → Int64) (P : Nat → Nat → Option Nat) (Q : Option Value → zMm → Prop), zSH[x0]? = some (.inl 9) → zWp d zi_101 none 44 [l0, l1, l2] [.ref x0] (zSH, I, L, P) Q = zWp d zi_101 none 47 [l0, l1, l2] [va_rf (P x0 5)] (zSH, I, L, P) Q) ∧
    (∀ (d : Nat) (l0 : Value) (l1 : Value) (l2 : Value) (x0 : Nat) (I : Nat → Nat → Int32) (L : Nat → Nat → Int64) (P : Nat → Nat → Option Nat) (Q : Option Value → zMm → Prop), zSH[x0]? = some (.inl 7) → zWp d zi_101 none 47 [l0, l1, l2] [.ref x0] (zSH, I, L, P) Q = zWp d zi_101 none 50 [l0, l1, l2] [.int (I x0 0)] (zSH, I, L, P) Q) ∧
    (∀ (d : Nat) (l0 : Value) (l1 : Value) (l2 : Value) (x0 : Int32) (h : zMm) (Q : Option Value → zMm → Prop), zWp d zi_101 none 50 [l0, l1, l2] [.int x0] h Q = Q (some (.int x0)) h) :=
  ⟨(fun d l0 l1 l2  h Q => zr_iload_n rfl rfl),
   (fun d l0 l1 l2 x0 h Q => zr_iconst rfl (by decide)),
   (fun d l0 l1 l2 x1 x0 h Q => zr_ic_lt rfl (by decide)),
   (fun d l0 l1 l2  h Q => zr_iload_n rfl rfl),
   (fun d l0 l1 l2 x0 h Q => zr_bipush rfl (by decide)),
   (fun d l0 l1 l2 x1 x0 h Q => zr_ic_le rfl (by decide)),
   (fun d l0 l1 l2  h Q => zr_iconst rfl (by decide)),
   (fun d l0 l1 l2 x0 h Q => zr_iret rfl rfl),
   (fun d l0 l1 l2  h Q => zr_iload_n rfl rfl),
   (fun d l0 l1 l2 x0 h Q => zr_bipush rfl (by decide)),
   (fun d l0 l1 l2 x1 x0 h Q => zr_aload_n rfl rfl),
   (fun d l0 l1 l2 x2 x1 x0 I L P Q p0 => zr_getQ rfl lf_9_43 (fun _ _ _ => rfl) p0),
   (fun d l0 l1 l2 x2 x1 x0 I L P Q p0 => zr_getI rfl lf_9_207 (fun _ _ _ => rfl) p0),
   (fun d l0 l1 l2 x2 x1 x0 h Q => zr_isub rfl),
   (fun d l0 l1 l2 x1 x0 h Q => zr_ic_le rfl (by decide)),
   (fun d l0 l1 l2  h Q => zr_bipush rfl (by decide)),
   (fun d l0 l1 l2 x0 h Q => zr_iret rfl rfl),
   (fun d l0 l1 l2  h Q => zr_aload_n rfl rfl),
   (fun d l0 l1 l2 x0 I L P Q p0 => zr_getQ rfl lf_9_43 (fun _ _ _ => rfl) p0),
   (fun d l0 l1 l2 x0 h Q => zr_iload_n rfl rfl),
   (fun d l0 l1 l2 x1 x0 h Q => zr_iload_n rfl rfl),
   (fun d l0 l1 l2 x2 x1 x0 h Q => zr_aload_n rfl rfl),
   (fun d l0 l1 l2 x3 x2 x1 x0 I L P Q p0 => zr_getI rfl lf_9_83 (fun _ _ _ => rfl) p0),
   (fun d l0 l1 l2 x3 x2 x1 x0 I L P Q p0 => zr_vir (as := [.int x3, .int x2, .int x1]) (rest := []) rfl lm_9_292 m_56 kd_56 rfl (Nat.le_of_ble_eq_true rfl) p0),
   (fun d l0 l1 l2  h Q => zr_aload_n rfl rfl),
   (fun d l0 l1 l2 x0 I L P Q p0 => zr_getQ rfl lf_9_43 (fun _ _ _ => rfl) p0),
   (fun d l0 l1 l2 x0 I L P Q p0 => zr_getI rfl lf_9_95 (fun _ _ _ => rfl) p0),
   (fun d l0 l1 l2 x0 h Q => zr_iret rfl rfl)⟩
theorem E_X9_best : ∀ (d : Nat) (a0 : Nat) (a1 : Int32) (a2 : Int32) (a3 : Int32) (h : zMm) (Q : Option Value → zMm → Prop), zWM (d + 1) 102 [.ref a0, .int a1, .int a2, .int a3] h Q = zWp d zi_102 none 0 [.ref a0, .int a1, .int a2, .int a3, .retAddr 0, .retAddr 0, .retAddr 0] [] h Q := fun d a0 a1 a2 a3 h Q => zW_M m_102 (Nat.le_of_ble_eq_true rfl) rfl
set_option maxRecDepth 100000 in
theorem R_X9_best :
    (∀ (d : Nat) (l0 : Value) (l1 : Value) (l2 : Int32) (l3 : Value) (l4 : Value) (l5 : Value) (l6 : Value)  (h : zMm) (Q : Option Value → zMm → Prop), zWp d zi_102 none 0 [l0, l1, .int l2, l3, l4, l5, l6] [] h Q = zWp d zi_102 none 1 [l0, l1, .int l2, l3, l4, l5, l6] [.int l2] h Q) ∧
    (∀ (d : Nat) (l0 : Value) (l1 : Value) (l2 : Value) (l3 : Value) (l4 : Value) (l5 : Value) (l6 : Value) (x0 : Int32) (h : zMm) (Q : Option Value → zMm → Prop), zWp d zi_102 none 1 [l0, l1, l2, l3, l4, l5, l6] [.int x0] h Q = zWp d zi_102 none 2 [l0, l1, l2, l3, l4, l5, l6] [.int 1, .int x0] h Q) ∧
    (∀ (d : Nat) (l0 : Value) (l1 : Value) (l2 : Value) (l3 : Value) (l4 : Value) (l5 : Value) (l6 : Value) (x1 : Int32) (x0 : Int32) (h : zMm) (Q : Option Value → zMm → Prop), zWp d zi_102 none 2 [l0, l1, l2, l3, l4, l5, l6] [.int x1, .int x0] h Q = if x0 < x1 then zWp d zi_102 none 28 [l0, l1, l2, l3, l4, l5, l6] [] h Q else zWp d zi_102 none 5 [l0, l1, l2, l3, l4, l5, l6] [] h Q) ∧
    (∀ (d : Nat) (l0 : Value) (l1 : Value) (l2 : Int32) (l3 : Value) (l4 : Value) (l5 : Value) (l6 : Value)  (h : zMm) (Q : Option Value → zMm → Prop), zWp d zi_102 none 5 [l0, l1, .int l2, l3, l4, l5, l6] [] h Q = zWp d zi_102 none 6 [l0, l1, .int l2, l3, l4, l5, l6] [.int l2] h Q) ∧
    (∀ (d : Nat) (l0 : Value) (l1 : Value) (l2 : Value) (l3 : Value) (l4 : Value) (l5 : Value) (l6 : Value) (x0 : Int32) (h : zMm) (Q : Option Value → zMm → Prop), zWp d zi_102 none 6 [l0, l1, l2, l3, l4, l5, l6] [.int x0] h Q = zWp d zi_102 none 8 [l0, l1, l2, l3, l4, l5, l6] [.int 30, .int x0] h Q) ∧
    (∀ (d : Nat) (l0 : Nat) (l1 : Value) (l2 : Value) (l3 : Value) (l4 : Value) (l5 : Value) (l6 : Value) (x1 : Int32) (x0 : Int32) (h : zMm) (Q : Option Value → zMm → Prop), zWp d zi_102 none 8 [.ref l0, l1, l2, l3, l4, l5, l6] [.int x1, .int x0] h Q = zWp d zi_102 none 9 [.ref l0, l1, l2, l3, l4, l5, l6] [.ref l0, .int x1, .int x0] h Q) ∧
    (∀ (d : Nat) (l0 : Value) (l1 : Value) (l2 : Value) (l3 : Value) (l4 : Value) (l5 : Value) (l6 : Value) (x2 : Nat) (x1 : Int32) (x0 : Int32) (I : Nat → Nat → Int32) (L : Nat → Nat → Int64) (P : Nat → Nat → Option Nat) (Q : Option Value → zMm → Prop), zSH[x2]? = some (.inl 9) → zWp d zi_102 none 9 [l0, l1, l2, l3, l4, l5, l6] [.ref x2, .int x1, .int x0] (zSH, I, L, P) Q = zWp d zi_102 none 12 [l0, l1, l2, l3, l4, l5, l6] [va_rf (P x2 5), .int x1, .int x0] (zSH, I, L, P) Q) ∧
    (∀ (d : Nat) (l0 : Value) (l1 : Value) (l2 : Value) (l3 : Value) (l4 : Value) (l5 : Value) (l6 : Value) (x2 : Nat) (x1 : Int32) (x0 : Int32) (I : Nat → Nat → Int32) (L : Nat → Nat → Int64) (P : Nat → Nat → Option Nat) (Q : Option Value → zMm → Prop), zSH[x2]? = some (.inl 7) → zWp d zi_102 none 12 [l0, l1, l2, l3, l4, l5, l6] [.ref x2, .int x1, .int x0] (zSH, I, L, P) Q = zWp d zi_102 none 15 [l0, l1, l2, l3, l4, l5, l6] [.int (I x2 2), .int x1, .int x0] (zSH, I, L, P) Q) ∧
    (∀ (d : Nat) (l0 : Value) (l1 : Value) (l2 : Value) (l3 : Value) (l4 : Value) (l5 : Value) (l6 : Value) (x2 : Int32) (x1 : Int32) (x0 : Int32) (h : zMm) (Q : Option Value → zMm → Prop), zWp d zi_102 none 15 [l0, l1, l2, l3, l4, l5, l6] [.int x2, .int x1, .int x0] h Q = zWp d zi_102 none 16 [l0, l1, l2, l3, l4, l5, l6] [.int (x1 - x2), .int x0] h Q) ∧
    (∀ (d : Nat) (l0 : Value) (l1 : Value) (l2 : Value) (l3 : Value) (l4 : Value) (l5 : Value) (l6 : Value) (x1 : Int32) (x0 : Int32) (h : zMm) (Q : Option Value → zMm → Prop), zWp d zi_102 none 16 [l0, l1, l2, l3, l4, l5, l6] [.int x1, .int x0] h Q = if x1 < x0 then zWp d zi_102 none 28 [l0, l1, l2, l3, l4, l5, l6] [] h Q else zWp d zi_102 none 19 [l0, l1, l2, l3, l4, l5, l6] [] h Q) ∧
    (∀ (d : Nat) (l0 : Value) (l1 : Value) (l2 : Value) (l3 : Int32) (l4 : Value) (l5 : Value) (l6 : Value)  (h : zMm) (Q : Option Value → zMm → Prop), zWp d zi_102 none 19 [l0, l1, l2, .int l3, l4, l5, l6] [] h Q = zWp d zi_102 none 20 [l0, l1, l2, .int l3, l4, l5, l6] [.int l3] h Q) ∧
    (∀ (d : Nat) (l0 : Value) (l1 : Value) (l2 : Value) (l3 : Value) (l4 : Value) (l5 : Value) (l6 : Value) (x0 : Int32) (h : zMm) (Q : Option Value → zMm → Prop), zWp d zi_102 none 20 [l0, l1, l2, l3, l4, l5, l6] [.int x0] h Q = if x0 < 0 then zWp d zi_102 none 28 [l0, l1, l2, l3, l4, l5, l6] [] h Q else zWp d zi_102 none 23 [l0, l1, l2, l3, l4, l5, l6] [] h Q) ∧
    (∀ (d : Nat) (l0 : Value) (l1 : Value) (l2 : Value) (l3 : Int32) (l4 : Value) (l5 : Value) (l6 : Value)  (h : zMm) (Q : Option Value → zMm → Prop), zWp d zi_102 none 23 [l0, l1, l2, .int l3, l4, l5, l6] [] h Q = zWp d zi_102 none 24 [l0, l1, l2, .int l3, l4, l5, l6] [.int l3] h Q) ∧
    (∀ (d : Nat) (l0 : Value) (l1 : Value) (l2 : Value) (l3 : Value) (l4 : Value) (l5 : Value) (l6 : Value) (x0 : Int32) (h : zMm) (Q : Option Value → zMm → Prop), zWp d zi_102 none 24 [l0, l1, l2, l3, l4, l5, l6] [.int x0] h Q = zWp d zi_102 none 25 [l0, l1, l2, l3, l4, l5, l6] [.int 1, .int x0] h Q) ∧
    (∀ (d : Nat) (l0 : Value) (l1 : Value) (l2 : Value) (l3 : Value) (l4 : Value) (l5 : Value) (l6 : Value) (x1 : Int32) (x0 : Int32) (h : zMm) (Q : Option Value → zMm → Prop), zWp d zi_102 none 25 [l0, l1, l2, l3, l4, l5, l6] [.int x1, .int x0] h Q = if x0 ≤ x1 then zWp d zi_102 none 30 [l0, l1, l2, l3, l4, l5, l6] [] h Q else zWp d zi_102 none 28 [l0, l1, l2, l3, l4, l5, l6] [] h Q) ∧
    (∀ (d : Nat) (l0 : Value) (l1 : Value) (l2 : Value) (l3 : Value) (l4 : Value) (l5 : Value) (l6 : Value)  (h : zMm) (Q : Option Value → zMm → Prop), zWp d zi_102 none 28 [l0, l1, l2, l3, l4, l5, l6] [] h Q = zWp d zi_102 none 29 [l0, l1, l2, l3, l4, l5, l6] [.int (-1)] h Q) ∧
    (∀ (d : Nat) (l0 : Value) (l1 : Value) (l2 : Value) (l3 : Value) (l4 : Value) (l5 : Value) (l6 : Value) (x0 : Int32) (h : zMm) (Q : Option Value → zMm → Prop), zWp d zi_102 none 29 [l0, l1, l2, l3, l4, l5, l6] [.int x0] h Q = Q (some (.int x0)) h) ∧
    (∀ (d : Nat) (l0 : Nat) (l1 : Value) (l2 : Value) (l3 : Value) (l4 : Value) (l5 : Value) (l6 : Value)  (h : zMm) (Q : Option Value → zMm → Prop), zWp d zi_102 none 30 [.ref l0, l1, l2, l3, l4, l5, l6] [] h Q = zWp d zi_102 none 31 [.ref l0, l1, l2, l3, l4, l5, l6] [.ref l0] h Q) ∧
    (∀ (d : Nat) (l0 : Value) (l1 : Value) (l2 : Value) (l3 : Value) (l4 : Value) (l5 : Value) (l6 : Value) (x0 : Nat) (I : Nat → Nat → Int32) (L : Nat → Nat → Int64) (P : Nat → Nat → Option Nat) (Q : Option Value → zMm → Prop), zSH[x0]? = some (.inl 9) → zWp d zi_102 none 31 [l0, l1, l2, l3, l4, l5, l6] [.ref x0] (zSH, I, L, P) Q = zWp d zi_102 none 34 [l0, l1, l2, l3, l4, l5, l6] [va_rf (P x0 5)] (zSH, I, L, P) Q) ∧
    (∀ (d : Nat) (l0 : Value) (l1 : Value) (l2 : Value) (l3 : Value) (l4 : Value) (l5 : Value) (l6 : Value) (x0 : Nat) (I : Nat → Nat → Int32) (L : Nat → Nat → Int64) (P : Nat → Nat → Option Nat) (Q : Option Value → zMm → Prop), zSH[x0]? = some (.inl 7) → zWp d zi_102 none 34 [l0, l1, l2, l3, l4, l5, l6] [.ref x0] (zSH, I, L, P) Q = zWp d zi_102 none 37 [l0, l1, l2, l3, l4, l5, l6] [.int (I x0 2)] (zSH, I, L, P) Q) ∧
    (∀ (d : Nat) (l0 : Value) (l1 : Value) (l2 : Value) (l3 : Int32) (l4 : Value) (l5 : Value) (l6 : Value) (x0 : Int32) (h : zMm) (Q : Option Value → zMm → Prop), zWp d zi_102 none 37 [l0, l1, l2, .int l3, l4, l5, l6] [.int x0] h Q = zWp d zi_102 none 39 [l0, l1, l2, .int l3, .int x0, l5, l6] [] h Q) ∧
    (∀ (d : Nat) (l0 : Value) (l1 : Value) (l2 : Value) (l3 : Value) (l4 : Value) (l5 : Value) (l6 : Value)  (h : zMm) (Q : Option Value → zMm → Prop), zWp d zi_102 none 39 [l0, l1, l2, l3, l4, l5, l6] [] h Q = zWp d zi_102 none 40 [l0, l1, l2, l3, l4, l5, l6] [.int (-1)] h Q) ∧
    (∀ (d : Nat) (l0 : Value) (l1 : Value) (l2 : Value) (l3 : Value) (l4 : Int32) (l5 : Value) (l6 : Value) (x0 : Int32) (h : zMm) (Q : Option Value → zMm → Prop), zWp d zi_102 none 40 [l0, l1, l2, l3, .int l4, l5, l6] [.int x0] h Q = zWp d zi_102 none 42 [l0, l1, l2, l3, .int l4, .int x0, l6] [] h Q) ∧
    (∀ (d : Nat) (l0 : Nat) (l1 : Value) (l2 : Value) (l3 : Value) (l4 : Value) (l5 : Value) (l6 : Value)  (h : zMm) (Q : Option Value → zMm → Prop), zWp d zi_102 none 42 [.ref l0, l1, l2, l3, l4, l5, l6] [] h Q = zWp d zi_102 none 43 [.ref l0, l1, l2, l3, l4, l5, l6] [.ref l0] h Q) ∧
    (∀ (d : Nat) (l0 : Value) (l1 : Value) (l2 : Value) (l3 : Value) (l4 : Value) (l5 : Value) (l6 : Value) (x0 : Nat) (I : Nat → Nat → Int32) (L : Nat → Nat → Int64) (P : Nat → Nat → Option Nat) (Q : Option Value → zMm → Prop), zSH[x0]? = some (.inl 9) → zWp d zi_102 none 43 [l0, l1, l2, l3, l4, l5, l6] [.ref x0] (zSH, I, L, P) Q = zWp d zi_102 none 46 [l0, l1, l2, l3, l4, l5, l6] [va_rf (P x0 5)] (zSH, I, L, P) Q) ∧
    (∀ (d : Nat) (l0 : Value) (l1 : Value) (l2 : Value) (l3 : Value) (l4 : Value) (l5 : Value) (l6 : Value) (x0 : Nat) (I : Nat → Nat → Int32) (L : Nat → Nat → Int64) (P : Nat → Nat → Option Nat) (Q : Option Value → zMm → Prop), zSH[x0]? = some (.inl 7) → zWp d zi_102 none 46 [l0, l1, l2, l3, l4, l5, l6] [.ref x0] (zSH, I, L, P) Q = zWp d zi_102 none 49 [l0, l1, l2, l3, l4, l5, l6] [.int (I x0 2)] (zSH, I, L, P) Q) ∧
    (∀ (d : Nat) (l0 : Value) (l1 : Value) (l2 : Value) (l3 : Value) (l4 : Value) (l5 : Int32) (l6 : Value) (x0 : Int32) (h : zMm) (Q : Option Value → zMm → Prop), zWp d zi_102 none 49 [l0, l1, l2, l3, l4, .int l5, l6] [.int x0] h Q = zWp d zi_102 none 51 [l0, l1, l2, l3, l4, .int l5, .int x0] [] h Q) ∧
    (∀ (d : Nat) (l0 : Nat) (l1 : Value) (l2 : Value) (l3 : Value) (l4 : Value) (l5 : Value) (l6 : Value) (x0 : Int32) (h : zMm) (Q : Option Value → zMm → Prop), zWp d zi_102 none 53 [.ref l0, l1, l2, l3, l4, l5, l6] [.int x0] h Q = zWp d zi_102 none 54 [.ref l0, l1, l2, l3, l4, l5, l6] [.ref l0, .int x0] h Q) ∧
    (∀ (d : Nat) (l0 : Value) (l1 : Value) (l2 : Value) (l3 : Value) (l4 : Value) (l5 : Value) (l6 : Value) (x1 : Nat) (x0 : Int32) (I : Nat → Nat → Int32) (L : Nat → Nat → Int64) (P : Nat → Nat → Option Nat) (Q : Option Value → zMm → Prop), zSH[x1]? = some (.inl 9) → zWp d zi_102 none 54 [l0, l1, l2, l3, l4, l5, l6] [.ref x1, .int x0] (zSH, I, L, P) Q = zWp d zi_102 none 57 [l0, l1, l2, l3, l4, l5, l6] [va_rf (P x1 5), .int x0] (zSH, I, L, P) Q) ∧
    (∀ (d : Nat) (l0 : Value) (l1 : Value) (l2 : Value) (l3 : Value) (l4 : Value) (l5 : Value) (l6 : Value) (x1 : Nat) (x0 : Int32) (I : Nat → Nat → Int32) (L : Nat → Nat → Int64) (P : Nat → Nat → Option Nat) (Q : Option Value → zMm → Prop), zSH[x1]? = some (.inl 7) → zWp d zi_102 none 57 [l0, l1, l2, l3, l4, l5, l6] [.ref x1, .int x0] (zSH, I, L, P) Q = zWp d zi_102 none 60 [l0, l1, l2, l3, l4, l5, l6] [.int (I x1 2), .int x0] (zSH, I, L, P) Q) ∧
    (∀ (d : Nat) (l0 : Value) (l1 : Value) (l2 : Int32) (l3 : Value) (l4 : Value) (l5 : Value) (l6 : Value) (x1 : Int32) (x0 : Int32) (h : zMm) (Q : Option Value → zMm → Prop), zWp d zi_102 none 60 [l0, l1, .int l2, l3, l4, l5, l6] [.int x1, .int x0] h Q = zWp d zi_102 none 61 [l0, l1, .int l2, l3, l4, l5, l6] [.int l2, .int x1, .int x0] h Q) ∧
    (∀ (d : Nat) (l0 : Value) (l1 : Value) (l2 : Value) (l3 : Value) (l4 : Value) (l5 : Value) (l6 : Value) (x2 : Int32) (x1 : Int32) (x0 : Int32) (h : zMm) (Q : Option Value → zMm → Prop), zWp d zi_102 none 61 [l0, l1, l2, l3, l4, l5, l6] [.int x2, .int x1, .int x0] h Q = zWp d zi_102 none 62 [l0, l1, l2, l3, l4, l5, l6] [.int (x1 + x2), .int x0] h Q) ∧
    (∀ (d : Nat) (l0 : Value) (l1 : Value) (l2 : Value) (l3 : Value) (l4 : Value) (l5 : Value) (l6 : Value) (x1 : Int32) (x0 : Int32) (h : zMm) (Q : Option Value → zMm → Prop), zWp d zi_102 none 62 [l0, l1, l2, l3, l4, l5, l6] [.int x1, .int x0] h Q = if x1 ≤ x0 then zWp d zi_102 none 136 [l0, l1, l2, l3, l4, l5, l6] [] h Q else zWp d zi_102 none 65 [l0, l1, l2, l3, l4, l5, l6] [] h Q) ∧
    (∀ (d : Nat) (l0 : Nat) (l1 : Value) (l2 : Value) (l3 : Value) (l4 : Value) (l5 : Value) (l6 : Value)  (h : zMm) (Q : Option Value → zMm → Prop), zWp d zi_102 none 65 [.ref l0, l1, l2, l3, l4, l5, l6] [] h Q = zWp d zi_102 none 66 [.ref l0, l1, l2, l3, l4, l5, l6] [.ref l0] h Q) ∧
    (∀ (d : Nat) (l0 : Value) (l1 : Value) (l2 : Value) (l3 : Value) (l4 : Value) (l5 : Value) (l6 : Value) (x0 : Nat) (I : Nat → Nat → Int32) (L : Nat → Nat → Int64) (P : Nat → Nat → Option Nat) (Q : Option Value → zMm → Prop), zSH[x0]? = some (.inl 9) → zWp d zi_102 none 66 [l0, l1, l2, l3, l4, l5, l6] [.ref x0] (zSH, I, L, P) Q = zWp d zi_102 none 69 [l0, l1, l2, l3, l4, l5, l6] [va_rf (P x0 7)] (zSH, I, L, P) Q) ∧
    (∀ (d : Nat) (l0 : Nat) (l1 : Value) (l2 : Value) (l3 : Value) (l4 : Value) (l5 : Value) (l6 : Value) (x0 : Nat) (h : zMm) (Q : Option Value → zMm → Prop), zWp d zi_102 none 69 [.ref l0, l1, l2, l3, l4, l5, l6] [.ref x0] h Q = zWp d zi_102 none 70 [.ref l0, l1, l2, l3, l4, l5, l6] [.ref l0, .ref x0] h Q) ∧
    (∀ (d : Nat) (l0 : Value) (l1 : Value) (l2 : Value) (l3 : Value) (l4 : Value) (l5 : Value) (l6 : Value) (x1 : Nat) (x0 : Nat) (I : Nat → Nat → Int32) (L : Nat → Nat → Int64) (P : Nat → Nat → Option Nat) (Q : Option Value → zMm → Prop), zSH[x1]? = some (.inl 9) → zWp d zi_102 none 70 [l0, l1, l2, l3, l4, l5, l6] [.ref x1, .ref x0] (zSH, I, L, P) Q = zWp d zi_102 none 73 [l0, l1, l2, l3, l4, l5, l6] [va_rf (P x1 5), .ref x0] (zSH, I, L, P) Q) ∧
    (∀ (d : Nat) (l0 : Value) (l1 : Value) (l2 : Value) (l3 : Value) (l4 : Value) (l5 : Value) (l6 : Value) (x1 : Nat) (x0 : Nat) (I : Nat → Nat → Int32) (L : Nat → Nat → Int64) (P : Nat → Nat → Option Nat) (Q : Option Value → zMm → Prop), zSH[x0]? = some (.inl 7) → zWp d zi_102 none 73 [l0, l1, l2, l3, l4, l5, l6] [.ref x1, .ref x0] (zSH, I, L, P) Q = zWM d 55 [.ref x0, .ref x1] (zSH, I, L, P) (fun r h1 => zWp d zi_102 none 76 [l0, l1, l2, l3, l4, l5, l6] (r.toList ++ []) h1 Q)) ∧
    (∀ (d : Nat) (l0 : Nat) (l1 : Value) (l2 : Value) (l3 : Value) (l4 : Value) (l5 : Value) (l6 : Value)  (h : zMm) (Q : Option Value → zMm → Prop), zWp d zi_102 none 76 [.ref l0, l1, l2, l3, l4, l5, l6] [] h Q = zWp d zi_102 none 77 [.ref l0, l1, l2, l3, l4, l5, l6] [.ref l0] h Q) ∧
    (∀ (d : Nat) (l0 : Value) (l1 : Value) (l2 : Value) (l3 : Value) (l4 : Value) (l5 : Value) (l6 : Value) (x0 : Nat) (I : Nat → Nat → Int32) (L : Nat → Nat → Int64) (P : Nat → Nat → Option Nat) (Q : Option Value → zMm → Prop), zSH[x0]? = some (.inl 9) → zWp d zi_102 none 77 [l0, l1, l2, l3, l4, l5, l6] [.ref x0] (zSH, I, L, P) Q = zWp d zi_102 none 80 [l0, l1, l2, l3, l4, l5, l6] [va_rf (P x0 7)] (zSH, I, L, P) Q) ∧
    (∀ (d : Nat) (l0 : Value) (l1 : Value) (l2 : Value) (l3 : Value) (l4 : Value) (l5 : Value) (l6 : Value) (x0 : Nat) (h : zMm) (Q : Option Value → zMm → Prop), zWp d zi_102 none 80 [l0, l1, l2, l3, l4, l5, l6] [.ref x0] h Q = zWp d zi_102 none 81 [l0, l1, l2, l3, l4, l5, l6] [.ref x0, .ref x0] h Q) ∧
    (∀ (d : Nat) (l0 : Value) (l1 : Value) (l2 : Value) (l3 : Value) (l4 : Value) (l5 : Value) (l6 : Value) (x1 : Nat) (x0 : Nat) (I : Nat → Nat → Int32) (L : Nat → Nat → Int64) (P : Nat → Nat → Option Nat) (Q : Option Value → zMm → Prop), zSH[x1]? = some (.inl 7) → zWp d zi_102 none 81 [l0, l1, l2, l3, l4, l5, l6] [.ref x1, .ref x0] (zSH, I, L, P) Q = zWp d zi_102 none 84 [l0, l1, l2, l3, l4, l5, l6] [.int (I x1 3), .ref x0] (zSH, I, L, P) Q) ∧
    (∀ (d : Nat) (l0 : Value) (l1 : Value) (l2 : Value) (l3 : Value) (l4 : Value) (l5 : Value) (l6 : Value) (x1 : Int32) (x0 : Nat) (h : zMm) (Q : Option Value → zMm → Prop), zWp d zi_102 none 84 [l0, l1, l2, l3, l4, l5, l6] [.int x1, .ref x0] h Q = zWp d zi_102 none 85 [l0, l1, l2, l3, l4, l5, l6] [.int 1, .int x1, .ref x0] h Q) ∧
    (∀ (d : Nat) (l0 : Value) (l1 : Value) (l2 : Value) (l3 : Value) (l4 : Value) (l5 : Value) (l6 : Int32) (x2 : Int32) (x1 : Int32) (x0 : Nat) (h : zMm) (Q : Option Value → zMm → Prop), zWp d zi_102 none 85 [l0, l1, l2, l3, l4, l5, .int l6] [.int x2, .int x1, .ref x0] h Q = zWp d zi_102 none 87 [l0, l1, l2, l3, l4, l5, .int l6] [.int l6, .int x2, .int x1, .ref x0] h Q) ∧
    (∀ (d : Nat) (l0 : Value) (l1 : Value) (l2 : Value) (l3 : Value) (l4 : Value) (l5 : Value) (l6 : Value) (x3 : Int32) (x2 : Int32) (x1 : Int32) (x0 : Nat) (h : zMm) (Q : Option Value → zMm → Prop), zWp d zi_102 none 87 [l0, l1, l2, l3, l4, l5, l6] [.int x3, .int x2, .int x1, .ref x0] h Q = zWp d zi_102 none 88 [l0, l1, l2, l3, l4, l5, l6] [.int (x2 <<< (x3 &&& 31)), .int x1, .ref x0] h Q) ∧
    (∀ (d : Nat) (l0 : Value) (l1 : Value) (l2 : Value) (l3 : Value) (l4 : Value) (l5 : Value) (l6 : Value) (x2 : Int32) (x1 : Int32) (x0 : Nat) (h : zMm) (Q : Option Value → zMm → Prop), zWp d zi_102 none 88 [l0, l1, l2, l3, l4, l5, l6] [.int x2, .int x1, .ref x0] h Q = zWp d zi_102 none 89 [l0, l1, l2, l3, l4, l5, l6] [.int (x1 ||| x2), .ref x0] h Q) ∧
    (∀ (d : Nat) (l0 : Value) (l1 : Value) (l2 : Value) (l3 : Value) (l4 : Value) (l5 : Value) (l6 : Value) (x1 : Int32) (x0 : Nat) (I : Nat → Nat → Int32) (L : Nat → Nat → Int64) (P : Nat → Nat → Option Nat) (Q : Option Value → zMm → Prop), zSH[x0]? = some (.inl 7) → zWp d zi_102 none 89 [l0, l1, l2, l3, l4, l5, l6] [.int x1, .ref x0] (zSH, I, L, P) Q = zWp d zi_102 none 92 [l0, l1, l2, l3, l4, l5, l6] [] (zSH, zw I x0 (upd (I x0) 3 x1), L, P) Q) ∧
    (∀ (d : Nat) (l0 : Nat) (l1 : Value) (l2 : Value) (l3 : Value) (l4 : Value) (l5 : Value) (l6 : Value)  (h : zMm) (Q : Option Value → zMm → Prop), zWp d zi_102 none 92 [.ref l0, l1, l2, l3, l4, l5, l6] [] h Q = zWp d zi_102 none 93 [.ref l0, l1, l2, l3, l4, l5, l6] [.ref l0] h Q) ∧
    (∀ (d : Nat) (l0 : Value) (l1 : Value) (l2 : Value) (l3 : Value) (l4 : Value) (l5 : Value) (l6 : Value) (x0 : Nat) (I : Nat → Nat → Int32) (L : Nat → Nat → Int64) (P : Nat → Nat → Option Nat) (Q : Option Value → zMm → Prop), zSH[x0]? = some (.inl 9) → zWp d zi_102 none 93 [l0, l1, l2, l3, l4, l5, l6] [.ref x0] (zSH, I, L, P) Q = zWp d zi_102 none 96 [l0, l1, l2, l3, l4, l5, l6] [va_rf (P x0 7)] (zSH, I, L, P) Q) ∧
    (∀ (d : Nat) (l0 : Value) (l1 : Int32) (l2 : Value) (l3 : Value) (l4 : Value) (l5 : Value) (l6 : Value) (x0 : Nat) (h : zMm) (Q : Option Value → zMm → Prop), zWp d zi_102 none 96 [l0, .int l1, l2, l3, l4, l5, l6] [.ref x0] h Q = zWp d zi_102 none 97 [l0, .int l1, l2, l3, l4, l5, l6] [.int l1, .ref x0] h Q) ∧
    (∀ (d : Nat) (l0 : Value) (l1 : Value) (l2 : Int32) (l3 : Value) (l4 : Value) (l5 : Value) (l6 : Value) (x1 : Int32) (x0 : Nat) (h : zMm) (Q : Option Value → zMm → Prop), zWp d zi_102 none 97 [l0, l1, .int l2, l3, l4, l5, l6] [.int x1, .ref x0] h Q = zWp d zi_102 none 98 [l0, l1, .int l2, l3, l4, l5, l6] [.int l2, .int x1, .ref x0] h Q) ∧
    (∀ (d : Nat) (l0 : Nat) (l1 : Value) (l2 : Value) (l3 : Value) (l4 : Value) (l5 : Value) (l6 : Value) (x2 : Int32) (x1 : Int32) (x0 : Nat) (h : zMm) (Q : Option Value → zMm → Prop), zWp d zi_102 none 98 [.ref l0, l1, l2, l3, l4, l5, l6] [.int x2, .int x1, .ref x0] h Q = zWp d zi_102 none 99 [.ref l0, l1, l2, l3, l4, l5, l6] [.ref l0, .int x2, .int x1, .ref x0] h Q) ∧
    (∀ (d : Nat) (l0 : Value) (l1 : Value) (l2 : Value) (l3 : Value) (l4 : Value) (l5 : Value) (l6 : Value) (x3 : Nat) (x2 : Int32) (x1 : Int32) (x0 : Nat) (I : Nat → Nat → Int32) (L : Nat → Nat → Int64) (P : Nat → Nat → Option Nat) (Q : Option Value → zMm → Prop), zSH[x3]? = some (.inl 9) → zWp d zi_102 none 99 [l0, l1, l2, l3, l4, l5, l6] [.ref x3, .int x2, .int x1, .ref x0] (zSH, I, L, P) Q = zWp d zi_102 none 102 [l0, l1, l2, l3, l4, l5, l6] [.int (I x3 16), .int x2, .int x1, .ref x0] (zSH, I, L, P) Q) ∧
    (∀ (d : Nat) (l0 : Value) (l1 : Value) (l2 : Value) (l3 : Value) (l4 : Value) (l5 : Value) (l6 : Value) (x3 : Int32) (x2 : Int32) (x1 : Int32) (x0 : Nat) (I : Nat → Nat → Int32) (L : Nat → Nat → Int64) (P : Nat → Nat → Option Nat) (Q : Option Value → zMm → Prop), zSH[x0]? = some (.inl 7) → zWp d zi_102 none 102 [l0, l1, l2, l3, l4, l5, l6] [.int x3, .int x2, .int x1, .ref x0] (zSH, I, L, P) Q = zWM d 56 [.ref x0, .int x1, .int x2, .int x3] (zSH, I, L, P) (fun r h1 => zWp d zi_102 none 105 [l0, l1, l2, l3, l4, l5, l6] (r.toList ++ []) h1 Q)) ∧
    (∀ (d : Nat) (l0 : Nat) (l1 : Value) (l2 : Value) (l3 : Value) (l4 : Value) (l5 : Value) (l6 : Value)  (h : zMm) (Q : Option Value → zMm → Prop), zWp d zi_102 none 105 [.ref l0, l1, l2, l3, l4, l5, l6] [] h Q = zWp d zi_102 none 106 [.ref l0, l1, l2, l3, l4, l5, l6] [.ref l0] h Q) ∧
    (∀ (d : Nat) (l0 : Value) (l1 : Value) (l2 : Value) (l3 : Value) (l4 : Value) (l5 : Value) (l6 : Value) (x0 : Nat) (I : Nat → Nat → Int32) (L : Nat → Nat → Int64) (P : Nat → Nat → Option Nat) (Q : Option Value → zMm → Prop), zSH[x0]? = some (.inl 9) → zWp d zi_102 none 106 [l0, l1, l2, l3, l4, l5, l6] [.ref x0] (zSH, I, L, P) Q = zWp d zi_102 none 109 [l0, l1, l2, l3, l4, l5, l6] [va_rf (P x0 7)] (zSH, I, L, P) Q) ∧
    (∀ (d : Nat) (l0 : Value) (l1 : Value) (l2 : Value) (l3 : Value) (l4 : Value) (l5 : Value) (l6 : Value) (x0 : Nat) (I : Nat → Nat → Int32) (L : Nat → Nat → Int64) (P : Nat → Nat → Option Nat) (Q : Option Value → zMm → Prop), zSH[x0]? = some (.inl 7) → zWp d zi_102 none 109 [l0, l1, l2, l3, l4, l5, l6] [.ref x0] (zSH, I, L, P) Q = zWp d zi_102 none 112 [l0, l1, l2, l3, l4, l5, l6] [.int (I x0 0)] (zSH, I, L, P) Q) ∧
    (∀ (d : Nat) (l0 : Value) (l1 : Value) (l2 : Value) (l3 : Value) (l4 : Value) (l5 : Int32) (l6 : Value) (x0 : Int32) (h : zMm) (Q : Option Value → zMm → Prop), zWp d zi_102 none 112 [l0, l1, l2, l3, l4, .int l5, l6] [.int x0] h Q = zWp d zi_102 none 114 [l0, l1, l2, l3, l4, .int l5, l6] [.int l5, .int x0] h Q) ∧
    (∀ (d : Nat) (l0 : Value) (l1 : Value) (l2 : Value) (l3 : Value) (l4 : Value) (l5 : Value) (l6 : Value) (x1 : Int32) (x0 : Int32) (h : zMm) (Q : Option Value → zMm → Prop), zWp d zi_102 none 114 [l0, l1, l2, l3, l4, l5, l6] [.int x1, .int x0] h Q = if x0 ≤ x1 then zWp d zi_102 none 130 [l0, l1, l2, l3, l4, l5, l6] [] h Q else zWp d zi_102 none 117 [l0, l1, l2, l3, l4, l5, l6] [] h Q) ∧
    (∀ (d : Nat) (l0 : Nat) (l1 : Value) (l2 : Value) (l3 : Value) (l4 : Value) (l5 : Value) (l6 : Value)  (h : zMm) (Q : Option Value → zMm → Prop), zWp d zi_102 none 117 [.ref l0, l1, l2, l3, l4, l5, l6] [] h Q = zWp d zi_102 none 118 [.ref l0, l1, l2, l3, l4, l5, l6] [.ref l0] h Q) ∧
    (∀ (d : Nat) (l0 : Value) (l1 : Value) (l2 : Value) (l3 : Value) (l4 : Value) (l5 : Value) (l6 : Value) (x0 : Nat) (I : Nat → Nat → Int32) (L : Nat → Nat → Int64) (P : Nat → Nat → Option Nat) (Q : Option Value → zMm → Prop), zSH[x0]? = some (.inl 9) → zWp d zi_102 none 118 [l0, l1, l2, l3, l4, l5, l6] [.ref x0] (zSH, I, L, P) Q = zWp d zi_102 none 121 [l0, l1, l2, l3, l4, l5, l6] [va_rf (P x0 7)] (zSH, I, L, P) Q) ∧
    (∀ (d : Nat) (l0 : Value) (l1 : Value) (l2 : Value) (l3 : Value) (l4 : Value) (l5 : Value) (l6 : Value) (x0 : Nat) (I : Nat → Nat → Int32) (L : Nat → Nat → Int64) (P : Nat → Nat → Option Nat) (Q : Option Value → zMm → Prop), zSH[x0]? = some (.inl 7) → zWp d zi_102 none 121 [l0, l1, l2, l3, l4, l5, l6] [.ref x0] (zSH, I, L, P) Q = zWp d zi_102 none 124 [l0, l1, l2, l3, l4, l5, l6] [.int (I x0 0)] (zSH, I, L, P) Q) ∧
    (∀ (d : Nat) (l0 : Value) (l1 : Value) (l2 : Value) (l3 : Value) (l4 : Int32) (l5 : Value) (l6 : Value) (x0 : Int32) (h : zMm) (Q : Option Value → zMm → Prop), zWp d zi_102 none 124 [l0, l1, l2, l3, .int l4, l5, l6] [.int x0] h Q = zWp d zi_102 none 126 [l0, l1, l2, l3, .int l4, .int x0, l6] [] h Q) ∧
    (∀ (d : Nat) (l0 : Value) (l1 : Value) (l2 : Value) (l3 : Value) (l4 : Value) (l5 : Value) (l6 : Int32)  (h : zMm) (Q : Option Value → zMm → Prop), zWp d zi_102 none 126 [l0, l1, l2, l3, l4, l5, .int l6] [] h Q = zWp d zi_102 none 128 [l0, l1, l2, l3, l4, l5, .int l6] [.int l6] h Q) ∧
    (∀ (d : Nat) (l0 : Value) (l1 : Value) (l2 : Value) (l3 : Int32) (l4 : Value) (l5 : Value) (l6 : Value) (x0 : Int32) (h : zMm) (Q : Option Value → zMm → Prop), zWp d zi_102 none 128 [l0, l1, l2, .int l3, l4, l5, l6] [.int x0] h Q = zWp d zi_102 none 130 [l0, l1, l2, .int l3, .int x0, l5, l6] [] h Q) ∧
    (∀ (d : Nat) (l0 : Value) (l1 : Value) (l2 : Value) (l3 : Value) (l4 : Value) (l5 : Int32) (l6 : Int32)  (h : zMm) (Q : Option Value → zMm → Prop), zWp d zi_102 none 130 [l0, l1, l2, l3, l4, .int l5, .int l6] [] h Q = zWp d zi_102 none 133 [l0, l1, l2, l3, l4, .int l5, .int (l6 + 1)] [] h Q) ∧
    (∀ (d : Nat) (l0 : Value) (l1 : Value) (l2 : Value) (l3 : Value) (l4 : Value) (l5 : Value) (l6 : Value)  (h : zMm) (Q : Option Value → zMm → Prop), zWp d zi_102 none 133 [l0, l1, l2, l3, l4, l5, l6] [] h Q = zWp d zi_102 none 51 [l0, l1, l2, l3, l4, l5, l6] [] h Q) ∧
    (∀ (d : Nat) (l0 : Value) (l1 : Value) (l2 : Value) (l3 : Int32) (l4 : Value) (l5 : Value) (l6 : Value)  (h : zMm) (Q : Option Value → zMm → Prop), zWp d zi_102 none 136 [l0, l1, l2, .int l3, l4, l5, l6] [] h Q = zWp d zi_102 none 137 [l0, l1, l2, .int l3, l4, l5, l6] [.int l3] h Q) ∧
    (∀ (d : Nat) (l0 : Value) (l1 : Value) (l2 : Value) (l3 : Value) (l4 : Value) (l5 : Value) (l6 : Value) (x0 : Int32) (h : zMm) (Q : Option Value → zMm → Prop), zWp d zi_102 none 137 [l0, l1, l2, l3, l4, l5, l6] [.int x0] h Q = if x0 = 0 then zWp d zi_102 none 140 [l0, l1, l2, l3, l4, l5, l6] [] h Q else zWp d zi_102 none 145 [l0, l1, l2, l3, l4, l5, l6] [] h Q) ∧
    (∀ (d : Nat) (l0 : Value) (l1 : Value) (l2 : Value) (l3 : Value) (l4 : Int32) (l5 : Value) (l6 : Value)  (h : zMm) (Q : Option Value → zMm → Prop), zWp d zi_102 none 140 [l0, l1, l2, l3, .int l4, l5, l6] [] h Q = zWp d zi_102 none 142 [l0, l1, l2, l3, .int l4, l5, l6] [.int l4] h Q) ∧
    (∀ (d : Nat) (l0 : Value) (l1 : Value) (l2 : Value) (l3 : Value) (l4 : Value) (l5 : Value) (l6 : Value) (x0 : Int32) (h : zMm) (Q : Option Value → zMm → Prop), zWp d zi_102 none 142 [l0, l1, l2, l3, l4, l5, l6] [.int x0] h Q = zWp d zi_102 none 147 [l0, l1, l2, l3, l4, l5, l6] [.int x0] h Q) ∧
    (∀ (d : Nat) (l0 : Value) (l1 : Value) (l2 : Value) (l3 : Value) (l4 : Value) (l5 : Int32) (l6 : Value)  (h : zMm) (Q : Option Value → zMm → Prop), zWp d zi_102 none 145 [l0, l1, l2, l3, l4, .int l5, l6] [] h Q = zWp d zi_102 none 147 [l0, l1, l2, l3, l4, .int l5, l6] [.int l5] h Q) ∧
    (∀ (d : Nat) (l0 : Value) (l1 : Value) (l2 : Value) (l3 : Value) (l4 : Value) (l5 : Value) (l6 : Value) (x0 : Int32) (h : zMm) (Q : Option Value → zMm → Prop), zWp d zi_102 none 147 [l0, l1, l2, l3, l4, l5, l6] [.int x0] h Q = Q (some (.int x0)) h) :=
  ⟨(fun d l0 l1 l2 l3 l4 l5 l6  h Q => zr_iload_n rfl rfl),
   (fun d l0 l1 l2 l3 l4 l5 l6 x0 h Q => zr_iconst rfl (by decide)),
   (fun d l0 l1 l2 l3 l4 l5 l6 x1 x0 h Q => zr_ic_lt rfl (by decide)),
   (fun d l0 l1 l2 l3 l4 l5 l6  h Q => zr_iload_n rfl rfl),
   (fun d l0 l1 l2 l3 l4 l5 l6 x0 h Q => zr_bipush rfl (by decide)),
   (fun d l0 l1 l2 l3 l4 l5 l6 x1 x0 h Q => zr_aload_n rfl rfl),
   (fun d l0 l1 l2 l3 l4 l5 l6 x2 x1 x0 I L P Q p0 => zr_getQ rfl lf_9_43 (fun _ _ _ => rfl) p0),
   (fun d l0 l1 l2 l3 l4 l5 l6 x2 x1 x0 I L P Q p0 => zr_getI rfl lf_9_207 (fun _ _ _ => rfl) p0),
   (fun d l0 l1 l2 l3 l4 l5 l6 x2 x1 x0 h Q => zr_isub rfl),
   (fun d l0 l1 l2 l3 l4 l5 l6 x1 x0 h Q => zr_ic_gt rfl (by decide)),
   (fun d l0 l1 l2 l3 l4 l5 l6  h Q => zr_iload_n rfl rfl),
   (fun d l0 l1 l2 l3 l4 l5 l6 x0 h Q => zr_if_lt rfl (by decide)),
   (fun d l0 l1 l2 l3 l4 l5 l6  h Q => zr_iload_n rfl rfl),
   (fun d l0 l1 l2 l3 l4 l5 l6 x0 h Q => zr_iconst rfl (by decide)),
   (fun d l0 l1 l2 l3 l4 l5 l6 x1 x0 h Q => zr_ic_le rfl (by decide)),
   (fun d l0 l1 l2 l3 l4 l5 l6  h Q => zr_iconst rfl (by decide)),
   (fun d l0 l1 l2 l3 l4 l5 l6 x0 h Q => zr_iret rfl rfl),
   (fun d l0 l1 l2 l3 l4 l5 l6  h Q => zr_aload_n rfl rfl),
   (fun d l0 l1 l2 l3 l4 l5 l6 x0 I L P Q p0 => zr_getQ rfl lf_9_43 (fun _ _ _ => rfl) p0),
   (fun d l0 l1 l2 l3 l4 l5 l6 x0 I L P Q p0 => zr_getI rfl lf_9_207 (fun _ _ _ => rfl) p0),
   (fun d l0 l1 l2 l3 l4 l5 l6 x0 h Q => zr_istore (n := 4) rfl (Nat.le_of_ble_eq_true rfl) rfl),
   (fun d l0 l1 l2 l3 l4 l5 l6  h Q => zr_iconst rfl (by decide)),
   (fun d l0 l1 l2 l3 l4 l5 l6 x0 h Q => zr_istore (n := 5) rfl (Nat.le_of_ble_eq_true rfl) rfl),
   (fun d l0 l1 l2 l3 l4 l5 l6  h Q => zr_aload_n rfl rfl),
   (fun d l0 l1 l2 l3 l4 l5 l6 x0 I L P Q p0 => zr_getQ rfl lf_9_43 (fun _ _ _ => rfl) p0),
   (fun d l0 l1 l2 l3 l4 l5 l6 x0 I L P Q p0 => zr_getI rfl lf_9_207 (fun _ _ _ => rfl) p0),
   (fun d l0 l1 l2 l3 l4 l5 l6 x0 h Q => zr_istore (n := 6) rfl (Nat.le_of_ble_eq_true rfl) rfl),
   (fun d l0 l1 l2 l3 l4 l5 l6 x0 h Q => zr_aload_n rfl rfl),
   (fun d l0 l1 l2 l3 l4 l5 l6 x1 x0 I L P Q p0 => zr_getQ rfl lf_9_43 (fun _ _ _ => rfl) p0),
   (fun d l0 l1 l2 l3 l4 l5 l6 x1 x0 I L P Q p0 => zr_getI rfl lf_9_207 (fun _ _ _ => rfl) p0),
   (fun d l0 l1 l2 l3 l4 l5 l6 x1 x0 h Q => zr_iload_n rfl rfl),
   (fun d l0 l1 l2 l3 l4 l5 l6 x2 x1 x0 h Q => zr_iadd rfl),
   (fun d l0 l1 l2 l3 l4 l5 l6 x1 x0 h Q => zr_ic_ge rfl (by decide)),
   (fun d l0 l1 l2 l3 l4 l5 l6  h Q => zr_aload_n rfl rfl),
   (fun d l0 l1 l2 l3 l4 l5 l6 x0 I L P Q p0 => zr_getQ rfl lf_9_50 (fun _ _ _ => rfl) p0),
   (fun d l0 l1 l2 l3 l4 l5 l6 x0 h Q => zr_aload_n rfl rfl),
   (fun d l0 l1 l2 l3 l4 l5 l6 x1 x0 I L P Q p0 => zr_getQ rfl lf_9_43 (fun _ _ _ => rfl) p0),
   (fun d l0 l1 l2 l3 l4 l5 l6 x1 x0 I L P Q p0 => zr_vir (as := [.ref x1]) (rest := []) rfl lm_9_295 m_55 kd_55 rfl (Nat.le_of_ble_eq_true rfl) p0),
   (fun d l0 l1 l2 l3 l4 l5 l6  h Q => zr_aload_n rfl rfl),
   (fun d l0 l1 l2 l3 l4 l5 l6 x0 I L P Q p0 => zr_getQ rfl lf_9_50 (fun _ _ _ => rfl) p0),
   (fun d l0 l1 l2 l3 l4 l5 l6 x0 h Q => zr_dup rfl rfl),
   (fun d l0 l1 l2 l3 l4 l5 l6 x1 x0 I L P Q p0 => zr_getI rfl lf_9_284 (fun _ _ _ => rfl) p0),
   (fun d l0 l1 l2 l3 l4 l5 l6 x1 x0 h Q => zr_iconst rfl (by decide)),
   (fun d l0 l1 l2 l3 l4 l5 l6 x2 x1 x0 h Q => zr_iload rfl rfl),
   (fun d l0 l1 l2 l3 l4 l5 l6 x3 x2 x1 x0 h Q => zr_ishl rfl),
   (fun d l0 l1 l2 l3 l4 l5 l6 x2 x1 x0 h Q => zr_ior rfl),
   (fun d l0 l1 l2 l3 l4 l5 l6 x1 x0 I L P Q p0 => zr_putI rfl lf_9_284 (by decide) rfl p0),
   (fun d l0 l1 l2 l3 l4 l5 l6  h Q => zr_aload_n rfl rfl),
   (fun d l0 l1 l2 l3 l4 l5 l6 x0 I L P Q p0 => zr_getQ rfl lf_9_50 (fun _ _ _ => rfl) p0),
   (fun d l0 l1 l2 l3 l4 l5 l6 x0 h Q => zr_iload_n rfl rfl),
   (fun d l0 l1 l2 l3 l4 l5 l6 x1 x0 h Q => zr_iload_n rfl rfl),
   (fun d l0 l1 l2 l3 l4 l5 l6 x2 x1 x0 h Q => zr_aload_n rfl rfl),
   (fun d l0 l1 l2 l3 l4 l5 l6 x3 x2 x1 x0 I L P Q p0 => zr_getI rfl lf_9_83 (fun _ _ _ => rfl) p0),
   (fun d l0 l1 l2 l3 l4 l5 l6 x3 x2 x1 x0 I L P Q p0 => zr_vir (as := [.int x3, .int x2, .int x1]) (rest := []) rfl lm_9_292 m_56 kd_56 rfl (Nat.le_of_ble_eq_true rfl) p0),
   (fun d l0 l1 l2 l3 l4 l5 l6  h Q => zr_aload_n rfl rfl),
   (fun d l0 l1 l2 l3 l4 l5 l6 x0 I L P Q p0 => zr_getQ rfl lf_9_50 (fun _ _ _ => rfl) p0),
   (fun d l0 l1 l2 l3 l4 l5 l6 x0 I L P Q p0 => zr_getI rfl lf_9_95 (fun _ _ _ => rfl) p0),
   (fun d l0 l1 l2 l3 l4 l5 l6 x0 h Q => zr_iload rfl rfl),
   (fun d l0 l1 l2 l3 l4 l5 l6 x1 x0 h Q => zr_ic_le rfl (by decide)),
   (fun d l0 l1 l2 l3 l4 l5 l6  h Q => zr_aload_n rfl rfl),
   (fun d l0 l1 l2 l3 l4 l5 l6 x0 I L P Q p0 => zr_getQ rfl lf_9_50 (fun _ _ _ => rfl) p0),
   (fun d l0 l1 l2 l3 l4 l5 l6 x0 I L P Q p0 => zr_getI rfl lf_9_95 (fun _ _ _ => rfl) p0),
   (fun d l0 l1 l2 l3 l4 l5 l6 x0 h Q => zr_istore (n := 5) rfl (Nat.le_of_ble_eq_true rfl) rfl),
   (fun d l0 l1 l2 l3 l4 l5 l6  h Q => zr_iload rfl rfl),
   (fun d l0 l1 l2 l3 l4 l5 l6 x0 h Q => zr_istore (n := 4) rfl (Nat.le_of_ble_eq_true rfl) rfl),
   (fun d l0 l1 l2 l3 l4 l5 l6  h Q => zr_iinc (n := 6) (kc := 1) rfl rfl (Nat.le_of_ble_eq_true rfl) rfl (by decide)),
   (fun d l0 l1 l2 l3 l4 l5 l6  h Q => zr_goto rfl (by decide)),
   (fun d l0 l1 l2 l3 l4 l5 l6  h Q => zr_iload_n rfl rfl),
   (fun d l0 l1 l2 l3 l4 l5 l6 x0 h Q => zr_if_ne rfl (by decide)),
   (fun d l0 l1 l2 l3 l4 l5 l6  h Q => zr_iload rfl rfl),
   (fun d l0 l1 l2 l3 l4 l5 l6 x0 h Q => zr_goto rfl (by decide)),
   (fun d l0 l1 l2 l3 l4 l5 l6  h Q => zr_iload rfl rfl),
   (fun d l0 l1 l2 l3 l4 l5 l6 x0 h Q => zr_iret rfl rfl)⟩
theorem H_X9_best_51 : ∀ (d : Nat) (l0 : Value) (l1 : Value) (l2 : Value) (l3 : Value) (l4 : Value) (l5 : Value) (l6 : Int32)  (h : zMm) (Q : Option Value → zMm → Prop), zWp d zi_102 none 51 [l0, l1, l2, l3, l4, l5, .int l6] [] h Q = zWp d zi_102 none 53 [l0, l1, l2, l3, l4, l5, .int l6] [.int l6] h Q := fun d l0 l1 l2 l3 l4 l5 l6  h Q => zr_iload rfl rfl
theorem E_X9_rival : ∀ (d : Nat) (a0 : Nat) (a1 : Int32) (h : zMm) (Q : Option Value → zMm → Prop), zWM (d + 1) 103 [.ref a0, .int a1] h Q = zWp d zi_103 none 0 [.ref a0, .int a1, .retAddr 0, .retAddr 0, .retAddr 0] [] h Q := fun d a0 a1 h Q => zW_M m_103 (Nat.le_of_ble_eq_true rfl) rfl
set_option maxRecDepth 100000 in
theorem R_X9_rival :
    (∀ (d : Nat) (l0 : Value) (l1 : Value) (l2 : Value) (l3 : Value) (l4 : Value)  (h : zMm) (Q : Option Value → zMm → Prop), zWp d zi_103 none 0 [l0, l1, l2, l3, l4] [] h Q = zWp d zi_103 none 1 [l0, l1, l2, l3, l4] [.int 0] h Q) ∧
    (∀ (d : Nat) (l0 : Value) (l1 : Int32) (l2 : Value) (l3 : Value) (l4 : Value) (x0 : Int32) (h : zMm) (Q : Option Value → zMm → Prop), zWp d zi_103 none 1 [l0, .int l1, l2, l3, l4] [.int x0] h Q = zWp d zi_103 none 2 [l0, .int l1, .int x0, l3, l4] [] h Q) ∧
    (∀ (d : Nat) (l0 : Value) (l1 : Int32) (l2 : Value) (l3 : Value) (l4 : Value)  (h : zMm) (Q : Option Value → zMm → Prop), zWp d zi_103 none 2 [l0, .int l1, l2, l3, l4] [] h Q = zWp d zi_103 none 3 [l0, .int l1, l2, l3, l4] [.int l1] h Q) ∧
    (∀ (d : Nat) (l0 : Value) (l1 : Value) (l2 : Int32) (l3 : Value) (l4 : Value) (x0 : Int32) (h : zMm) (Q : Option Value → zMm → Prop), zWp d zi_103 none 3 [l0, l1, .int l2, l3, l4] [.int x0] h Q = zWp d zi_103 none 4 [l0, l1, .int l2, .int x0, l4] [] h Q) ∧
    (∀ (d : Nat) (l0 : Value) (l1 : Value) (l2 : Value) (l3 : Value) (l4 : Value)  (h : zMm) (Q : Option Value → zMm → Prop), zWp d zi_103 none 4 [l0, l1, l2, l3, l4] [] h Q = zWp d zi_103 none 5 [l0, l1, l2, l3, l4] [.int 0] h Q) ∧
    (∀ (d : Nat) (l0 : Value) (l1 : Value) (l2 : Value) (l3 : Int32) (l4 : Value) (x0 : Int32) (h : zMm) (Q : Option Value → zMm → Prop), zWp d zi_103 none 5 [l0, l1, l2, .int l3, l4] [.int x0] h Q = zWp d zi_103 none 7 [l0, l1, l2, .int l3, .int x0] [] h Q) ∧
    (∀ (d : Nat) (l0 : Value) (l1 : Value) (l2 : Value) (l3 : Value) (l4 : Value) (x0 : Int32) (h : zMm) (Q : Option Value → zMm → Prop), zWp d zi_103 none 9 [l0, l1, l2, l3, l4] [.int x0] h Q = zWp d zi_103 none 11 [l0, l1, l2, l3, l4] [.int 99, .int x0] h Q) ∧
    (∀ (d : Nat) (l0 : Value) (l1 : Value) (l2 : Value) (l3 : Value) (l4 : Value) (x1 : Int32) (x0 : Int32) (h : zMm) (Q : Option Value → zMm → Prop), zWp d zi_103 none 11 [l0, l1, l2, l3, l4] [.int x1, .int x0] h Q = if x1 < x0 then zWp d zi_103 none 52 [l0, l1, l2, l3, l4] [] h Q else zWp d zi_103 none 14 [l0, l1, l2, l3, l4] [] h Q) ∧
    (∀ (d : Nat) (l0 : Value) (l1 : Value) (l2 : Int32) (l3 : Value) (l4 : Value)  (h : zMm) (Q : Option Value → zMm → Prop), zWp d zi_103 none 14 [l0, l1, .int l2, l3, l4] [] h Q = zWp d zi_103 none 15 [l0, l1, .int l2, l3, l4] [.int l2] h Q) ∧
    (∀ (d : Nat) (l0 : Nat) (l1 : Value) (l2 : Value) (l3 : Value) (l4 : Value) (x0 : Int32) (h : zMm) (Q : Option Value → zMm → Prop), zWp d zi_103 none 15 [.ref l0, l1, l2, l3, l4] [.int x0] h Q = zWp d zi_103 none 16 [.ref l0, l1, l2, l3, l4] [.ref l0, .int x0] h Q) ∧
    (∀ (d : Nat) (l0 : Value) (l1 : Value) (l2 : Value) (l3 : Value) (l4 : Value) (x1 : Nat) (x0 : Int32) (I : Nat → Nat → Int32) (L : Nat → Nat → Int64) (P : Nat → Nat → Option Nat) (Q : Option Value → zMm → Prop), zSH[x1]? = some (.inl 9) → zWp d zi_103 none 16 [l0, l1, l2, l3, l4] [.ref x1, .int x0] (zSH, I, L, P) Q = zWp d zi_103 none 19 [l0, l1, l2, l3, l4] [va_rf (P x1 0), .int x0] (zSH, I, L, P) Q) ∧
    (∀ (d : Nat) (l0 : Value) (l1 : Value) (l2 : Value) (l3 : Value) (l4 : Value) (x1 : Nat) (x0 : Int32) (I : Nat → Nat → Int32) (L : Nat → Nat → Int64) (P : Nat → Nat → Option Nat) (Q : Option Value → zMm → Prop), zSH[x1]? = some (.inl 8) → zWp d zi_103 none 19 [l0, l1, l2, l3, l4] [.ref x1, .int x0] (zSH, I, L, P) Q = zWp d zi_103 none 22 [l0, l1, l2, l3, l4] [.int (I x1 6), .int x0] (zSH, I, L, P) Q) ∧
    (∀ (d : Nat) (l0 : Value) (l1 : Value) (l2 : Value) (l3 : Value) (l4 : Value) (x1 : Int32) (x0 : Int32) (h : zMm) (Q : Option Value → zMm → Prop), zWp d zi_103 none 22 [l0, l1, l2, l3, l4] [.int x1, .int x0] h Q = if x0 = x1 then zWp d zi_103 none 25 [l0, l1, l2, l3, l4] [] h Q else zWp d zi_103 none 28 [l0, l1, l2, l3, l4] [] h Q) ∧
    (∀ (d : Nat) (l0 : Value) (l1 : Value) (l2 : Value) (l3 : Value) (l4 : Int32)  (h : zMm) (Q : Option Value → zMm → Prop), zWp d zi_103 none 25 [l0, l1, l2, l3, .int l4] [] h Q = zWp d zi_103 none 27 [l0, l1, l2, l3, .int l4] [.int l4] h Q) ∧
    (∀ (d : Nat) (l0 : Value) (l1 : Value) (l2 : Value) (l3 : Value) (l4 : Value) (x0 : Int32) (h : zMm) (Q : Option Value → zMm → Prop), zWp d zi_103 none 27 [l0, l1, l2, l3, l4] [.int x0] h Q = Q (some (.int x0)) h) ∧
    (∀ (d : Nat) (l0 : Value) (l1 : Value) (l2 : Value) (l3 : Int32) (l4 : Value)  (h : zMm) (Q : Option Value → zMm → Prop), zWp d zi_103 none 28 [l0, l1, l2, .int l3, l4] [] h Q = zWp d zi_103 none 29 [l0, l1, l2, .int l3, l4] [.int l3] h Q) ∧
    (∀ (d : Nat) (l0 : Value) (l1 : Value) (l2 : Value) (l3 : Value) (l4 : Value) (x0 : Int32) (h : zMm) (Q : Option Value → zMm → Prop), zWp d zi_103 none 29 [l0, l1, l2, l3, l4] [.int x0] h Q = zWM d 53 [.int x0] h (fun r h1 => zWp d zi_103 none 32 [l0, l1, l2, l3, l4] (r.toList ++ []) h1 Q)) ∧
    (∀ (d : Nat) (l0 : Value) (l1 : Value) (l2 : Int32) (l3 : Value) (l4 : Value) (x0 : Int32) (h : zMm) (Q : Option Value → zMm → Prop), zWp d zi_103 none 32 [l0, l1, .int l2, l3, l4] [.int x0] h Q = zWp d zi_103 none 33 [l0, l1, .int l2, .int x0, l4] [] h Q) ∧
    (∀ (d : Nat) (l0 : Value) (l1 : Value) (l2 : Value) (l3 : Int32) (l4 : Value)  (h : zMm) (Q : Option Value → zMm → Prop), zWp d zi_103 none 33 [l0, l1, l2, .int l3, l4] [] h Q = zWp d zi_103 none 34 [l0, l1, l2, .int l3, l4] [.int l3] h Q) ∧
    (∀ (d : Nat) (l0 : Value) (l1 : Value) (l2 : Value) (l3 : Value) (l4 : Value) (x0 : Int32) (h : zMm) (Q : Option Value → zMm → Prop), zWp d zi_103 none 34 [l0, l1, l2, l3, l4] [.int x0] h Q = zWp d zi_103 none 36 [l0, l1, l2, l3, l4] [.int 12, .int x0] h Q) ∧
    (∀ (d : Nat) (l0 : Value) (l1 : Value) (l2 : Value) (l3 : Value) (l4 : Value) (x1 : Int32) (x0 : Int32) (h : zMm) (Q : Option Value → zMm → Prop), zWp d zi_103 none 36 [l0, l1, l2, l3, l4] [.int x1, .int x0] h Q = zWM d 54 [.int x0, .int x1] h (fun r h1 => zWp d zi_103 none 39 [l0, l1, l2, l3, l4] (r.toList ++ []) h1 Q)) ∧
    (∀ (d : Nat) (l0 : Value) (l1 : Value) (l2 : Value) (l3 : Value) (l4 : Value) (x0 : Int32) (h : zMm) (Q : Option Value → zMm → Prop), zWp d zi_103 none 39 [l0, l1, l2, l3, l4] [.int x0] h Q = zWp d zi_103 none 40 [l0, l1, l2, l3, l4] [.int 4, .int x0] h Q) ∧
    (∀ (d : Nat) (l0 : Value) (l1 : Value) (l2 : Value) (l3 : Value) (l4 : Value) (x1 : Int32) (x0 : Int32) (h : zMm) (Q : Option Value → zMm → Prop), zWp d zi_103 none 40 [l0, l1, l2, l3, l4] [.int x1, .int x0] h Q = if x0 ≤ x1 then zWp d zi_103 none 46 [l0, l1, l2, l3, l4] [] h Q else zWp d zi_103 none 43 [l0, l1, l2, l3, l4] [] h Q) ∧
    (∀ (d : Nat) (l0 : Value) (l1 : Int32) (l2 : Int32) (l3 : Value) (l4 : Value)  (h : zMm) (Q : Option Value → zMm → Prop), zWp d zi_103 none 43 [l0, .int l1, .int l2, l3, l4] [] h Q = zWp d zi_103 none 46 [l0, .int l1, .int (l2 + 1), l3, l4] [] h Q) ∧
    (∀ (d : Nat) (l0 : Value) (l1 : Value) (l2 : Value) (l3 : Int32) (l4 : Int32)  (h : zMm) (Q : Option Value → zMm → Prop), zWp d zi_103 none 46 [l0, l1, l2, .int l3, .int l4] [] h Q = zWp d zi_103 none 49 [l0, l1, l2, .int l3, .int (l4 + 1)] [] h Q) ∧
    (∀ (d : Nat) (l0 : Value) (l1 : Value) (l2 : Value) (l3 : Value) (l4 : Value)  (h : zMm) (Q : Option Value → zMm → Prop), zWp d zi_103 none 49 [l0, l1, l2, l3, l4] [] h Q = zWp d zi_103 none 7 [l0, l1, l2, l3, l4] [] h Q) ∧
    (∀ (d : Nat) (l0 : Value) (l1 : Value) (l2 : Value) (l3 : Value) (l4 : Value)  (h : zMm) (Q : Option Value → zMm → Prop), zWp d zi_103 none 52 [l0, l1, l2, l3, l4] [] h Q = zWp d zi_103 none 54 [l0, l1, l2, l3, l4] [.int (-2)] h Q) ∧
    (∀ (d : Nat) (l0 : Value) (l1 : Value) (l2 : Value) (l3 : Value) (l4 : Value) (x0 : Int32) (h : zMm) (Q : Option Value → zMm → Prop), zWp d zi_103 none 54 [l0, l1, l2, l3, l4] [.int x0] h Q = Q (some (.int x0)) h) :=
  ⟨(fun d l0 l1 l2 l3 l4  h Q => zr_iconst rfl (by decide)),
   (fun d l0 l1 l2 l3 l4 x0 h Q => zr_istore_n (n := 2) rfl (Nat.le_of_ble_eq_true rfl) rfl),
   (fun d l0 l1 l2 l3 l4  h Q => zr_iload_n rfl rfl),
   (fun d l0 l1 l2 l3 l4 x0 h Q => zr_istore_n (n := 3) rfl (Nat.le_of_ble_eq_true rfl) rfl),
   (fun d l0 l1 l2 l3 l4  h Q => zr_iconst rfl (by decide)),
   (fun d l0 l1 l2 l3 l4 x0 h Q => zr_istore (n := 4) rfl (Nat.le_of_ble_eq_true rfl) rfl),
   (fun d l0 l1 l2 l3 l4 x0 h Q => zr_bipush rfl (by decide)),
   (fun d l0 l1 l2 l3 l4 x1 x0 h Q => zr_ic_gt rfl (by decide)),
   (fun d l0 l1 l2 l3 l4  h Q => zr_iload_n rfl rfl),
   (fun d l0 l1 l2 l3 l4 x0 h Q => zr_aload_n rfl rfl),
   (fun d l0 l1 l2 l3 l4 x1 x0 I L P Q p0 => zr_getQ rfl lf_9_10 (fun _ _ _ => rfl) p0),
   (fun d l0 l1 l2 l3 l4 x1 x0 I L P Q p0 => zr_getI rfl lf_9_92 (fun _ _ _ => rfl) p0),
   (fun d l0 l1 l2 l3 l4 x1 x0 h Q => zr_ic_ne rfl (by decide)),
   (fun d l0 l1 l2 l3 l4  h Q => zr_iload rfl rfl),
   (fun d l0 l1 l2 l3 l4 x0 h Q => zr_iret rfl rfl),
   (fun d l0 l1 l2 l3 l4  h Q => zr_iload_n rfl rfl),
   (fun d l0 l1 l2 l3 l4 x0 h Q => zr_sta (as := [.int x0]) (rest := []) rfl lm_9_298 (by decide) m_53 kd_53 rfl (Nat.le_of_ble_eq_true rfl)),
   (fun d l0 l1 l2 l3 l4 x0 h Q => zr_istore_n (n := 3) rfl (Nat.le_of_ble_eq_true rfl) rfl),
   (fun d l0 l1 l2 l3 l4  h Q => zr_iload_n rfl rfl),
   (fun d l0 l1 l2 l3 l4 x0 h Q => zr_bipush rfl (by decide)),
   (fun d l0 l1 l2 l3 l4 x1 x0 h Q => zr_sta (as := [.int x1, .int x0]) (rest := []) rfl lm_9_301 (by decide) m_54 kd_54 rfl (Nat.le_of_ble_eq_true rfl)),
   (fun d l0 l1 l2 l3 l4 x0 h Q => zr_iconst rfl (by decide)),
   (fun d l0 l1 l2 l3 l4 x1 x0 h Q => zr_ic_le rfl (by decide)),
   (fun d l0 l1 l2 l3 l4  h Q => zr_iinc (n := 2) (kc := 1) rfl rfl (Nat.le_of_ble_eq_true rfl) rfl (by decide)),
   (fun d l0 l1 l2 l3 l4  h Q => zr_iinc (n := 4) (kc := 1) rfl rfl (Nat.le_of_ble_eq_true rfl) rfl (by decide)),
   (fun d l0 l1 l2 l3 l4  h Q => zr_goto rfl (by decide)),
   (fun d l0 l1 l2 l3 l4  h Q => zr_bipush rfl (by decide)),
   (fun d l0 l1 l2 l3 l4 x0 h Q => zr_iret rfl rfl)⟩
theorem H_X9_rival_7 : ∀ (d : Nat) (l0 : Value) (l1 : Value) (l2 : Value) (l3 : Value) (l4 : Int32)  (h : zMm) (Q : Option Value → zMm → Prop), zWp d zi_103 none 7 [l0, l1, l2, l3, .int l4] [] h Q = zWp d zi_103 none 9 [l0, l1, l2, l3, .int l4] [.int l4] h Q := fun d l0 l1 l2 l3 l4  h Q => zr_iload rfl rfl
theorem E_X9_judge : ∀ (d : Nat) (a0 : Nat) (a1 : Int32) (a2 : Int32) (h : zMm) (Q : Option Value → zMm → Prop), zWM (d + 1) 104 [.ref a0, .int a1, .int a2] h Q = zWp d zi_104 none 0 [.ref a0, .int a1, .int a2, .retAddr 0, .retAddr 0] [] h Q := fun d a0 a1 a2 h Q => zW_M m_104 (Nat.le_of_ble_eq_true rfl) rfl
set_option maxRecDepth 100000 in
theorem R_X9_judge :
    (∀ (d : Nat) (l0 : Value) (l1 : Int32) (l2 : Value) (l3 : Value) (l4 : Value)  (h : zMm) (Q : Option Value → zMm → Prop), zWp d zi_104 none 0 [l0, .int l1, l2, l3, l4] [] h Q = zWp d zi_104 none 1 [l0, .int l1, l2, l3, l4] [.int l1] h Q) ∧
    (∀ (d : Nat) (l0 : Value) (l1 : Value) (l2 : Value) (l3 : Value) (l4 : Value) (x0 : Int32) (h : zMm) (Q : Option Value → zMm → Prop), zWp d zi_104 none 1 [l0, l1, l2, l3, l4] [.int x0] h Q = zWM d 120 [.int x0] h (fun r h1 => zWp d zi_104 none 4 [l0, l1, l2, l3, l4] (r.toList ++ []) h1 Q)) ∧
    (∀ (d : Nat) (l0 : Value) (l1 : Value) (l2 : Value) (l3 : Value) (l4 : Value) (x0 : Int32) (h : zMm) (Q : Option Value → zMm → Prop), zWp d zi_104 none 4 [l0, l1, l2, l3, l4] [.int x0] h Q = if x0 = 0 then zWp d zi_104 none 18 [l0, l1, l2, l3, l4] [] h Q else zWp d zi_104 none 7 [l0, l1, l2, l3, l4] [] h Q) ∧
    (∀ (d : Nat) (l0 : Nat) (l1 : Value) (l2 : Value) (l3 : Value) (l4 : Value)  (h : zMm) (Q : Option Value → zMm → Prop), zWp d zi_104 none 7 [.ref l0, l1, l2, l3, l4] [] h Q = zWp d zi_104 none 8 [.ref l0, l1, l2, l3, l4] [.ref l0] h Q) ∧
    (∀ (d : Nat) (l0 : Value) (l1 : Value) (l2 : Value) (l3 : Value) (l4 : Value) (x0 : Nat) (I : Nat → Nat → Int32) (L : Nat → Nat → Int64) (P : Nat → Nat → Option Nat) (Q : Option Value → zMm → Prop), zSH[x0]? = some (.inl 9) → zWp d zi_104 none 8 [l0, l1, l2, l3, l4] [.ref x0] (zSH, I, L, P) Q = zWp d zi_104 none 11 [l0, l1, l2, l3, l4] [va_rf (P x0 2)] (zSH, I, L, P) Q) ∧
    (∀ (d : Nat) (l0 : Value) (l1 : Value) (l2 : Int32) (l3 : Value) (l4 : Value) (x0 : Nat) (h : zMm) (Q : Option Value → zMm → Prop), zWp d zi_104 none 11 [l0, l1, .int l2, l3, l4] [.ref x0] h Q = zWp d zi_104 none 12 [l0, l1, .int l2, l3, l4] [.int l2, .ref x0] h Q) ∧
    (∀ (d : Nat) (l0 : Value) (l1 : Value) (l2 : Value) (l3 : Value) (l4 : Value) (x1 : Int32) (x0 : Nat) (I : Nat → Nat → Int32) (L : Nat → Nat → Int64) (P : Nat → Nat → Option Nat) (Q : Option Value → zMm → Prop), zSH[x0]? = some (.inl 3) → zWp d zi_104 none 12 [l0, l1, l2, l3, l4] [.int x1, .ref x0] (zSH, I, L, P) Q = zWM d 22 [.ref x0, .int x1] (zSH, I, L, P) (fun r h1 => zWp d zi_104 none 15 [l0, l1, l2, l3, l4] (r.toList ++ []) h1 Q)) ∧
    (∀ (d : Nat) (l0 : Value) (l1 : Value) (l2 : Value) (l3 : Value) (l4 : Value) (x0 : Int32) (h : zMm) (Q : Option Value → zMm → Prop), zWp d zi_104 none 15 [l0, l1, l2, l3, l4] [.int x0] h Q = if x0 = 0 then zWp d zi_104 none 18 [l0, l1, l2, l3, l4] [] h Q else zWp d zi_104 none 20 [l0, l1, l2, l3, l4] [] h Q) ∧
    (∀ (d : Nat) (l0 : Value) (l1 : Value) (l2 : Value) (l3 : Value) (l4 : Value)  (h : zMm) (Q : Option Value → zMm → Prop), zWp d zi_104 none 18 [l0, l1, l2, l3, l4] [] h Q = zWp d zi_104 none 19 [l0, l1, l2, l3, l4] [.int (-1)] h Q) ∧
    (∀ (d : Nat) (l0 : Value) (l1 : Value) (l2 : Value) (l3 : Value) (l4 : Value) (x0 : Int32) (h : zMm) (Q : Option Value → zMm → Prop), zWp d zi_104 none 19 [l0, l1, l2, l3, l4] [.int x0] h Q = Q (some (.int x0)) h) ∧
    (∀ (d : Nat) (l0 : Nat) (l1 : Value) (l2 : Value) (l3 : Value) (l4 : Value)  (h : zMm) (Q : Option Value → zMm → Prop), zWp d zi_104 none 20 [.ref l0, l1, l2, l3, l4] [] h Q = zWp d zi_104 none 21 [.ref l0, l1, l2, l3, l4] [.ref l0] h Q) ∧
    (∀ (d : Nat) (l0 : Value) (l1 : Value) (l2 : Value) (l3 : Value) (l4 : Value) (x0 : Nat) (I : Nat → Nat → Int32) (L : Nat → Nat → Int64) (P : Nat → Nat → Option Nat) (Q : Option Value → zMm → Prop), zSH[x0]? = some (.inl 9) → zWp d zi_104 none 21 [l0, l1, l2, l3, l4] [.ref x0] (zSH, I, L, P) Q = zWp d zi_104 none 24 [l0, l1, l2, l3, l4] [va_rf (P x0 10)] (zSH, I, L, P) Q) ∧
    (∀ (d : Nat) (l0 : Value) (l1 : Int32) (l2 : Value) (l3 : Value) (l4 : Value) (x0 : Nat) (h : zMm) (Q : Option Value → zMm → Prop), zWp d zi_104 none 24 [l0, .int l1, l2, l3, l4] [.ref x0] h Q = zWp d zi_104 none 25 [l0, .int l1, l2, l3, l4] [.int l1, .ref x0] h Q) ∧
    (∀ (d : Nat) (l0 : Value) (l1 : Value) (l2 : Value) (l3 : Value) (l4 : Value) (x1 : Int32) (x0 : Nat) (I : Nat → Nat → Int32) (L : Nat → Nat → Int64) (P : Nat → Nat → Option Nat) (Q : Option Value → zMm → Prop), zAk zSH x0 = some (.object "PalletSky$Shelf") → zWp d zi_104 none 25 [l0, l1, l2, l3, l4] [.int x1, .ref x0] (zSH, I, L, P) Q = (vp_in x1 (zAn zSH x0) ∧ zWp d zi_104 none 26 [l0, l1, l2, l3, l4] [va_rf (P x0 x1.toNatClampNeg)] (zSH, I, L, P) Q)) ∧
    (∀ (d : Nat) (l0 : Value) (l1 : Value) (l2 : Int32) (l3 : Value) (l4 : Value) (x0 : Nat) (h : zMm) (Q : Option Value → zMm → Prop), zWp d zi_104 none 26 [l0, l1, .int l2, l3, l4] [.ref x0] h Q = zWp d zi_104 none 27 [l0, l1, .int l2, .ref x0, l4] [] h Q) ∧
    (∀ (d : Nat) (l0 : Value) (l1 : Value) (l2 : Value) (l3 : Nat) (l4 : Value)  (h : zMm) (Q : Option Value → zMm → Prop), zWp d zi_104 none 27 [l0, l1, l2, .ref l3, l4] [] h Q = zWp d zi_104 none 28 [l0, l1, l2, .ref l3, l4] [.ref l3] h Q) ∧
    (∀ (d : Nat) (l0 : Value) (l1 : Value) (l2 : Value) (l3 : Value) (l4 : Value) (x0 : Nat) (I : Nat → Nat → Int32) (L : Nat → Nat → Int64) (P : Nat → Nat → Option Nat) (Q : Option Value → zMm → Prop), zSH[x0]? = some (.inl 6) → zWp d zi_104 none 28 [l0, l1, l2, l3, l4] [.ref x0] (zSH, I, L, P) Q = zWp d zi_104 none 31 [l0, l1, l2, l3, l4] [.int (I x0 1)] (zSH, I, L, P) Q) ∧
    (∀ (d : Nat) (l0 : Value) (l1 : Value) (l2 : Value) (l3 : Value) (l4 : Value) (x0 : Int32) (h : zMm) (Q : Option Value → zMm → Prop), zWp d zi_104 none 31 [l0, l1, l2, l3, l4] [.int x0] h Q = zWp d zi_104 none 33 [l0, l1, l2, l3, l4] [.int (-2), .int x0] h Q) ∧
    (∀ (d : Nat) (l0 : Value) (l1 : Value) (l2 : Value) (l3 : Value) (l4 : Value) (x1 : Int32) (x0 : Int32) (h : zMm) (Q : Option Value → zMm → Prop), zWp d zi_104 none 33 [l0, l1, l2, l3, l4] [.int x1, .int x0] h Q = if x0 = x1 then zWp d zi_104 none 36 [l0, l1, l2, l3, l4] [] h Q else zWp d zi_104 none 39 [l0, l1, l2, l3, l4] [] h Q) ∧
    (∀ (d : Nat) (l0 : Value) (l1 : Value) (l2 : Value) (l3 : Value) (l4 : Value)  (h : zMm) (Q : Option Value → zMm → Prop), zWp d zi_104 none 36 [l0, l1, l2, l3, l4] [] h Q = zWp d zi_104 none 38 [l0, l1, l2, l3, l4] [.int (-11)] h Q) ∧
    (∀ (d : Nat) (l0 : Value) (l1 : Value) (l2 : Value) (l3 : Value) (l4 : Value) (x0 : Int32) (h : zMm) (Q : Option Value → zMm → Prop), zWp d zi_104 none 38 [l0, l1, l2, l3, l4] [.int x0] h Q = Q (some (.int x0)) h) ∧
    (∀ (d : Nat) (l0 : Value) (l1 : Value) (l2 : Value) (l3 : Nat) (l4 : Value)  (h : zMm) (Q : Option Value → zMm → Prop), zWp d zi_104 none 39 [l0, l1, l2, .ref l3, l4] [] h Q = zWp d zi_104 none 40 [l0, l1, l2, .ref l3, l4] [.ref l3] h Q) ∧
    (∀ (d : Nat) (l0 : Value) (l1 : Value) (l2 : Value) (l3 : Value) (l4 : Value) (x0 : Nat) (I : Nat → Nat → Int32) (L : Nat → Nat → Int64) (P : Nat → Nat → Option Nat) (Q : Option Value → zMm → Prop), zSH[x0]? = some (.inl 6) → zWp d zi_104 none 40 [l0, l1, l2, l3, l4] [.ref x0] (zSH, I, L, P) Q = zWp d zi_104 none 43 [l0, l1, l2, l3, l4] [.int (I x0 1)] (zSH, I, L, P) Q) ∧
    (∀ (d : Nat) (l0 : Value) (l1 : Value) (l2 : Value) (l3 : Value) (l4 : Value) (x0 : Int32) (h : zMm) (Q : Option Value → zMm → Prop), zWp d zi_104 none 43 [l0, l1, l2, l3, l4] [.int x0] h Q = if x0 = 0 then zWp d zi_104 none 49 [l0, l1, l2, l3, l4] [] h Q else zWp d zi_104 none 46 [l0, l1, l2, l3, l4] [] h Q) ∧
    (∀ (d : Nat) (l0 : Value) (l1 : Value) (l2 : Value) (l3 : Value) (l4 : Value)  (h : zMm) (Q : Option Value → zMm → Prop), zWp d zi_104 none 46 [l0, l1, l2, l3, l4] [] h Q = zWp d zi_104 none 48 [l0, l1, l2, l3, l4] [.int (-12)] h Q) ∧
    (∀ (d : Nat) (l0 : Value) (l1 : Value) (l2 : Value) (l3 : Value) (l4 : Value) (x0 : Int32) (h : zMm) (Q : Option Value → zMm → Prop), zWp d zi_104 none 48 [l0, l1, l2, l3, l4] [.int x0] h Q = Q (some (.int x0)) h) ∧
    (∀ (d : Nat) (l0 : Value) (l1 : Value) (l2 : Value) (l3 : Value) (l4 : Value)  (h : zMm) (Q : Option Value → zMm → Prop), zWp d zi_104 none 49 [l0, l1, l2, l3, l4] [] h Q = zWp d zi_104 none 50 [l0, l1, l2, l3, l4] [.int 0] h Q) ∧
    (∀ (d : Nat) (l0 : Value) (l1 : Value) (l2 : Value) (l3 : Nat) (l4 : Value) (x0 : Int32) (h : zMm) (Q : Option Value → zMm → Prop), zWp d zi_104 none 50 [l0, l1, l2, .ref l3, l4] [.int x0] h Q = zWp d zi_104 none 52 [l0, l1, l2, .ref l3, .int x0] [] h Q) ∧
    (∀ (d : Nat) (l0 : Value) (l1 : Value) (l2 : Value) (l3 : Nat) (l4 : Value) (x0 : Int32) (h : zMm) (Q : Option Value → zMm → Prop), zWp d zi_104 none 54 [l0, l1, l2, .ref l3, l4] [.int x0] h Q = zWp d zi_104 none 55 [l0, l1, l2, .ref l3, l4] [.ref l3, .int x0] h Q) ∧
    (∀ (d : Nat) (l0 : Value) (l1 : Value) (l2 : Value) (l3 : Value) (l4 : Value) (x1 : Nat) (x0 : Int32) (I : Nat → Nat → Int32) (L : Nat → Nat → Int64) (P : Nat → Nat → Option Nat) (Q : Option Value → zMm → Prop), zSH[x1]? = some (.inl 6) → zWp d zi_104 none 55 [l0, l1, l2, l3, l4] [.ref x1, .int x0] (zSH, I, L, P) Q = zWp d zi_104 none 58 [l0, l1, l2, l3, l4] [.int (I x1 3), .int x0] (zSH, I, L, P) Q) ∧
    (∀ (d : Nat) (l0 : Value) (l1 : Value) (l2 : Value) (l3 : Value) (l4 : Value) (x1 : Int32) (x0 : Int32) (h : zMm) (Q : Option Value → zMm → Prop), zWp d zi_104 none 58 [l0, l1, l2, l3, l4] [.int x1, .int x0] h Q = if x1 ≤ x0 then zWp d zi_104 none 109 [l0, l1, l2, l3, l4] [] h Q else zWp d zi_104 none 61 [l0, l1, l2, l3, l4] [] h Q) ∧
    (∀ (d : Nat) (l0 : Value) (l1 : Value) (l2 : Value) (l3 : Value) (l4 : Int32)  (h : zMm) (Q : Option Value → zMm → Prop), zWp d zi_104 none 61 [l0, l1, l2, l3, .int l4] [] h Q = zWp d zi_104 none 63 [l0, l1, l2, l3, .int l4] [.int l4] h Q) ∧
    (∀ (d : Nat) (l0 : Value) (l1 : Value) (l2 : Value) (l3 : Value) (l4 : Value) (x0 : Int32) (h : zMm) (Q : Option Value → zMm → Prop), zWp d zi_104 none 63 [l0, l1, l2, l3, l4] [.int x0] h Q = zWM d 13 [.int x0] h (fun r h1 => zWp d zi_104 none 66 [l0, l1, l2, l3, l4] (r.toList ++ []) h1 Q)) ∧
    (∀ (d : Nat) (l0 : Value) (l1 : Value) (l2 : Value) (l3 : Value) (l4 : Value) (x0 : Int32) (h : zMm) (Q : Option Value → zMm → Prop), zWp d zi_104 none 66 [l0, l1, l2, l3, l4] [.int x0] h Q = if x0 = 0 then zWp d zi_104 none 109 [l0, l1, l2, l3, l4] [] h Q else zWp d zi_104 none 69 [l0, l1, l2, l3, l4] [] h Q) ∧
    (∀ (d : Nat) (l0 : Value) (l1 : Value) (l2 : Value) (l3 : Nat) (l4 : Value)  (h : zMm) (Q : Option Value → zMm → Prop), zWp d zi_104 none 69 [l0, l1, l2, .ref l3, l4] [] h Q = zWp d zi_104 none 70 [l0, l1, l2, .ref l3, l4] [.ref l3] h Q) ∧
    (∀ (d : Nat) (l0 : Value) (l1 : Value) (l2 : Value) (l3 : Value) (l4 : Value) (x0 : Nat) (I : Nat → Nat → Int32) (L : Nat → Nat → Int64) (P : Nat → Nat → Option Nat) (Q : Option Value → zMm → Prop), zSH[x0]? = some (.inl 6) → zWp d zi_104 none 70 [l0, l1, l2, l3, l4] [.ref x0] (zSH, I, L, P) Q = zWp d zi_104 none 73 [l0, l1, l2, l3, l4] [va_rf (P x0 0)] (zSH, I, L, P) Q) ∧
    (∀ (d : Nat) (l0 : Value) (l1 : Value) (l2 : Value) (l3 : Value) (l4 : Int32) (x0 : Nat) (h : zMm) (Q : Option Value → zMm → Prop), zWp d zi_104 none 73 [l0, l1, l2, l3, .int l4] [.ref x0] h Q = zWp d zi_104 none 75 [l0, l1, l2, l3, .int l4] [.int l4, .ref x0] h Q) ∧
    (∀ (d : Nat) (l0 : Value) (l1 : Value) (l2 : Value) (l3 : Value) (l4 : Value) (x1 : Int32) (x0 : Nat) (I : Nat → Nat → Int32) (L : Nat → Nat → Int64) (P : Nat → Nat → Option Nat) (Q : Option Value → zMm → Prop), zAk zSH x0 = some .long → zWp d zi_104 none 75 [l0, l1, l2, l3, l4] [.int x1, .ref x0] (zSH, I, L, P) Q = (vp_in x1 (zAn zSH x0) ∧ zWp d zi_104 none 76 [l0, l1, l2, l3, l4] [.long (L x0 x1.toNatClampNeg)] (zSH, I, L, P) Q)) ∧
    (∀ (d : Nat) (l0 : Value) (l1 : Value) (l2 : Value) (l3 : Value) (l4 : Value) (x0 : Int64) (h : zMm) (Q : Option Value → zMm → Prop), zWp d zi_104 none 76 [l0, l1, l2, l3, l4] [.long x0] h Q = zWp d zi_104 none 78 [l0, l1, l2, l3, l4] [.int 127, .long x0] h Q) ∧
    (∀ (d : Nat) (l0 : Nat) (l1 : Value) (l2 : Value) (l3 : Value) (l4 : Value) (x1 : Int32) (x0 : Int64) (h : zMm) (Q : Option Value → zMm → Prop), zWp d zi_104 none 78 [.ref l0, l1, l2, l3, l4] [.int x1, .long x0] h Q = zWp d zi_104 none 79 [.ref l0, l1, l2, l3, l4] [.ref l0, .int x1, .long x0] h Q) ∧
    (∀ (d : Nat) (l0 : Value) (l1 : Value) (l2 : Value) (l3 : Value) (l4 : Value) (x2 : Nat) (x1 : Int32) (x0 : Int64) (I : Nat → Nat → Int32) (L : Nat → Nat → Int64) (P : Nat → Nat → Option Nat) (Q : Option Value → zMm → Prop), zSH[x2]? = some (.inl 9) → zWp d zi_104 none 79 [l0, l1, l2, l3, l4] [.ref x2, .int x1, .long x0] (zSH, I, L, P) Q = zWp d zi_104 none 82 [l0, l1, l2, l3, l4] [va_rf (P x2 2), .int x1, .long x0] (zSH, I, L, P) Q) ∧
    (∀ (d : Nat) (l0 : Value) (l1 : Value) (l2 : Int32) (l3 : Value) (l4 : Value) (x2 : Nat) (x1 : Int32) (x0 : Int64) (h : zMm) (Q : Option Value → zMm → Prop), zWp d zi_104 none 82 [l0, l1, .int l2, l3, l4] [.ref x2, .int x1, .long x0] h Q = zWp d zi_104 none 83 [l0, l1, .int l2, l3, l4] [.int l2, .ref x2, .int x1, .long x0] h Q) ∧
    (∀ (d : Nat) (l0 : Value) (l1 : Value) (l2 : Value) (l3 : Value) (l4 : Int32) (x3 : Int32) (x2 : Nat) (x1 : Int32) (x0 : Int64) (h : zMm) (Q : Option Value → zMm → Prop), zWp d zi_104 none 83 [l0, l1, l2, l3, .int l4] [.int x3, .ref x2, .int x1, .long x0] h Q = zWp d zi_104 none 85 [l0, l1, l2, l3, .int l4] [.int l4, .int x3, .ref x2, .int x1, .long x0] h Q) ∧
    (∀ (d : Nat) (l0 : Nat) (l1 : Value) (l2 : Value) (l3 : Value) (l4 : Value) (x4 : Int32) (x3 : Int32) (x2 : Nat) (x1 : Int32) (x0 : Int64) (h : zMm) (Q : Option Value → zMm → Prop), zWp d zi_104 none 85 [.ref l0, l1, l2, l3, l4] [.int x4, .int x3, .ref x2, .int x1, .long x0] h Q = zWp d zi_104 none 86 [.ref l0, l1, l2, l3, l4] [.ref l0, .int x4, .int x3, .ref x2, .int x1, .long x0] h Q) ∧
    (∀ (d : Nat) (l0 : Value) (l1 : Value) (l2 : Value) (l3 : Value) (l4 : Value) (x5 : Nat) (x4 : Int32) (x3 : Int32) (x2 : Nat) (x1 : Int32) (x0 : Int64) (I : Nat → Nat → Int32) (L : Nat → Nat → Int64) (P : Nat → Nat → Option Nat) (Q : Option Value → zMm → Prop), zSH[x5]? = some (.inl 9) → zWp d zi_104 none 86 [l0, l1, l2, l3, l4] [.ref x5, .int x4, .int x3, .ref x2, .int x1, .long x0] (zSH, I, L, P) Q = zWM d 99 [.ref x5] (zSH, I, L, P) (fun r h1 => zWp d zi_104 none 89 [l0, l1, l2, l3, l4] (r.toList ++ [.int x4, .int x3, .ref x2, .int x1, .long x0]) h1 Q)) ∧
    (∀ (d : Nat) (l0 : Value) (l1 : Value) (l2 : Value) (l3 : Value) (l4 : Value) (x5 : Nat) (x4 : Int32) (x3 : Int32) (x2 : Nat) (x1 : Int32) (x0 : Int64) (I : Nat → Nat → Int32) (L : Nat → Nat → Int64) (P : Nat → Nat → Option Nat) (Q : Option Value → zMm → Prop), zSH[x2]? = some (.inl 3) → zWp d zi_104 none 89 [l0, l1, l2, l3, l4] [.ref x5, .int x4, .int x3, .ref x2, .int x1, .long x0] (zSH, I, L, P) Q = zWM d 25 [.ref x2, .int x3, .int x4, .ref x5] (zSH, I, L, P) (fun r h1 => zWp d zi_104 none 92 [l0, l1, l2, l3, l4] (r.toList ++ [.int x1, .long x0]) h1 Q)) ∧
    (∀ (d : Nat) (l0 : Value) (l1 : Value) (l2 : Value) (l3 : Value) (l4 : Value) (x2 : Int32) (x1 : Int32) (x0 : Int64) (h : zMm) (Q : Option Value → zMm → Prop), zWp d zi_104 none 92 [l0, l1, l2, l3, l4] [.int x2, .int x1, .long x0] h Q = zWp d zi_104 none 95 [l0, l1, l2, l3, l4] [.int (if x2 < x1 then x2 else x1), .long x0] h Q) ∧
    (∀ (d : Nat) (l0 : Value) (l1 : Value) (l2 : Value) (l3 : Value) (l4 : Value) (x1 : Int32) (x0 : Int64) (h : zMm) (Q : Option Value → zMm → Prop), zWp d zi_104 none 95 [l0, l1, l2, l3, l4] [.int x1, .long x0] h Q = zWp d zi_104 none 96 [l0, l1, l2, l3, l4] [.long x1.toInt64, .long x0] h Q) ∧
    (∀ (d : Nat) (l0 : Value) (l1 : Value) (l2 : Value) (l3 : Value) (l4 : Value) (x1 : Int64) (x0 : Int64) (h : zMm) (Q : Option Value → zMm → Prop), zWp d zi_104 none 96 [l0, l1, l2, l3, l4] [.long x1, .long x0] h Q = zWp d zi_104 none 97 [l0, l1, l2, l3, l4] [.int (lg_cmp x0 x1)] h Q) ∧
    (∀ (d : Nat) (l0 : Value) (l1 : Value) (l2 : Value) (l3 : Value) (l4 : Value) (x0 : Int32) (h : zMm) (Q : Option Value → zMm → Prop), zWp d zi_104 none 97 [l0, l1, l2, l3, l4] [.int x0] h Q = if x0 = 0 then zWp d zi_104 none 103 [l0, l1, l2, l3, l4] [] h Q else zWp d zi_104 none 100 [l0, l1, l2, l3, l4] [] h Q) ∧
    (∀ (d : Nat) (l0 : Value) (l1 : Value) (l2 : Value) (l3 : Value) (l4 : Int32)  (h : zMm) (Q : Option Value → zMm → Prop), zWp d zi_104 none 100 [l0, l1, l2, l3, .int l4] [] h Q = zWp d zi_104 none 102 [l0, l1, l2, l3, .int l4] [.int l4] h Q) ∧
    (∀ (d : Nat) (l0 : Value) (l1 : Value) (l2 : Value) (l3 : Value) (l4 : Value) (x0 : Int32) (h : zMm) (Q : Option Value → zMm → Prop), zWp d zi_104 none 102 [l0, l1, l2, l3, l4] [.int x0] h Q = Q (some (.int x0)) h) ∧
    (∀ (d : Nat) (l0 : Value) (l1 : Value) (l2 : Value) (l3 : Nat) (l4 : Int32)  (h : zMm) (Q : Option Value → zMm → Prop), zWp d zi_104 none 103 [l0, l1, l2, .ref l3, .int l4] [] h Q = zWp d zi_104 none 106 [l0, l1, l2, .ref l3, .int (l4 + 1)] [] h Q) ∧
    (∀ (d : Nat) (l0 : Value) (l1 : Value) (l2 : Value) (l3 : Value) (l4 : Value)  (h : zMm) (Q : Option Value → zMm → Prop), zWp d zi_104 none 106 [l0, l1, l2, l3, l4] [] h Q = zWp d zi_104 none 52 [l0, l1, l2, l3, l4] [] h Q) ∧
    (∀ (d : Nat) (l0 : Value) (l1 : Value) (l2 : Value) (l3 : Value) (l4 : Value)  (h : zMm) (Q : Option Value → zMm → Prop), zWp d zi_104 none 109 [l0, l1, l2, l3, l4] [] h Q = zWp d zi_104 none 111 [l0, l1, l2, l3, l4] [.int (-2)] h Q) ∧
    (∀ (d : Nat) (l0 : Value) (l1 : Value) (l2 : Value) (l3 : Value) (l4 : Value) (x0 : Int32) (h : zMm) (Q : Option Value → zMm → Prop), zWp d zi_104 none 111 [l0, l1, l2, l3, l4] [.int x0] h Q = Q (some (.int x0)) h) :=
  ⟨(fun d l0 l1 l2 l3 l4  h Q => zr_iload_n rfl rfl),
   (fun d l0 l1 l2 l3 l4 x0 h Q => zr_sta (as := [.int x0]) (rest := []) rfl lm_9_124 (by decide) m_120 kd_120 rfl (Nat.le_of_ble_eq_true rfl)),
   (fun d l0 l1 l2 l3 l4 x0 h Q => zr_if_eq rfl (by decide)),
   (fun d l0 l1 l2 l3 l4  h Q => zr_aload_n rfl rfl),
   (fun d l0 l1 l2 l3 l4 x0 I L P Q p0 => zr_getQ rfl lf_9_22 (fun _ _ _ => rfl) p0),
   (fun d l0 l1 l2 l3 l4 x0 h Q => zr_iload_n rfl rfl),
   (fun d l0 l1 l2 l3 l4 x1 x0 I L P Q p0 => zr_vir (as := [.int x1]) (rest := []) rfl lm_9_167 m_22 kd_22 rfl (Nat.le_of_ble_eq_true rfl) p0),
   (fun d l0 l1 l2 l3 l4 x0 h Q => zr_if_ne rfl (by decide)),
   (fun d l0 l1 l2 l3 l4  h Q => zr_iconst rfl (by decide)),
   (fun d l0 l1 l2 l3 l4 x0 h Q => zr_iret rfl rfl),
   (fun d l0 l1 l2 l3 l4  h Q => zr_aload_n rfl rfl),
   (fun d l0 l1 l2 l3 l4 x0 I L P Q p0 => zr_getQ rfl lf_9_69 (fun _ _ _ => rfl) p0),
   (fun d l0 l1 l2 l3 l4 x0 h Q => zr_iload_n rfl rfl),
   (fun d l0 l1 l2 l3 l4 x1 x0 I L P Q p0 => zr_qldO rfl p0),
   (fun d l0 l1 l2 l3 l4 x0 h Q => zr_astore_n (n := 3) rfl (Nat.le_of_ble_eq_true rfl) rfl),
   (fun d l0 l1 l2 l3 l4  h Q => zr_aload_n rfl rfl),
   (fun d l0 l1 l2 l3 l4 x0 I L P Q p0 => zr_getI rfl lf_9_128 (fun _ _ _ => rfl) p0),
   (fun d l0 l1 l2 l3 l4 x0 h Q => zr_bipush rfl (by decide)),
   (fun d l0 l1 l2 l3 l4 x1 x0 h Q => zr_ic_ne rfl (by decide)),
   (fun d l0 l1 l2 l3 l4  h Q => zr_bipush rfl (by decide)),
   (fun d l0 l1 l2 l3 l4 x0 h Q => zr_iret rfl rfl),
   (fun d l0 l1 l2 l3 l4  h Q => zr_aload_n rfl rfl),
   (fun d l0 l1 l2 l3 l4 x0 I L P Q p0 => zr_getI rfl lf_9_128 (fun _ _ _ => rfl) p0),
   (fun d l0 l1 l2 l3 l4 x0 h Q => zr_if_eq rfl (by decide)),
   (fun d l0 l1 l2 l3 l4  h Q => zr_bipush rfl (by decide)),
   (fun d l0 l1 l2 l3 l4 x0 h Q => zr_iret rfl rfl),
   (fun d l0 l1 l2 l3 l4  h Q => zr_iconst rfl (by decide)),
   (fun d l0 l1 l2 l3 l4 x0 h Q => zr_istore (n := 4) rfl (Nat.le_of_ble_eq_true rfl) rfl),
   (fun d l0 l1 l2 l3 l4 x0 h Q => zr_aload_n rfl rfl),
   (fun d l0 l1 l2 l3 l4 x1 x0 I L P Q p0 => zr_getI rfl lf_9_304 (fun _ _ _ => rfl) p0),
   (fun d l0 l1 l2 l3 l4 x1 x0 h Q => zr_ic_ge rfl (by decide)),
   (fun d l0 l1 l2 l3 l4  h Q => zr_iload rfl rfl),
   (fun d l0 l1 l2 l3 l4 x0 h Q => zr_sta (as := [.int x0]) (rest := []) rfl lm_9_244 (by decide) m_13 kd_13 rfl (Nat.le_of_ble_eq_true rfl)),
   (fun d l0 l1 l2 l3 l4 x0 h Q => zr_if_eq rfl (by decide)),
   (fun d l0 l1 l2 l3 l4  h Q => zr_aload_n rfl rfl),
   (fun d l0 l1 l2 l3 l4 x0 I L P Q p0 => zr_getQ rfl lf_9_135 (fun _ _ _ => rfl) p0),
   (fun d l0 l1 l2 l3 l4 x0 h Q => zr_iload rfl rfl),
   (fun d l0 l1 l2 l3 l4 x1 x0 I L P Q p0 => zr_lld rfl p0),
   (fun d l0 l1 l2 l3 l4 x0 h Q => zr_bipush rfl (by decide)),
   (fun d l0 l1 l2 l3 l4 x1 x0 h Q => zr_aload_n rfl rfl),
   (fun d l0 l1 l2 l3 l4 x2 x1 x0 I L P Q p0 => zr_getQ rfl lf_9_22 (fun _ _ _ => rfl) p0),
   (fun d l0 l1 l2 l3 l4 x2 x1 x0 h Q => zr_iload_n rfl rfl),
   (fun d l0 l1 l2 l3 l4 x3 x2 x1 x0 h Q => zr_iload rfl rfl),
   (fun d l0 l1 l2 l3 l4 x4 x3 x2 x1 x0 h Q => zr_aload_n rfl rfl),
   (fun d l0 l1 l2 l3 l4 x5 x4 x3 x2 x1 x0 I L P Q p0 => zr_vir (as := []) (rest := [.int x4, .int x3, .ref x2, .int x1, .long x0]) rfl lm_9_247 m_99 kd_99 rfl (Nat.le_of_ble_eq_true rfl) p0),
   (fun d l0 l1 l2 l3 l4 x5 x4 x3 x2 x1 x0 I L P Q p0 => zr_vir (as := [.ref x5, .int x4, .int x3]) (rest := [.int x1, .long x0]) rfl lm_9_266 m_25 kd_25 rfl (Nat.le_of_ble_eq_true rfl) p0),
   (fun d l0 l1 l2 l3 l4 x2 x1 x0 h Q => zr_min rfl lm_9_115 (Nat.le_of_ble_eq_true rfl)),
   (fun d l0 l1 l2 l3 l4 x1 x0 h Q => zr_i2l rfl),
   (fun d l0 l1 l2 l3 l4 x1 x0 h Q => zr_lcmp rfl),
   (fun d l0 l1 l2 l3 l4 x0 h Q => zr_if_eq rfl (by decide)),
   (fun d l0 l1 l2 l3 l4  h Q => zr_iload rfl rfl),
   (fun d l0 l1 l2 l3 l4 x0 h Q => zr_iret rfl rfl),
   (fun d l0 l1 l2 l3 l4  h Q => zr_iinc (n := 4) (kc := 1) rfl rfl (Nat.le_of_ble_eq_true rfl) rfl (by decide)),
   (fun d l0 l1 l2 l3 l4  h Q => zr_goto rfl (by decide)),
   (fun d l0 l1 l2 l3 l4  h Q => zr_bipush rfl (by decide)),
   (fun d l0 l1 l2 l3 l4 x0 h Q => zr_iret rfl rfl)⟩
theorem H_X9_judge_52 : ∀ (d : Nat) (l0 : Value) (l1 : Value) (l2 : Value) (l3 : Value) (l4 : Int32)  (h : zMm) (Q : Option Value → zMm → Prop), zWp d zi_104 none 52 [l0, l1, l2, l3, .int l4] [] h Q = zWp d zi_104 none 54 [l0, l1, l2, l3, .int l4] [.int l4] h Q := fun d l0 l1 l2 l3 l4  h Q => zr_iload rfl rfl
theorem E_X9_led : ∀ (d : Nat) (a0 : Nat) (a1 : Int32) (h : zMm) (Q : Option Value → zMm → Prop), zWM (d + 1) 105 [.ref a0, .int a1] h Q = zWp d zi_105 none 0 [.ref a0, .int a1] [] h Q := fun d a0 a1 h Q => zW_M m_105 (Nat.le_of_ble_eq_true rfl) rfl
set_option maxRecDepth 100000 in
theorem R_X9_led :
    (∀ (d : Nat) (l0 : Value) (l1 : Int32)  (h : zMm) (Q : Option Value → zMm → Prop), zWp d zi_105 none 0 [l0, .int l1] [] h Q = zWp d zi_105 none 1 [l0, .int l1] [.int l1] h Q) ∧
    (∀ (d : Nat) (l0 : Value) (l1 : Value) (x0 : Int32) (h : zMm) (Q : Option Value → zMm → Prop), zWp d zi_105 none 1 [l0, l1] [.int x0] h Q = if x0 < 0 then zWp d zi_105 none 9 [l0, l1] [] h Q else zWp d zi_105 none 4 [l0, l1] [] h Q) ∧
    (∀ (d : Nat) (l0 : Value) (l1 : Int32)  (h : zMm) (Q : Option Value → zMm → Prop), zWp d zi_105 none 4 [l0, .int l1] [] h Q = zWp d zi_105 none 5 [l0, .int l1] [.int l1] h Q) ∧
    (∀ (d : Nat) (l0 : Value) (l1 : Value) (x0 : Int32) (h : zMm) (Q : Option Value → zMm → Prop), zWp d zi_105 none 5 [l0, l1] [.int x0] h Q = zWp d zi_105 none 6 [l0, l1] [.int 1, .int x0] h Q) ∧
    (∀ (d : Nat) (l0 : Value) (l1 : Value) (x1 : Int32) (x0 : Int32) (h : zMm) (Q : Option Value → zMm → Prop), zWp d zi_105 none 6 [l0, l1] [.int x1, .int x0] h Q = if x0 ≤ x1 then zWp d zi_105 none 11 [l0, l1] [] h Q else zWp d zi_105 none 9 [l0, l1] [] h Q) ∧
    (∀ (d : Nat) (l0 : Value) (l1 : Value)  (h : zMm) (Q : Option Value → zMm → Prop), zWp d zi_105 none 9 [l0, l1] [] h Q = zWp d zi_105 none 10 [l0, l1] [.int (-1)] h Q) ∧
    (∀ (d : Nat) (l0 : Value) (l1 : Value) (x0 : Int32) (h : zMm) (Q : Option Value → zMm → Prop), zWp d zi_105 none 10 [l0, l1] [.int x0] h Q = Q (some (.int x0)) h) ∧
    (∀ (d : Nat) (l0 : Value) (l1 : Int32)  (h : zMm) (Q : Option Value → zMm → Prop), zWp d zi_105 none 11 [l0, .int l1] [] h Q = zWp d zi_105 none 12 [l0, .int l1] [.int l1] h Q) ∧
    (∀ (d : Nat) (l0 : Value) (l1 : Value) (x0 : Int32) (h : zMm) (Q : Option Value → zMm → Prop), zWp d zi_105 none 12 [l0, l1] [.int x0] h Q = if x0 = 0 then zWp d zi_105 none 15 [l0, l1] [] h Q else zWp d zi_105 none 25 [l0, l1] [] h Q) ∧
    (∀ (d : Nat) (l0 : Nat) (l1 : Value)  (h : zMm) (Q : Option Value → zMm → Prop), zWp d zi_105 none 15 [.ref l0, l1] [] h Q = zWp d zi_105 none 16 [.ref l0, l1] [.ref l0] h Q) ∧
    (∀ (d : Nat) (l0 : Value) (l1 : Value) (x0 : Nat) (I : Nat → Nat → Int32) (L : Nat → Nat → Int64) (P : Nat → Nat → Option Nat) (Q : Option Value → zMm → Prop), zSH[x0]? = some (.inl 9) → zWp d zi_105 none 16 [l0, l1] [.ref x0] (zSH, I, L, P) Q = zWp d zi_105 none 19 [l0, l1] [va_rf (P x0 5)] (zSH, I, L, P) Q) ∧
    (∀ (d : Nat) (l0 : Value) (l1 : Value) (x0 : Nat) (I : Nat → Nat → Int32) (L : Nat → Nat → Int64) (P : Nat → Nat → Option Nat) (Q : Option Value → zMm → Prop), zSH[x0]? = some (.inl 7) → zWp d zi_105 none 19 [l0, l1] [.ref x0] (zSH, I, L, P) Q = zWp d zi_105 none 22 [l0, l1] [.int (I x0 4)] (zSH, I, L, P) Q) ∧
    (∀ (d : Nat) (l0 : Value) (l1 : Value) (x0 : Int32) (h : zMm) (Q : Option Value → zMm → Prop), zWp d zi_105 none 22 [l0, l1] [.int x0] h Q = zWp d zi_105 none 32 [l0, l1] [.int x0] h Q) ∧
    (∀ (d : Nat) (l0 : Nat) (l1 : Value)  (h : zMm) (Q : Option Value → zMm → Prop), zWp d zi_105 none 25 [.ref l0, l1] [] h Q = zWp d zi_105 none 26 [.ref l0, l1] [.ref l0] h Q) ∧
    (∀ (d : Nat) (l0 : Value) (l1 : Value) (x0 : Nat) (I : Nat → Nat → Int32) (L : Nat → Nat → Int64) (P : Nat → Nat → Option Nat) (Q : Option Value → zMm → Prop), zSH[x0]? = some (.inl 9) → zWp d zi_105 none 26 [l0, l1] [.ref x0] (zSH, I, L, P) Q = zWp d zi_105 none 29 [l0, l1] [va_rf (P x0 5)] (zSH, I, L, P) Q) ∧
    (∀ (d : Nat) (l0 : Value) (l1 : Value) (x0 : Nat) (I : Nat → Nat → Int32) (L : Nat → Nat → Int64) (P : Nat → Nat → Option Nat) (Q : Option Value → zMm → Prop), zSH[x0]? = some (.inl 7) → zWp d zi_105 none 29 [l0, l1] [.ref x0] (zSH, I, L, P) Q = zWp d zi_105 none 32 [l0, l1] [.int (I x0 5)] (zSH, I, L, P) Q) ∧
    (∀ (d : Nat) (l0 : Value) (l1 : Value) (x0 : Int32) (h : zMm) (Q : Option Value → zMm → Prop), zWp d zi_105 none 32 [l0, l1] [.int x0] h Q = Q (some (.int x0)) h) :=
  ⟨(fun d l0 l1  h Q => zr_iload_n rfl rfl),
   (fun d l0 l1 x0 h Q => zr_if_lt rfl (by decide)),
   (fun d l0 l1  h Q => zr_iload_n rfl rfl),
   (fun d l0 l1 x0 h Q => zr_iconst rfl (by decide)),
   (fun d l0 l1 x1 x0 h Q => zr_ic_le rfl (by decide)),
   (fun d l0 l1  h Q => zr_iconst rfl (by decide)),
   (fun d l0 l1 x0 h Q => zr_iret rfl rfl),
   (fun d l0 l1  h Q => zr_iload_n rfl rfl),
   (fun d l0 l1 x0 h Q => zr_if_ne rfl (by decide)),
   (fun d l0 l1  h Q => zr_aload_n rfl rfl),
   (fun d l0 l1 x0 I L P Q p0 => zr_getQ rfl lf_9_43 (fun _ _ _ => rfl) p0),
   (fun d l0 l1 x0 I L P Q p0 => zr_getI rfl lf_9_307 (fun _ _ _ => rfl) p0),
   (fun d l0 l1 x0 h Q => zr_goto rfl (by decide)),
   (fun d l0 l1  h Q => zr_aload_n rfl rfl),
   (fun d l0 l1 x0 I L P Q p0 => zr_getQ rfl lf_9_43 (fun _ _ _ => rfl) p0),
   (fun d l0 l1 x0 I L P Q p0 => zr_getI rfl lf_9_310 (fun _ _ _ => rfl) p0),
   (fun d l0 l1 x0 h Q => zr_iret rfl rfl)⟩
theorem E_X9_image : ∀ (d : Nat) (a0 : Nat) (h : zMm) (Q : Option Value → zMm → Prop), zWM (d + 1) 106 [.ref a0] h Q = zWp d zi_106 none 0 [.ref a0] [] h Q := fun d a0 h Q => zW_M m_106 (Nat.le_of_ble_eq_true rfl) rfl
set_option maxRecDepth 100000 in
theorem R_X9_image :
    (∀ (d : Nat) (l0 : Nat)  (h : zMm) (Q : Option Value → zMm → Prop), zWp d zi_106 none 0 [.ref l0] [] h Q = zWp d zi_106 none 1 [.ref l0] [.ref l0] h Q) ∧
    (∀ (d : Nat) (l0 : Value) (x0 : Nat) (I : Nat → Nat → Int32) (L : Nat → Nat → Int64) (P : Nat → Nat → Option Nat) (Q : Option Value → zMm → Prop), zSH[x0]? = some (.inl 9) → zWp d zi_106 none 1 [l0] [.ref x0] (zSH, I, L, P) Q = zWp d zi_106 none 4 [l0] [va_rf (P x0 6)] (zSH, I, L, P) Q) ∧
    (∀ (d : Nat) (l0 : Nat) (x0 : Nat) (h : zMm) (Q : Option Value → zMm → Prop), zWp d zi_106 none 4 [.ref l0] [.ref x0] h Q = zWp d zi_106 none 5 [.ref l0] [.ref l0, .ref x0] h Q) ∧
    (∀ (d : Nat) (l0 : Value) (x1 : Nat) (x0 : Nat) (I : Nat → Nat → Int32) (L : Nat → Nat → Int64) (P : Nat → Nat → Option Nat) (Q : Option Value → zMm → Prop), zSH[x1]? = some (.inl 9) → zWp d zi_106 none 5 [l0] [.ref x1, .ref x0] (zSH, I, L, P) Q = zWp d zi_106 none 8 [l0] [va_rf (P x1 5), .ref x0] (zSH, I, L, P) Q) ∧
    (∀ (d : Nat) (l0 : Value) (x1 : Nat) (x0 : Nat) (I : Nat → Nat → Int32) (L : Nat → Nat → Int64) (P : Nat → Nat → Option Nat) (Q : Option Value → zMm → Prop), zSH[x0]? = some (.inl 7) → zWp d zi_106 none 8 [l0] [.ref x1, .ref x0] (zSH, I, L, P) Q = zWM d 55 [.ref x0, .ref x1] (zSH, I, L, P) (fun r h1 => zWp d zi_106 none 11 [l0] (r.toList ++ []) h1 Q)) ∧
    (∀ (d : Nat) (l0 : Nat)  (h : zMm) (Q : Option Value → zMm → Prop), zWp d zi_106 none 11 [.ref l0] [] h Q = zWp d zi_106 none 12 [.ref l0] [.ref l0] h Q) ∧
    (∀ (d : Nat) (l0 : Value) (x0 : Nat) (h : zMm) (Q : Option Value → zMm → Prop), zWp d zi_106 none 12 [l0] [.ref x0] h Q = zWp d zi_106 none 13 [l0] [.int 1, .ref x0] h Q) ∧
    (∀ (d : Nat) (l0 : Value) (x1 : Int32) (x0 : Nat) (I : Nat → Nat → Int32) (L : Nat → Nat → Int64) (P : Nat → Nat → Option Nat) (Q : Option Value → zMm → Prop), zSH[x0]? = some (.inl 9) → x1 = 0 ∨ x1 = 1 → zWp d zi_106 none 13 [l0] [.int x1, .ref x0] (zSH, I, L, P) Q = zWp d zi_106 none 16 [l0] [] (zSH, zw I x0 (upd (I x0) 13 x1), L, P) Q) ∧
    (∀ (d : Nat) (l0 : Nat)  (h : zMm) (Q : Option Value → zMm → Prop), zWp d zi_106 none 16 [.ref l0] [] h Q = zWp d zi_106 none 17 [.ref l0] [.ref l0] h Q) ∧
    (∀ (d : Nat) (l0 : Value) (x0 : Nat) (I : Nat → Nat → Int32) (L : Nat → Nat → Int64) (P : Nat → Nat → Option Nat) (Q : Option Value → zMm → Prop), zSH[x0]? = some (.inl 9) → zWp d zi_106 none 17 [l0] [.ref x0] (zSH, I, L, P) Q = zWp d zi_106 none 20 [l0] [va_rf (P x0 5)] (zSH, I, L, P) Q) ∧
    (∀ (d : Nat) (l0 : Value) (x0 : Nat) (I : Nat → Nat → Int32) (L : Nat → Nat → Int64) (P : Nat → Nat → Option Nat) (Q : Option Value → zMm → Prop), zSH[x0]? = some (.inl 7) → zWp d zi_106 none 20 [l0] [.ref x0] (zSH, I, L, P) Q = zWp d zi_106 none 23 [l0] [.int (I x0 2)] (zSH, I, L, P) Q) ∧
    (∀ (d : Nat) (l0 : Value) (x0 : Int32) (h : zMm) (Q : Option Value → zMm → Prop), zWp d zi_106 none 23 [l0] [.int x0] h Q = Q (some (.int x0)) h) :=
  ⟨(fun d l0  h Q => zr_aload_n rfl rfl),
   (fun d l0 x0 I L P Q p0 => zr_getQ rfl lf_9_47 (fun _ _ _ => rfl) p0),
   (fun d l0 x0 h Q => zr_aload_n rfl rfl),
   (fun d l0 x1 x0 I L P Q p0 => zr_getQ rfl lf_9_43 (fun _ _ _ => rfl) p0),
   (fun d l0 x1 x0 I L P Q p0 => zr_vir (as := [.ref x1]) (rest := []) rfl lm_9_295 m_55 kd_55 rfl (Nat.le_of_ble_eq_true rfl) p0),
   (fun d l0  h Q => zr_aload_n rfl rfl),
   (fun d l0 x0 h Q => zr_iconst rfl (by decide)),
   (fun d l0 x1 x0 I L P Q p0 p1 => zr_putZ rfl lf_9_313 (by decide) rfl p0 p1),
   (fun d l0  h Q => zr_aload_n rfl rfl),
   (fun d l0 x0 I L P Q p0 => zr_getQ rfl lf_9_43 (fun _ _ _ => rfl) p0),
   (fun d l0 x0 I L P Q p0 => zr_getI rfl lf_9_207 (fun _ _ _ => rfl) p0),
   (fun d l0 x0 h Q => zr_iret rfl rfl)⟩
theorem E_X9_back : ∀ (d : Nat) (a0 : Nat) (h : zMm) (Q : Option Value → zMm → Prop), zWM (d + 1) 107 [.ref a0] h Q = zWp d zi_107 none 0 [.ref a0] [] h Q := fun d a0 h Q => zW_M m_107 (Nat.le_of_ble_eq_true rfl) rfl
set_option maxRecDepth 100000 in
theorem R_X9_back :
    (∀ (d : Nat) (l0 : Nat)  (h : zMm) (Q : Option Value → zMm → Prop), zWp d zi_107 none 0 [.ref l0] [] h Q = zWp d zi_107 none 1 [.ref l0] [.ref l0] h Q) ∧
    (∀ (d : Nat) (l0 : Value) (x0 : Nat) (I : Nat → Nat → Int32) (L : Nat → Nat → Int64) (P : Nat → Nat → Option Nat) (Q : Option Value → zMm → Prop), zSH[x0]? = some (.inl 9) → zWp d zi_107 none 1 [l0] [.ref x0] (zSH, I, L, P) Q = zWp d zi_107 none 4 [l0] [.int (I x0 13)] (zSH, I, L, P) Q) ∧
    (∀ (d : Nat) (l0 : Value) (x0 : Int32) (h : zMm) (Q : Option Value → zMm → Prop), zWp d zi_107 none 4 [l0] [.int x0] h Q = if x0 = 0 then zWp d zi_107 none 7 [l0] [] h Q else zWp d zi_107 none 10 [l0] [] h Q) ∧
    (∀ (d : Nat) (l0 : Value)  (h : zMm) (Q : Option Value → zMm → Prop), zWp d zi_107 none 7 [l0] [] h Q = zWp d zi_107 none 9 [l0] [.int (-5)] h Q) ∧
    (∀ (d : Nat) (l0 : Value) (x0 : Int32) (h : zMm) (Q : Option Value → zMm → Prop), zWp d zi_107 none 9 [l0] [.int x0] h Q = Q (some (.int x0)) h) ∧
    (∀ (d : Nat) (l0 : Nat)  (h : zMm) (Q : Option Value → zMm → Prop), zWp d zi_107 none 10 [.ref l0] [] h Q = zWp d zi_107 none 11 [.ref l0] [.ref l0] h Q) ∧
    (∀ (d : Nat) (l0 : Value) (x0 : Nat) (I : Nat → Nat → Int32) (L : Nat → Nat → Int64) (P : Nat → Nat → Option Nat) (Q : Option Value → zMm → Prop), zSH[x0]? = some (.inl 9) → zWp d zi_107 none 11 [l0] [.ref x0] (zSH, I, L, P) Q = zWp d zi_107 none 14 [l0] [va_rf (P x0 5)] (zSH, I, L, P) Q) ∧
    (∀ (d : Nat) (l0 : Nat) (x0 : Nat) (h : zMm) (Q : Option Value → zMm → Prop), zWp d zi_107 none 14 [.ref l0] [.ref x0] h Q = zWp d zi_107 none 15 [.ref l0] [.ref l0, .ref x0] h Q) ∧
    (∀ (d : Nat) (l0 : Value) (x1 : Nat) (x0 : Nat) (I : Nat → Nat → Int32) (L : Nat → Nat → Int64) (P : Nat → Nat → Option Nat) (Q : Option Value → zMm → Prop), zSH[x1]? = some (.inl 9) → zWp d zi_107 none 15 [l0] [.ref x1, .ref x0] (zSH, I, L, P) Q = zWp d zi_107 none 18 [l0] [va_rf (P x1 6), .ref x0] (zSH, I, L, P) Q) ∧
    (∀ (d : Nat) (l0 : Value) (x1 : Nat) (x0 : Nat) (I : Nat → Nat → Int32) (L : Nat → Nat → Int64) (P : Nat → Nat → Option Nat) (Q : Option Value → zMm → Prop), zSH[x0]? = some (.inl 7) → zWp d zi_107 none 18 [l0] [.ref x1, .ref x0] (zSH, I, L, P) Q = zWM d 55 [.ref x0, .ref x1] (zSH, I, L, P) (fun r h1 => zWp d zi_107 none 21 [l0] (r.toList ++ []) h1 Q)) ∧
    (∀ (d : Nat) (l0 : Nat)  (h : zMm) (Q : Option Value → zMm → Prop), zWp d zi_107 none 21 [.ref l0] [] h Q = zWp d zi_107 none 22 [.ref l0] [.ref l0] h Q) ∧
    (∀ (d : Nat) (l0 : Value) (x0 : Nat) (I : Nat → Nat → Int32) (L : Nat → Nat → Int64) (P : Nat → Nat → Option Nat) (Q : Option Value → zMm → Prop), zSH[x0]? = some (.inl 9) → zWp d zi_107 none 22 [l0] [.ref x0] (zSH, I, L, P) Q = zWp d zi_107 none 25 [l0] [va_rf (P x0 5)] (zSH, I, L, P) Q) ∧
    (∀ (d : Nat) (l0 : Value) (x0 : Nat) (I : Nat → Nat → Int32) (L : Nat → Nat → Int64) (P : Nat → Nat → Option Nat) (Q : Option Value → zMm → Prop), zSH[x0]? = some (.inl 7) → zWp d zi_107 none 25 [l0] [.ref x0] (zSH, I, L, P) Q = zWp d zi_107 none 28 [l0] [.int (I x0 2)] (zSH, I, L, P) Q) ∧
    (∀ (d : Nat) (l0 : Value) (x0 : Int32) (h : zMm) (Q : Option Value → zMm → Prop), zWp d zi_107 none 28 [l0] [.int x0] h Q = Q (some (.int x0)) h) :=
  ⟨(fun d l0  h Q => zr_aload_n rfl rfl),
   (fun d l0 x0 I L P Q p0 => zr_getI rfl lf_9_313 (fun _ _ _ => rfl) p0),
   (fun d l0 x0 h Q => zr_if_ne rfl (by decide)),
   (fun d l0  h Q => zr_bipush rfl (by decide)),
   (fun d l0 x0 h Q => zr_iret rfl rfl),
   (fun d l0  h Q => zr_aload_n rfl rfl),
   (fun d l0 x0 I L P Q p0 => zr_getQ rfl lf_9_43 (fun _ _ _ => rfl) p0),
   (fun d l0 x0 h Q => zr_aload_n rfl rfl),
   (fun d l0 x1 x0 I L P Q p0 => zr_getQ rfl lf_9_47 (fun _ _ _ => rfl) p0),
   (fun d l0 x1 x0 I L P Q p0 => zr_vir (as := [.ref x1]) (rest := []) rfl lm_9_295 m_55 kd_55 rfl (Nat.le_of_ble_eq_true rfl) p0),
   (fun d l0  h Q => zr_aload_n rfl rfl),
   (fun d l0 x0 I L P Q p0 => zr_getQ rfl lf_9_43 (fun _ _ _ => rfl) p0),
   (fun d l0 x0 I L P Q p0 => zr_getI rfl lf_9_207 (fun _ _ _ => rfl) p0),
   (fun d l0 x0 h Q => zr_iret rfl rfl)⟩
theorem E_X9_undo : ∀ (d : Nat) (a0 : Nat) (h : zMm) (Q : Option Value → zMm → Prop), zWM (d + 1) 108 [.ref a0] h Q = zWp d zi_108 none 0 [.ref a0, .retAddr 0] [] h Q := fun d a0 h Q => zW_M m_108 (Nat.le_of_ble_eq_true rfl) rfl
set_option maxRecDepth 100000 in
theorem R_X9_undo :
    (∀ (d : Nat) (l0 : Nat) (l1 : Value)  (h : zMm) (Q : Option Value → zMm → Prop), zWp d zi_108 none 0 [.ref l0, l1] [] h Q = zWp d zi_108 none 1 [.ref l0, l1] [.ref l0] h Q) ∧
    (∀ (d : Nat) (l0 : Value) (l1 : Value) (x0 : Nat) (I : Nat → Nat → Int32) (L : Nat → Nat → Int64) (P : Nat → Nat → Option Nat) (Q : Option Value → zMm → Prop), zSH[x0]? = some (.inl 9) → zWp d zi_108 none 1 [l0, l1] [.ref x0] (zSH, I, L, P) Q = zWp d zi_108 none 4 [l0, l1] [va_rf (P x0 8)] (zSH, I, L, P) Q) ∧
    (∀ (d : Nat) (l0 : Value) (l1 : Value) (x0 : Nat) (I : Nat → Nat → Int32) (L : Nat → Nat → Int64) (P : Nat → Nat → Option Nat) (Q : Option Value → zMm → Prop), zSH[x0]? = some (.inl 1) → zWp d zi_108 none 4 [l0, l1] [.ref x0] (zSH, I, L, P) Q = zWp d zi_108 none 7 [l0, l1] [.int (I x0 1)] (zSH, I, L, P) Q) ∧
    (∀ (d : Nat) (l0 : Value) (l1 : Value) (x0 : Int32) (h : zMm) (Q : Option Value → zMm → Prop), zWp d zi_108 none 7 [l0, l1] [.int x0] h Q = zWp d zi_108 none 8 [l0, l1] [.int 1, .int x0] h Q) ∧
    (∀ (d : Nat) (l0 : Value) (l1 : Value) (x1 : Int32) (x0 : Int32) (h : zMm) (Q : Option Value → zMm → Prop), zWp d zi_108 none 8 [l0, l1] [.int x1, .int x0] h Q = zWp d zi_108 none 9 [l0, l1] [.int (x0 - x1)] h Q) ∧
    (∀ (d : Nat) (l0 : Nat) (l1 : Value) (x0 : Int32) (h : zMm) (Q : Option Value → zMm → Prop), zWp d zi_108 none 9 [.ref l0, l1] [.int x0] h Q = zWp d zi_108 none 10 [.ref l0, .int x0] [] h Q) ∧
    (∀ (d : Nat) (l0 : Value) (l1 : Int32)  (h : zMm) (Q : Option Value → zMm → Prop), zWp d zi_108 none 10 [l0, .int l1] [] h Q = zWp d zi_108 none 11 [l0, .int l1] [.int l1] h Q) ∧
    (∀ (d : Nat) (l0 : Value) (l1 : Value) (x0 : Int32) (h : zMm) (Q : Option Value → zMm → Prop), zWp d zi_108 none 11 [l0, l1] [.int x0] h Q = if x0 < 0 then zWp d zi_108 none 37 [l0, l1] [] h Q else zWp d zi_108 none 14 [l0, l1] [] h Q) ∧
    (∀ (d : Nat) (l0 : Nat) (l1 : Value)  (h : zMm) (Q : Option Value → zMm → Prop), zWp d zi_108 none 14 [.ref l0, l1] [] h Q = zWp d zi_108 none 15 [.ref l0, l1] [.ref l0] h Q) ∧
    (∀ (d : Nat) (l0 : Nat) (l1 : Value) (x0 : Nat) (h : zMm) (Q : Option Value → zMm → Prop), zWp d zi_108 none 15 [.ref l0, l1] [.ref x0] h Q = zWp d zi_108 none 16 [.ref l0, l1] [.ref l0, .ref x0] h Q) ∧
    (∀ (d : Nat) (l0 : Value) (l1 : Value) (x1 : Nat) (x0 : Nat) (I : Nat → Nat → Int32) (L : Nat → Nat → Int64) (P : Nat → Nat → Option Nat) (Q : Option Value → zMm → Prop), zSH[x1]? = some (.inl 9) → zWp d zi_108 none 16 [l0, l1] [.ref x1, .ref x0] (zSH, I, L, P) Q = zWp d zi_108 none 19 [l0, l1] [va_rf (P x1 8), .ref x0] (zSH, I, L, P) Q) ∧
    (∀ (d : Nat) (l0 : Value) (l1 : Int32) (x1 : Nat) (x0 : Nat) (h : zMm) (Q : Option Value → zMm → Prop), zWp d zi_108 none 19 [l0, .int l1] [.ref x1, .ref x0] h Q = zWp d zi_108 none 20 [l0, .int l1] [.int l1, .ref x1, .ref x0] h Q) ∧
    (∀ (d : Nat) (l0 : Value) (l1 : Value) (x2 : Int32) (x1 : Nat) (x0 : Nat) (I : Nat → Nat → Int32) (L : Nat → Nat → Int64) (P : Nat → Nat → Option Nat) (Q : Option Value → zMm → Prop), zSH[x1]? = some (.inl 1) → zWp d zi_108 none 20 [l0, l1] [.int x2, .ref x1, .ref x0] (zSH, I, L, P) Q = zWM d 8 [.ref x1, .int x2] (zSH, I, L, P) (fun r h1 => zWp d zi_108 none 23 [l0, l1] (r.toList ++ [.ref x0]) h1 Q)) ∧
    (∀ (d : Nat) (l0 : Nat) (l1 : Value) (x1 : Int32) (x0 : Nat) (h : zMm) (Q : Option Value → zMm → Prop), zWp d zi_108 none 23 [.ref l0, l1] [.int x1, .ref x0] h Q = zWp d zi_108 none 24 [.ref l0, l1] [.ref l0, .int x1, .ref x0] h Q) ∧
    (∀ (d : Nat) (l0 : Value) (l1 : Value) (x2 : Nat) (x1 : Int32) (x0 : Nat) (I : Nat → Nat → Int32) (L : Nat → Nat → Int64) (P : Nat → Nat → Option Nat) (Q : Option Value → zMm → Prop), zSH[x2]? = some (.inl 9) → zWp d zi_108 none 24 [l0, l1] [.ref x2, .int x1, .ref x0] (zSH, I, L, P) Q = zWp d zi_108 none 27 [l0, l1] [va_rf (P x2 8), .int x1, .ref x0] (zSH, I, L, P) Q) ∧
    (∀ (d : Nat) (l0 : Value) (l1 : Int32) (x2 : Nat) (x1 : Int32) (x0 : Nat) (h : zMm) (Q : Option Value → zMm → Prop), zWp d zi_108 none 27 [l0, .int l1] [.ref x2, .int x1, .ref x0] h Q = zWp d zi_108 none 28 [l0, .int l1] [.int l1, .ref x2, .int x1, .ref x0] h Q) ∧
    (∀ (d : Nat) (l0 : Value) (l1 : Value) (x3 : Int32) (x2 : Nat) (x1 : Int32) (x0 : Nat) (I : Nat → Nat → Int32) (L : Nat → Nat → Int64) (P : Nat → Nat → Option Nat) (Q : Option Value → zMm → Prop), zSH[x2]? = some (.inl 1) → zWp d zi_108 none 28 [l0, l1] [.int x3, .ref x2, .int x1, .ref x0] (zSH, I, L, P) Q = zWM d 9 [.ref x2, .int x3] (zSH, I, L, P) (fun r h1 => zWp d zi_108 none 31 [l0, l1] (r.toList ++ [.int x1, .ref x0]) h1 Q)) ∧
    (∀ (d : Nat) (l0 : Value) (l1 : Value) (x2 : Int32) (x1 : Int32) (x0 : Nat) (I : Nat → Nat → Int32) (L : Nat → Nat → Int64) (P : Nat → Nat → Option Nat) (Q : Option Value → zMm → Prop), zSH[x0]? = some (.inl 9) → zWp d zi_108 none 31 [l0, l1] [.int x2, .int x1, .ref x0] (zSH, I, L, P) Q = zWM d 84 [.ref x0, .int x1, .int x2] (zSH, I, L, P) (fun r h1 => zWp d zi_108 none 34 [l0, l1] (r.toList ++ []) h1 Q)) ∧
    (∀ (d : Nat) (l0 : Value) (l1 : Value) (x0 : Int32) (h : zMm) (Q : Option Value → zMm → Prop), zWp d zi_108 none 34 [l0, l1] [.int x0] h Q = if x0 = 0 then zWp d zi_108 none 37 [l0, l1] [] h Q else zWp d zi_108 none 40 [l0, l1] [] h Q) ∧
    (∀ (d : Nat) (l0 : Value) (l1 : Value)  (h : zMm) (Q : Option Value → zMm → Prop), zWp d zi_108 none 37 [l0, l1] [] h Q = zWp d zi_108 none 39 [l0, l1] [.int (-5)] h Q) ∧
    (∀ (d : Nat) (l0 : Value) (l1 : Value) (x0 : Int32) (h : zMm) (Q : Option Value → zMm → Prop), zWp d zi_108 none 39 [l0, l1] [.int x0] h Q = Q (some (.int x0)) h) ∧
    (∀ (d : Nat) (l0 : Nat) (l1 : Value)  (h : zMm) (Q : Option Value → zMm → Prop), zWp d zi_108 none 40 [.ref l0, l1] [] h Q = zWp d zi_108 none 41 [.ref l0, l1] [.ref l0] h Q) ∧
    (∀ (d : Nat) (l0 : Nat) (l1 : Value) (x0 : Nat) (h : zMm) (Q : Option Value → zMm → Prop), zWp d zi_108 none 41 [.ref l0, l1] [.ref x0] h Q = zWp d zi_108 none 42 [.ref l0, l1] [.ref l0, .ref x0] h Q) ∧
    (∀ (d : Nat) (l0 : Value) (l1 : Value) (x1 : Nat) (x0 : Nat) (I : Nat → Nat → Int32) (L : Nat → Nat → Int64) (P : Nat → Nat → Option Nat) (Q : Option Value → zMm → Prop), zSH[x1]? = some (.inl 9) → zWp d zi_108 none 42 [l0, l1] [.ref x1, .ref x0] (zSH, I, L, P) Q = zWp d zi_108 none 45 [l0, l1] [va_rf (P x1 8), .ref x0] (zSH, I, L, P) Q) ∧
    (∀ (d : Nat) (l0 : Value) (l1 : Int32) (x1 : Nat) (x0 : Nat) (h : zMm) (Q : Option Value → zMm → Prop), zWp d zi_108 none 45 [l0, .int l1] [.ref x1, .ref x0] h Q = zWp d zi_108 none 46 [l0, .int l1] [.int l1, .ref x1, .ref x0] h Q) ∧
    (∀ (d : Nat) (l0 : Value) (l1 : Value) (x2 : Int32) (x1 : Nat) (x0 : Nat) (I : Nat → Nat → Int32) (L : Nat → Nat → Int64) (P : Nat → Nat → Option Nat) (Q : Option Value → zMm → Prop), zSH[x1]? = some (.inl 1) → zWp d zi_108 none 46 [l0, l1] [.int x2, .ref x1, .ref x0] (zSH, I, L, P) Q = zWM d 8 [.ref x1, .int x2] (zSH, I, L, P) (fun r h1 => zWp d zi_108 none 49 [l0, l1] (r.toList ++ [.ref x0]) h1 Q)) ∧
    (∀ (d : Nat) (l0 : Nat) (l1 : Value) (x1 : Int32) (x0 : Nat) (h : zMm) (Q : Option Value → zMm → Prop), zWp d zi_108 none 49 [.ref l0, l1] [.int x1, .ref x0] h Q = zWp d zi_108 none 50 [.ref l0, l1] [.ref l0, .int x1, .ref x0] h Q) ∧
    (∀ (d : Nat) (l0 : Value) (l1 : Value) (x2 : Nat) (x1 : Int32) (x0 : Nat) (I : Nat → Nat → Int32) (L : Nat → Nat → Int64) (P : Nat → Nat → Option Nat) (Q : Option Value → zMm → Prop), zSH[x2]? = some (.inl 9) → zWp d zi_108 none 50 [l0, l1] [.ref x2, .int x1, .ref x0] (zSH, I, L, P) Q = zWp d zi_108 none 53 [l0, l1] [va_rf (P x2 8), .int x1, .ref x0] (zSH, I, L, P) Q) ∧
    (∀ (d : Nat) (l0 : Value) (l1 : Int32) (x2 : Nat) (x1 : Int32) (x0 : Nat) (h : zMm) (Q : Option Value → zMm → Prop), zWp d zi_108 none 53 [l0, .int l1] [.ref x2, .int x1, .ref x0] h Q = zWp d zi_108 none 54 [l0, .int l1] [.int l1, .ref x2, .int x1, .ref x0] h Q) ∧
    (∀ (d : Nat) (l0 : Value) (l1 : Value) (x3 : Int32) (x2 : Nat) (x1 : Int32) (x0 : Nat) (I : Nat → Nat → Int32) (L : Nat → Nat → Int64) (P : Nat → Nat → Option Nat) (Q : Option Value → zMm → Prop), zSH[x2]? = some (.inl 1) → zWp d zi_108 none 54 [l0, l1] [.int x3, .ref x2, .int x1, .ref x0] (zSH, I, L, P) Q = zWM d 9 [.ref x2, .int x3] (zSH, I, L, P) (fun r h1 => zWp d zi_108 none 57 [l0, l1] (r.toList ++ [.int x1, .ref x0]) h1 Q)) ∧
    (∀ (d : Nat) (l0 : Nat) (l1 : Value) (x2 : Int32) (x1 : Int32) (x0 : Nat) (h : zMm) (Q : Option Value → zMm → Prop), zWp d zi_108 none 57 [.ref l0, l1] [.int x2, .int x1, .ref x0] h Q = zWp d zi_108 none 58 [.ref l0, l1] [.ref l0, .int x2, .int x1, .ref x0] h Q) ∧
    (∀ (d : Nat) (l0 : Value) (l1 : Value) (x3 : Nat) (x2 : Int32) (x1 : Int32) (x0 : Nat) (I : Nat → Nat → Int32) (L : Nat → Nat → Int64) (P : Nat → Nat → Option Nat) (Q : Option Value → zMm → Prop), zSH[x3]? = some (.inl 9) → zWp d zi_108 none 58 [l0, l1] [.ref x3, .int x2, .int x1, .ref x0] (zSH, I, L, P) Q = zWp d zi_108 none 61 [l0, l1] [va_rf (P x3 8), .int x2, .int x1, .ref x0] (zSH, I, L, P) Q) ∧
    (∀ (d : Nat) (l0 : Value) (l1 : Int32) (x3 : Nat) (x2 : Int32) (x1 : Int32) (x0 : Nat) (h : zMm) (Q : Option Value → zMm → Prop), zWp d zi_108 none 61 [l0, .int l1] [.ref x3, .int x2, .int x1, .ref x0] h Q = zWp d zi_108 none 62 [l0, .int l1] [.int l1, .ref x3, .int x2, .int x1, .ref x0] h Q) ∧
    (∀ (d : Nat) (l0 : Value) (l1 : Value) (x4 : Int32) (x3 : Nat) (x2 : Int32) (x1 : Int32) (x0 : Nat) (I : Nat → Nat → Int32) (L : Nat → Nat → Int64) (P : Nat → Nat → Option Nat) (Q : Option Value → zMm → Prop), zSH[x3]? = some (.inl 1) → zWp d zi_108 none 62 [l0, l1] [.int x4, .ref x3, .int x2, .int x1, .ref x0] (zSH, I, L, P) Q = zWM d 10 [.ref x3, .int x4] (zSH, I, L, P) (fun r h1 => zWp d zi_108 none 65 [l0, l1] (r.toList ++ [.int x2, .int x1, .ref x0]) h1 Q)) ∧
    (∀ (d : Nat) (l0 : Value) (l1 : Value) (x3 : Int32) (x2 : Int32) (x1 : Int32) (x0 : Nat) (I : Nat → Nat → Int32) (L : Nat → Nat → Int64) (P : Nat → Nat → Option Nat) (Q : Option Value → zMm → Prop), zSH[x0]? = some (.inl 9) → zWp d zi_108 none 65 [l0, l1] [.int x3, .int x2, .int x1, .ref x0] (zSH, I, L, P) Q = zWM d 87 [.ref x0, .int x1, .int x2, .int x3] (zSH, I, L, P) (fun r h1 => zWp d zi_108 none 68 [l0, l1] (r.toList ++ []) h1 Q)) ∧
    (∀ (d : Nat) (l0 : Nat) (l1 : Value)  (h : zMm) (Q : Option Value → zMm → Prop), zWp d zi_108 none 68 [.ref l0, l1] [] h Q = zWp d zi_108 none 69 [.ref l0, l1] [.ref l0] h Q) ∧
    (∀ (d : Nat) (l0 : Value) (l1 : Value) (x0 : Nat) (I : Nat → Nat → Int32) (L : Nat → Nat → Int64) (P : Nat → Nat → Option Nat) (Q : Option Value → zMm → Prop), zSH[x0]? = some (.inl 9) → zWp d zi_108 none 69 [l0, l1] [.ref x0] (zSH, I, L, P) Q = zWp d zi_108 none 72 [l0, l1] [va_rf (P x0 8)] (zSH, I, L, P) Q) ∧
    (∀ (d : Nat) (l0 : Value) (l1 : Value) (x0 : Nat) (h : zMm) (Q : Option Value → zMm → Prop), zWp d zi_108 none 72 [l0, l1] [.ref x0] h Q = zWp d zi_108 none 73 [l0, l1] [.ref x0, .ref x0] h Q) ∧
    (∀ (d : Nat) (l0 : Value) (l1 : Value) (x1 : Nat) (x0 : Nat) (I : Nat → Nat → Int32) (L : Nat → Nat → Int64) (P : Nat → Nat → Option Nat) (Q : Option Value → zMm → Prop), zSH[x1]? = some (.inl 1) → zWp d zi_108 none 73 [l0, l1] [.ref x1, .ref x0] (zSH, I, L, P) Q = zWp d zi_108 none 76 [l0, l1] [.int (I x1 1), .ref x0] (zSH, I, L, P) Q) ∧
    (∀ (d : Nat) (l0 : Value) (l1 : Value) (x1 : Int32) (x0 : Nat) (h : zMm) (Q : Option Value → zMm → Prop), zWp d zi_108 none 76 [l0, l1] [.int x1, .ref x0] h Q = zWp d zi_108 none 77 [l0, l1] [.int 1, .int x1, .ref x0] h Q) ∧
    (∀ (d : Nat) (l0 : Value) (l1 : Value) (x2 : Int32) (x1 : Int32) (x0 : Nat) (h : zMm) (Q : Option Value → zMm → Prop), zWp d zi_108 none 77 [l0, l1] [.int x2, .int x1, .ref x0] h Q = zWp d zi_108 none 78 [l0, l1] [.int (x1 - x2), .ref x0] h Q) ∧
    (∀ (d : Nat) (l0 : Value) (l1 : Value) (x1 : Int32) (x0 : Nat) (I : Nat → Nat → Int32) (L : Nat → Nat → Int64) (P : Nat → Nat → Option Nat) (Q : Option Value → zMm → Prop), zSH[x0]? = some (.inl 1) → zWp d zi_108 none 78 [l0, l1] [.int x1, .ref x0] (zSH, I, L, P) Q = zWp d zi_108 none 81 [l0, l1] [] (zSH, zw I x0 (upd (I x0) 1 x1), L, P) Q) ∧
    (∀ (d : Nat) (l0 : Nat) (l1 : Value)  (h : zMm) (Q : Option Value → zMm → Prop), zWp d zi_108 none 81 [.ref l0, l1] [] h Q = zWp d zi_108 none 82 [.ref l0, l1] [.ref l0] h Q) ∧
    (∀ (d : Nat) (l0 : Value) (l1 : Value) (x0 : Nat) (I : Nat → Nat → Int32) (L : Nat → Nat → Int64) (P : Nat → Nat → Option Nat) (Q : Option Value → zMm → Prop), zSH[x0]? = some (.inl 9) → zWp d zi_108 none 82 [l0, l1] [.ref x0] (zSH, I, L, P) Q = zWp d zi_108 none 85 [l0, l1] [va_rf (P x0 8)] (zSH, I, L, P) Q) ∧
    (∀ (d : Nat) (l0 : Value) (l1 : Value) (x0 : Nat) (I : Nat → Nat → Int32) (L : Nat → Nat → Int64) (P : Nat → Nat → Option Nat) (Q : Option Value → zMm → Prop), zSH[x0]? = some (.inl 1) → zWp d zi_108 none 85 [l0, l1] [.ref x0] (zSH, I, L, P) Q = zWp d zi_108 none 88 [l0, l1] [.int (I x0 1)] (zSH, I, L, P) Q) ∧
    (∀ (d : Nat) (l0 : Value) (l1 : Value) (x0 : Int32) (h : zMm) (Q : Option Value → zMm → Prop), zWp d zi_108 none 88 [l0, l1] [.int x0] h Q = Q (some (.int x0)) h) :=
  ⟨(fun d l0 l1  h Q => zr_aload_n rfl rfl),
   (fun d l0 l1 x0 I L P Q p0 => zr_getQ rfl lf_9_56 (fun _ _ _ => rfl) p0),
   (fun d l0 l1 x0 I L P Q p0 => zr_getI rfl lf_9_316 (fun _ _ _ => rfl) p0),
   (fun d l0 l1 x0 h Q => zr_iconst rfl (by decide)),
   (fun d l0 l1 x1 x0 h Q => zr_isub rfl),
   (fun d l0 l1 x0 h Q => zr_istore_n (n := 1) rfl (Nat.le_of_ble_eq_true rfl) rfl),
   (fun d l0 l1  h Q => zr_iload_n rfl rfl),
   (fun d l0 l1 x0 h Q => zr_if_lt rfl (by decide)),
   (fun d l0 l1  h Q => zr_aload_n rfl rfl),
   (fun d l0 l1 x0 h Q => zr_aload_n rfl rfl),
   (fun d l0 l1 x1 x0 I L P Q p0 => zr_getQ rfl lf_9_56 (fun _ _ _ => rfl) p0),
   (fun d l0 l1 x1 x0 h Q => zr_iload_n rfl rfl),
   (fun d l0 l1 x2 x1 x0 I L P Q p0 => zr_vir (as := [.int x2]) (rest := [.ref x0]) rfl lm_9_319 m_8 kd_8 rfl (Nat.le_of_ble_eq_true rfl) p0),
   (fun d l0 l1 x1 x0 h Q => zr_aload_n rfl rfl),
   (fun d l0 l1 x2 x1 x0 I L P Q p0 => zr_getQ rfl lf_9_56 (fun _ _ _ => rfl) p0),
   (fun d l0 l1 x2 x1 x0 h Q => zr_iload_n rfl rfl),
   (fun d l0 l1 x3 x2 x1 x0 I L P Q p0 => zr_vir (as := [.int x3]) (rest := [.int x1, .ref x0]) rfl lm_9_322 m_9 kd_9 rfl (Nat.le_of_ble_eq_true rfl) p0),
   (fun d l0 l1 x2 x1 x0 I L P Q p0 => zr_vir (as := [.int x2, .int x1]) (rest := []) rfl lm_9_144 m_84 kd_84 rfl (Nat.le_of_ble_eq_true rfl) p0),
   (fun d l0 l1 x0 h Q => zr_if_ne rfl (by decide)),
   (fun d l0 l1  h Q => zr_bipush rfl (by decide)),
   (fun d l0 l1 x0 h Q => zr_iret rfl rfl),
   (fun d l0 l1  h Q => zr_aload_n rfl rfl),
   (fun d l0 l1 x0 h Q => zr_aload_n rfl rfl),
   (fun d l0 l1 x1 x0 I L P Q p0 => zr_getQ rfl lf_9_56 (fun _ _ _ => rfl) p0),
   (fun d l0 l1 x1 x0 h Q => zr_iload_n rfl rfl),
   (fun d l0 l1 x2 x1 x0 I L P Q p0 => zr_vir (as := [.int x2]) (rest := [.ref x0]) rfl lm_9_319 m_8 kd_8 rfl (Nat.le_of_ble_eq_true rfl) p0),
   (fun d l0 l1 x1 x0 h Q => zr_aload_n rfl rfl),
   (fun d l0 l1 x2 x1 x0 I L P Q p0 => zr_getQ rfl lf_9_56 (fun _ _ _ => rfl) p0),
   (fun d l0 l1 x2 x1 x0 h Q => zr_iload_n rfl rfl),
   (fun d l0 l1 x3 x2 x1 x0 I L P Q p0 => zr_vir (as := [.int x3]) (rest := [.int x1, .ref x0]) rfl lm_9_322 m_9 kd_9 rfl (Nat.le_of_ble_eq_true rfl) p0),
   (fun d l0 l1 x2 x1 x0 h Q => zr_aload_n rfl rfl),
   (fun d l0 l1 x3 x2 x1 x0 I L P Q p0 => zr_getQ rfl lf_9_56 (fun _ _ _ => rfl) p0),
   (fun d l0 l1 x3 x2 x1 x0 h Q => zr_iload_n rfl rfl),
   (fun d l0 l1 x4 x3 x2 x1 x0 I L P Q p0 => zr_vir (as := [.int x4]) (rest := [.int x2, .int x1, .ref x0]) rfl lm_9_325 m_10 kd_10 rfl (Nat.le_of_ble_eq_true rfl) p0),
   (fun d l0 l1 x3 x2 x1 x0 I L P Q p0 => zr_vir (as := [.int x3, .int x2, .int x1]) (rest := []) rfl lm_9_155 m_87 kd_87 rfl (Nat.le_of_ble_eq_true rfl) p0),
   (fun d l0 l1  h Q => zr_aload_n rfl rfl),
   (fun d l0 l1 x0 I L P Q p0 => zr_getQ rfl lf_9_56 (fun _ _ _ => rfl) p0),
   (fun d l0 l1 x0 h Q => zr_dup rfl rfl),
   (fun d l0 l1 x1 x0 I L P Q p0 => zr_getI rfl lf_9_316 (fun _ _ _ => rfl) p0),
   (fun d l0 l1 x1 x0 h Q => zr_iconst rfl (by decide)),
   (fun d l0 l1 x2 x1 x0 h Q => zr_isub rfl),
   (fun d l0 l1 x1 x0 I L P Q p0 => zr_putI rfl lf_9_316 (by decide) rfl p0),
   (fun d l0 l1  h Q => zr_aload_n rfl rfl),
   (fun d l0 l1 x0 I L P Q p0 => zr_getQ rfl lf_9_56 (fun _ _ _ => rfl) p0),
   (fun d l0 l1 x0 I L P Q p0 => zr_getI rfl lf_9_316 (fun _ _ _ => rfl) p0),
   (fun d l0 l1 x0 h Q => zr_iret rfl rfl)⟩
theorem E_X9_redo : ∀ (d : Nat) (a0 : Nat) (h : zMm) (Q : Option Value → zMm → Prop), zWM (d + 1) 109 [.ref a0] h Q = zWp d zi_109 none 0 [.ref a0, .retAddr 0] [] h Q := fun d a0 h Q => zW_M m_109 (Nat.le_of_ble_eq_true rfl) rfl
set_option maxRecDepth 100000 in
theorem R_X9_redo :
    (∀ (d : Nat) (l0 : Nat) (l1 : Value)  (h : zMm) (Q : Option Value → zMm → Prop), zWp d zi_109 none 0 [.ref l0, l1] [] h Q = zWp d zi_109 none 1 [.ref l0, l1] [.ref l0] h Q) ∧
    (∀ (d : Nat) (l0 : Value) (l1 : Value) (x0 : Nat) (I : Nat → Nat → Int32) (L : Nat → Nat → Int64) (P : Nat → Nat → Option Nat) (Q : Option Value → zMm → Prop), zSH[x0]? = some (.inl 9) → zWp d zi_109 none 1 [l0, l1] [.ref x0] (zSH, I, L, P) Q = zWp d zi_109 none 4 [l0, l1] [va_rf (P x0 8)] (zSH, I, L, P) Q) ∧
    (∀ (d : Nat) (l0 : Value) (l1 : Value) (x0 : Nat) (I : Nat → Nat → Int32) (L : Nat → Nat → Int64) (P : Nat → Nat → Option Nat) (Q : Option Value → zMm → Prop), zSH[x0]? = some (.inl 1) → zWp d zi_109 none 4 [l0, l1] [.ref x0] (zSH, I, L, P) Q = zWp d zi_109 none 7 [l0, l1] [.int (I x0 1)] (zSH, I, L, P) Q) ∧
    (∀ (d : Nat) (l0 : Nat) (l1 : Value) (x0 : Int32) (h : zMm) (Q : Option Value → zMm → Prop), zWp d zi_109 none 7 [.ref l0, l1] [.int x0] h Q = zWp d zi_109 none 8 [.ref l0, .int x0] [] h Q) ∧
    (∀ (d : Nat) (l0 : Value) (l1 : Int32)  (h : zMm) (Q : Option Value → zMm → Prop), zWp d zi_109 none 8 [l0, .int l1] [] h Q = zWp d zi_109 none 9 [l0, .int l1] [.int l1] h Q) ∧
    (∀ (d : Nat) (l0 : Nat) (l1 : Value) (x0 : Int32) (h : zMm) (Q : Option Value → zMm → Prop), zWp d zi_109 none 9 [.ref l0, l1] [.int x0] h Q = zWp d zi_109 none 10 [.ref l0, l1] [.ref l0, .int x0] h Q) ∧
    (∀ (d : Nat) (l0 : Value) (l1 : Value) (x1 : Nat) (x0 : Int32) (I : Nat → Nat → Int32) (L : Nat → Nat → Int64) (P : Nat → Nat → Option Nat) (Q : Option Value → zMm → Prop), zSH[x1]? = some (.inl 9) → zWp d zi_109 none 10 [l0, l1] [.ref x1, .int x0] (zSH, I, L, P) Q = zWp d zi_109 none 13 [l0, l1] [va_rf (P x1 8), .int x0] (zSH, I, L, P) Q) ∧
    (∀ (d : Nat) (l0 : Value) (l1 : Value) (x1 : Nat) (x0 : Int32) (I : Nat → Nat → Int32) (L : Nat → Nat → Int64) (P : Nat → Nat → Option Nat) (Q : Option Value → zMm → Prop), zSH[x1]? = some (.inl 1) → zWp d zi_109 none 13 [l0, l1] [.ref x1, .int x0] (zSH, I, L, P) Q = zWp d zi_109 none 16 [l0, l1] [.int (I x1 2), .int x0] (zSH, I, L, P) Q) ∧
    (∀ (d : Nat) (l0 : Value) (l1 : Value) (x1 : Int32) (x0 : Int32) (h : zMm) (Q : Option Value → zMm → Prop), zWp d zi_109 none 16 [l0, l1] [.int x1, .int x0] h Q = if x1 ≤ x0 then zWp d zi_109 none 42 [l0, l1] [] h Q else zWp d zi_109 none 19 [l0, l1] [] h Q) ∧
    (∀ (d : Nat) (l0 : Nat) (l1 : Value)  (h : zMm) (Q : Option Value → zMm → Prop), zWp d zi_109 none 19 [.ref l0, l1] [] h Q = zWp d zi_109 none 20 [.ref l0, l1] [.ref l0] h Q) ∧
    (∀ (d : Nat) (l0 : Nat) (l1 : Value) (x0 : Nat) (h : zMm) (Q : Option Value → zMm → Prop), zWp d zi_109 none 20 [.ref l0, l1] [.ref x0] h Q = zWp d zi_109 none 21 [.ref l0, l1] [.ref l0, .ref x0] h Q) ∧
    (∀ (d : Nat) (l0 : Value) (l1 : Value) (x1 : Nat) (x0 : Nat) (I : Nat → Nat → Int32) (L : Nat → Nat → Int64) (P : Nat → Nat → Option Nat) (Q : Option Value → zMm → Prop), zSH[x1]? = some (.inl 9) → zWp d zi_109 none 21 [l0, l1] [.ref x1, .ref x0] (zSH, I, L, P) Q = zWp d zi_109 none 24 [l0, l1] [va_rf (P x1 8), .ref x0] (zSH, I, L, P) Q) ∧
    (∀ (d : Nat) (l0 : Value) (l1 : Int32) (x1 : Nat) (x0 : Nat) (h : zMm) (Q : Option Value → zMm → Prop), zWp d zi_109 none 24 [l0, .int l1] [.ref x1, .ref x0] h Q = zWp d zi_109 none 25 [l0, .int l1] [.int l1, .ref x1, .ref x0] h Q) ∧
    (∀ (d : Nat) (l0 : Value) (l1 : Value) (x2 : Int32) (x1 : Nat) (x0 : Nat) (I : Nat → Nat → Int32) (L : Nat → Nat → Int64) (P : Nat → Nat → Option Nat) (Q : Option Value → zMm → Prop), zSH[x1]? = some (.inl 1) → zWp d zi_109 none 25 [l0, l1] [.int x2, .ref x1, .ref x0] (zSH, I, L, P) Q = zWM d 8 [.ref x1, .int x2] (zSH, I, L, P) (fun r h1 => zWp d zi_109 none 28 [l0, l1] (r.toList ++ [.ref x0]) h1 Q)) ∧
    (∀ (d : Nat) (l0 : Nat) (l1 : Value) (x1 : Int32) (x0 : Nat) (h : zMm) (Q : Option Value → zMm → Prop), zWp d zi_109 none 28 [.ref l0, l1] [.int x1, .ref x0] h Q = zWp d zi_109 none 29 [.ref l0, l1] [.ref l0, .int x1, .ref x0] h Q) ∧
    (∀ (d : Nat) (l0 : Value) (l1 : Value) (x2 : Nat) (x1 : Int32) (x0 : Nat) (I : Nat → Nat → Int32) (L : Nat → Nat → Int64) (P : Nat → Nat → Option Nat) (Q : Option Value → zMm → Prop), zSH[x2]? = some (.inl 9) → zWp d zi_109 none 29 [l0, l1] [.ref x2, .int x1, .ref x0] (zSH, I, L, P) Q = zWp d zi_109 none 32 [l0, l1] [va_rf (P x2 8), .int x1, .ref x0] (zSH, I, L, P) Q) ∧
    (∀ (d : Nat) (l0 : Value) (l1 : Int32) (x2 : Nat) (x1 : Int32) (x0 : Nat) (h : zMm) (Q : Option Value → zMm → Prop), zWp d zi_109 none 32 [l0, .int l1] [.ref x2, .int x1, .ref x0] h Q = zWp d zi_109 none 33 [l0, .int l1] [.int l1, .ref x2, .int x1, .ref x0] h Q) ∧
    (∀ (d : Nat) (l0 : Value) (l1 : Value) (x3 : Int32) (x2 : Nat) (x1 : Int32) (x0 : Nat) (I : Nat → Nat → Int32) (L : Nat → Nat → Int64) (P : Nat → Nat → Option Nat) (Q : Option Value → zMm → Prop), zSH[x2]? = some (.inl 1) → zWp d zi_109 none 33 [l0, l1] [.int x3, .ref x2, .int x1, .ref x0] (zSH, I, L, P) Q = zWM d 9 [.ref x2, .int x3] (zSH, I, L, P) (fun r h1 => zWp d zi_109 none 36 [l0, l1] (r.toList ++ [.int x1, .ref x0]) h1 Q)) ∧
    (∀ (d : Nat) (l0 : Value) (l1 : Value) (x2 : Int32) (x1 : Int32) (x0 : Nat) (I : Nat → Nat → Int32) (L : Nat → Nat → Int64) (P : Nat → Nat → Option Nat) (Q : Option Value → zMm → Prop), zSH[x0]? = some (.inl 9) → zWp d zi_109 none 36 [l0, l1] [.int x2, .int x1, .ref x0] (zSH, I, L, P) Q = zWM d 84 [.ref x0, .int x1, .int x2] (zSH, I, L, P) (fun r h1 => zWp d zi_109 none 39 [l0, l1] (r.toList ++ []) h1 Q)) ∧
    (∀ (d : Nat) (l0 : Value) (l1 : Value) (x0 : Int32) (h : zMm) (Q : Option Value → zMm → Prop), zWp d zi_109 none 39 [l0, l1] [.int x0] h Q = if x0 = 0 then zWp d zi_109 none 42 [l0, l1] [] h Q else zWp d zi_109 none 45 [l0, l1] [] h Q) ∧
    (∀ (d : Nat) (l0 : Value) (l1 : Value)  (h : zMm) (Q : Option Value → zMm → Prop), zWp d zi_109 none 42 [l0, l1] [] h Q = zWp d zi_109 none 44 [l0, l1] [.int (-5)] h Q) ∧
    (∀ (d : Nat) (l0 : Value) (l1 : Value) (x0 : Int32) (h : zMm) (Q : Option Value → zMm → Prop), zWp d zi_109 none 44 [l0, l1] [.int x0] h Q = Q (some (.int x0)) h) ∧
    (∀ (d : Nat) (l0 : Nat) (l1 : Value)  (h : zMm) (Q : Option Value → zMm → Prop), zWp d zi_109 none 45 [.ref l0, l1] [] h Q = zWp d zi_109 none 46 [.ref l0, l1] [.ref l0] h Q) ∧
    (∀ (d : Nat) (l0 : Nat) (l1 : Value) (x0 : Nat) (h : zMm) (Q : Option Value → zMm → Prop), zWp d zi_109 none 46 [.ref l0, l1] [.ref x0] h Q = zWp d zi_109 none 47 [.ref l0, l1] [.ref l0, .ref x0] h Q) ∧
    (∀ (d : Nat) (l0 : Value) (l1 : Value) (x1 : Nat) (x0 : Nat) (I : Nat → Nat → Int32) (L : Nat → Nat → Int64) (P : Nat → Nat → Option Nat) (Q : Option Value → zMm → Prop), zSH[x1]? = some (.inl 9) → zWp d zi_109 none 47 [l0, l1] [.ref x1, .ref x0] (zSH, I, L, P) Q = zWp d zi_109 none 50 [l0, l1] [va_rf (P x1 8), .ref x0] (zSH, I, L, P) Q) ∧
    (∀ (d : Nat) (l0 : Value) (l1 : Int32) (x1 : Nat) (x0 : Nat) (h : zMm) (Q : Option Value → zMm → Prop), zWp d zi_109 none 50 [l0, .int l1] [.ref x1, .ref x0] h Q = zWp d zi_109 none 51 [l0, .int l1] [.int l1, .ref x1, .ref x0] h Q) ∧
    (∀ (d : Nat) (l0 : Value) (l1 : Value) (x2 : Int32) (x1 : Nat) (x0 : Nat) (I : Nat → Nat → Int32) (L : Nat → Nat → Int64) (P : Nat → Nat → Option Nat) (Q : Option Value → zMm → Prop), zSH[x1]? = some (.inl 1) → zWp d zi_109 none 51 [l0, l1] [.int x2, .ref x1, .ref x0] (zSH, I, L, P) Q = zWM d 8 [.ref x1, .int x2] (zSH, I, L, P) (fun r h1 => zWp d zi_109 none 54 [l0, l1] (r.toList ++ [.ref x0]) h1 Q)) ∧
    (∀ (d : Nat) (l0 : Nat) (l1 : Value) (x1 : Int32) (x0 : Nat) (h : zMm) (Q : Option Value → zMm → Prop), zWp d zi_109 none 54 [.ref l0, l1] [.int x1, .ref x0] h Q = zWp d zi_109 none 55 [.ref l0, l1] [.ref l0, .int x1, .ref x0] h Q) ∧
    (∀ (d : Nat) (l0 : Value) (l1 : Value) (x2 : Nat) (x1 : Int32) (x0 : Nat) (I : Nat → Nat → Int32) (L : Nat → Nat → Int64) (P : Nat → Nat → Option Nat) (Q : Option Value → zMm → Prop), zSH[x2]? = some (.inl 9) → zWp d zi_109 none 55 [l0, l1] [.ref x2, .int x1, .ref x0] (zSH, I, L, P) Q = zWp d zi_109 none 58 [l0, l1] [va_rf (P x2 8), .int x1, .ref x0] (zSH, I, L, P) Q) ∧
    (∀ (d : Nat) (l0 : Value) (l1 : Int32) (x2 : Nat) (x1 : Int32) (x0 : Nat) (h : zMm) (Q : Option Value → zMm → Prop), zWp d zi_109 none 58 [l0, .int l1] [.ref x2, .int x1, .ref x0] h Q = zWp d zi_109 none 59 [l0, .int l1] [.int l1, .ref x2, .int x1, .ref x0] h Q) ∧
    (∀ (d : Nat) (l0 : Value) (l1 : Value) (x3 : Int32) (x2 : Nat) (x1 : Int32) (x0 : Nat) (I : Nat → Nat → Int32) (L : Nat → Nat → Int64) (P : Nat → Nat → Option Nat) (Q : Option Value → zMm → Prop), zSH[x2]? = some (.inl 1) → zWp d zi_109 none 59 [l0, l1] [.int x3, .ref x2, .int x1, .ref x0] (zSH, I, L, P) Q = zWM d 9 [.ref x2, .int x3] (zSH, I, L, P) (fun r h1 => zWp d zi_109 none 62 [l0, l1] (r.toList ++ [.int x1, .ref x0]) h1 Q)) ∧
    (∀ (d : Nat) (l0 : Nat) (l1 : Value) (x2 : Int32) (x1 : Int32) (x0 : Nat) (h : zMm) (Q : Option Value → zMm → Prop), zWp d zi_109 none 62 [.ref l0, l1] [.int x2, .int x1, .ref x0] h Q = zWp d zi_109 none 63 [.ref l0, l1] [.ref l0, .int x2, .int x1, .ref x0] h Q) ∧
    (∀ (d : Nat) (l0 : Value) (l1 : Value) (x3 : Nat) (x2 : Int32) (x1 : Int32) (x0 : Nat) (I : Nat → Nat → Int32) (L : Nat → Nat → Int64) (P : Nat → Nat → Option Nat) (Q : Option Value → zMm → Prop), zSH[x3]? = some (.inl 9) → zWp d zi_109 none 63 [l0, l1] [.ref x3, .int x2, .int x1, .ref x0] (zSH, I, L, P) Q = zWp d zi_109 none 66 [l0, l1] [va_rf (P x3 8), .int x2, .int x1, .ref x0] (zSH, I, L, P) Q) ∧
    (∀ (d : Nat) (l0 : Value) (l1 : Int32) (x3 : Nat) (x2 : Int32) (x1 : Int32) (x0 : Nat) (h : zMm) (Q : Option Value → zMm → Prop), zWp d zi_109 none 66 [l0, .int l1] [.ref x3, .int x2, .int x1, .ref x0] h Q = zWp d zi_109 none 67 [l0, .int l1] [.int l1, .ref x3, .int x2, .int x1, .ref x0] h Q) ∧
    (∀ (d : Nat) (l0 : Value) (l1 : Value) (x4 : Int32) (x3 : Nat) (x2 : Int32) (x1 : Int32) (x0 : Nat) (I : Nat → Nat → Int32) (L : Nat → Nat → Int64) (P : Nat → Nat → Option Nat) (Q : Option Value → zMm → Prop), zSH[x3]? = some (.inl 1) → zWp d zi_109 none 67 [l0, l1] [.int x4, .ref x3, .int x2, .int x1, .ref x0] (zSH, I, L, P) Q = zWM d 11 [.ref x3, .int x4] (zSH, I, L, P) (fun r h1 => zWp d zi_109 none 70 [l0, l1] (r.toList ++ [.int x2, .int x1, .ref x0]) h1 Q)) ∧
    (∀ (d : Nat) (l0 : Value) (l1 : Value) (x3 : Int32) (x2 : Int32) (x1 : Int32) (x0 : Nat) (I : Nat → Nat → Int32) (L : Nat → Nat → Int64) (P : Nat → Nat → Option Nat) (Q : Option Value → zMm → Prop), zSH[x0]? = some (.inl 9) → zWp d zi_109 none 70 [l0, l1] [.int x3, .int x2, .int x1, .ref x0] (zSH, I, L, P) Q = zWM d 87 [.ref x0, .int x1, .int x2, .int x3] (zSH, I, L, P) (fun r h1 => zWp d zi_109 none 73 [l0, l1] (r.toList ++ []) h1 Q)) ∧
    (∀ (d : Nat) (l0 : Nat) (l1 : Value)  (h : zMm) (Q : Option Value → zMm → Prop), zWp d zi_109 none 73 [.ref l0, l1] [] h Q = zWp d zi_109 none 74 [.ref l0, l1] [.ref l0] h Q) ∧
    (∀ (d : Nat) (l0 : Value) (l1 : Value) (x0 : Nat) (I : Nat → Nat → Int32) (L : Nat → Nat → Int64) (P : Nat → Nat → Option Nat) (Q : Option Value → zMm → Prop), zSH[x0]? = some (.inl 9) → zWp d zi_109 none 74 [l0, l1] [.ref x0] (zSH, I, L, P) Q = zWp d zi_109 none 77 [l0, l1] [va_rf (P x0 8)] (zSH, I, L, P) Q) ∧
    (∀ (d : Nat) (l0 : Value) (l1 : Value) (x0 : Nat) (h : zMm) (Q : Option Value → zMm → Prop), zWp d zi_109 none 77 [l0, l1] [.ref x0] h Q = zWp d zi_109 none 78 [l0, l1] [.ref x0, .ref x0] h Q) ∧
    (∀ (d : Nat) (l0 : Value) (l1 : Value) (x1 : Nat) (x0 : Nat) (I : Nat → Nat → Int32) (L : Nat → Nat → Int64) (P : Nat → Nat → Option Nat) (Q : Option Value → zMm → Prop), zSH[x1]? = some (.inl 1) → zWp d zi_109 none 78 [l0, l1] [.ref x1, .ref x0] (zSH, I, L, P) Q = zWp d zi_109 none 81 [l0, l1] [.int (I x1 1), .ref x0] (zSH, I, L, P) Q) ∧
    (∀ (d : Nat) (l0 : Value) (l1 : Value) (x1 : Int32) (x0 : Nat) (h : zMm) (Q : Option Value → zMm → Prop), zWp d zi_109 none 81 [l0, l1] [.int x1, .ref x0] h Q = zWp d zi_109 none 82 [l0, l1] [.int 1, .int x1, .ref x0] h Q) ∧
    (∀ (d : Nat) (l0 : Value) (l1 : Value) (x2 : Int32) (x1 : Int32) (x0 : Nat) (h : zMm) (Q : Option Value → zMm → Prop), zWp d zi_109 none 82 [l0, l1] [.int x2, .int x1, .ref x0] h Q = zWp d zi_109 none 83 [l0, l1] [.int (x1 + x2), .ref x0] h Q) ∧
    (∀ (d : Nat) (l0 : Value) (l1 : Value) (x1 : Int32) (x0 : Nat) (I : Nat → Nat → Int32) (L : Nat → Nat → Int64) (P : Nat → Nat → Option Nat) (Q : Option Value → zMm → Prop), zSH[x0]? = some (.inl 1) → zWp d zi_109 none 83 [l0, l1] [.int x1, .ref x0] (zSH, I, L, P) Q = zWp d zi_109 none 86 [l0, l1] [] (zSH, zw I x0 (upd (I x0) 1 x1), L, P) Q) ∧
    (∀ (d : Nat) (l0 : Nat) (l1 : Value)  (h : zMm) (Q : Option Value → zMm → Prop), zWp d zi_109 none 86 [.ref l0, l1] [] h Q = zWp d zi_109 none 87 [.ref l0, l1] [.ref l0] h Q) ∧
    (∀ (d : Nat) (l0 : Value) (l1 : Value) (x0 : Nat) (I : Nat → Nat → Int32) (L : Nat → Nat → Int64) (P : Nat → Nat → Option Nat) (Q : Option Value → zMm → Prop), zSH[x0]? = some (.inl 9) → zWp d zi_109 none 87 [l0, l1] [.ref x0] (zSH, I, L, P) Q = zWp d zi_109 none 90 [l0, l1] [va_rf (P x0 8)] (zSH, I, L, P) Q) ∧
    (∀ (d : Nat) (l0 : Value) (l1 : Value) (x0 : Nat) (I : Nat → Nat → Int32) (L : Nat → Nat → Int64) (P : Nat → Nat → Option Nat) (Q : Option Value → zMm → Prop), zSH[x0]? = some (.inl 1) → zWp d zi_109 none 90 [l0, l1] [.ref x0] (zSH, I, L, P) Q = zWp d zi_109 none 93 [l0, l1] [.int (I x0 2)] (zSH, I, L, P) Q) ∧
    (∀ (d : Nat) (l0 : Nat) (l1 : Value) (x0 : Int32) (h : zMm) (Q : Option Value → zMm → Prop), zWp d zi_109 none 93 [.ref l0, l1] [.int x0] h Q = zWp d zi_109 none 94 [.ref l0, l1] [.ref l0, .int x0] h Q) ∧
    (∀ (d : Nat) (l0 : Value) (l1 : Value) (x1 : Nat) (x0 : Int32) (I : Nat → Nat → Int32) (L : Nat → Nat → Int64) (P : Nat → Nat → Option Nat) (Q : Option Value → zMm → Prop), zSH[x1]? = some (.inl 9) → zWp d zi_109 none 94 [l0, l1] [.ref x1, .int x0] (zSH, I, L, P) Q = zWp d zi_109 none 97 [l0, l1] [va_rf (P x1 8), .int x0] (zSH, I, L, P) Q) ∧
    (∀ (d : Nat) (l0 : Value) (l1 : Value) (x1 : Nat) (x0 : Int32) (I : Nat → Nat → Int32) (L : Nat → Nat → Int64) (P : Nat → Nat → Option Nat) (Q : Option Value → zMm → Prop), zSH[x1]? = some (.inl 1) → zWp d zi_109 none 97 [l0, l1] [.ref x1, .int x0] (zSH, I, L, P) Q = zWp d zi_109 none 100 [l0, l1] [.int (I x1 1), .int x0] (zSH, I, L, P) Q) ∧
    (∀ (d : Nat) (l0 : Value) (l1 : Value) (x1 : Int32) (x0 : Int32) (h : zMm) (Q : Option Value → zMm → Prop), zWp d zi_109 none 100 [l0, l1] [.int x1, .int x0] h Q = zWp d zi_109 none 101 [l0, l1] [.int (x0 - x1)] h Q) ∧
    (∀ (d : Nat) (l0 : Value) (l1 : Value) (x0 : Int32) (h : zMm) (Q : Option Value → zMm → Prop), zWp d zi_109 none 101 [l0, l1] [.int x0] h Q = Q (some (.int x0)) h) :=
  ⟨(fun d l0 l1  h Q => zr_aload_n rfl rfl),
   (fun d l0 l1 x0 I L P Q p0 => zr_getQ rfl lf_9_56 (fun _ _ _ => rfl) p0),
   (fun d l0 l1 x0 I L P Q p0 => zr_getI rfl lf_9_316 (fun _ _ _ => rfl) p0),
   (fun d l0 l1 x0 h Q => zr_istore_n (n := 1) rfl (Nat.le_of_ble_eq_true rfl) rfl),
   (fun d l0 l1  h Q => zr_iload_n rfl rfl),
   (fun d l0 l1 x0 h Q => zr_aload_n rfl rfl),
   (fun d l0 l1 x1 x0 I L P Q p0 => zr_getQ rfl lf_9_56 (fun _ _ _ => rfl) p0),
   (fun d l0 l1 x1 x0 I L P Q p0 => zr_getI rfl lf_9_328 (fun _ _ _ => rfl) p0),
   (fun d l0 l1 x1 x0 h Q => zr_ic_ge rfl (by decide)),
   (fun d l0 l1  h Q => zr_aload_n rfl rfl),
   (fun d l0 l1 x0 h Q => zr_aload_n rfl rfl),
   (fun d l0 l1 x1 x0 I L P Q p0 => zr_getQ rfl lf_9_56 (fun _ _ _ => rfl) p0),
   (fun d l0 l1 x1 x0 h Q => zr_iload_n rfl rfl),
   (fun d l0 l1 x2 x1 x0 I L P Q p0 => zr_vir (as := [.int x2]) (rest := [.ref x0]) rfl lm_9_319 m_8 kd_8 rfl (Nat.le_of_ble_eq_true rfl) p0),
   (fun d l0 l1 x1 x0 h Q => zr_aload_n rfl rfl),
   (fun d l0 l1 x2 x1 x0 I L P Q p0 => zr_getQ rfl lf_9_56 (fun _ _ _ => rfl) p0),
   (fun d l0 l1 x2 x1 x0 h Q => zr_iload_n rfl rfl),
   (fun d l0 l1 x3 x2 x1 x0 I L P Q p0 => zr_vir (as := [.int x3]) (rest := [.int x1, .ref x0]) rfl lm_9_322 m_9 kd_9 rfl (Nat.le_of_ble_eq_true rfl) p0),
   (fun d l0 l1 x2 x1 x0 I L P Q p0 => zr_vir (as := [.int x2, .int x1]) (rest := []) rfl lm_9_144 m_84 kd_84 rfl (Nat.le_of_ble_eq_true rfl) p0),
   (fun d l0 l1 x0 h Q => zr_if_ne rfl (by decide)),
   (fun d l0 l1  h Q => zr_bipush rfl (by decide)),
   (fun d l0 l1 x0 h Q => zr_iret rfl rfl),
   (fun d l0 l1  h Q => zr_aload_n rfl rfl),
   (fun d l0 l1 x0 h Q => zr_aload_n rfl rfl),
   (fun d l0 l1 x1 x0 I L P Q p0 => zr_getQ rfl lf_9_56 (fun _ _ _ => rfl) p0),
   (fun d l0 l1 x1 x0 h Q => zr_iload_n rfl rfl),
   (fun d l0 l1 x2 x1 x0 I L P Q p0 => zr_vir (as := [.int x2]) (rest := [.ref x0]) rfl lm_9_319 m_8 kd_8 rfl (Nat.le_of_ble_eq_true rfl) p0),
   (fun d l0 l1 x1 x0 h Q => zr_aload_n rfl rfl),
   (fun d l0 l1 x2 x1 x0 I L P Q p0 => zr_getQ rfl lf_9_56 (fun _ _ _ => rfl) p0),
   (fun d l0 l1 x2 x1 x0 h Q => zr_iload_n rfl rfl),
   (fun d l0 l1 x3 x2 x1 x0 I L P Q p0 => zr_vir (as := [.int x3]) (rest := [.int x1, .ref x0]) rfl lm_9_322 m_9 kd_9 rfl (Nat.le_of_ble_eq_true rfl) p0),
   (fun d l0 l1 x2 x1 x0 h Q => zr_aload_n rfl rfl),
   (fun d l0 l1 x3 x2 x1 x0 I L P Q p0 => zr_getQ rfl lf_9_56 (fun _ _ _ => rfl) p0),
   (fun d l0 l1 x3 x2 x1 x0 h Q => zr_iload_n rfl rfl),
   (fun d l0 l1 x4 x3 x2 x1 x0 I L P Q p0 => zr_vir (as := [.int x4]) (rest := [.int x2, .int x1, .ref x0]) rfl lm_9_331 m_11 kd_11 rfl (Nat.le_of_ble_eq_true rfl) p0),
   (fun d l0 l1 x3 x2 x1 x0 I L P Q p0 => zr_vir (as := [.int x3, .int x2, .int x1]) (rest := []) rfl lm_9_155 m_87 kd_87 rfl (Nat.le_of_ble_eq_true rfl) p0),
   (fun d l0 l1  h Q => zr_aload_n rfl rfl),
   (fun d l0 l1 x0 I L P Q p0 => zr_getQ rfl lf_9_56 (fun _ _ _ => rfl) p0),
   (fun d l0 l1 x0 h Q => zr_dup rfl rfl),
   (fun d l0 l1 x1 x0 I L P Q p0 => zr_getI rfl lf_9_316 (fun _ _ _ => rfl) p0),
   (fun d l0 l1 x1 x0 h Q => zr_iconst rfl (by decide)),
   (fun d l0 l1 x2 x1 x0 h Q => zr_iadd rfl),
   (fun d l0 l1 x1 x0 I L P Q p0 => zr_putI rfl lf_9_316 (by decide) rfl p0),
   (fun d l0 l1  h Q => zr_aload_n rfl rfl),
   (fun d l0 l1 x0 I L P Q p0 => zr_getQ rfl lf_9_56 (fun _ _ _ => rfl) p0),
   (fun d l0 l1 x0 I L P Q p0 => zr_getI rfl lf_9_328 (fun _ _ _ => rfl) p0),
   (fun d l0 l1 x0 h Q => zr_aload_n rfl rfl),
   (fun d l0 l1 x1 x0 I L P Q p0 => zr_getQ rfl lf_9_56 (fun _ _ _ => rfl) p0),
   (fun d l0 l1 x1 x0 I L P Q p0 => zr_getI rfl lf_9_316 (fun _ _ _ => rfl) p0),
   (fun d l0 l1 x1 x0 h Q => zr_isub rfl),
   (fun d l0 l1 x0 h Q => zr_iret rfl rfl)⟩
theorem E_X9_body : ∀ (d : Nat) (a0 : Nat) (a1 : Int32) (h : zMm) (Q : Option Value → zMm → Prop), zWM (d + 1) 110 [.ref a0, .int a1] h Q = zWp d zi_110 none 0 [.ref a0, .int a1] [] h Q := fun d a0 a1 h Q => zW_M m_110 (Nat.le_of_ble_eq_true rfl) rfl
set_option maxRecDepth 100000 in
theorem R_X9_body :
    (∀ (d : Nat) (l0 : Value) (l1 : Int32)  (h : zMm) (Q : Option Value → zMm → Prop), zWp d zi_110 none 0 [l0, .int l1] [] h Q = zWp d zi_110 none 1 [l0, .int l1] [.int l1] h Q) ∧
    (∀ (d : Nat) (l0 : Value) (l1 : Value) (x0 : Int32) (h : zMm) (Q : Option Value → zMm → Prop), zWp d zi_110 none 1 [l0, l1] [.int x0] h Q = if x0 < 0 then zWp d zi_110 none 10 [l0, l1] [] h Q else zWp d zi_110 none 4 [l0, l1] [] h Q) ∧
    (∀ (d : Nat) (l0 : Value) (l1 : Int32)  (h : zMm) (Q : Option Value → zMm → Prop), zWp d zi_110 none 4 [l0, .int l1] [] h Q = zWp d zi_110 none 5 [l0, .int l1] [.int l1] h Q) ∧
    (∀ (d : Nat) (l0 : Value) (l1 : Value) (x0 : Int32) (h : zMm) (Q : Option Value → zMm → Prop), zWp d zi_110 none 5 [l0, l1] [.int x0] h Q = zWp d zi_110 none 7 [l0, l1] [.int 8, .int x0] h Q) ∧
    (∀ (d : Nat) (l0 : Value) (l1 : Value) (x1 : Int32) (x0 : Int32) (h : zMm) (Q : Option Value → zMm → Prop), zWp d zi_110 none 7 [l0, l1] [.int x1, .int x0] h Q = if x0 < x1 then zWp d zi_110 none 12 [l0, l1] [] h Q else zWp d zi_110 none 10 [l0, l1] [] h Q) ∧
    (∀ (d : Nat) (l0 : Value) (l1 : Value)  (h : zMm) (Q : Option Value → zMm → Prop), zWp d zi_110 none 10 [l0, l1] [] h Q = zWp d zi_110 none 11 [l0, l1] [.int (-1)] h Q) ∧
    (∀ (d : Nat) (l0 : Value) (l1 : Value) (x0 : Int32) (h : zMm) (Q : Option Value → zMm → Prop), zWp d zi_110 none 11 [l0, l1] [.int x0] h Q = Q (some (.int x0)) h) ∧
    (∀ (d : Nat) (l0 : Nat) (l1 : Value)  (h : zMm) (Q : Option Value → zMm → Prop), zWp d zi_110 none 12 [.ref l0, l1] [] h Q = zWp d zi_110 none 13 [.ref l0, l1] [.ref l0] h Q) ∧
    (∀ (d : Nat) (l0 : Value) (l1 : Value) (x0 : Nat) (I : Nat → Nat → Int32) (L : Nat → Nat → Int64) (P : Nat → Nat → Option Nat) (Q : Option Value → zMm → Prop), zSH[x0]? = some (.inl 9) → zWp d zi_110 none 13 [l0, l1] [.ref x0] (zSH, I, L, P) Q = zWp d zi_110 none 16 [l0, l1] [va_rf (P x0 9)] (zSH, I, L, P) Q) ∧
    (∀ (d : Nat) (l0 : Value) (l1 : Value) (x0 : Nat) (I : Nat → Nat → Int32) (L : Nat → Nat → Int64) (P : Nat → Nat → Option Nat) (Q : Option Value → zMm → Prop), zSH[x0]? = some (.inl 0) → zWp d zi_110 none 16 [l0, l1] [.ref x0] (zSH, I, L, P) Q = zWp d zi_110 none 19 [l0, l1] [.int (I x0 2)] (zSH, I, L, P) Q) ∧
    (∀ (d : Nat) (l0 : Value) (l1 : Value) (x0 : Int32) (h : zMm) (Q : Option Value → zMm → Prop), zWp d zi_110 none 19 [l0, l1] [.int x0] h Q = zWp d zi_110 none 21 [l0, l1] [.int 50, .int x0] h Q) ∧
    (∀ (d : Nat) (l0 : Value) (l1 : Value) (x1 : Int32) (x0 : Int32) (h : zMm) (Q : Option Value → zMm → Prop), zWp d zi_110 none 21 [l0, l1] [.int x1, .int x0] h Q = if x0 < x1 then zWp d zi_110 none 27 [l0, l1] [] h Q else zWp d zi_110 none 24 [l0, l1] [] h Q) ∧
    (∀ (d : Nat) (l0 : Value) (l1 : Value)  (h : zMm) (Q : Option Value → zMm → Prop), zWp d zi_110 none 24 [l0, l1] [] h Q = zWp d zi_110 none 26 [l0, l1] [.int (-3)] h Q) ∧
    (∀ (d : Nat) (l0 : Value) (l1 : Value) (x0 : Int32) (h : zMm) (Q : Option Value → zMm → Prop), zWp d zi_110 none 26 [l0, l1] [.int x0] h Q = Q (some (.int x0)) h) ∧
    (∀ (d : Nat) (l0 : Nat) (l1 : Value)  (h : zMm) (Q : Option Value → zMm → Prop), zWp d zi_110 none 27 [.ref l0, l1] [] h Q = zWp d zi_110 none 28 [.ref l0, l1] [.ref l0] h Q) ∧
    (∀ (d : Nat) (l0 : Value) (l1 : Value) (x0 : Nat) (I : Nat → Nat → Int32) (L : Nat → Nat → Int64) (P : Nat → Nat → Option Nat) (Q : Option Value → zMm → Prop), zSH[x0]? = some (.inl 9) → zWp d zi_110 none 28 [l0, l1] [.ref x0] (zSH, I, L, P) Q = zWp d zi_110 none 31 [l0, l1] [va_rf (P x0 9)] (zSH, I, L, P) Q) ∧
    (∀ (d : Nat) (l0 : Value) (l1 : Value) (x0 : Nat) (I : Nat → Nat → Int32) (L : Nat → Nat → Int64) (P : Nat → Nat → Option Nat) (Q : Option Value → zMm → Prop), zSH[x0]? = some (.inl 0) → zWp d zi_110 none 31 [l0, l1] [.ref x0] (zSH, I, L, P) Q = zWp d zi_110 none 34 [l0, l1] [va_rf (P x0 0)] (zSH, I, L, P) Q) ∧
    (∀ (d : Nat) (l0 : Nat) (l1 : Value) (x0 : Nat) (h : zMm) (Q : Option Value → zMm → Prop), zWp d zi_110 none 34 [.ref l0, l1] [.ref x0] h Q = zWp d zi_110 none 35 [.ref l0, l1] [.ref l0, .ref x0] h Q) ∧
    (∀ (d : Nat) (l0 : Value) (l1 : Value) (x1 : Nat) (x0 : Nat) (I : Nat → Nat → Int32) (L : Nat → Nat → Int64) (P : Nat → Nat → Option Nat) (Q : Option Value → zMm → Prop), zSH[x1]? = some (.inl 9) → zWp d zi_110 none 35 [l0, l1] [.ref x1, .ref x0] (zSH, I, L, P) Q = zWp d zi_110 none 38 [l0, l1] [va_rf (P x1 9), .ref x0] (zSH, I, L, P) Q) ∧
    (∀ (d : Nat) (l0 : Value) (l1 : Value) (x1 : Nat) (x0 : Nat) (I : Nat → Nat → Int32) (L : Nat → Nat → Int64) (P : Nat → Nat → Option Nat) (Q : Option Value → zMm → Prop), zSH[x1]? = some (.inl 0) → zWp d zi_110 none 38 [l0, l1] [.ref x1, .ref x0] (zSH, I, L, P) Q = zWp d zi_110 none 41 [l0, l1] [.int (I x1 2), .ref x0] (zSH, I, L, P) Q) ∧
    (∀ (d : Nat) (l0 : Value) (l1 : Int32) (x1 : Int32) (x0 : Nat) (h : zMm) (Q : Option Value → zMm → Prop), zWp d zi_110 none 41 [l0, .int l1] [.int x1, .ref x0] h Q = zWp d zi_110 none 42 [l0, .int l1] [.int l1, .int x1, .ref x0] h Q) ∧
    (∀ (d : Nat) (l0 : Value) (l1 : Value) (x2 : Int32) (x1 : Int32) (x0 : Nat) (I : Nat → Nat → Int32) (L : Nat → Nat → Int64) (P : Nat → Nat → Option Nat) (Q : Option Value → zMm → Prop), zAk zSH x0 = some .int → zWp d zi_110 none 42 [l0, l1] [.int x2, .int x1, .ref x0] (zSH, I, L, P) Q = (vp_in x1 (zAn zSH x0) ∧ zWp d zi_110 none 43 [l0, l1] [] (zSH, zw I x0 (upd (I x0) x1.toNatClampNeg x2), L, P) Q)) ∧
    (∀ (d : Nat) (l0 : Nat) (l1 : Value)  (h : zMm) (Q : Option Value → zMm → Prop), zWp d zi_110 none 43 [.ref l0, l1] [] h Q = zWp d zi_110 none 44 [.ref l0, l1] [.ref l0] h Q) ∧
    (∀ (d : Nat) (l0 : Value) (l1 : Value) (x0 : Nat) (I : Nat → Nat → Int32) (L : Nat → Nat → Int64) (P : Nat → Nat → Option Nat) (Q : Option Value → zMm → Prop), zSH[x0]? = some (.inl 9) → zWp d zi_110 none 44 [l0, l1] [.ref x0] (zSH, I, L, P) Q = zWp d zi_110 none 47 [l0, l1] [va_rf (P x0 9)] (zSH, I, L, P) Q) ∧
    (∀ (d : Nat) (l0 : Value) (l1 : Value) (x0 : Nat) (h : zMm) (Q : Option Value → zMm → Prop), zWp d zi_110 none 47 [l0, l1] [.ref x0] h Q = zWp d zi_110 none 48 [l0, l1] [.ref x0, .ref x0] h Q) ∧
    (∀ (d : Nat) (l0 : Value) (l1 : Value) (x1 : Nat) (x0 : Nat) (I : Nat → Nat → Int32) (L : Nat → Nat → Int64) (P : Nat → Nat → Option Nat) (Q : Option Value → zMm → Prop), zSH[x1]? = some (.inl 0) → zWp d zi_110 none 48 [l0, l1] [.ref x1, .ref x0] (zSH, I, L, P) Q = zWp d zi_110 none 51 [l0, l1] [.int (I x1 2), .ref x0] (zSH, I, L, P) Q) ∧
    (∀ (d : Nat) (l0 : Value) (l1 : Value) (x1 : Int32) (x0 : Nat) (h : zMm) (Q : Option Value → zMm → Prop), zWp d zi_110 none 51 [l0, l1] [.int x1, .ref x0] h Q = zWp d zi_110 none 52 [l0, l1] [.int 1, .int x1, .ref x0] h Q) ∧
    (∀ (d : Nat) (l0 : Value) (l1 : Value) (x2 : Int32) (x1 : Int32) (x0 : Nat) (h : zMm) (Q : Option Value → zMm → Prop), zWp d zi_110 none 52 [l0, l1] [.int x2, .int x1, .ref x0] h Q = zWp d zi_110 none 53 [l0, l1] [.int (x1 + x2), .ref x0] h Q) ∧
    (∀ (d : Nat) (l0 : Value) (l1 : Value) (x1 : Int32) (x0 : Nat) (I : Nat → Nat → Int32) (L : Nat → Nat → Int64) (P : Nat → Nat → Option Nat) (Q : Option Value → zMm → Prop), zSH[x0]? = some (.inl 0) → zWp d zi_110 none 53 [l0, l1] [.int x1, .ref x0] (zSH, I, L, P) Q = zWp d zi_110 none 56 [l0, l1] [] (zSH, zw I x0 (upd (I x0) 2 x1), L, P) Q) ∧
    (∀ (d : Nat) (l0 : Nat) (l1 : Value)  (h : zMm) (Q : Option Value → zMm → Prop), zWp d zi_110 none 56 [.ref l0, l1] [] h Q = zWp d zi_110 none 57 [.ref l0, l1] [.ref l0] h Q) ∧
    (∀ (d : Nat) (l0 : Value) (l1 : Value) (x0 : Nat) (I : Nat → Nat → Int32) (L : Nat → Nat → Int64) (P : Nat → Nat → Option Nat) (Q : Option Value → zMm → Prop), zSH[x0]? = some (.inl 9) → zWp d zi_110 none 57 [l0, l1] [.ref x0] (zSH, I, L, P) Q = zWp d zi_110 none 60 [l0, l1] [va_rf (P x0 9)] (zSH, I, L, P) Q) ∧
    (∀ (d : Nat) (l0 : Value) (l1 : Value) (x0 : Nat) (I : Nat → Nat → Int32) (L : Nat → Nat → Int64) (P : Nat → Nat → Option Nat) (Q : Option Value → zMm → Prop), zSH[x0]? = some (.inl 0) → zWp d zi_110 none 60 [l0, l1] [.ref x0] (zSH, I, L, P) Q = zWp d zi_110 none 63 [l0, l1] [.int (I x0 2)] (zSH, I, L, P) Q) ∧
    (∀ (d : Nat) (l0 : Value) (l1 : Value) (x0 : Int32) (h : zMm) (Q : Option Value → zMm → Prop), zWp d zi_110 none 63 [l0, l1] [.int x0] h Q = zWp d zi_110 none 64 [l0, l1] [.int 1, .int x0] h Q) ∧
    (∀ (d : Nat) (l0 : Value) (l1 : Value) (x1 : Int32) (x0 : Int32) (h : zMm) (Q : Option Value → zMm → Prop), zWp d zi_110 none 64 [l0, l1] [.int x1, .int x0] h Q = zWp d zi_110 none 65 [l0, l1] [.int (x0 - x1)] h Q) ∧
    (∀ (d : Nat) (l0 : Value) (l1 : Value) (x0 : Int32) (h : zMm) (Q : Option Value → zMm → Prop), zWp d zi_110 none 65 [l0, l1] [.int x0] h Q = Q (some (.int x0)) h) :=
  ⟨(fun d l0 l1  h Q => zr_iload_n rfl rfl),
   (fun d l0 l1 x0 h Q => zr_if_lt rfl (by decide)),
   (fun d l0 l1  h Q => zr_iload_n rfl rfl),
   (fun d l0 l1 x0 h Q => zr_bipush rfl (by decide)),
   (fun d l0 l1 x1 x0 h Q => zr_ic_lt rfl (by decide)),
   (fun d l0 l1  h Q => zr_iconst rfl (by decide)),
   (fun d l0 l1 x0 h Q => zr_iret rfl rfl),
   (fun d l0 l1  h Q => zr_aload_n rfl rfl),
   (fun d l0 l1 x0 I L P Q p0 => zr_getQ rfl lf_9_63 (fun _ _ _ => rfl) p0),
   (fun d l0 l1 x0 I L P Q p0 => zr_getI rfl lf_9_334 (fun _ _ _ => rfl) p0),
   (fun d l0 l1 x0 h Q => zr_bipush rfl (by decide)),
   (fun d l0 l1 x1 x0 h Q => zr_ic_lt rfl (by decide)),
   (fun d l0 l1  h Q => zr_bipush rfl (by decide)),
   (fun d l0 l1 x0 h Q => zr_iret rfl rfl),
   (fun d l0 l1  h Q => zr_aload_n rfl rfl),
   (fun d l0 l1 x0 I L P Q p0 => zr_getQ rfl lf_9_63 (fun _ _ _ => rfl) p0),
   (fun d l0 l1 x0 I L P Q p0 => zr_getQ rfl lf_9_335 (fun _ _ _ => rfl) p0),
   (fun d l0 l1 x0 h Q => zr_aload_n rfl rfl),
   (fun d l0 l1 x1 x0 I L P Q p0 => zr_getQ rfl lf_9_63 (fun _ _ _ => rfl) p0),
   (fun d l0 l1 x1 x0 I L P Q p0 => zr_getI rfl lf_9_334 (fun _ _ _ => rfl) p0),
   (fun d l0 l1 x1 x0 h Q => zr_iload_n rfl rfl),
   (fun d l0 l1 x2 x1 x0 I L P Q p0 => zr_ast rfl p0),
   (fun d l0 l1  h Q => zr_aload_n rfl rfl),
   (fun d l0 l1 x0 I L P Q p0 => zr_getQ rfl lf_9_63 (fun _ _ _ => rfl) p0),
   (fun d l0 l1 x0 h Q => zr_dup rfl rfl),
   (fun d l0 l1 x1 x0 I L P Q p0 => zr_getI rfl lf_9_334 (fun _ _ _ => rfl) p0),
   (fun d l0 l1 x1 x0 h Q => zr_iconst rfl (by decide)),
   (fun d l0 l1 x2 x1 x0 h Q => zr_iadd rfl),
   (fun d l0 l1 x1 x0 I L P Q p0 => zr_putI rfl lf_9_334 (by decide) rfl p0),
   (fun d l0 l1  h Q => zr_aload_n rfl rfl),
   (fun d l0 l1 x0 I L P Q p0 => zr_getQ rfl lf_9_63 (fun _ _ _ => rfl) p0),
   (fun d l0 l1 x0 I L P Q p0 => zr_getI rfl lf_9_334 (fun _ _ _ => rfl) p0),
   (fun d l0 l1 x0 h Q => zr_iconst rfl (by decide)),
   (fun d l0 l1 x1 x0 h Q => zr_isub rfl),
   (fun d l0 l1 x0 h Q => zr_iret rfl rfl)⟩
theorem E_X9_act : ∀ (d : Nat) (a0 : Nat) (a1 : Int32) (a2 : Int32) (a3 : Int32) (h : zMm) (Q : Option Value → zMm → Prop), zWM (d + 1) 111 [.ref a0, .int a1, .int a2, .int a3] h Q = zWp d zi_111 none 0 [.ref a0, .int a1, .int a2, .int a3] [] h Q := fun d a0 a1 a2 a3 h Q => zW_M m_111 (Nat.le_of_ble_eq_true rfl) rfl
set_option maxRecDepth 100000 in
theorem R_X9_act :
    (∀ (d : Nat) (l0 : Nat) (l1 : Value) (l2 : Value) (l3 : Value)  (h : zMm) (Q : Option Value → zMm → Prop), zWp d zi_111 none 0 [.ref l0, l1, l2, l3] [] h Q = zWp d zi_111 none 1 [.ref l0, l1, l2, l3] [.ref l0] h Q) ∧
    (∀ (d : Nat) (l0 : Value) (l1 : Value) (l2 : Value) (l3 : Value) (x0 : Nat) (I : Nat → Nat → Int32) (L : Nat → Nat → Int64) (P : Nat → Nat → Option Nat) (Q : Option Value → zMm → Prop), zSH[x0]? = some (.inl 9) → zWp d zi_111 none 1 [l0, l1, l2, l3] [.ref x0] (zSH, I, L, P) Q = zWp d zi_111 none 4 [l0, l1, l2, l3] [va_rf (P x0 9)] (zSH, I, L, P) Q) ∧
    (∀ (d : Nat) (l0 : Value) (l1 : Value) (l2 : Value) (l3 : Value) (x0 : Nat) (h : zMm) (Q : Option Value → zMm → Prop), zWp d zi_111 none 4 [l0, l1, l2, l3] [.ref x0] h Q = zWp d zi_111 none 5 [l0, l1, l2, l3] [.int 0, .ref x0] h Q) ∧
    (∀ (d : Nat) (l0 : Value) (l1 : Value) (l2 : Value) (l3 : Value) (x1 : Int32) (x0 : Nat) (I : Nat → Nat → Int32) (L : Nat → Nat → Int64) (P : Nat → Nat → Option Nat) (Q : Option Value → zMm → Prop), zSH[x0]? = some (.inl 0) → zWp d zi_111 none 5 [l0, l1, l2, l3] [.int x1, .ref x0] (zSH, I, L, P) Q = zWp d zi_111 none 8 [l0, l1, l2, l3] [] (zSH, zw I x0 (upd (I x0) 3 x1), L, P) Q) ∧
    (∀ (d : Nat) (l0 : Nat) (l1 : Value) (l2 : Value) (l3 : Value)  (h : zMm) (Q : Option Value → zMm → Prop), zWp d zi_111 none 8 [.ref l0, l1, l2, l3] [] h Q = zWp d zi_111 none 9 [.ref l0, l1, l2, l3] [.ref l0] h Q) ∧
    (∀ (d : Nat) (l0 : Value) (l1 : Value) (l2 : Value) (l3 : Value) (x0 : Nat) (I : Nat → Nat → Int32) (L : Nat → Nat → Int64) (P : Nat → Nat → Option Nat) (Q : Option Value → zMm → Prop), zSH[x0]? = some (.inl 9) → zWp d zi_111 none 9 [l0, l1, l2, l3] [.ref x0] (zSH, I, L, P) Q = zWp d zi_111 none 12 [l0, l1, l2, l3] [va_rf (P x0 9)] (zSH, I, L, P) Q) ∧
    (∀ (d : Nat) (l0 : Value) (l1 : Int32) (l2 : Value) (l3 : Value) (x0 : Nat) (h : zMm) (Q : Option Value → zMm → Prop), zWp d zi_111 none 12 [l0, .int l1, l2, l3] [.ref x0] h Q = zWp d zi_111 none 13 [l0, .int l1, l2, l3] [.int l1, .ref x0] h Q) ∧
    (∀ (d : Nat) (l0 : Value) (l1 : Value) (l2 : Value) (l3 : Value) (x1 : Int32) (x0 : Nat) (I : Nat → Nat → Int32) (L : Nat → Nat → Int64) (P : Nat → Nat → Option Nat) (Q : Option Value → zMm → Prop), zSH[x0]? = some (.inl 0) → zWp d zi_111 none 13 [l0, l1, l2, l3] [.int x1, .ref x0] (zSH, I, L, P) Q = zWM d 1 [.ref x0, .int x1] (zSH, I, L, P) (fun r h1 => zWp d zi_111 none 16 [l0, l1, l2, l3] (r.toList ++ []) h1 Q)) ∧
    (∀ (d : Nat) (l0 : Value) (l1 : Value) (l2 : Value) (l3 : Value) (x0 : Int32) (h : zMm) (Q : Option Value → zMm → Prop), zWp d zi_111 none 16 [l0, l1, l2, l3] [.int x0] h Q = if x0 = 0 then zWp d zi_111 none 28 [l0, l1, l2, l3] [] h Q else zWp d zi_111 none 19 [l0, l1, l2, l3] [] h Q) ∧
    (∀ (d : Nat) (l0 : Value) (l1 : Value) (l2 : Int32) (l3 : Value)  (h : zMm) (Q : Option Value → zMm → Prop), zWp d zi_111 none 19 [l0, l1, .int l2, l3] [] h Q = zWp d zi_111 none 20 [l0, l1, .int l2, l3] [.int l2] h Q) ∧
    (∀ (d : Nat) (l0 : Value) (l1 : Value) (l2 : Value) (l3 : Value) (x0 : Int32) (h : zMm) (Q : Option Value → zMm → Prop), zWp d zi_111 none 20 [l0, l1, l2, l3] [.int x0] h Q = if x0 < 0 then zWp d zi_111 none 28 [l0, l1, l2, l3] [] h Q else zWp d zi_111 none 23 [l0, l1, l2, l3] [] h Q) ∧
    (∀ (d : Nat) (l0 : Value) (l1 : Value) (l2 : Int32) (l3 : Value)  (h : zMm) (Q : Option Value → zMm → Prop), zWp d zi_111 none 23 [l0, l1, .int l2, l3] [] h Q = zWp d zi_111 none 24 [l0, l1, .int l2, l3] [.int l2] h Q) ∧
    (∀ (d : Nat) (l0 : Value) (l1 : Value) (l2 : Value) (l3 : Value) (x0 : Int32) (h : zMm) (Q : Option Value → zMm → Prop), zWp d zi_111 none 24 [l0, l1, l2, l3] [.int x0] h Q = zWp d zi_111 none 25 [l0, l1, l2, l3] [.int 4, .int x0] h Q) ∧
    (∀ (d : Nat) (l0 : Value) (l1 : Value) (l2 : Value) (l3 : Value) (x1 : Int32) (x0 : Int32) (h : zMm) (Q : Option Value → zMm → Prop), zWp d zi_111 none 25 [l0, l1, l2, l3] [.int x1, .int x0] h Q = if x0 < x1 then zWp d zi_111 none 30 [l0, l1, l2, l3] [] h Q else zWp d zi_111 none 28 [l0, l1, l2, l3] [] h Q) ∧
    (∀ (d : Nat) (l0 : Value) (l1 : Value) (l2 : Value) (l3 : Value)  (h : zMm) (Q : Option Value → zMm → Prop), zWp d zi_111 none 28 [l0, l1, l2, l3] [] h Q = zWp d zi_111 none 29 [l0, l1, l2, l3] [.int 0] h Q) ∧
    (∀ (d : Nat) (l0 : Value) (l1 : Value) (l2 : Value) (l3 : Value) (x0 : Int32) (h : zMm) (Q : Option Value → zMm → Prop), zWp d zi_111 none 29 [l0, l1, l2, l3] [.int x0] h Q = Q (some (.int x0)) h) ∧
    (∀ (d : Nat) (l0 : Nat) (l1 : Value) (l2 : Value) (l3 : Value)  (h : zMm) (Q : Option Value → zMm → Prop), zWp d zi_111 none 30 [.ref l0, l1, l2, l3] [] h Q = zWp d zi_111 none 31 [.ref l0, l1, l2, l3] [.ref l0] h Q) ∧
    (∀ (d : Nat) (l0 : Value) (l1 : Value) (l2 : Value) (l3 : Value) (x0 : Nat) (I : Nat → Nat → Int32) (L : Nat → Nat → Int64) (P : Nat → Nat → Option Nat) (Q : Option Value → zMm → Prop), zSH[x0]? = some (.inl 9) → zWp d zi_111 none 31 [l0, l1, l2, l3] [.ref x0] (zSH, I, L, P) Q = zWp d zi_111 none 34 [l0, l1, l2, l3] [va_rf (P x0 9)] (zSH, I, L, P) Q) ∧
    (∀ (d : Nat) (l0 : Value) (l1 : Int32) (l2 : Value) (l3 : Value) (x0 : Nat) (h : zMm) (Q : Option Value → zMm → Prop), zWp d zi_111 none 34 [l0, .int l1, l2, l3] [.ref x0] h Q = zWp d zi_111 none 35 [l0, .int l1, l2, l3] [.int l1, .ref x0] h Q) ∧
    (∀ (d : Nat) (l0 : Value) (l1 : Value) (l2 : Int32) (l3 : Value) (x1 : Int32) (x0 : Nat) (h : zMm) (Q : Option Value → zMm → Prop), zWp d zi_111 none 35 [l0, l1, .int l2, l3] [.int x1, .ref x0] h Q = zWp d zi_111 none 36 [l0, l1, .int l2, l3] [.int l2, .int x1, .ref x0] h Q) ∧
    (∀ (d : Nat) (l0 : Value) (l1 : Value) (l2 : Value) (l3 : Int32) (x2 : Int32) (x1 : Int32) (x0 : Nat) (h : zMm) (Q : Option Value → zMm → Prop), zWp d zi_111 none 36 [l0, l1, l2, .int l3] [.int x2, .int x1, .ref x0] h Q = zWp d zi_111 none 37 [l0, l1, l2, .int l3] [.int l3, .int x2, .int x1, .ref x0] h Q) ∧
    (∀ (d : Nat) (l0 : Value) (l1 : Value) (l2 : Value) (l3 : Value) (x3 : Int32) (x2 : Int32) (x1 : Int32) (x0 : Nat) (I : Nat → Nat → Int32) (L : Nat → Nat → Int64) (P : Nat → Nat → Option Nat) (Q : Option Value → zMm → Prop), zSH[x0]? = some (.inl 0) → zWp d zi_111 none 37 [l0, l1, l2, l3] [.int x3, .int x2, .int x1, .ref x0] (zSH, I, L, P) Q = zWM d 3 [.ref x0, .int x1, .int x2, .int x3] (zSH, I, L, P) (fun r h1 => zWp d zi_111 none 40 [l0, l1, l2, l3] (r.toList ++ []) h1 Q)) ∧
    (∀ (d : Nat) (l0 : Value) (l1 : Value) (l2 : Value) (l3 : Value) (x0 : Int32) (h : zMm) (Q : Option Value → zMm → Prop), zWp d zi_111 none 40 [l0, l1, l2, l3] [.int x0] h Q = Q (some (.int x0)) h) :=
  ⟨(fun d l0 l1 l2 l3  h Q => zr_aload_n rfl rfl),
   (fun d l0 l1 l2 l3 x0 I L P Q p0 => zr_getQ rfl lf_9_63 (fun _ _ _ => rfl) p0),
   (fun d l0 l1 l2 l3 x0 h Q => zr_iconst rfl (by decide)),
   (fun d l0 l1 l2 l3 x1 x0 I L P Q p0 => zr_putI rfl lf_9_338 (by decide) rfl p0),
   (fun d l0 l1 l2 l3  h Q => zr_aload_n rfl rfl),
   (fun d l0 l1 l2 l3 x0 I L P Q p0 => zr_getQ rfl lf_9_63 (fun _ _ _ => rfl) p0),
   (fun d l0 l1 l2 l3 x0 h Q => zr_iload_n rfl rfl),
   (fun d l0 l1 l2 l3 x1 x0 I L P Q p0 => zr_vir (as := [.int x1]) (rest := []) rfl lm_9_341 m_1 kd_1 rfl (Nat.le_of_ble_eq_true rfl) p0),
   (fun d l0 l1 l2 l3 x0 h Q => zr_if_eq rfl (by decide)),
   (fun d l0 l1 l2 l3  h Q => zr_iload_n rfl rfl),
   (fun d l0 l1 l2 l3 x0 h Q => zr_if_lt rfl (by decide)),
   (fun d l0 l1 l2 l3  h Q => zr_iload_n rfl rfl),
   (fun d l0 l1 l2 l3 x0 h Q => zr_iconst rfl (by decide)),
   (fun d l0 l1 l2 l3 x1 x0 h Q => zr_ic_lt rfl (by decide)),
   (fun d l0 l1 l2 l3  h Q => zr_iconst rfl (by decide)),
   (fun d l0 l1 l2 l3 x0 h Q => zr_iret rfl rfl),
   (fun d l0 l1 l2 l3  h Q => zr_aload_n rfl rfl),
   (fun d l0 l1 l2 l3 x0 I L P Q p0 => zr_getQ rfl lf_9_63 (fun _ _ _ => rfl) p0),
   (fun d l0 l1 l2 l3 x0 h Q => zr_iload_n rfl rfl),
   (fun d l0 l1 l2 l3 x1 x0 h Q => zr_iload_n rfl rfl),
   (fun d l0 l1 l2 l3 x2 x1 x0 h Q => zr_iload_n rfl rfl),
   (fun d l0 l1 l2 l3 x3 x2 x1 x0 I L P Q p0 => zr_vir (as := [.int x3, .int x2, .int x1]) (rest := []) rfl lm_9_342 m_3 kd_3 rfl (Nat.le_of_ble_eq_true rfl) p0),
   (fun d l0 l1 l2 l3 x0 h Q => zr_iret rfl rfl)⟩
theorem E_X9_trace : ∀ (d : Nat) (a0 : Nat) (a1 : Int32) (h : zMm) (Q : Option Value → zMm → Prop), zWM (d + 1) 112 [.ref a0, .int a1] h Q = zWp d zi_112 none 0 [.ref a0, .int a1] [] h Q := fun d a0 a1 h Q => zW_M m_112 (Nat.le_of_ble_eq_true rfl) rfl
set_option maxRecDepth 100000 in
theorem R_X9_trace :
    (∀ (d : Nat) (l0 : Value) (l1 : Int32)  (h : zMm) (Q : Option Value → zMm → Prop), zWp d zi_112 none 0 [l0, .int l1] [] h Q = zWp d zi_112 none 1 [l0, .int l1] [.int l1] h Q) ∧
    (∀ (d : Nat) (l0 : Value) (l1 : Value) (x0 : Int32) (h : zMm) (Q : Option Value → zMm → Prop), zWp d zi_112 none 1 [l0, l1] [.int x0] h Q = if x0 < 0 then zWp d zi_112 none 21 [l0, l1] [] h Q else zWp d zi_112 none 4 [l0, l1] [] h Q) ∧
    (∀ (d : Nat) (l0 : Value) (l1 : Int32)  (h : zMm) (Q : Option Value → zMm → Prop), zWp d zi_112 none 4 [l0, .int l1] [] h Q = zWp d zi_112 none 5 [l0, .int l1] [.int l1] h Q) ∧
    (∀ (d : Nat) (l0 : Nat) (l1 : Value) (x0 : Int32) (h : zMm) (Q : Option Value → zMm → Prop), zWp d zi_112 none 5 [.ref l0, l1] [.int x0] h Q = zWp d zi_112 none 6 [.ref l0, l1] [.ref l0, .int x0] h Q) ∧
    (∀ (d : Nat) (l0 : Value) (l1 : Value) (x1 : Nat) (x0 : Int32) (I : Nat → Nat → Int32) (L : Nat → Nat → Int64) (P : Nat → Nat → Option Nat) (Q : Option Value → zMm → Prop), zSH[x1]? = some (.inl 9) → zWp d zi_112 none 6 [l0, l1] [.ref x1, .int x0] (zSH, I, L, P) Q = zWp d zi_112 none 9 [l0, l1] [va_rf (P x1 9), .int x0] (zSH, I, L, P) Q) ∧
    (∀ (d : Nat) (l0 : Value) (l1 : Value) (x1 : Nat) (x0 : Int32) (I : Nat → Nat → Int32) (L : Nat → Nat → Int64) (P : Nat → Nat → Option Nat) (Q : Option Value → zMm → Prop), zSH[x1]? = some (.inl 0) → zWp d zi_112 none 9 [l0, l1] [.ref x1, .int x0] (zSH, I, L, P) Q = zWp d zi_112 none 12 [l0, l1] [.int (I x1 3), .int x0] (zSH, I, L, P) Q) ∧
    (∀ (d : Nat) (l0 : Value) (l1 : Value) (x1 : Int32) (x0 : Int32) (h : zMm) (Q : Option Value → zMm → Prop), zWp d zi_112 none 12 [l0, l1] [.int x1, .int x0] h Q = if x1 ≤ x0 then zWp d zi_112 none 21 [l0, l1] [] h Q else zWp d zi_112 none 15 [l0, l1] [] h Q) ∧
    (∀ (d : Nat) (l0 : Value) (l1 : Int32)  (h : zMm) (Q : Option Value → zMm → Prop), zWp d zi_112 none 15 [l0, .int l1] [] h Q = zWp d zi_112 none 16 [l0, .int l1] [.int l1] h Q) ∧
    (∀ (d : Nat) (l0 : Value) (l1 : Value) (x0 : Int32) (h : zMm) (Q : Option Value → zMm → Prop), zWp d zi_112 none 16 [l0, l1] [.int x0] h Q = zWp d zi_112 none 18 [l0, l1] [.int 24, .int x0] h Q) ∧
    (∀ (d : Nat) (l0 : Value) (l1 : Value) (x1 : Int32) (x0 : Int32) (h : zMm) (Q : Option Value → zMm → Prop), zWp d zi_112 none 18 [l0, l1] [.int x1, .int x0] h Q = if x0 < x1 then zWp d zi_112 none 23 [l0, l1] [] h Q else zWp d zi_112 none 21 [l0, l1] [] h Q) ∧
    (∀ (d : Nat) (l0 : Value) (l1 : Value)  (h : zMm) (Q : Option Value → zMm → Prop), zWp d zi_112 none 21 [l0, l1] [] h Q = zWp d zi_112 none 22 [l0, l1] [.int (-1)] h Q) ∧
    (∀ (d : Nat) (l0 : Value) (l1 : Value) (x0 : Int32) (h : zMm) (Q : Option Value → zMm → Prop), zWp d zi_112 none 22 [l0, l1] [.int x0] h Q = Q (some (.int x0)) h) ∧
    (∀ (d : Nat) (l0 : Nat) (l1 : Value)  (h : zMm) (Q : Option Value → zMm → Prop), zWp d zi_112 none 23 [.ref l0, l1] [] h Q = zWp d zi_112 none 24 [.ref l0, l1] [.ref l0] h Q) ∧
    (∀ (d : Nat) (l0 : Value) (l1 : Value) (x0 : Nat) (I : Nat → Nat → Int32) (L : Nat → Nat → Int64) (P : Nat → Nat → Option Nat) (Q : Option Value → zMm → Prop), zSH[x0]? = some (.inl 9) → zWp d zi_112 none 24 [l0, l1] [.ref x0] (zSH, I, L, P) Q = zWp d zi_112 none 27 [l0, l1] [va_rf (P x0 9)] (zSH, I, L, P) Q) ∧
    (∀ (d : Nat) (l0 : Value) (l1 : Value) (x0 : Nat) (I : Nat → Nat → Int32) (L : Nat → Nat → Int64) (P : Nat → Nat → Option Nat) (Q : Option Value → zMm → Prop), zSH[x0]? = some (.inl 0) → zWp d zi_112 none 27 [l0, l1] [.ref x0] (zSH, I, L, P) Q = zWp d zi_112 none 30 [l0, l1] [va_rf (P x0 1)] (zSH, I, L, P) Q) ∧
    (∀ (d : Nat) (l0 : Value) (l1 : Int32) (x0 : Nat) (h : zMm) (Q : Option Value → zMm → Prop), zWp d zi_112 none 30 [l0, .int l1] [.ref x0] h Q = zWp d zi_112 none 31 [l0, .int l1] [.int l1, .ref x0] h Q) ∧
    (∀ (d : Nat) (l0 : Value) (l1 : Value) (x1 : Int32) (x0 : Nat) (I : Nat → Nat → Int32) (L : Nat → Nat → Int64) (P : Nat → Nat → Option Nat) (Q : Option Value → zMm → Prop), zAk zSH x0 = some .int → zWp d zi_112 none 31 [l0, l1] [.int x1, .ref x0] (zSH, I, L, P) Q = (vp_in x1 (zAn zSH x0) ∧ zWp d zi_112 none 32 [l0, l1] [.int (I x0 x1.toNatClampNeg)] (zSH, I, L, P) Q)) ∧
    (∀ (d : Nat) (l0 : Value) (l1 : Value) (x0 : Int32) (h : zMm) (Q : Option Value → zMm → Prop), zWp d zi_112 none 32 [l0, l1] [.int x0] h Q = Q (some (.int x0)) h) :=
  ⟨(fun d l0 l1  h Q => zr_iload_n rfl rfl),
   (fun d l0 l1 x0 h Q => zr_if_lt rfl (by decide)),
   (fun d l0 l1  h Q => zr_iload_n rfl rfl),
   (fun d l0 l1 x0 h Q => zr_aload_n rfl rfl),
   (fun d l0 l1 x1 x0 I L P Q p0 => zr_getQ rfl lf_9_63 (fun _ _ _ => rfl) p0),
   (fun d l0 l1 x1 x0 I L P Q p0 => zr_getI rfl lf_9_338 (fun _ _ _ => rfl) p0),
   (fun d l0 l1 x1 x0 h Q => zr_ic_ge rfl (by decide)),
   (fun d l0 l1  h Q => zr_iload_n rfl rfl),
   (fun d l0 l1 x0 h Q => zr_bipush rfl (by decide)),
   (fun d l0 l1 x1 x0 h Q => zr_ic_lt rfl (by decide)),
   (fun d l0 l1  h Q => zr_iconst rfl (by decide)),
   (fun d l0 l1 x0 h Q => zr_iret rfl rfl),
   (fun d l0 l1  h Q => zr_aload_n rfl rfl),
   (fun d l0 l1 x0 I L P Q p0 => zr_getQ rfl lf_9_63 (fun _ _ _ => rfl) p0),
   (fun d l0 l1 x0 I L P Q p0 => zr_getQ rfl lf_9_345 (fun _ _ _ => rfl) p0),
   (fun d l0 l1 x0 h Q => zr_iload_n rfl rfl),
   (fun d l0 l1 x1 x0 I L P Q p0 => zr_ald rfl p0),
   (fun d l0 l1 x0 h Q => zr_iret rfl rfl)⟩
theorem E_X9_keep : ∀ (d : Nat) (a0 : Nat) (a1 : Int32) (a2 : Int32) (h : zMm) (Q : Option Value → zMm → Prop), zWM (d + 1) 113 [.ref a0, .int a1, .int a2] h Q = zWp d zi_113 none 0 [.ref a0, .int a1, .int a2] [] h Q := fun d a0 a1 a2 h Q => zW_M m_113 (Nat.le_of_ble_eq_true rfl) rfl
set_option maxRecDepth 100000 in
theorem R_X9_keep :
    (∀ (d : Nat) (l0 : Value) (l1 : Int32) (l2 : Value)  (h : zMm) (Q : Option Value → zMm → Prop), zWp d zi_113 none 0 [l0, .int l1, l2] [] h Q = zWp d zi_113 none 1 [l0, .int l1, l2] [.int l1] h Q) ∧
    (∀ (d : Nat) (l0 : Value) (l1 : Value) (l2 : Value) (x0 : Int32) (h : zMm) (Q : Option Value → zMm → Prop), zWp d zi_113 none 1 [l0, l1, l2] [.int x0] h Q = zWM d 120 [.int x0] h (fun r h1 => zWp d zi_113 none 4 [l0, l1, l2] (r.toList ++ []) h1 Q)) ∧
    (∀ (d : Nat) (l0 : Value) (l1 : Value) (l2 : Value) (x0 : Int32) (h : zMm) (Q : Option Value → zMm → Prop), zWp d zi_113 none 4 [l0, l1, l2] [.int x0] h Q = if x0 = 0 then zWp d zi_113 none 23 [l0, l1, l2] [] h Q else zWp d zi_113 none 7 [l0, l1, l2] [] h Q) ∧
    (∀ (d : Nat) (l0 : Value) (l1 : Value) (l2 : Int32)  (h : zMm) (Q : Option Value → zMm → Prop), zWp d zi_113 none 7 [l0, l1, .int l2] [] h Q = zWp d zi_113 none 8 [l0, l1, .int l2] [.int l2] h Q) ∧
    (∀ (d : Nat) (l0 : Value) (l1 : Value) (l2 : Value) (x0 : Int32) (h : zMm) (Q : Option Value → zMm → Prop), zWp d zi_113 none 8 [l0, l1, l2] [.int x0] h Q = zWp d zi_113 none 9 [l0, l1, l2] [.int (-1), .int x0] h Q) ∧
    (∀ (d : Nat) (l0 : Value) (l1 : Value) (l2 : Value) (x1 : Int32) (x0 : Int32) (h : zMm) (Q : Option Value → zMm → Prop), zWp d zi_113 none 9 [l0, l1, l2] [.int x1, .int x0] h Q = if x0 = x1 then zWp d zi_113 none 25 [l0, l1, l2] [] h Q else zWp d zi_113 none 12 [l0, l1, l2] [] h Q) ∧
    (∀ (d : Nat) (l0 : Nat) (l1 : Value) (l2 : Value)  (h : zMm) (Q : Option Value → zMm → Prop), zWp d zi_113 none 12 [.ref l0, l1, l2] [] h Q = zWp d zi_113 none 13 [.ref l0, l1, l2] [.ref l0] h Q) ∧
    (∀ (d : Nat) (l0 : Value) (l1 : Value) (l2 : Value) (x0 : Nat) (I : Nat → Nat → Int32) (L : Nat → Nat → Int64) (P : Nat → Nat → Option Nat) (Q : Option Value → zMm → Prop), zSH[x0]? = some (.inl 9) → zWp d zi_113 none 13 [l0, l1, l2] [.ref x0] (zSH, I, L, P) Q = zWp d zi_113 none 16 [l0, l1, l2] [va_rf (P x0 9)] (zSH, I, L, P) Q) ∧
    (∀ (d : Nat) (l0 : Value) (l1 : Value) (l2 : Int32) (x0 : Nat) (h : zMm) (Q : Option Value → zMm → Prop), zWp d zi_113 none 16 [l0, l1, .int l2] [.ref x0] h Q = zWp d zi_113 none 17 [l0, l1, .int l2] [.int l2, .ref x0] h Q) ∧
    (∀ (d : Nat) (l0 : Value) (l1 : Value) (l2 : Value) (x1 : Int32) (x0 : Nat) (I : Nat → Nat → Int32) (L : Nat → Nat → Int64) (P : Nat → Nat → Option Nat) (Q : Option Value → zMm → Prop), zSH[x0]? = some (.inl 0) → zWp d zi_113 none 17 [l0, l1, l2] [.int x1, .ref x0] (zSH, I, L, P) Q = zWM d 1 [.ref x0, .int x1] (zSH, I, L, P) (fun r h1 => zWp d zi_113 none 20 [l0, l1, l2] (r.toList ++ []) h1 Q)) ∧
    (∀ (d : Nat) (l0 : Value) (l1 : Value) (l2 : Value) (x0 : Int32) (h : zMm) (Q : Option Value → zMm → Prop), zWp d zi_113 none 20 [l0, l1, l2] [.int x0] h Q = if x0 = 0 then zWp d zi_113 none 23 [l0, l1, l2] [] h Q else zWp d zi_113 none 25 [l0, l1, l2] [] h Q) ∧
    (∀ (d : Nat) (l0 : Value) (l1 : Value) (l2 : Value)  (h : zMm) (Q : Option Value → zMm → Prop), zWp d zi_113 none 23 [l0, l1, l2] [] h Q = zWp d zi_113 none 24 [l0, l1, l2] [.int (-1)] h Q) ∧
    (∀ (d : Nat) (l0 : Value) (l1 : Value) (l2 : Value) (x0 : Int32) (h : zMm) (Q : Option Value → zMm → Prop), zWp d zi_113 none 24 [l0, l1, l2] [.int x0] h Q = Q (some (.int x0)) h) ∧
    (∀ (d : Nat) (l0 : Nat) (l1 : Value) (l2 : Value)  (h : zMm) (Q : Option Value → zMm → Prop), zWp d zi_113 none 25 [.ref l0, l1, l2] [] h Q = zWp d zi_113 none 26 [.ref l0, l1, l2] [.ref l0] h Q) ∧
    (∀ (d : Nat) (l0 : Value) (l1 : Value) (l2 : Value) (x0 : Nat) (I : Nat → Nat → Int32) (L : Nat → Nat → Int64) (P : Nat → Nat → Option Nat) (Q : Option Value → zMm → Prop), zSH[x0]? = some (.inl 9) → zWp d zi_113 none 26 [l0, l1, l2] [.ref x0] (zSH, I, L, P) Q = zWp d zi_113 none 29 [l0, l1, l2] [va_rf (P x0 10)] (zSH, I, L, P) Q) ∧
    (∀ (d : Nat) (l0 : Value) (l1 : Int32) (l2 : Value) (x0 : Nat) (h : zMm) (Q : Option Value → zMm → Prop), zWp d zi_113 none 29 [l0, .int l1, l2] [.ref x0] h Q = zWp d zi_113 none 30 [l0, .int l1, l2] [.int l1, .ref x0] h Q) ∧
    (∀ (d : Nat) (l0 : Value) (l1 : Value) (l2 : Value) (x1 : Int32) (x0 : Nat) (I : Nat → Nat → Int32) (L : Nat → Nat → Int64) (P : Nat → Nat → Option Nat) (Q : Option Value → zMm → Prop), zAk zSH x0 = some (.object "PalletSky$Shelf") → zWp d zi_113 none 30 [l0, l1, l2] [.int x1, .ref x0] (zSH, I, L, P) Q = (vp_in x1 (zAn zSH x0) ∧ zWp d zi_113 none 31 [l0, l1, l2] [va_rf (P x0 x1.toNatClampNeg)] (zSH, I, L, P) Q)) ∧
    (∀ (d : Nat) (l0 : Value) (l1 : Value) (l2 : Int32) (x0 : Nat) (h : zMm) (Q : Option Value → zMm → Prop), zWp d zi_113 none 31 [l0, l1, .int l2] [.ref x0] h Q = zWp d zi_113 none 32 [l0, l1, .int l2] [.int l2, .ref x0] h Q) ∧
    (∀ (d : Nat) (l0 : Value) (l1 : Value) (l2 : Value) (x1 : Int32) (x0 : Nat) (h : zMm) (Q : Option Value → zMm → Prop), zWp d zi_113 none 32 [l0, l1, l2] [.int x1, .ref x0] h Q = zWp d zi_113 none 33 [l0, l1, l2] [.int (-1), .int x1, .ref x0] h Q) ∧
    (∀ (d : Nat) (l0 : Value) (l1 : Value) (l2 : Value) (x2 : Int32) (x1 : Int32) (x0 : Nat) (h : zMm) (Q : Option Value → zMm → Prop), zWp d zi_113 none 33 [l0, l1, l2] [.int x2, .int x1, .ref x0] h Q = if x1 = x2 then zWp d zi_113 none 36 [l0, l1, l2] [.ref x0] h Q else zWp d zi_113 none 41 [l0, l1, l2] [.ref x0] h Q) ∧
    (∀ (d : Nat) (l0 : Value) (l1 : Value) (l2 : Value) (x0 : Nat) (h : zMm) (Q : Option Value → zMm → Prop), zWp d zi_113 none 36 [l0, l1, l2] [.ref x0] h Q = zWp d zi_113 none 38 [l0, l1, l2] [.int (-2), .ref x0] h Q) ∧
    (∀ (d : Nat) (l0 : Value) (l1 : Value) (l2 : Value) (x1 : Int32) (x0 : Nat) (h : zMm) (Q : Option Value → zMm → Prop), zWp d zi_113 none 38 [l0, l1, l2] [.int x1, .ref x0] h Q = zWp d zi_113 none 42 [l0, l1, l2] [.int x1, .ref x0] h Q) ∧
    (∀ (d : Nat) (l0 : Value) (l1 : Value) (l2 : Value) (x0 : Nat) (h : zMm) (Q : Option Value → zMm → Prop), zWp d zi_113 none 41 [l0, l1, l2] [.ref x0] h Q = zWp d zi_113 none 42 [l0, l1, l2] [.int (-1), .ref x0] h Q) ∧
    (∀ (d : Nat) (l0 : Value) (l1 : Value) (l2 : Value) (x1 : Int32) (x0 : Nat) (I : Nat → Nat → Int32) (L : Nat → Nat → Int64) (P : Nat → Nat → Option Nat) (Q : Option Value → zMm → Prop), zSH[x0]? = some (.inl 6) → zWp d zi_113 none 42 [l0, l1, l2] [.int x1, .ref x0] (zSH, I, L, P) Q = zWp d zi_113 none 45 [l0, l1, l2] [] (zSH, zw I x0 (upd (I x0) 1 x1), L, P) Q) ∧
    (∀ (d : Nat) (l0 : Nat) (l1 : Value) (l2 : Value)  (h : zMm) (Q : Option Value → zMm → Prop), zWp d zi_113 none 45 [.ref l0, l1, l2] [] h Q = zWp d zi_113 none 46 [.ref l0, l1, l2] [.ref l0] h Q) ∧
    (∀ (d : Nat) (l0 : Value) (l1 : Value) (l2 : Value) (x0 : Nat) (I : Nat → Nat → Int32) (L : Nat → Nat → Int64) (P : Nat → Nat → Option Nat) (Q : Option Value → zMm → Prop), zSH[x0]? = some (.inl 9) → zWp d zi_113 none 46 [l0, l1, l2] [.ref x0] (zSH, I, L, P) Q = zWp d zi_113 none 49 [l0, l1, l2] [va_rf (P x0 10)] (zSH, I, L, P) Q) ∧
    (∀ (d : Nat) (l0 : Value) (l1 : Int32) (l2 : Value) (x0 : Nat) (h : zMm) (Q : Option Value → zMm → Prop), zWp d zi_113 none 49 [l0, .int l1, l2] [.ref x0] h Q = zWp d zi_113 none 50 [l0, .int l1, l2] [.int l1, .ref x0] h Q) ∧
    (∀ (d : Nat) (l0 : Value) (l1 : Value) (l2 : Value) (x1 : Int32) (x0 : Nat) (I : Nat → Nat → Int32) (L : Nat → Nat → Int64) (P : Nat → Nat → Option Nat) (Q : Option Value → zMm → Prop), zAk zSH x0 = some (.object "PalletSky$Shelf") → zWp d zi_113 none 50 [l0, l1, l2] [.int x1, .ref x0] (zSH, I, L, P) Q = (vp_in x1 (zAn zSH x0) ∧ zWp d zi_113 none 51 [l0, l1, l2] [va_rf (P x0 x1.toNatClampNeg)] (zSH, I, L, P) Q)) ∧
    (∀ (d : Nat) (l0 : Value) (l1 : Value) (l2 : Int32) (x0 : Nat) (h : zMm) (Q : Option Value → zMm → Prop), zWp d zi_113 none 51 [l0, l1, .int l2] [.ref x0] h Q = zWp d zi_113 none 52 [l0, l1, .int l2] [.int l2, .ref x0] h Q) ∧
    (∀ (d : Nat) (l0 : Value) (l1 : Value) (l2 : Value) (x1 : Int32) (x0 : Nat) (I : Nat → Nat → Int32) (L : Nat → Nat → Int64) (P : Nat → Nat → Option Nat) (Q : Option Value → zMm → Prop), zSH[x0]? = some (.inl 6) → zWp d zi_113 none 52 [l0, l1, l2] [.int x1, .ref x0] (zSH, I, L, P) Q = zWp d zi_113 none 55 [l0, l1, l2] [] (zSH, zw I x0 (upd (I x0) 2 x1), L, P) Q) ∧
    (∀ (d : Nat) (l0 : Value) (l1 : Value) (l2 : Value)  (h : zMm) (Q : Option Value → zMm → Prop), zWp d zi_113 none 55 [l0, l1, l2] [] h Q = zWp d zi_113 none 56 [l0, l1, l2] [.int 1] h Q) ∧
    (∀ (d : Nat) (l0 : Value) (l1 : Value) (l2 : Value) (x0 : Int32) (h : zMm) (Q : Option Value → zMm → Prop), zWp d zi_113 none 56 [l0, l1, l2] [.int x0] h Q = Q (some (.int x0)) h) :=
  ⟨(fun d l0 l1 l2  h Q => zr_iload_n rfl rfl),
   (fun d l0 l1 l2 x0 h Q => zr_sta (as := [.int x0]) (rest := []) rfl lm_9_124 (by decide) m_120 kd_120 rfl (Nat.le_of_ble_eq_true rfl)),
   (fun d l0 l1 l2 x0 h Q => zr_if_eq rfl (by decide)),
   (fun d l0 l1 l2  h Q => zr_iload_n rfl rfl),
   (fun d l0 l1 l2 x0 h Q => zr_iconst rfl (by decide)),
   (fun d l0 l1 l2 x1 x0 h Q => zr_ic_eq rfl (by decide)),
   (fun d l0 l1 l2  h Q => zr_aload_n rfl rfl),
   (fun d l0 l1 l2 x0 I L P Q p0 => zr_getQ rfl lf_9_63 (fun _ _ _ => rfl) p0),
   (fun d l0 l1 l2 x0 h Q => zr_iload_n rfl rfl),
   (fun d l0 l1 l2 x1 x0 I L P Q p0 => zr_vir (as := [.int x1]) (rest := []) rfl lm_9_341 m_1 kd_1 rfl (Nat.le_of_ble_eq_true rfl) p0),
   (fun d l0 l1 l2 x0 h Q => zr_if_ne rfl (by decide)),
   (fun d l0 l1 l2  h Q => zr_iconst rfl (by decide)),
   (fun d l0 l1 l2 x0 h Q => zr_iret rfl rfl),
   (fun d l0 l1 l2  h Q => zr_aload_n rfl rfl),
   (fun d l0 l1 l2 x0 I L P Q p0 => zr_getQ rfl lf_9_69 (fun _ _ _ => rfl) p0),
   (fun d l0 l1 l2 x0 h Q => zr_iload_n rfl rfl),
   (fun d l0 l1 l2 x1 x0 I L P Q p0 => zr_qldO rfl p0),
   (fun d l0 l1 l2 x0 h Q => zr_iload_n rfl rfl),
   (fun d l0 l1 l2 x1 x0 h Q => zr_iconst rfl (by decide)),
   (fun d l0 l1 l2 x2 x1 x0 h Q => zr_ic_ne rfl (by decide)),
   (fun d l0 l1 l2 x0 h Q => zr_bipush rfl (by decide)),
   (fun d l0 l1 l2 x1 x0 h Q => zr_goto rfl (by decide)),
   (fun d l0 l1 l2 x0 h Q => zr_iconst rfl (by decide)),
   (fun d l0 l1 l2 x1 x0 I L P Q p0 => zr_putI rfl lf_9_128 (by decide) rfl p0),
   (fun d l0 l1 l2  h Q => zr_aload_n rfl rfl),
   (fun d l0 l1 l2 x0 I L P Q p0 => zr_getQ rfl lf_9_69 (fun _ _ _ => rfl) p0),
   (fun d l0 l1 l2 x0 h Q => zr_iload_n rfl rfl),
   (fun d l0 l1 l2 x1 x0 I L P Q p0 => zr_qldO rfl p0),
   (fun d l0 l1 l2 x0 h Q => zr_iload_n rfl rfl),
   (fun d l0 l1 l2 x1 x0 I L P Q p0 => zr_putI rfl lf_9_348 (by decide) rfl p0),
   (fun d l0 l1 l2  h Q => zr_iconst rfl (by decide)),
   (fun d l0 l1 l2 x0 h Q => zr_iret rfl rfl)⟩
theorem E_X9_row : ∀ (d : Nat) (a0 : Nat) (a1 : Int32) (a2 : Int32) (a3 : Int32) (h : zMm) (Q : Option Value → zMm → Prop), zWM (d + 1) 114 [.ref a0, .int a1, .int a2, .int a3] h Q = zWp d zi_114 none 0 [.ref a0, .int a1, .int a2, .int a3] [] h Q := fun d a0 a1 a2 a3 h Q => zW_M m_114 (Nat.le_of_ble_eq_true rfl) rfl
set_option maxRecDepth 100000 in
theorem R_X9_row :
    (∀ (d : Nat) (l0 : Value) (l1 : Int32) (l2 : Value) (l3 : Value)  (h : zMm) (Q : Option Value → zMm → Prop), zWp d zi_114 none 0 [l0, .int l1, l2, l3] [] h Q = zWp d zi_114 none 1 [l0, .int l1, l2, l3] [.int l1] h Q) ∧
    (∀ (d : Nat) (l0 : Value) (l1 : Value) (l2 : Value) (l3 : Value) (x0 : Int32) (h : zMm) (Q : Option Value → zMm → Prop), zWp d zi_114 none 1 [l0, l1, l2, l3] [.int x0] h Q = zWM d 120 [.int x0] h (fun r h1 => zWp d zi_114 none 4 [l0, l1, l2, l3] (r.toList ++ []) h1 Q)) ∧
    (∀ (d : Nat) (l0 : Value) (l1 : Value) (l2 : Value) (l3 : Value) (x0 : Int32) (h : zMm) (Q : Option Value → zMm → Prop), zWp d zi_114 none 4 [l0, l1, l2, l3] [.int x0] h Q = if x0 = 0 then zWp d zi_114 none 20 [l0, l1, l2, l3] [] h Q else zWp d zi_114 none 7 [l0, l1, l2, l3] [] h Q) ∧
    (∀ (d : Nat) (l0 : Value) (l1 : Value) (l2 : Int32) (l3 : Value)  (h : zMm) (Q : Option Value → zMm → Prop), zWp d zi_114 none 7 [l0, l1, .int l2, l3] [] h Q = zWp d zi_114 none 8 [l0, l1, .int l2, l3] [.int l2] h Q) ∧
    (∀ (d : Nat) (l0 : Value) (l1 : Value) (l2 : Value) (l3 : Value) (x0 : Int32) (h : zMm) (Q : Option Value → zMm → Prop), zWp d zi_114 none 8 [l0, l1, l2, l3] [.int x0] h Q = zWM d 48 [.int x0] h (fun r h1 => zWp d zi_114 none 11 [l0, l1, l2, l3] (r.toList ++ []) h1 Q)) ∧
    (∀ (d : Nat) (l0 : Value) (l1 : Value) (l2 : Value) (l3 : Value) (x0 : Int32) (h : zMm) (Q : Option Value → zMm → Prop), zWp d zi_114 none 11 [l0, l1, l2, l3] [.int x0] h Q = if x0 = 0 then zWp d zi_114 none 20 [l0, l1, l2, l3] [] h Q else zWp d zi_114 none 14 [l0, l1, l2, l3] [] h Q) ∧
    (∀ (d : Nat) (l0 : Value) (l1 : Value) (l2 : Value) (l3 : Int32)  (h : zMm) (Q : Option Value → zMm → Prop), zWp d zi_114 none 14 [l0, l1, l2, .int l3] [] h Q = zWp d zi_114 none 15 [l0, l1, l2, .int l3] [.int l3] h Q) ∧
    (∀ (d : Nat) (l0 : Value) (l1 : Value) (l2 : Value) (l3 : Value) (x0 : Int32) (h : zMm) (Q : Option Value → zMm → Prop), zWp d zi_114 none 15 [l0, l1, l2, l3] [.int x0] h Q = zWp d zi_114 none 17 [l0, l1, l2, l3] [.int 60, .int x0] h Q) ∧
    (∀ (d : Nat) (l0 : Value) (l1 : Value) (l2 : Value) (l3 : Value) (x1 : Int32) (x0 : Int32) (h : zMm) (Q : Option Value → zMm → Prop), zWp d zi_114 none 17 [l0, l1, l2, l3] [.int x1, .int x0] h Q = if x0 ≤ x1 then zWp d zi_114 none 22 [l0, l1, l2, l3] [] h Q else zWp d zi_114 none 20 [l0, l1, l2, l3] [] h Q) ∧
    (∀ (d : Nat) (l0 : Value) (l1 : Value) (l2 : Value) (l3 : Value)  (h : zMm) (Q : Option Value → zMm → Prop), zWp d zi_114 none 20 [l0, l1, l2, l3] [] h Q = zWp d zi_114 none 21 [l0, l1, l2, l3] [.int (-1)] h Q) ∧
    (∀ (d : Nat) (l0 : Value) (l1 : Value) (l2 : Value) (l3 : Value) (x0 : Int32) (h : zMm) (Q : Option Value → zMm → Prop), zWp d zi_114 none 21 [l0, l1, l2, l3] [.int x0] h Q = Q (some (.int x0)) h) ∧
    (∀ (d : Nat) (l0 : Value) (l1 : Value) (l2 : Value) (l3 : Int32)  (h : zMm) (Q : Option Value → zMm → Prop), zWp d zi_114 none 22 [l0, l1, l2, .int l3] [] h Q = zWp d zi_114 none 23 [l0, l1, l2, .int l3] [.int l3] h Q) ∧
    (∀ (d : Nat) (l0 : Value) (l1 : Value) (l2 : Value) (l3 : Value) (x0 : Int32) (h : zMm) (Q : Option Value → zMm → Prop), zWp d zi_114 none 23 [l0, l1, l2, l3] [.int x0] h Q = if 0 ≤ x0 then zWp d zi_114 none 29 [l0, l1, l2, l3] [] h Q else zWp d zi_114 none 26 [l0, l1, l2, l3] [] h Q) ∧
    (∀ (d : Nat) (l0 : Value) (l1 : Value) (l2 : Value) (l3 : Value)  (h : zMm) (Q : Option Value → zMm → Prop), zWp d zi_114 none 26 [l0, l1, l2, l3] [] h Q = zWp d zi_114 none 28 [l0, l1, l2, l3] [.int (-14)] h Q) ∧
    (∀ (d : Nat) (l0 : Value) (l1 : Value) (l2 : Value) (l3 : Value) (x0 : Int32) (h : zMm) (Q : Option Value → zMm → Prop), zWp d zi_114 none 28 [l0, l1, l2, l3] [.int x0] h Q = Q (some (.int x0)) h) ∧
    (∀ (d : Nat) (l0 : Nat) (l1 : Value) (l2 : Value) (l3 : Value)  (h : zMm) (Q : Option Value → zMm → Prop), zWp d zi_114 none 29 [.ref l0, l1, l2, l3] [] h Q = zWp d zi_114 none 30 [.ref l0, l1, l2, l3] [.ref l0] h Q) ∧
    (∀ (d : Nat) (l0 : Value) (l1 : Value) (l2 : Value) (l3 : Value) (x0 : Nat) (I : Nat → Nat → Int32) (L : Nat → Nat → Int64) (P : Nat → Nat → Option Nat) (Q : Option Value → zMm → Prop), zSH[x0]? = some (.inl 9) → zWp d zi_114 none 30 [l0, l1, l2, l3] [.ref x0] (zSH, I, L, P) Q = zWp d zi_114 none 33 [l0, l1, l2, l3] [va_rf (P x0 10)] (zSH, I, L, P) Q) ∧
    (∀ (d : Nat) (l0 : Value) (l1 : Int32) (l2 : Value) (l3 : Value) (x0 : Nat) (h : zMm) (Q : Option Value → zMm → Prop), zWp d zi_114 none 33 [l0, .int l1, l2, l3] [.ref x0] h Q = zWp d zi_114 none 34 [l0, .int l1, l2, l3] [.int l1, .ref x0] h Q) ∧
    (∀ (d : Nat) (l0 : Value) (l1 : Value) (l2 : Value) (l3 : Value) (x1 : Int32) (x0 : Nat) (I : Nat → Nat → Int32) (L : Nat → Nat → Int64) (P : Nat → Nat → Option Nat) (Q : Option Value → zMm → Prop), zAk zSH x0 = some (.object "PalletSky$Shelf") → zWp d zi_114 none 34 [l0, l1, l2, l3] [.int x1, .ref x0] (zSH, I, L, P) Q = (vp_in x1 (zAn zSH x0) ∧ zWp d zi_114 none 35 [l0, l1, l2, l3] [va_rf (P x0 x1.toNatClampNeg)] (zSH, I, L, P) Q)) ∧
    (∀ (d : Nat) (l0 : Value) (l1 : Value) (l2 : Int32) (l3 : Value) (x0 : Nat) (h : zMm) (Q : Option Value → zMm → Prop), zWp d zi_114 none 35 [l0, l1, .int l2, l3] [.ref x0] h Q = zWp d zi_114 none 36 [l0, l1, .int l2, l3] [.int l2, .ref x0] h Q) ∧
    (∀ (d : Nat) (l0 : Value) (l1 : Value) (l2 : Value) (l3 : Int32) (x1 : Int32) (x0 : Nat) (h : zMm) (Q : Option Value → zMm → Prop), zWp d zi_114 none 36 [l0, l1, l2, .int l3] [.int x1, .ref x0] h Q = zWp d zi_114 none 37 [l0, l1, l2, .int l3] [.int l3, .int x1, .ref x0] h Q) ∧
    (∀ (d : Nat) (l0 : Value) (l1 : Value) (l2 : Value) (l3 : Value) (x2 : Int32) (x1 : Int32) (x0 : Nat) (I : Nat → Nat → Int32) (L : Nat → Nat → Int64) (P : Nat → Nat → Option Nat) (Q : Option Value → zMm → Prop), zSH[x0]? = some (.inl 6) → zWp d zi_114 none 37 [l0, l1, l2, l3] [.int x2, .int x1, .ref x0] (zSH, I, L, P) Q = zWM d 49 [.ref x0, .int x1, .int x2] (zSH, I, L, P) (fun r h1 => zWp d zi_114 none 40 [l0, l1, l2, l3] (r.toList ++ []) h1 Q)) ∧
    (∀ (d : Nat) (l0 : Value) (l1 : Value) (l2 : Value) (l3 : Value)  (h : zMm) (Q : Option Value → zMm → Prop), zWp d zi_114 none 40 [l0, l1, l2, l3] [] h Q = zWp d zi_114 none 41 [l0, l1, l2, l3] [.int 1] h Q) ∧
    (∀ (d : Nat) (l0 : Value) (l1 : Value) (l2 : Value) (l3 : Value) (x0 : Int32) (h : zMm) (Q : Option Value → zMm → Prop), zWp d zi_114 none 41 [l0, l1, l2, l3] [.int x0] h Q = Q (some (.int x0)) h) :=
  ⟨(fun d l0 l1 l2 l3  h Q => zr_iload_n rfl rfl),
   (fun d l0 l1 l2 l3 x0 h Q => zr_sta (as := [.int x0]) (rest := []) rfl lm_9_124 (by decide) m_120 kd_120 rfl (Nat.le_of_ble_eq_true rfl)),
   (fun d l0 l1 l2 l3 x0 h Q => zr_if_eq rfl (by decide)),
   (fun d l0 l1 l2 l3  h Q => zr_iload_n rfl rfl),
   (fun d l0 l1 l2 l3 x0 h Q => zr_sta (as := [.int x0]) (rest := []) rfl lm_9_351 (by decide) m_48 kd_48 rfl (Nat.le_of_ble_eq_true rfl)),
   (fun d l0 l1 l2 l3 x0 h Q => zr_if_eq rfl (by decide)),
   (fun d l0 l1 l2 l3  h Q => zr_iload_n rfl rfl),
   (fun d l0 l1 l2 l3 x0 h Q => zr_bipush rfl (by decide)),
   (fun d l0 l1 l2 l3 x1 x0 h Q => zr_ic_le rfl (by decide)),
   (fun d l0 l1 l2 l3  h Q => zr_iconst rfl (by decide)),
   (fun d l0 l1 l2 l3 x0 h Q => zr_iret rfl rfl),
   (fun d l0 l1 l2 l3  h Q => zr_iload_n rfl rfl),
   (fun d l0 l1 l2 l3 x0 h Q => zr_if_ge rfl (by decide)),
   (fun d l0 l1 l2 l3  h Q => zr_bipush rfl (by decide)),
   (fun d l0 l1 l2 l3 x0 h Q => zr_iret rfl rfl),
   (fun d l0 l1 l2 l3  h Q => zr_aload_n rfl rfl),
   (fun d l0 l1 l2 l3 x0 I L P Q p0 => zr_getQ rfl lf_9_69 (fun _ _ _ => rfl) p0),
   (fun d l0 l1 l2 l3 x0 h Q => zr_iload_n rfl rfl),
   (fun d l0 l1 l2 l3 x1 x0 I L P Q p0 => zr_qldO rfl p0),
   (fun d l0 l1 l2 l3 x0 h Q => zr_iload_n rfl rfl),
   (fun d l0 l1 l2 l3 x1 x0 h Q => zr_iload_n rfl rfl),
   (fun d l0 l1 l2 l3 x2 x1 x0 I L P Q p0 => zr_vir (as := [.int x2, .int x1]) (rest := []) rfl lm_9_354 m_49 kd_49 rfl (Nat.le_of_ble_eq_true rfl) p0),
   (fun d l0 l1 l2 l3  h Q => zr_iconst rfl (by decide)),
   (fun d l0 l1 l2 l3 x0 h Q => zr_iret rfl rfl)⟩
theorem E_X9_put : ∀ (d : Nat) (a0 : Nat) (a1 : Int32) (a2 : Int32) (a3 : Int64) (h : zMm) (Q : Option Value → zMm → Prop), zWM (d + 1) 115 [.ref a0, .int a1, .int a2, .long a3] h Q = zWp d zi_115 none 0 [.ref a0, .int a1, .int a2, .long a3, .retAddr 0, .retAddr 0, .retAddr 0] [] h Q := fun d a0 a1 a2 a3 h Q => zW_M m_115 (Nat.le_of_ble_eq_true rfl) rfl
set_option maxRecDepth 100000 in
theorem R_X9_put :
    (∀ (d : Nat) (l0 : Nat) (l1 : Value) (l2 : Value) (l3 : Value) (l4 : Value) (l5 : Value) (l6 : Value)  (h : zMm) (Q : Option Value → zMm → Prop), zWp d zi_115 none 0 [.ref l0, l1, l2, l3, l4, l5, l6] [] h Q = zWp d zi_115 none 1 [.ref l0, l1, l2, l3, l4, l5, l6] [.ref l0] h Q) ∧
    (∀ (d : Nat) (l0 : Value) (l1 : Int32) (l2 : Value) (l3 : Value) (l4 : Value) (l5 : Value) (l6 : Value) (x0 : Nat) (h : zMm) (Q : Option Value → zMm → Prop), zWp d zi_115 none 1 [l0, .int l1, l2, l3, l4, l5, l6] [.ref x0] h Q = zWp d zi_115 none 2 [l0, .int l1, l2, l3, l4, l5, l6] [.int l1, .ref x0] h Q) ∧
    (∀ (d : Nat) (l0 : Value) (l1 : Value) (l2 : Int32) (l3 : Value) (l4 : Value) (l5 : Value) (l6 : Value) (x1 : Int32) (x0 : Nat) (h : zMm) (Q : Option Value → zMm → Prop), zWp d zi_115 none 2 [l0, l1, .int l2, l3, l4, l5, l6] [.int x1, .ref x0] h Q = zWp d zi_115 none 3 [l0, l1, .int l2, l3, l4, l5, l6] [.int l2, .int x1, .ref x0] h Q) ∧
    (∀ (d : Nat) (l0 : Value) (l1 : Value) (l2 : Value) (l3 : Value) (l4 : Value) (l5 : Value) (l6 : Value) (x2 : Int32) (x1 : Int32) (x0 : Nat) (I : Nat → Nat → Int32) (L : Nat → Nat → Int64) (P : Nat → Nat → Option Nat) (Q : Option Value → zMm → Prop), zSH[x0]? = some (.inl 9) → zWp d zi_115 none 3 [l0, l1, l2, l3, l4, l5, l6] [.int x2, .int x1, .ref x0] (zSH, I, L, P) Q = zWM d 121 [.ref x0, .int x1, .int x2] (zSH, I, L, P) (fun r h1 => zWp d zi_115 none 6 [l0, l1, l2, l3, l4, l5, l6] (r.toList ++ []) h1 Q)) ∧
    (∀ (d : Nat) (l0 : Value) (l1 : Value) (l2 : Value) (l3 : Value) (l4 : Value) (l5 : Value) (l6 : Value) (x0 : Int32) (h : zMm) (Q : Option Value → zMm → Prop), zok2 [l0, l1, l2, l3, l4, l5, l6] 5 = true → zWp d zi_115 none 6 [l0, l1, l2, l3, l4, l5, l6] [.int x0] h Q = zWp d zi_115 none 8 [l0, l1, l2, l3, l4, .int x0, l6] [] h Q) ∧
    (∀ (d : Nat) (l0 : Value) (l1 : Value) (l2 : Value) (l3 : Value) (l4 : Value) (l5 : Int32) (l6 : Value)  (h : zMm) (Q : Option Value → zMm → Prop), zWp d zi_115 none 8 [l0, l1, l2, l3, l4, .int l5, l6] [] h Q = zWp d zi_115 none 10 [l0, l1, l2, l3, l4, .int l5, l6] [.int l5] h Q) ∧
    (∀ (d : Nat) (l0 : Value) (l1 : Value) (l2 : Value) (l3 : Value) (l4 : Value) (l5 : Value) (l6 : Value) (x0 : Int32) (h : zMm) (Q : Option Value → zMm → Prop), zWp d zi_115 none 10 [l0, l1, l2, l3, l4, l5, l6] [.int x0] h Q = if 0 ≤ x0 then zWp d zi_115 none 16 [l0, l1, l2, l3, l4, l5, l6] [] h Q else zWp d zi_115 none 13 [l0, l1, l2, l3, l4, l5, l6] [] h Q) ∧
    (∀ (d : Nat) (l0 : Value) (l1 : Value) (l2 : Value) (l3 : Value) (l4 : Value) (l5 : Int32) (l6 : Value)  (h : zMm) (Q : Option Value → zMm → Prop), zWp d zi_115 none 13 [l0, l1, l2, l3, l4, .int l5, l6] [] h Q = zWp d zi_115 none 15 [l0, l1, l2, l3, l4, .int l5, l6] [.int l5] h Q) ∧
    (∀ (d : Nat) (l0 : Value) (l1 : Value) (l2 : Value) (l3 : Value) (l4 : Value) (l5 : Value) (l6 : Value) (x0 : Int32) (h : zMm) (Q : Option Value → zMm → Prop), zWp d zi_115 none 15 [l0, l1, l2, l3, l4, l5, l6] [.int x0] h Q = Q (some (.int x0)) h) ∧
    (∀ (d : Nat) (l0 : Nat) (l1 : Value) (l2 : Value) (l3 : Value) (l4 : Value) (l5 : Value) (l6 : Value)  (h : zMm) (Q : Option Value → zMm → Prop), zWp d zi_115 none 16 [.ref l0, l1, l2, l3, l4, l5, l6] [] h Q = zWp d zi_115 none 17 [.ref l0, l1, l2, l3, l4, l5, l6] [.ref l0] h Q) ∧
    (∀ (d : Nat) (l0 : Value) (l1 : Value) (l2 : Value) (l3 : Value) (l4 : Value) (l5 : Value) (l6 : Value) (x0 : Nat) (I : Nat → Nat → Int32) (L : Nat → Nat → Int64) (P : Nat → Nat → Option Nat) (Q : Option Value → zMm → Prop), zSH[x0]? = some (.inl 9) → zWp d zi_115 none 17 [l0, l1, l2, l3, l4, l5, l6] [.ref x0] (zSH, I, L, P) Q = zWp d zi_115 none 20 [l0, l1, l2, l3, l4, l5, l6] [va_rf (P x0 10)] (zSH, I, L, P) Q) ∧
    (∀ (d : Nat) (l0 : Value) (l1 : Int32) (l2 : Value) (l3 : Value) (l4 : Value) (l5 : Value) (l6 : Value) (x0 : Nat) (h : zMm) (Q : Option Value → zMm → Prop), zWp d zi_115 none 20 [l0, .int l1, l2, l3, l4, l5, l6] [.ref x0] h Q = zWp d zi_115 none 21 [l0, .int l1, l2, l3, l4, l5, l6] [.int l1, .ref x0] h Q) ∧
    (∀ (d : Nat) (l0 : Value) (l1 : Value) (l2 : Value) (l3 : Value) (l4 : Value) (l5 : Value) (l6 : Value) (x1 : Int32) (x0 : Nat) (I : Nat → Nat → Int32) (L : Nat → Nat → Int64) (P : Nat → Nat → Option Nat) (Q : Option Value → zMm → Prop), zAk zSH x0 = some (.object "PalletSky$Shelf") → zWp d zi_115 none 21 [l0, l1, l2, l3, l4, l5, l6] [.int x1, .ref x0] (zSH, I, L, P) Q = (vp_in x1 (zAn zSH x0) ∧ zWp d zi_115 none 22 [l0, l1, l2, l3, l4, l5, l6] [va_rf (P x0 x1.toNatClampNeg)] (zSH, I, L, P) Q)) ∧
    (∀ (d : Nat) (l0 : Value) (l1 : Value) (l2 : Value) (l3 : Value) (l4 : Value) (l5 : Int32) (l6 : Value) (x0 : Nat) (h : zMm) (Q : Option Value → zMm → Prop), zWp d zi_115 none 22 [l0, l1, l2, l3, l4, .int l5, l6] [.ref x0] h Q = zWp d zi_115 none 24 [l0, l1, l2, l3, l4, .int l5, .ref x0] [] h Q) ∧
    (∀ (d : Nat) (l0 : Value) (l1 : Value) (l2 : Value) (l3 : Value) (l4 : Value) (l5 : Value) (l6 : Nat)  (h : zMm) (Q : Option Value → zMm → Prop), zWp d zi_115 none 24 [l0, l1, l2, l3, l4, l5, .ref l6] [] h Q = zWp d zi_115 none 26 [l0, l1, l2, l3, l4, l5, .ref l6] [.ref l6] h Q) ∧
    (∀ (d : Nat) (l0 : Value) (l1 : Value) (l2 : Value) (l3 : Value) (l4 : Value) (l5 : Value) (l6 : Value) (x0 : Nat) (I : Nat → Nat → Int32) (L : Nat → Nat → Int64) (P : Nat → Nat → Option Nat) (Q : Option Value → zMm → Prop), zSH[x0]? = some (.inl 6) → zWp d zi_115 none 26 [l0, l1, l2, l3, l4, l5, l6] [.ref x0] (zSH, I, L, P) Q = zWp d zi_115 none 29 [l0, l1, l2, l3, l4, l5, l6] [va_rf (P x0 0)] (zSH, I, L, P) Q) ∧
    (∀ (d : Nat) (l0 : Value) (l1 : Value) (l2 : Int32) (l3 : Value) (l4 : Value) (l5 : Value) (l6 : Value) (x0 : Nat) (h : zMm) (Q : Option Value → zMm → Prop), zWp d zi_115 none 29 [l0, l1, .int l2, l3, l4, l5, l6] [.ref x0] h Q = zWp d zi_115 none 30 [l0, l1, .int l2, l3, l4, l5, l6] [.int l2, .ref x0] h Q) ∧
    (∀ (d : Nat) (l0 : Value) (l1 : Value) (l2 : Value) (l3 : Value) (l4 : Value) (l5 : Value) (l6 : Nat) (x1 : Int32) (x0 : Nat) (h : zMm) (Q : Option Value → zMm → Prop), zWp d zi_115 none 30 [l0, l1, l2, l3, l4, l5, .ref l6] [.int x1, .ref x0] h Q = zWp d zi_115 none 32 [l0, l1, l2, l3, l4, l5, .ref l6] [.ref l6, .int x1, .ref x0] h Q) ∧
    (∀ (d : Nat) (l0 : Value) (l1 : Value) (l2 : Value) (l3 : Value) (l4 : Value) (l5 : Value) (l6 : Value) (x2 : Nat) (x1 : Int32) (x0 : Nat) (I : Nat → Nat → Int32) (L : Nat → Nat → Int64) (P : Nat → Nat → Option Nat) (Q : Option Value → zMm → Prop), zSH[x2]? = some (.inl 6) → zWp d zi_115 none 32 [l0, l1, l2, l3, l4, l5, l6] [.ref x2, .int x1, .ref x0] (zSH, I, L, P) Q = zWp d zi_115 none 35 [l0, l1, l2, l3, l4, l5, l6] [.int (I x2 1), .int x1, .ref x0] (zSH, I, L, P) Q) ∧
    (∀ (d : Nat) (l0 : Value) (l1 : Value) (l2 : Value) (l3 : Int64) (l4 : Value) (l5 : Value) (l6 : Value) (x2 : Int32) (x1 : Int32) (x0 : Nat) (h : zMm) (Q : Option Value → zMm → Prop), zWp d zi_115 none 35 [l0, l1, l2, .long l3, l4, l5, l6] [.int x2, .int x1, .ref x0] h Q = zWp d zi_115 none 36 [l0, l1, l2, .long l3, l4, l5, l6] [.long l3, .int x2, .int x1, .ref x0] h Q) ∧
    (∀ (d : Nat) (l0 : Value) (l1 : Value) (l2 : Value) (l3 : Value) (l4 : Value) (l5 : Value) (l6 : Value) (x3 : Int64) (x2 : Int32) (x1 : Int32) (x0 : Nat) (h : zMm) (Q : Option Value → zMm → Prop), zWp d zi_115 none 36 [l0, l1, l2, l3, l4, l5, l6] [.long x3, .int x2, .int x1, .ref x0] h Q = zWM d 51 [.int x2, .long x3] h (fun r h1 => zWp d zi_115 none 39 [l0, l1, l2, l3, l4, l5, l6] (r.toList ++ [.int x1, .ref x0]) h1 Q)) ∧
    (∀ (d : Nat) (l0 : Value) (l1 : Value) (l2 : Value) (l3 : Value) (l4 : Value) (l5 : Value) (l6 : Value) (x2 : Int64) (x1 : Int32) (x0 : Nat) (I : Nat → Nat → Int32) (L : Nat → Nat → Int64) (P : Nat → Nat → Option Nat) (Q : Option Value → zMm → Prop), zAk zSH x0 = some .long → zWp d zi_115 none 39 [l0, l1, l2, l3, l4, l5, l6] [.long x2, .int x1, .ref x0] (zSH, I, L, P) Q = (vp_in x1 (zAn zSH x0) ∧ zWp d zi_115 none 40 [l0, l1, l2, l3, l4, l5, l6] [] (zSH, I, zw L x0 (vp_updL (L x0) x1.toNatClampNeg x2), P) Q)) ∧
    (∀ (d : Nat) (l0 : Value) (l1 : Value) (l2 : Value) (l3 : Value) (l4 : Value) (l5 : Value) (l6 : Value)  (h : zMm) (Q : Option Value → zMm → Prop), zWp d zi_115 none 40 [l0, l1, l2, l3, l4, l5, l6] [] h Q = zWp d zi_115 none 41 [l0, l1, l2, l3, l4, l5, l6] [.int 1] h Q) ∧
    (∀ (d : Nat) (l0 : Value) (l1 : Value) (l2 : Value) (l3 : Value) (l4 : Value) (l5 : Value) (l6 : Value) (x0 : Int32) (h : zMm) (Q : Option Value → zMm → Prop), zWp d zi_115 none 41 [l0, l1, l2, l3, l4, l5, l6] [.int x0] h Q = Q (some (.int x0)) h) :=
  ⟨(fun d l0 l1 l2 l3 l4 l5 l6  h Q => zr_aload_n rfl rfl),
   (fun d l0 l1 l2 l3 l4 l5 l6 x0 h Q => zr_iload_n rfl rfl),
   (fun d l0 l1 l2 l3 l4 l5 l6 x1 x0 h Q => zr_iload_n rfl rfl),
   (fun d l0 l1 l2 l3 l4 l5 l6 x2 x1 x0 I L P Q p0 => zr_vir (as := [.int x2, .int x1]) (rest := []) rfl lm_9_357 m_121 kd_121 rfl (Nat.le_of_ble_eq_true rfl) p0),
   (fun d l0 l1 l2 l3 l4 l5 l6 x0 h Q p0 => zr_istore (n := 5) rfl (Nat.le_of_ble_eq_true rfl) p0),
   (fun d l0 l1 l2 l3 l4 l5 l6  h Q => zr_iload rfl rfl),
   (fun d l0 l1 l2 l3 l4 l5 l6 x0 h Q => zr_if_ge rfl (by decide)),
   (fun d l0 l1 l2 l3 l4 l5 l6  h Q => zr_iload rfl rfl),
   (fun d l0 l1 l2 l3 l4 l5 l6 x0 h Q => zr_iret rfl rfl),
   (fun d l0 l1 l2 l3 l4 l5 l6  h Q => zr_aload_n rfl rfl),
   (fun d l0 l1 l2 l3 l4 l5 l6 x0 I L P Q p0 => zr_getQ rfl lf_9_69 (fun _ _ _ => rfl) p0),
   (fun d l0 l1 l2 l3 l4 l5 l6 x0 h Q => zr_iload_n rfl rfl),
   (fun d l0 l1 l2 l3 l4 l5 l6 x1 x0 I L P Q p0 => zr_qldO rfl p0),
   (fun d l0 l1 l2 l3 l4 l5 l6 x0 h Q => zr_astore (n := 6) rfl (Nat.le_of_ble_eq_true rfl) rfl),
   (fun d l0 l1 l2 l3 l4 l5 l6  h Q => zr_aload rfl rfl),
   (fun d l0 l1 l2 l3 l4 l5 l6 x0 I L P Q p0 => zr_getQ rfl lf_9_135 (fun _ _ _ => rfl) p0),
   (fun d l0 l1 l2 l3 l4 l5 l6 x0 h Q => zr_iload_n rfl rfl),
   (fun d l0 l1 l2 l3 l4 l5 l6 x1 x0 h Q => zr_aload rfl rfl),
   (fun d l0 l1 l2 l3 l4 l5 l6 x2 x1 x0 I L P Q p0 => zr_getI rfl lf_9_128 (fun _ _ _ => rfl) p0),
   (fun d l0 l1 l2 l3 l4 l5 l6 x2 x1 x0 h Q => zr_lload_n rfl rfl),
   (fun d l0 l1 l2 l3 l4 l5 l6 x3 x2 x1 x0 h Q => zr_sta (as := [.long x3, .int x2]) (rest := [.int x1, .ref x0]) rfl lm_9_360 (by decide) m_51 kd_51 rfl (Nat.le_of_ble_eq_true rfl)),
   (fun d l0 l1 l2 l3 l4 l5 l6 x2 x1 x0 I L P Q p0 => zr_lst rfl p0),
   (fun d l0 l1 l2 l3 l4 l5 l6  h Q => zr_iconst rfl (by decide)),
   (fun d l0 l1 l2 l3 l4 l5 l6 x0 h Q => zr_iret rfl rfl)⟩
theorem E_X9_element : ∀ (d : Nat) (a0 : Nat) (a1 : Int32) (a2 : Int32) (h : zMm) (Q : Option Value → zMm → Prop), zWM (d + 1) 116 [.ref a0, .int a1, .int a2] h Q = zWp d zi_116 none 0 [.ref a0, .int a1, .int a2] [] h Q := fun d a0 a1 a2 h Q => zW_M m_116 (Nat.le_of_ble_eq_true rfl) rfl
set_option maxRecDepth 100000 in
theorem R_X9_element :
    (∀ (d : Nat) (l0 : Nat) (l1 : Value) (l2 : Value)  (h : zMm) (Q : Option Value → zMm → Prop), zWp d zi_116 none 0 [.ref l0, l1, l2] [] h Q = zWp d zi_116 none 1 [.ref l0, l1, l2] [.ref l0] h Q) ∧
    (∀ (d : Nat) (l0 : Value) (l1 : Int32) (l2 : Value) (x0 : Nat) (h : zMm) (Q : Option Value → zMm → Prop), zWp d zi_116 none 1 [l0, .int l1, l2] [.ref x0] h Q = zWp d zi_116 none 2 [l0, .int l1, l2] [.int l1, .ref x0] h Q) ∧
    (∀ (d : Nat) (l0 : Value) (l1 : Value) (l2 : Int32) (x1 : Int32) (x0 : Nat) (h : zMm) (Q : Option Value → zMm → Prop), zWp d zi_116 none 2 [l0, l1, .int l2] [.int x1, .ref x0] h Q = zWp d zi_116 none 3 [l0, l1, .int l2] [.int l2, .int x1, .ref x0] h Q) ∧
    (∀ (d : Nat) (l0 : Value) (l1 : Value) (l2 : Value) (x2 : Int32) (x1 : Int32) (x0 : Nat) (I : Nat → Nat → Int32) (L : Nat → Nat → Int64) (P : Nat → Nat → Option Nat) (Q : Option Value → zMm → Prop), zSH[x0]? = some (.inl 9) → zWp d zi_116 none 3 [l0, l1, l2] [.int x2, .int x1, .ref x0] (zSH, I, L, P) Q = zWM d 121 [.ref x0, .int x1, .int x2] (zSH, I, L, P) (fun r h1 => zWp d zi_116 none 6 [l0, l1, l2] (r.toList ++ []) h1 Q)) ∧
    (∀ (d : Nat) (l0 : Value) (l1 : Value) (l2 : Value) (x0 : Int32) (h : zMm) (Q : Option Value → zMm → Prop), zWp d zi_116 none 6 [l0, l1, l2] [.int x0] h Q = if 0 ≤ x0 then zWp d zi_116 none 13 [l0, l1, l2] [] h Q else zWp d zi_116 none 9 [l0, l1, l2] [] h Q) ∧
    (∀ (d : Nat) (l0 : Value) (l1 : Value) (l2 : Value)  (h : zMm) (Q : Option Value → zMm → Prop), zWp d zi_116 none 9 [l0, l1, l2] [] h Q = zWp d zi_116 none 12 [l0, l1, l2] [.long (-9223372036854775808)] h Q) ∧
    (∀ (d : Nat) (l0 : Value) (l1 : Value) (l2 : Value) (x0 : Int64) (h : zMm) (Q : Option Value → zMm → Prop), zWp d zi_116 none 12 [l0, l1, l2] [.long x0] h Q = Q (some (.long x0)) h) ∧
    (∀ (d : Nat) (l0 : Nat) (l1 : Value) (l2 : Value)  (h : zMm) (Q : Option Value → zMm → Prop), zWp d zi_116 none 13 [.ref l0, l1, l2] [] h Q = zWp d zi_116 none 14 [.ref l0, l1, l2] [.ref l0] h Q) ∧
    (∀ (d : Nat) (l0 : Value) (l1 : Value) (l2 : Value) (x0 : Nat) (I : Nat → Nat → Int32) (L : Nat → Nat → Int64) (P : Nat → Nat → Option Nat) (Q : Option Value → zMm → Prop), zSH[x0]? = some (.inl 9) → zWp d zi_116 none 14 [l0, l1, l2] [.ref x0] (zSH, I, L, P) Q = zWp d zi_116 none 17 [l0, l1, l2] [va_rf (P x0 10)] (zSH, I, L, P) Q) ∧
    (∀ (d : Nat) (l0 : Value) (l1 : Int32) (l2 : Value) (x0 : Nat) (h : zMm) (Q : Option Value → zMm → Prop), zWp d zi_116 none 17 [l0, .int l1, l2] [.ref x0] h Q = zWp d zi_116 none 18 [l0, .int l1, l2] [.int l1, .ref x0] h Q) ∧
    (∀ (d : Nat) (l0 : Value) (l1 : Value) (l2 : Value) (x1 : Int32) (x0 : Nat) (I : Nat → Nat → Int32) (L : Nat → Nat → Int64) (P : Nat → Nat → Option Nat) (Q : Option Value → zMm → Prop), zAk zSH x0 = some (.object "PalletSky$Shelf") → zWp d zi_116 none 18 [l0, l1, l2] [.int x1, .ref x0] (zSH, I, L, P) Q = (vp_in x1 (zAn zSH x0) ∧ zWp d zi_116 none 19 [l0, l1, l2] [va_rf (P x0 x1.toNatClampNeg)] (zSH, I, L, P) Q)) ∧
    (∀ (d : Nat) (l0 : Value) (l1 : Value) (l2 : Value) (x0 : Nat) (I : Nat → Nat → Int32) (L : Nat → Nat → Int64) (P : Nat → Nat → Option Nat) (Q : Option Value → zMm → Prop), zSH[x0]? = some (.inl 6) → zWp d zi_116 none 19 [l0, l1, l2] [.ref x0] (zSH, I, L, P) Q = zWp d zi_116 none 22 [l0, l1, l2] [va_rf (P x0 0)] (zSH, I, L, P) Q) ∧
    (∀ (d : Nat) (l0 : Value) (l1 : Value) (l2 : Int32) (x0 : Nat) (h : zMm) (Q : Option Value → zMm → Prop), zWp d zi_116 none 22 [l0, l1, .int l2] [.ref x0] h Q = zWp d zi_116 none 23 [l0, l1, .int l2] [.int l2, .ref x0] h Q) ∧
    (∀ (d : Nat) (l0 : Value) (l1 : Value) (l2 : Value) (x1 : Int32) (x0 : Nat) (I : Nat → Nat → Int32) (L : Nat → Nat → Int64) (P : Nat → Nat → Option Nat) (Q : Option Value → zMm → Prop), zAk zSH x0 = some .long → zWp d zi_116 none 23 [l0, l1, l2] [.int x1, .ref x0] (zSH, I, L, P) Q = (vp_in x1 (zAn zSH x0) ∧ zWp d zi_116 none 24 [l0, l1, l2] [.long (L x0 x1.toNatClampNeg)] (zSH, I, L, P) Q)) ∧
    (∀ (d : Nat) (l0 : Value) (l1 : Value) (l2 : Value) (x0 : Int64) (h : zMm) (Q : Option Value → zMm → Prop), zWp d zi_116 none 24 [l0, l1, l2] [.long x0] h Q = Q (some (.long x0)) h) :=
  ⟨(fun d l0 l1 l2  h Q => zr_aload_n rfl rfl),
   (fun d l0 l1 l2 x0 h Q => zr_iload_n rfl rfl),
   (fun d l0 l1 l2 x1 x0 h Q => zr_iload_n rfl rfl),
   (fun d l0 l1 l2 x2 x1 x0 I L P Q p0 => zr_vir (as := [.int x2, .int x1]) (rest := []) rfl lm_9_357 m_121 kd_121 rfl (Nat.le_of_ble_eq_true rfl) p0),
   (fun d l0 l1 l2 x0 h Q => zr_if_ge rfl (by decide)),
   (fun d l0 l1 l2  h Q => zr_ldc2_w rfl lj_9_366),
   (fun d l0 l1 l2 x0 h Q => zr_lret rfl rfl),
   (fun d l0 l1 l2  h Q => zr_aload_n rfl rfl),
   (fun d l0 l1 l2 x0 I L P Q p0 => zr_getQ rfl lf_9_69 (fun _ _ _ => rfl) p0),
   (fun d l0 l1 l2 x0 h Q => zr_iload_n rfl rfl),
   (fun d l0 l1 l2 x1 x0 I L P Q p0 => zr_qldO rfl p0),
   (fun d l0 l1 l2 x0 I L P Q p0 => zr_getQ rfl lf_9_135 (fun _ _ _ => rfl) p0),
   (fun d l0 l1 l2 x0 h Q => zr_iload_n rfl rfl),
   (fun d l0 l1 l2 x1 x0 I L P Q p0 => zr_lld rfl p0),
   (fun d l0 l1 l2 x0 h Q => zr_lret rfl rfl)⟩
theorem E_X9_shift : ∀ (d : Nat) (a0 : Nat) (a1 : Int32) (a2 : Int32) (a3 : Int32) (a4 : Int32) (a5 : Int32) (h : zMm) (Q : Option Value → zMm → Prop), zWM (d + 1) 117 [.ref a0, .int a1, .int a2, .int a3, .int a4, .int a5] h Q = zWp d zi_117 none 0 [.ref a0, .int a1, .int a2, .int a3, .int a4, .int a5, .retAddr 0, .retAddr 0] [] h Q := fun d a0 a1 a2 a3 a4 a5 h Q => zW_M m_117 (Nat.le_of_ble_eq_true rfl) rfl
set_option maxRecDepth 100000 in
theorem R_X9_shift :
    (∀ (d : Nat) (l0 : Value) (l1 : Int32) (l2 : Value) (l3 : Value) (l4 : Value) (l5 : Value) (l6 : Value) (l7 : Value)  (h : zMm) (Q : Option Value → zMm → Prop), zWp d zi_117 none 0 [l0, .int l1, l2, l3, l4, l5, l6, l7] [] h Q = zWp d zi_117 none 1 [l0, .int l1, l2, l3, l4, l5, l6, l7] [.int l1] h Q) ∧
    (∀ (d : Nat) (l0 : Value) (l1 : Value) (l2 : Value) (l3 : Value) (l4 : Value) (l5 : Value) (l6 : Value) (l7 : Value) (x0 : Int32) (h : zMm) (Q : Option Value → zMm → Prop), zWp d zi_117 none 1 [l0, l1, l2, l3, l4, l5, l6, l7] [.int x0] h Q = zWM d 120 [.int x0] h (fun r h1 => zWp d zi_117 none 4 [l0, l1, l2, l3, l4, l5, l6, l7] (r.toList ++ []) h1 Q)) ∧
    (∀ (d : Nat) (l0 : Value) (l1 : Value) (l2 : Value) (l3 : Value) (l4 : Value) (l5 : Value) (l6 : Value) (l7 : Value) (x0 : Int32) (h : zMm) (Q : Option Value → zMm → Prop), zWp d zi_117 none 4 [l0, l1, l2, l3, l4, l5, l6, l7] [.int x0] h Q = if x0 = 0 then zWp d zi_117 none 14 [l0, l1, l2, l3, l4, l5, l6, l7] [] h Q else zWp d zi_117 none 7 [l0, l1, l2, l3, l4, l5, l6, l7] [] h Q) ∧
    (∀ (d : Nat) (l0 : Value) (l1 : Value) (l2 : Value) (l3 : Int32) (l4 : Value) (l5 : Value) (l6 : Value) (l7 : Value)  (h : zMm) (Q : Option Value → zMm → Prop), zWp d zi_117 none 7 [l0, l1, l2, .int l3, l4, l5, l6, l7] [] h Q = zWp d zi_117 none 8 [l0, l1, l2, .int l3, l4, l5, l6, l7] [.int l3] h Q) ∧
    (∀ (d : Nat) (l0 : Value) (l1 : Value) (l2 : Value) (l3 : Value) (l4 : Value) (l5 : Value) (l6 : Value) (l7 : Value) (x0 : Int32) (h : zMm) (Q : Option Value → zMm → Prop), zWp d zi_117 none 8 [l0, l1, l2, l3, l4, l5, l6, l7] [.int x0] h Q = zWM d 120 [.int x0] h (fun r h1 => zWp d zi_117 none 11 [l0, l1, l2, l3, l4, l5, l6, l7] (r.toList ++ []) h1 Q)) ∧
    (∀ (d : Nat) (l0 : Value) (l1 : Value) (l2 : Value) (l3 : Value) (l4 : Value) (l5 : Value) (l6 : Value) (l7 : Value) (x0 : Int32) (h : zMm) (Q : Option Value → zMm → Prop), zWp d zi_117 none 11 [l0, l1, l2, l3, l4, l5, l6, l7] [.int x0] h Q = if x0 = 0 then zWp d zi_117 none 14 [l0, l1, l2, l3, l4, l5, l6, l7] [] h Q else zWp d zi_117 none 16 [l0, l1, l2, l3, l4, l5, l6, l7] [] h Q) ∧
    (∀ (d : Nat) (l0 : Value) (l1 : Value) (l2 : Value) (l3 : Value) (l4 : Value) (l5 : Value) (l6 : Value) (l7 : Value)  (h : zMm) (Q : Option Value → zMm → Prop), zWp d zi_117 none 14 [l0, l1, l2, l3, l4, l5, l6, l7] [] h Q = zWp d zi_117 none 15 [l0, l1, l2, l3, l4, l5, l6, l7] [.int (-1)] h Q) ∧
    (∀ (d : Nat) (l0 : Value) (l1 : Value) (l2 : Value) (l3 : Value) (l4 : Value) (l5 : Value) (l6 : Value) (l7 : Value) (x0 : Int32) (h : zMm) (Q : Option Value → zMm → Prop), zWp d zi_117 none 15 [l0, l1, l2, l3, l4, l5, l6, l7] [.int x0] h Q = Q (some (.int x0)) h) ∧
    (∀ (d : Nat) (l0 : Nat) (l1 : Value) (l2 : Value) (l3 : Value) (l4 : Value) (l5 : Value) (l6 : Value) (l7 : Value)  (h : zMm) (Q : Option Value → zMm → Prop), zWp d zi_117 none 16 [.ref l0, l1, l2, l3, l4, l5, l6, l7] [] h Q = zWp d zi_117 none 17 [.ref l0, l1, l2, l3, l4, l5, l6, l7] [.ref l0] h Q) ∧
    (∀ (d : Nat) (l0 : Value) (l1 : Value) (l2 : Value) (l3 : Value) (l4 : Value) (l5 : Value) (l6 : Value) (l7 : Value) (x0 : Nat) (I : Nat → Nat → Int32) (L : Nat → Nat → Int64) (P : Nat → Nat → Option Nat) (Q : Option Value → zMm → Prop), zSH[x0]? = some (.inl 9) → zWp d zi_117 none 17 [l0, l1, l2, l3, l4, l5, l6, l7] [.ref x0] (zSH, I, L, P) Q = zWp d zi_117 none 20 [l0, l1, l2, l3, l4, l5, l6, l7] [va_rf (P x0 10)] (zSH, I, L, P) Q) ∧
    (∀ (d : Nat) (l0 : Value) (l1 : Int32) (l2 : Value) (l3 : Value) (l4 : Value) (l5 : Value) (l6 : Value) (l7 : Value) (x0 : Nat) (h : zMm) (Q : Option Value → zMm → Prop), zWp d zi_117 none 20 [l0, .int l1, l2, l3, l4, l5, l6, l7] [.ref x0] h Q = zWp d zi_117 none 21 [l0, .int l1, l2, l3, l4, l5, l6, l7] [.int l1, .ref x0] h Q) ∧
    (∀ (d : Nat) (l0 : Value) (l1 : Value) (l2 : Value) (l3 : Value) (l4 : Value) (l5 : Value) (l6 : Value) (l7 : Value) (x1 : Int32) (x0 : Nat) (I : Nat → Nat → Int32) (L : Nat → Nat → Int64) (P : Nat → Nat → Option Nat) (Q : Option Value → zMm → Prop), zAk zSH x0 = some (.object "PalletSky$Shelf") → zWp d zi_117 none 21 [l0, l1, l2, l3, l4, l5, l6, l7] [.int x1, .ref x0] (zSH, I, L, P) Q = (vp_in x1 (zAn zSH x0) ∧ zWp d zi_117 none 22 [l0, l1, l2, l3, l4, l5, l6, l7] [va_rf (P x0 x1.toNatClampNeg)] (zSH, I, L, P) Q)) ∧
    (∀ (d : Nat) (l0 : Value) (l1 : Value) (l2 : Value) (l3 : Value) (l4 : Value) (l5 : Int32) (l6 : Value) (l7 : Value) (x0 : Nat) (h : zMm) (Q : Option Value → zMm → Prop), zWp d zi_117 none 22 [l0, l1, l2, l3, l4, .int l5, l6, l7] [.ref x0] h Q = zWp d zi_117 none 24 [l0, l1, l2, l3, l4, .int l5, .ref x0, l7] [] h Q) ∧
    (∀ (d : Nat) (l0 : Nat) (l1 : Value) (l2 : Value) (l3 : Value) (l4 : Value) (l5 : Value) (l6 : Value) (l7 : Value)  (h : zMm) (Q : Option Value → zMm → Prop), zWp d zi_117 none 24 [.ref l0, l1, l2, l3, l4, l5, l6, l7] [] h Q = zWp d zi_117 none 25 [.ref l0, l1, l2, l3, l4, l5, l6, l7] [.ref l0] h Q) ∧
    (∀ (d : Nat) (l0 : Value) (l1 : Value) (l2 : Value) (l3 : Value) (l4 : Value) (l5 : Value) (l6 : Value) (l7 : Value) (x0 : Nat) (I : Nat → Nat → Int32) (L : Nat → Nat → Int64) (P : Nat → Nat → Option Nat) (Q : Option Value → zMm → Prop), zSH[x0]? = some (.inl 9) → zWp d zi_117 none 25 [l0, l1, l2, l3, l4, l5, l6, l7] [.ref x0] (zSH, I, L, P) Q = zWp d zi_117 none 28 [l0, l1, l2, l3, l4, l5, l6, l7] [va_rf (P x0 10)] (zSH, I, L, P) Q) ∧
    (∀ (d : Nat) (l0 : Value) (l1 : Value) (l2 : Value) (l3 : Int32) (l4 : Value) (l5 : Value) (l6 : Value) (l7 : Value) (x0 : Nat) (h : zMm) (Q : Option Value → zMm → Prop), zWp d zi_117 none 28 [l0, l1, l2, .int l3, l4, l5, l6, l7] [.ref x0] h Q = zWp d zi_117 none 29 [l0, l1, l2, .int l3, l4, l5, l6, l7] [.int l3, .ref x0] h Q) ∧
    (∀ (d : Nat) (l0 : Value) (l1 : Value) (l2 : Value) (l3 : Value) (l4 : Value) (l5 : Value) (l6 : Value) (l7 : Value) (x1 : Int32) (x0 : Nat) (I : Nat → Nat → Int32) (L : Nat → Nat → Int64) (P : Nat → Nat → Option Nat) (Q : Option Value → zMm → Prop), zAk zSH x0 = some (.object "PalletSky$Shelf") → zWp d zi_117 none 29 [l0, l1, l2, l3, l4, l5, l6, l7] [.int x1, .ref x0] (zSH, I, L, P) Q = (vp_in x1 (zAn zSH x0) ∧ zWp d zi_117 none 30 [l0, l1, l2, l3, l4, l5, l6, l7] [va_rf (P x0 x1.toNatClampNeg)] (zSH, I, L, P) Q)) ∧
    (∀ (d : Nat) (l0 : Value) (l1 : Value) (l2 : Value) (l3 : Value) (l4 : Value) (l5 : Value) (l6 : Nat) (l7 : Value) (x0 : Nat) (h : zMm) (Q : Option Value → zMm → Prop), zWp d zi_117 none 30 [l0, l1, l2, l3, l4, l5, .ref l6, l7] [.ref x0] h Q = zWp d zi_117 none 32 [l0, l1, l2, l3, l4, l5, .ref l6, .ref x0] [] h Q) ∧
    (∀ (d : Nat) (l0 : Value) (l1 : Value) (l2 : Value) (l3 : Value) (l4 : Value) (l5 : Value) (l6 : Nat) (l7 : Value)  (h : zMm) (Q : Option Value → zMm → Prop), zWp d zi_117 none 32 [l0, l1, l2, l3, l4, l5, .ref l6, l7] [] h Q = zWp d zi_117 none 34 [l0, l1, l2, l3, l4, l5, .ref l6, l7] [.ref l6] h Q) ∧
    (∀ (d : Nat) (l0 : Value) (l1 : Value) (l2 : Value) (l3 : Value) (l4 : Value) (l5 : Value) (l6 : Value) (l7 : Value) (x0 : Nat) (I : Nat → Nat → Int32) (L : Nat → Nat → Int64) (P : Nat → Nat → Option Nat) (Q : Option Value → zMm → Prop), zSH[x0]? = some (.inl 6) → zWp d zi_117 none 34 [l0, l1, l2, l3, l4, l5, l6, l7] [.ref x0] (zSH, I, L, P) Q = zWp d zi_117 none 37 [l0, l1, l2, l3, l4, l5, l6, l7] [.int (I x0 1)] (zSH, I, L, P) Q) ∧
    (∀ (d : Nat) (l0 : Value) (l1 : Value) (l2 : Value) (l3 : Value) (l4 : Value) (l5 : Value) (l6 : Value) (l7 : Value) (x0 : Int32) (h : zMm) (Q : Option Value → zMm → Prop), zWp d zi_117 none 37 [l0, l1, l2, l3, l4, l5, l6, l7] [.int x0] h Q = zWp d zi_117 none 39 [l0, l1, l2, l3, l4, l5, l6, l7] [.int (-2), .int x0] h Q) ∧
    (∀ (d : Nat) (l0 : Value) (l1 : Value) (l2 : Value) (l3 : Value) (l4 : Value) (l5 : Value) (l6 : Value) (l7 : Value) (x1 : Int32) (x0 : Int32) (h : zMm) (Q : Option Value → zMm → Prop), zWp d zi_117 none 39 [l0, l1, l2, l3, l4, l5, l6, l7] [.int x1, .int x0] h Q = if x0 = x1 then zWp d zi_117 none 52 [l0, l1, l2, l3, l4, l5, l6, l7] [] h Q else zWp d zi_117 none 42 [l0, l1, l2, l3, l4, l5, l6, l7] [] h Q) ∧
    (∀ (d : Nat) (l0 : Value) (l1 : Value) (l2 : Value) (l3 : Value) (l4 : Value) (l5 : Value) (l6 : Value) (l7 : Nat)  (h : zMm) (Q : Option Value → zMm → Prop), zWp d zi_117 none 42 [l0, l1, l2, l3, l4, l5, l6, .ref l7] [] h Q = zWp d zi_117 none 44 [l0, l1, l2, l3, l4, l5, l6, .ref l7] [.ref l7] h Q) ∧
    (∀ (d : Nat) (l0 : Value) (l1 : Value) (l2 : Value) (l3 : Value) (l4 : Value) (l5 : Value) (l6 : Value) (l7 : Value) (x0 : Nat) (I : Nat → Nat → Int32) (L : Nat → Nat → Int64) (P : Nat → Nat → Option Nat) (Q : Option Value → zMm → Prop), zSH[x0]? = some (.inl 6) → zWp d zi_117 none 44 [l0, l1, l2, l3, l4, l5, l6, l7] [.ref x0] (zSH, I, L, P) Q = zWp d zi_117 none 47 [l0, l1, l2, l3, l4, l5, l6, l7] [.int (I x0 1)] (zSH, I, L, P) Q) ∧
    (∀ (d : Nat) (l0 : Value) (l1 : Value) (l2 : Value) (l3 : Value) (l4 : Value) (l5 : Value) (l6 : Value) (l7 : Value) (x0 : Int32) (h : zMm) (Q : Option Value → zMm → Prop), zWp d zi_117 none 47 [l0, l1, l2, l3, l4, l5, l6, l7] [.int x0] h Q = zWp d zi_117 none 49 [l0, l1, l2, l3, l4, l5, l6, l7] [.int (-2), .int x0] h Q) ∧
    (∀ (d : Nat) (l0 : Value) (l1 : Value) (l2 : Value) (l3 : Value) (l4 : Value) (l5 : Value) (l6 : Value) (l7 : Value) (x1 : Int32) (x0 : Int32) (h : zMm) (Q : Option Value → zMm → Prop), zWp d zi_117 none 49 [l0, l1, l2, l3, l4, l5, l6, l7] [.int x1, .int x0] h Q = if x0 = x1 then zWp d zi_117 none 52 [l0, l1, l2, l3, l4, l5, l6, l7] [] h Q else zWp d zi_117 none 55 [l0, l1, l2, l3, l4, l5, l6, l7] [] h Q) ∧
    (∀ (d : Nat) (l0 : Value) (l1 : Value) (l2 : Value) (l3 : Value) (l4 : Value) (l5 : Value) (l6 : Value) (l7 : Value)  (h : zMm) (Q : Option Value → zMm → Prop), zWp d zi_117 none 52 [l0, l1, l2, l3, l4, l5, l6, l7] [] h Q = zWp d zi_117 none 54 [l0, l1, l2, l3, l4, l5, l6, l7] [.int (-11)] h Q) ∧
    (∀ (d : Nat) (l0 : Value) (l1 : Value) (l2 : Value) (l3 : Value) (l4 : Value) (l5 : Value) (l6 : Value) (l7 : Value) (x0 : Int32) (h : zMm) (Q : Option Value → zMm → Prop), zWp d zi_117 none 54 [l0, l1, l2, l3, l4, l5, l6, l7] [.int x0] h Q = Q (some (.int x0)) h) ∧
    (∀ (d : Nat) (l0 : Value) (l1 : Value) (l2 : Value) (l3 : Value) (l4 : Value) (l5 : Value) (l6 : Nat) (l7 : Value)  (h : zMm) (Q : Option Value → zMm → Prop), zWp d zi_117 none 55 [l0, l1, l2, l3, l4, l5, .ref l6, l7] [] h Q = zWp d zi_117 none 57 [l0, l1, l2, l3, l4, l5, .ref l6, l7] [.ref l6] h Q) ∧
    (∀ (d : Nat) (l0 : Value) (l1 : Value) (l2 : Value) (l3 : Value) (l4 : Value) (l5 : Value) (l6 : Value) (l7 : Value) (x0 : Nat) (I : Nat → Nat → Int32) (L : Nat → Nat → Int64) (P : Nat → Nat → Option Nat) (Q : Option Value → zMm → Prop), zSH[x0]? = some (.inl 6) → zWp d zi_117 none 57 [l0, l1, l2, l3, l4, l5, l6, l7] [.ref x0] (zSH, I, L, P) Q = zWp d zi_117 none 60 [l0, l1, l2, l3, l4, l5, l6, l7] [.int (I x0 1)] (zSH, I, L, P) Q) ∧
    (∀ (d : Nat) (l0 : Value) (l1 : Value) (l2 : Value) (l3 : Value) (l4 : Value) (l5 : Value) (l6 : Value) (l7 : Value) (x0 : Int32) (h : zMm) (Q : Option Value → zMm → Prop), zWp d zi_117 none 60 [l0, l1, l2, l3, l4, l5, l6, l7] [.int x0] h Q = zWM d 48 [.int x0] h (fun r h1 => zWp d zi_117 none 63 [l0, l1, l2, l3, l4, l5, l6, l7] (r.toList ++ []) h1 Q)) ∧
    (∀ (d : Nat) (l0 : Value) (l1 : Value) (l2 : Value) (l3 : Value) (l4 : Value) (l5 : Value) (l6 : Value) (l7 : Value) (x0 : Int32) (h : zMm) (Q : Option Value → zMm → Prop), zWp d zi_117 none 63 [l0, l1, l2, l3, l4, l5, l6, l7] [.int x0] h Q = if x0 = 0 then zWp d zi_117 none 79 [l0, l1, l2, l3, l4, l5, l6, l7] [] h Q else zWp d zi_117 none 66 [l0, l1, l2, l3, l4, l5, l6, l7] [] h Q) ∧
    (∀ (d : Nat) (l0 : Value) (l1 : Value) (l2 : Value) (l3 : Value) (l4 : Value) (l5 : Value) (l6 : Nat) (l7 : Value)  (h : zMm) (Q : Option Value → zMm → Prop), zWp d zi_117 none 66 [l0, l1, l2, l3, l4, l5, .ref l6, l7] [] h Q = zWp d zi_117 none 68 [l0, l1, l2, l3, l4, l5, .ref l6, l7] [.ref l6] h Q) ∧
    (∀ (d : Nat) (l0 : Value) (l1 : Value) (l2 : Value) (l3 : Value) (l4 : Value) (l5 : Value) (l6 : Value) (l7 : Value) (x0 : Nat) (I : Nat → Nat → Int32) (L : Nat → Nat → Int64) (P : Nat → Nat → Option Nat) (Q : Option Value → zMm → Prop), zSH[x0]? = some (.inl 6) → zWp d zi_117 none 68 [l0, l1, l2, l3, l4, l5, l6, l7] [.ref x0] (zSH, I, L, P) Q = zWp d zi_117 none 71 [l0, l1, l2, l3, l4, l5, l6, l7] [.int (I x0 1)] (zSH, I, L, P) Q) ∧
    (∀ (d : Nat) (l0 : Value) (l1 : Value) (l2 : Value) (l3 : Value) (l4 : Value) (l5 : Value) (l6 : Value) (l7 : Nat) (x0 : Int32) (h : zMm) (Q : Option Value → zMm → Prop), zWp d zi_117 none 71 [l0, l1, l2, l3, l4, l5, l6, .ref l7] [.int x0] h Q = zWp d zi_117 none 73 [l0, l1, l2, l3, l4, l5, l6, .ref l7] [.ref l7, .int x0] h Q) ∧
    (∀ (d : Nat) (l0 : Value) (l1 : Value) (l2 : Value) (l3 : Value) (l4 : Value) (l5 : Value) (l6 : Value) (l7 : Value) (x1 : Nat) (x0 : Int32) (I : Nat → Nat → Int32) (L : Nat → Nat → Int64) (P : Nat → Nat → Option Nat) (Q : Option Value → zMm → Prop), zSH[x1]? = some (.inl 6) → zWp d zi_117 none 73 [l0, l1, l2, l3, l4, l5, l6, l7] [.ref x1, .int x0] (zSH, I, L, P) Q = zWp d zi_117 none 76 [l0, l1, l2, l3, l4, l5, l6, l7] [.int (I x1 1), .int x0] (zSH, I, L, P) Q) ∧
    (∀ (d : Nat) (l0 : Value) (l1 : Value) (l2 : Value) (l3 : Value) (l4 : Value) (l5 : Value) (l6 : Value) (l7 : Value) (x1 : Int32) (x0 : Int32) (h : zMm) (Q : Option Value → zMm → Prop), zWp d zi_117 none 76 [l0, l1, l2, l3, l4, l5, l6, l7] [.int x1, .int x0] h Q = if x0 = x1 then zWp d zi_117 none 82 [l0, l1, l2, l3, l4, l5, l6, l7] [] h Q else zWp d zi_117 none 79 [l0, l1, l2, l3, l4, l5, l6, l7] [] h Q) ∧
    (∀ (d : Nat) (l0 : Value) (l1 : Value) (l2 : Value) (l3 : Value) (l4 : Value) (l5 : Value) (l6 : Value) (l7 : Value)  (h : zMm) (Q : Option Value → zMm → Prop), zWp d zi_117 none 79 [l0, l1, l2, l3, l4, l5, l6, l7] [] h Q = zWp d zi_117 none 81 [l0, l1, l2, l3, l4, l5, l6, l7] [.int (-12)] h Q) ∧
    (∀ (d : Nat) (l0 : Value) (l1 : Value) (l2 : Value) (l3 : Value) (l4 : Value) (l5 : Value) (l6 : Value) (l7 : Value) (x0 : Int32) (h : zMm) (Q : Option Value → zMm → Prop), zWp d zi_117 none 81 [l0, l1, l2, l3, l4, l5, l6, l7] [.int x0] h Q = Q (some (.int x0)) h) ∧
    (∀ (d : Nat) (l0 : Value) (l1 : Value) (l2 : Value) (l3 : Value) (l4 : Value) (l5 : Value) (l6 : Nat) (l7 : Value)  (h : zMm) (Q : Option Value → zMm → Prop), zWp d zi_117 none 82 [l0, l1, l2, l3, l4, l5, .ref l6, l7] [] h Q = zWp d zi_117 none 84 [l0, l1, l2, l3, l4, l5, .ref l6, l7] [.ref l6] h Q) ∧
    (∀ (d : Nat) (l0 : Value) (l1 : Value) (l2 : Int32) (l3 : Value) (l4 : Value) (l5 : Value) (l6 : Value) (l7 : Value) (x0 : Nat) (h : zMm) (Q : Option Value → zMm → Prop), zWp d zi_117 none 84 [l0, l1, .int l2, l3, l4, l5, l6, l7] [.ref x0] h Q = zWp d zi_117 none 85 [l0, l1, .int l2, l3, l4, l5, l6, l7] [.int l2, .ref x0] h Q) ∧
    (∀ (d : Nat) (l0 : Value) (l1 : Value) (l2 : Value) (l3 : Value) (l4 : Value) (l5 : Int32) (l6 : Value) (l7 : Value) (x1 : Int32) (x0 : Nat) (h : zMm) (Q : Option Value → zMm → Prop), zWp d zi_117 none 85 [l0, l1, l2, l3, l4, .int l5, l6, l7] [.int x1, .ref x0] h Q = zWp d zi_117 none 87 [l0, l1, l2, l3, l4, .int l5, l6, l7] [.int l5, .int x1, .ref x0] h Q) ∧
    (∀ (d : Nat) (l0 : Value) (l1 : Value) (l2 : Value) (l3 : Value) (l4 : Value) (l5 : Value) (l6 : Value) (l7 : Value) (x2 : Int32) (x1 : Int32) (x0 : Nat) (I : Nat → Nat → Int32) (L : Nat → Nat → Int64) (P : Nat → Nat → Option Nat) (Q : Option Value → zMm → Prop), zSH[x0]? = some (.inl 6) → zWp d zi_117 none 87 [l0, l1, l2, l3, l4, l5, l6, l7] [.int x2, .int x1, .ref x0] (zSH, I, L, P) Q = zWM d 50 [.ref x0, .int x1, .int x2] (zSH, I, L, P) (fun r h1 => zWp d zi_117 none 90 [l0, l1, l2, l3, l4, l5, l6, l7] (r.toList ++ []) h1 Q)) ∧
    (∀ (d : Nat) (l0 : Value) (l1 : Value) (l2 : Value) (l3 : Value) (l4 : Value) (l5 : Value) (l6 : Value) (l7 : Value) (x0 : Int32) (h : zMm) (Q : Option Value → zMm → Prop), zWp d zi_117 none 90 [l0, l1, l2, l3, l4, l5, l6, l7] [.int x0] h Q = if x0 = 0 then zWp d zi_117 none 105 [l0, l1, l2, l3, l4, l5, l6, l7] [] h Q else zWp d zi_117 none 93 [l0, l1, l2, l3, l4, l5, l6, l7] [] h Q) ∧
    (∀ (d : Nat) (l0 : Value) (l1 : Value) (l2 : Value) (l3 : Value) (l4 : Value) (l5 : Value) (l6 : Value) (l7 : Nat)  (h : zMm) (Q : Option Value → zMm → Prop), zWp d zi_117 none 93 [l0, l1, l2, l3, l4, l5, l6, .ref l7] [] h Q = zWp d zi_117 none 95 [l0, l1, l2, l3, l4, l5, l6, .ref l7] [.ref l7] h Q) ∧
    (∀ (d : Nat) (l0 : Value) (l1 : Value) (l2 : Value) (l3 : Value) (l4 : Int32) (l5 : Value) (l6 : Value) (l7 : Value) (x0 : Nat) (h : zMm) (Q : Option Value → zMm → Prop), zWp d zi_117 none 95 [l0, l1, l2, l3, .int l4, l5, l6, l7] [.ref x0] h Q = zWp d zi_117 none 97 [l0, l1, l2, l3, .int l4, l5, l6, l7] [.int l4, .ref x0] h Q) ∧
    (∀ (d : Nat) (l0 : Value) (l1 : Value) (l2 : Value) (l3 : Value) (l4 : Value) (l5 : Int32) (l6 : Value) (l7 : Value) (x1 : Int32) (x0 : Nat) (h : zMm) (Q : Option Value → zMm → Prop), zWp d zi_117 none 97 [l0, l1, l2, l3, l4, .int l5, l6, l7] [.int x1, .ref x0] h Q = zWp d zi_117 none 99 [l0, l1, l2, l3, l4, .int l5, l6, l7] [.int l5, .int x1, .ref x0] h Q) ∧
    (∀ (d : Nat) (l0 : Value) (l1 : Value) (l2 : Value) (l3 : Value) (l4 : Value) (l5 : Value) (l6 : Value) (l7 : Value) (x2 : Int32) (x1 : Int32) (x0 : Nat) (I : Nat → Nat → Int32) (L : Nat → Nat → Int64) (P : Nat → Nat → Option Nat) (Q : Option Value → zMm → Prop), zSH[x0]? = some (.inl 6) → zWp d zi_117 none 99 [l0, l1, l2, l3, l4, l5, l6, l7] [.int x2, .int x1, .ref x0] (zSH, I, L, P) Q = zWM d 50 [.ref x0, .int x1, .int x2] (zSH, I, L, P) (fun r h1 => zWp d zi_117 none 102 [l0, l1, l2, l3, l4, l5, l6, l7] (r.toList ++ []) h1 Q)) ∧
    (∀ (d : Nat) (l0 : Value) (l1 : Value) (l2 : Value) (l3 : Value) (l4 : Value) (l5 : Value) (l6 : Value) (l7 : Value) (x0 : Int32) (h : zMm) (Q : Option Value → zMm → Prop), zWp d zi_117 none 102 [l0, l1, l2, l3, l4, l5, l6, l7] [.int x0] h Q = if x0 = 0 then zWp d zi_117 none 105 [l0, l1, l2, l3, l4, l5, l6, l7] [] h Q else zWp d zi_117 none 108 [l0, l1, l2, l3, l4, l5, l6, l7] [] h Q) ∧
    (∀ (d : Nat) (l0 : Value) (l1 : Value) (l2 : Value) (l3 : Value) (l4 : Value) (l5 : Value) (l6 : Value) (l7 : Value)  (h : zMm) (Q : Option Value → zMm → Prop), zWp d zi_117 none 105 [l0, l1, l2, l3, l4, l5, l6, l7] [] h Q = zWp d zi_117 none 107 [l0, l1, l2, l3, l4, l5, l6, l7] [.int (-13)] h Q) ∧
    (∀ (d : Nat) (l0 : Value) (l1 : Value) (l2 : Value) (l3 : Value) (l4 : Value) (l5 : Value) (l6 : Value) (l7 : Value) (x0 : Int32) (h : zMm) (Q : Option Value → zMm → Prop), zWp d zi_117 none 107 [l0, l1, l2, l3, l4, l5, l6, l7] [.int x0] h Q = Q (some (.int x0)) h) ∧
    (∀ (d : Nat) (l0 : Value) (l1 : Value) (l2 : Value) (l3 : Value) (l4 : Value) (l5 : Value) (l6 : Nat) (l7 : Value)  (h : zMm) (Q : Option Value → zMm → Prop), zWp d zi_117 none 108 [l0, l1, l2, l3, l4, l5, .ref l6, l7] [] h Q = zWp d zi_117 none 110 [l0, l1, l2, l3, l4, l5, .ref l6, l7] [.ref l6] h Q) ∧
    (∀ (d : Nat) (l0 : Value) (l1 : Value) (l2 : Value) (l3 : Value) (l4 : Value) (l5 : Value) (l6 : Value) (l7 : Value) (x0 : Nat) (I : Nat → Nat → Int32) (L : Nat → Nat → Int64) (P : Nat → Nat → Option Nat) (Q : Option Value → zMm → Prop), zSH[x0]? = some (.inl 6) → zWp d zi_117 none 110 [l0, l1, l2, l3, l4, l5, l6, l7] [.ref x0] (zSH, I, L, P) Q = zWp d zi_117 none 113 [l0, l1, l2, l3, l4, l5, l6, l7] [va_rf (P x0 0)] (zSH, I, L, P) Q) ∧
    (∀ (d : Nat) (l0 : Value) (l1 : Value) (l2 : Int32) (l3 : Value) (l4 : Value) (l5 : Value) (l6 : Value) (l7 : Value) (x0 : Nat) (h : zMm) (Q : Option Value → zMm → Prop), zWp d zi_117 none 113 [l0, l1, .int l2, l3, l4, l5, l6, l7] [.ref x0] h Q = zWp d zi_117 none 114 [l0, l1, .int l2, l3, l4, l5, l6, l7] [.int l2, .ref x0] h Q) ∧
    (∀ (d : Nat) (l0 : Value) (l1 : Value) (l2 : Value) (l3 : Value) (l4 : Value) (l5 : Value) (l6 : Value) (l7 : Nat) (x1 : Int32) (x0 : Nat) (h : zMm) (Q : Option Value → zMm → Prop), zWp d zi_117 none 114 [l0, l1, l2, l3, l4, l5, l6, .ref l7] [.int x1, .ref x0] h Q = zWp d zi_117 none 116 [l0, l1, l2, l3, l4, l5, l6, .ref l7] [.ref l7, .int x1, .ref x0] h Q) ∧
    (∀ (d : Nat) (l0 : Value) (l1 : Value) (l2 : Value) (l3 : Value) (l4 : Value) (l5 : Value) (l6 : Value) (l7 : Value) (x2 : Nat) (x1 : Int32) (x0 : Nat) (I : Nat → Nat → Int32) (L : Nat → Nat → Int64) (P : Nat → Nat → Option Nat) (Q : Option Value → zMm → Prop), zSH[x2]? = some (.inl 6) → zWp d zi_117 none 116 [l0, l1, l2, l3, l4, l5, l6, l7] [.ref x2, .int x1, .ref x0] (zSH, I, L, P) Q = zWp d zi_117 none 119 [l0, l1, l2, l3, l4, l5, l6, l7] [va_rf (P x2 0), .int x1, .ref x0] (zSH, I, L, P) Q) ∧
    (∀ (d : Nat) (l0 : Value) (l1 : Value) (l2 : Value) (l3 : Value) (l4 : Int32) (l5 : Value) (l6 : Value) (l7 : Value) (x2 : Nat) (x1 : Int32) (x0 : Nat) (h : zMm) (Q : Option Value → zMm → Prop), zWp d zi_117 none 119 [l0, l1, l2, l3, .int l4, l5, l6, l7] [.ref x2, .int x1, .ref x0] h Q = zWp d zi_117 none 121 [l0, l1, l2, l3, .int l4, l5, l6, l7] [.int l4, .ref x2, .int x1, .ref x0] h Q) ∧
    (∀ (d : Nat) (l0 : Value) (l1 : Value) (l2 : Value) (l3 : Value) (l4 : Value) (l5 : Int32) (l6 : Value) (l7 : Value) (x3 : Int32) (x2 : Nat) (x1 : Int32) (x0 : Nat) (h : zMm) (Q : Option Value → zMm → Prop), zWp d zi_117 none 121 [l0, l1, l2, l3, l4, .int l5, l6, l7] [.int x3, .ref x2, .int x1, .ref x0] h Q = zWp d zi_117 none 123 [l0, l1, l2, l3, l4, .int l5, l6, l7] [.int l5, .int x3, .ref x2, .int x1, .ref x0] h Q) ∧
    (∀ (d : Nat) (l0 : Value) (l1 : Value) (l2 : Value) (l3 : Value) (l4 : Value) (l5 : Value) (l6 : Value) (l7 : Value) (x4 : Int32) (x3 : Int32) (x2 : Nat) (x1 : Int32) (x0 : Nat) (I : Nat → Nat → Int32) (L : Nat → Nat → Int64) (P : Nat → Nat → Option Nat) (Q : Option Value → zMm → Prop), zAk zSH x0 = some .long → zAk zSH x2 = some .long → 0 ≤ x1 → 0 ≤ x3 → 0 ≤ x4 → x1.toNatClampNeg + x4.toNatClampNeg ≤ zAn zSH x0 → x3.toNatClampNeg + x4.toNatClampNeg ≤ zAn zSH x2 → zWp d zi_117 none 123 [l0, l1, l2, l3, l4, l5, l6, l7] [.int x4, .int x3, .ref x2, .int x1, .ref x0] (zSH, I, L, P) Q = zWp d zi_117 none 126 [l0, l1, l2, l3, l4, l5, l6, l7] [] (zSH, I, zw L x2 (va_cpy (L x0) (L x2) x1.toNatClampNeg x3.toNatClampNeg x4.toNatClampNeg), P) Q) ∧
    (∀ (d : Nat) (l0 : Value) (l1 : Value) (l2 : Value) (l3 : Value) (l4 : Value) (l5 : Int32) (l6 : Value) (l7 : Value)  (h : zMm) (Q : Option Value → zMm → Prop), zWp d zi_117 none 126 [l0, l1, l2, l3, l4, .int l5, l6, l7] [] h Q = zWp d zi_117 none 128 [l0, l1, l2, l3, l4, .int l5, l6, l7] [.int l5] h Q) ∧
    (∀ (d : Nat) (l0 : Value) (l1 : Value) (l2 : Value) (l3 : Value) (l4 : Value) (l5 : Value) (l6 : Value) (l7 : Value) (x0 : Int32) (h : zMm) (Q : Option Value → zMm → Prop), zWp d zi_117 none 128 [l0, l1, l2, l3, l4, l5, l6, l7] [.int x0] h Q = Q (some (.int x0)) h) :=
  ⟨(fun d l0 l1 l2 l3 l4 l5 l6 l7  h Q => zr_iload_n rfl rfl),
   (fun d l0 l1 l2 l3 l4 l5 l6 l7 x0 h Q => zr_sta (as := [.int x0]) (rest := []) rfl lm_9_124 (by decide) m_120 kd_120 rfl (Nat.le_of_ble_eq_true rfl)),
   (fun d l0 l1 l2 l3 l4 l5 l6 l7 x0 h Q => zr_if_eq rfl (by decide)),
   (fun d l0 l1 l2 l3 l4 l5 l6 l7  h Q => zr_iload_n rfl rfl),
   (fun d l0 l1 l2 l3 l4 l5 l6 l7 x0 h Q => zr_sta (as := [.int x0]) (rest := []) rfl lm_9_124 (by decide) m_120 kd_120 rfl (Nat.le_of_ble_eq_true rfl)),
   (fun d l0 l1 l2 l3 l4 l5 l6 l7 x0 h Q => zr_if_ne rfl (by decide)),
   (fun d l0 l1 l2 l3 l4 l5 l6 l7  h Q => zr_iconst rfl (by decide)),
   (fun d l0 l1 l2 l3 l4 l5 l6 l7 x0 h Q => zr_iret rfl rfl),
   (fun d l0 l1 l2 l3 l4 l5 l6 l7  h Q => zr_aload_n rfl rfl),
   (fun d l0 l1 l2 l3 l4 l5 l6 l7 x0 I L P Q p0 => zr_getQ rfl lf_9_69 (fun _ _ _ => rfl) p0),
   (fun d l0 l1 l2 l3 l4 l5 l6 l7 x0 h Q => zr_iload_n rfl rfl),
   (fun d l0 l1 l2 l3 l4 l5 l6 l7 x1 x0 I L P Q p0 => zr_qldO rfl p0),
   (fun d l0 l1 l2 l3 l4 l5 l6 l7 x0 h Q => zr_astore (n := 6) rfl (Nat.le_of_ble_eq_true rfl) rfl),
   (fun d l0 l1 l2 l3 l4 l5 l6 l7  h Q => zr_aload_n rfl rfl),
   (fun d l0 l1 l2 l3 l4 l5 l6 l7 x0 I L P Q p0 => zr_getQ rfl lf_9_69 (fun _ _ _ => rfl) p0),
   (fun d l0 l1 l2 l3 l4 l5 l6 l7 x0 h Q => zr_iload_n rfl rfl),
   (fun d l0 l1 l2 l3 l4 l5 l6 l7 x1 x0 I L P Q p0 => zr_qldO rfl p0),
   (fun d l0 l1 l2 l3 l4 l5 l6 l7 x0 h Q => zr_astore (n := 7) rfl (Nat.le_of_ble_eq_true rfl) rfl),
   (fun d l0 l1 l2 l3 l4 l5 l6 l7  h Q => zr_aload rfl rfl),
   (fun d l0 l1 l2 l3 l4 l5 l6 l7 x0 I L P Q p0 => zr_getI rfl lf_9_128 (fun _ _ _ => rfl) p0),
   (fun d l0 l1 l2 l3 l4 l5 l6 l7 x0 h Q => zr_bipush rfl (by decide)),
   (fun d l0 l1 l2 l3 l4 l5 l6 l7 x1 x0 h Q => zr_ic_eq rfl (by decide)),
   (fun d l0 l1 l2 l3 l4 l5 l6 l7  h Q => zr_aload rfl rfl),
   (fun d l0 l1 l2 l3 l4 l5 l6 l7 x0 I L P Q p0 => zr_getI rfl lf_9_128 (fun _ _ _ => rfl) p0),
   (fun d l0 l1 l2 l3 l4 l5 l6 l7 x0 h Q => zr_bipush rfl (by decide)),
   (fun d l0 l1 l2 l3 l4 l5 l6 l7 x1 x0 h Q => zr_ic_ne rfl (by decide)),
   (fun d l0 l1 l2 l3 l4 l5 l6 l7  h Q => zr_bipush rfl (by decide)),
   (fun d l0 l1 l2 l3 l4 l5 l6 l7 x0 h Q => zr_iret rfl rfl),
   (fun d l0 l1 l2 l3 l4 l5 l6 l7  h Q => zr_aload rfl rfl),
   (fun d l0 l1 l2 l3 l4 l5 l6 l7 x0 I L P Q p0 => zr_getI rfl lf_9_128 (fun _ _ _ => rfl) p0),
   (fun d l0 l1 l2 l3 l4 l5 l6 l7 x0 h Q => zr_sta (as := [.int x0]) (rest := []) rfl lm_9_351 (by decide) m_48 kd_48 rfl (Nat.le_of_ble_eq_true rfl)),
   (fun d l0 l1 l2 l3 l4 l5 l6 l7 x0 h Q => zr_if_eq rfl (by decide)),
   (fun d l0 l1 l2 l3 l4 l5 l6 l7  h Q => zr_aload rfl rfl),
   (fun d l0 l1 l2 l3 l4 l5 l6 l7 x0 I L P Q p0 => zr_getI rfl lf_9_128 (fun _ _ _ => rfl) p0),
   (fun d l0 l1 l2 l3 l4 l5 l6 l7 x0 h Q => zr_aload rfl rfl),
   (fun d l0 l1 l2 l3 l4 l5 l6 l7 x1 x0 I L P Q p0 => zr_getI rfl lf_9_128 (fun _ _ _ => rfl) p0),
   (fun d l0 l1 l2 l3 l4 l5 l6 l7 x1 x0 h Q => zr_ic_eq rfl (by decide)),
   (fun d l0 l1 l2 l3 l4 l5 l6 l7  h Q => zr_bipush rfl (by decide)),
   (fun d l0 l1 l2 l3 l4 l5 l6 l7 x0 h Q => zr_iret rfl rfl),
   (fun d l0 l1 l2 l3 l4 l5 l6 l7  h Q => zr_aload rfl rfl),
   (fun d l0 l1 l2 l3 l4 l5 l6 l7 x0 h Q => zr_iload_n rfl rfl),
   (fun d l0 l1 l2 l3 l4 l5 l6 l7 x1 x0 h Q => zr_iload rfl rfl),
   (fun d l0 l1 l2 l3 l4 l5 l6 l7 x2 x1 x0 I L P Q p0 => zr_vir (as := [.int x2, .int x1]) (rest := []) rfl lm_9_131 m_50 kd_50 rfl (Nat.le_of_ble_eq_true rfl) p0),
   (fun d l0 l1 l2 l3 l4 l5 l6 l7 x0 h Q => zr_if_eq rfl (by decide)),
   (fun d l0 l1 l2 l3 l4 l5 l6 l7  h Q => zr_aload rfl rfl),
   (fun d l0 l1 l2 l3 l4 l5 l6 l7 x0 h Q => zr_iload rfl rfl),
   (fun d l0 l1 l2 l3 l4 l5 l6 l7 x1 x0 h Q => zr_iload rfl rfl),
   (fun d l0 l1 l2 l3 l4 l5 l6 l7 x2 x1 x0 I L P Q p0 => zr_vir (as := [.int x2, .int x1]) (rest := []) rfl lm_9_131 m_50 kd_50 rfl (Nat.le_of_ble_eq_true rfl) p0),
   (fun d l0 l1 l2 l3 l4 l5 l6 l7 x0 h Q => zr_if_ne rfl (by decide)),
   (fun d l0 l1 l2 l3 l4 l5 l6 l7  h Q => zr_bipush rfl (by decide)),
   (fun d l0 l1 l2 l3 l4 l5 l6 l7 x0 h Q => zr_iret rfl rfl),
   (fun d l0 l1 l2 l3 l4 l5 l6 l7  h Q => zr_aload rfl rfl),
   (fun d l0 l1 l2 l3 l4 l5 l6 l7 x0 I L P Q p0 => zr_getQ rfl lf_9_135 (fun _ _ _ => rfl) p0),
   (fun d l0 l1 l2 l3 l4 l5 l6 l7 x0 h Q => zr_iload_n rfl rfl),
   (fun d l0 l1 l2 l3 l4 l5 l6 l7 x1 x0 h Q => zr_aload rfl rfl),
   (fun d l0 l1 l2 l3 l4 l5 l6 l7 x2 x1 x0 I L P Q p0 => zr_getQ rfl lf_9_135 (fun _ _ _ => rfl) p0),
   (fun d l0 l1 l2 l3 l4 l5 l6 l7 x2 x1 x0 h Q => zr_iload rfl rfl),
   (fun d l0 l1 l2 l3 l4 l5 l6 l7 x3 x2 x1 x0 h Q => zr_iload rfl rfl),
   (fun d l0 l1 l2 l3 l4 l5 l6 l7 x4 x3 x2 x1 x0 I L P Q p0 p1 p2 p3 p4 p5 p6 => zr_cpyL rfl lm_9_368 (Nat.le_of_ble_eq_true rfl) p0 p1 p2 p3 p4 p5 p6),
   (fun d l0 l1 l2 l3 l4 l5 l6 l7  h Q => zr_iload rfl rfl),
   (fun d l0 l1 l2 l3 l4 l5 l6 l7 x0 h Q => zr_iret rfl rfl)⟩
theorem E_X9_taken : ∀ (d : Nat) (a0 : Nat) (a1 : Int32) (a2 : Int32) (h : zMm) (Q : Option Value → zMm → Prop), zWM (d + 1) 118 [.ref a0, .int a1, .int a2] h Q = zWp d zi_118 none 0 [.ref a0, .int a1, .int a2, .retAddr 0, .retAddr 0] [] h Q := fun d a0 a1 a2 h Q => zW_M m_118 (Nat.le_of_ble_eq_true rfl) rfl
set_option maxRecDepth 100000 in
theorem R_X9_taken :
    (∀ (d : Nat) (l0 : Value) (l1 : Int32) (l2 : Value) (l3 : Value) (l4 : Value)  (h : zMm) (Q : Option Value → zMm → Prop), zWp d zi_118 none 0 [l0, .int l1, l2, l3, l4] [] h Q = zWp d zi_118 none 1 [l0, .int l1, l2, l3, l4] [.int l1] h Q) ∧
    (∀ (d : Nat) (l0 : Value) (l1 : Value) (l2 : Value) (l3 : Value) (l4 : Value) (x0 : Int32) (h : zMm) (Q : Option Value → zMm → Prop), zWp d zi_118 none 1 [l0, l1, l2, l3, l4] [.int x0] h Q = zWM d 120 [.int x0] h (fun r h1 => zWp d zi_118 none 4 [l0, l1, l2, l3, l4] (r.toList ++ []) h1 Q)) ∧
    (∀ (d : Nat) (l0 : Value) (l1 : Value) (l2 : Value) (l3 : Value) (l4 : Value) (x0 : Int32) (h : zMm) (Q : Option Value → zMm → Prop), zWp d zi_118 none 4 [l0, l1, l2, l3, l4] [.int x0] h Q = if x0 = 0 then zWp d zi_118 none 17 [l0, l1, l2, l3, l4] [] h Q else zWp d zi_118 none 7 [l0, l1, l2, l3, l4] [] h Q) ∧
    (∀ (d : Nat) (l0 : Value) (l1 : Value) (l2 : Int32) (l3 : Value) (l4 : Value)  (h : zMm) (Q : Option Value → zMm → Prop), zWp d zi_118 none 7 [l0, l1, .int l2, l3, l4] [] h Q = zWp d zi_118 none 8 [l0, l1, .int l2, l3, l4] [.int l2] h Q) ∧
    (∀ (d : Nat) (l0 : Value) (l1 : Value) (l2 : Value) (l3 : Value) (l4 : Value) (x0 : Int32) (h : zMm) (Q : Option Value → zMm → Prop), zWp d zi_118 none 8 [l0, l1, l2, l3, l4] [.int x0] h Q = if x0 < 0 then zWp d zi_118 none 17 [l0, l1, l2, l3, l4] [] h Q else zWp d zi_118 none 11 [l0, l1, l2, l3, l4] [] h Q) ∧
    (∀ (d : Nat) (l0 : Value) (l1 : Value) (l2 : Int32) (l3 : Value) (l4 : Value)  (h : zMm) (Q : Option Value → zMm → Prop), zWp d zi_118 none 11 [l0, l1, .int l2, l3, l4] [] h Q = zWp d zi_118 none 12 [l0, l1, .int l2, l3, l4] [.int l2] h Q) ∧
    (∀ (d : Nat) (l0 : Value) (l1 : Value) (l2 : Value) (l3 : Value) (l4 : Value) (x0 : Int32) (h : zMm) (Q : Option Value → zMm → Prop), zWp d zi_118 none 12 [l0, l1, l2, l3, l4] [.int x0] h Q = zWp d zi_118 none 14 [l0, l1, l2, l3, l4] [.int 8, .int x0] h Q) ∧
    (∀ (d : Nat) (l0 : Value) (l1 : Value) (l2 : Value) (l3 : Value) (l4 : Value) (x1 : Int32) (x0 : Int32) (h : zMm) (Q : Option Value → zMm → Prop), zWp d zi_118 none 14 [l0, l1, l2, l3, l4] [.int x1, .int x0] h Q = if x0 < x1 then zWp d zi_118 none 19 [l0, l1, l2, l3, l4] [] h Q else zWp d zi_118 none 17 [l0, l1, l2, l3, l4] [] h Q) ∧
    (∀ (d : Nat) (l0 : Value) (l1 : Value) (l2 : Value) (l3 : Value) (l4 : Value)  (h : zMm) (Q : Option Value → zMm → Prop), zWp d zi_118 none 17 [l0, l1, l2, l3, l4] [] h Q = zWp d zi_118 none 18 [l0, l1, l2, l3, l4] [.int (-1)] h Q) ∧
    (∀ (d : Nat) (l0 : Value) (l1 : Value) (l2 : Value) (l3 : Value) (l4 : Value) (x0 : Int32) (h : zMm) (Q : Option Value → zMm → Prop), zWp d zi_118 none 18 [l0, l1, l2, l3, l4] [.int x0] h Q = Q (some (.int x0)) h) ∧
    (∀ (d : Nat) (l0 : Nat) (l1 : Value) (l2 : Value) (l3 : Value) (l4 : Value)  (h : zMm) (Q : Option Value → zMm → Prop), zWp d zi_118 none 19 [.ref l0, l1, l2, l3, l4] [] h Q = zWp d zi_118 none 20 [.ref l0, l1, l2, l3, l4] [.ref l0] h Q) ∧
    (∀ (d : Nat) (l0 : Value) (l1 : Value) (l2 : Value) (l3 : Value) (l4 : Value) (x0 : Nat) (I : Nat → Nat → Int32) (L : Nat → Nat → Int64) (P : Nat → Nat → Option Nat) (Q : Option Value → zMm → Prop), zSH[x0]? = some (.inl 9) → zWp d zi_118 none 20 [l0, l1, l2, l3, l4] [.ref x0] (zSH, I, L, P) Q = zWp d zi_118 none 23 [l0, l1, l2, l3, l4] [va_rf (P x0 10)] (zSH, I, L, P) Q) ∧
    (∀ (d : Nat) (l0 : Value) (l1 : Int32) (l2 : Value) (l3 : Value) (l4 : Value) (x0 : Nat) (h : zMm) (Q : Option Value → zMm → Prop), zWp d zi_118 none 23 [l0, .int l1, l2, l3, l4] [.ref x0] h Q = zWp d zi_118 none 24 [l0, .int l1, l2, l3, l4] [.int l1, .ref x0] h Q) ∧
    (∀ (d : Nat) (l0 : Value) (l1 : Value) (l2 : Value) (l3 : Value) (l4 : Value) (x1 : Int32) (x0 : Nat) (I : Nat → Nat → Int32) (L : Nat → Nat → Int64) (P : Nat → Nat → Option Nat) (Q : Option Value → zMm → Prop), zAk zSH x0 = some (.object "PalletSky$Shelf") → zWp d zi_118 none 24 [l0, l1, l2, l3, l4] [.int x1, .ref x0] (zSH, I, L, P) Q = (vp_in x1 (zAn zSH x0) ∧ zWp d zi_118 none 25 [l0, l1, l2, l3, l4] [va_rf (P x0 x1.toNatClampNeg)] (zSH, I, L, P) Q)) ∧
    (∀ (d : Nat) (l0 : Value) (l1 : Value) (l2 : Int32) (l3 : Value) (l4 : Value) (x0 : Nat) (h : zMm) (Q : Option Value → zMm → Prop), zWp d zi_118 none 25 [l0, l1, .int l2, l3, l4] [.ref x0] h Q = zWp d zi_118 none 26 [l0, l1, .int l2, .ref x0, l4] [] h Q) ∧
    (∀ (d : Nat) (l0 : Value) (l1 : Value) (l2 : Value) (l3 : Nat) (l4 : Value)  (h : zMm) (Q : Option Value → zMm → Prop), zWp d zi_118 none 26 [l0, l1, l2, .ref l3, l4] [] h Q = zWp d zi_118 none 27 [l0, l1, l2, .ref l3, l4] [.ref l3] h Q) ∧
    (∀ (d : Nat) (l0 : Value) (l1 : Value) (l2 : Value) (l3 : Value) (l4 : Value) (x0 : Nat) (I : Nat → Nat → Int32) (L : Nat → Nat → Int64) (P : Nat → Nat → Option Nat) (Q : Option Value → zMm → Prop), zSH[x0]? = some (.inl 6) → zWp d zi_118 none 27 [l0, l1, l2, l3, l4] [.ref x0] (zSH, I, L, P) Q = zWp d zi_118 none 30 [l0, l1, l2, l3, l4] [.int (I x0 1)] (zSH, I, L, P) Q) ∧
    (∀ (d : Nat) (l0 : Value) (l1 : Value) (l2 : Value) (l3 : Value) (l4 : Value) (x0 : Int32) (h : zMm) (Q : Option Value → zMm → Prop), zWp d zi_118 none 30 [l0, l1, l2, l3, l4] [.int x0] h Q = zWp d zi_118 none 32 [l0, l1, l2, l3, l4] [.int (-2), .int x0] h Q) ∧
    (∀ (d : Nat) (l0 : Value) (l1 : Value) (l2 : Value) (l3 : Value) (l4 : Value) (x1 : Int32) (x0 : Int32) (h : zMm) (Q : Option Value → zMm → Prop), zWp d zi_118 none 32 [l0, l1, l2, l3, l4] [.int x1, .int x0] h Q = if x0 = x1 then zWp d zi_118 none 35 [l0, l1, l2, l3, l4] [] h Q else zWp d zi_118 none 38 [l0, l1, l2, l3, l4] [] h Q) ∧
    (∀ (d : Nat) (l0 : Value) (l1 : Value) (l2 : Value) (l3 : Value) (l4 : Value)  (h : zMm) (Q : Option Value → zMm → Prop), zWp d zi_118 none 35 [l0, l1, l2, l3, l4] [] h Q = zWp d zi_118 none 37 [l0, l1, l2, l3, l4] [.int (-11)] h Q) ∧
    (∀ (d : Nat) (l0 : Value) (l1 : Value) (l2 : Value) (l3 : Value) (l4 : Value) (x0 : Int32) (h : zMm) (Q : Option Value → zMm → Prop), zWp d zi_118 none 37 [l0, l1, l2, l3, l4] [.int x0] h Q = Q (some (.int x0)) h) ∧
    (∀ (d : Nat) (l0 : Value) (l1 : Value) (l2 : Value) (l3 : Nat) (l4 : Value)  (h : zMm) (Q : Option Value → zMm → Prop), zWp d zi_118 none 38 [l0, l1, l2, .ref l3, l4] [] h Q = zWp d zi_118 none 39 [l0, l1, l2, .ref l3, l4] [.ref l3] h Q) ∧
    (∀ (d : Nat) (l0 : Value) (l1 : Value) (l2 : Value) (l3 : Value) (l4 : Value) (x0 : Nat) (I : Nat → Nat → Int32) (L : Nat → Nat → Int64) (P : Nat → Nat → Option Nat) (Q : Option Value → zMm → Prop), zSH[x0]? = some (.inl 6) → zWp d zi_118 none 39 [l0, l1, l2, l3, l4] [.ref x0] (zSH, I, L, P) Q = zWp d zi_118 none 42 [l0, l1, l2, l3, l4] [.int (I x0 1)] (zSH, I, L, P) Q) ∧
    (∀ (d : Nat) (l0 : Value) (l1 : Value) (l2 : Value) (l3 : Value) (l4 : Value) (x0 : Int32) (h : zMm) (Q : Option Value → zMm → Prop), zWp d zi_118 none 42 [l0, l1, l2, l3, l4] [.int x0] h Q = zWp d zi_118 none 43 [l0, l1, l2, l3, l4] [.int (-1), .int x0] h Q) ∧
    (∀ (d : Nat) (l0 : Value) (l1 : Value) (l2 : Value) (l3 : Value) (l4 : Value) (x1 : Int32) (x0 : Int32) (h : zMm) (Q : Option Value → zMm → Prop), zWp d zi_118 none 43 [l0, l1, l2, l3, l4] [.int x1, .int x0] h Q = if x0 = x1 then zWp d zi_118 none 46 [l0, l1, l2, l3, l4] [] h Q else zWp d zi_118 none 60 [l0, l1, l2, l3, l4] [] h Q) ∧
    (∀ (d : Nat) (l0 : Nat) (l1 : Value) (l2 : Value) (l3 : Value) (l4 : Value)  (h : zMm) (Q : Option Value → zMm → Prop), zWp d zi_118 none 46 [.ref l0, l1, l2, l3, l4] [] h Q = zWp d zi_118 none 47 [.ref l0, l1, l2, l3, l4] [.ref l0] h Q) ∧
    (∀ (d : Nat) (l0 : Value) (l1 : Value) (l2 : Value) (l3 : Value) (l4 : Value) (x0 : Nat) (I : Nat → Nat → Int32) (L : Nat → Nat → Int64) (P : Nat → Nat → Option Nat) (Q : Option Value → zMm → Prop), zSH[x0]? = some (.inl 9) → zWp d zi_118 none 47 [l0, l1, l2, l3, l4] [.ref x0] (zSH, I, L, P) Q = zWp d zi_118 none 50 [l0, l1, l2, l3, l4] [va_rf (P x0 9)] (zSH, I, L, P) Q) ∧
    (∀ (d : Nat) (l0 : Value) (l1 : Value) (l2 : Value) (l3 : Nat) (l4 : Value) (x0 : Nat) (h : zMm) (Q : Option Value → zMm → Prop), zWp d zi_118 none 50 [l0, l1, l2, .ref l3, l4] [.ref x0] h Q = zWp d zi_118 none 51 [l0, l1, l2, .ref l3, l4] [.ref l3, .ref x0] h Q) ∧
    (∀ (d : Nat) (l0 : Value) (l1 : Value) (l2 : Value) (l3 : Value) (l4 : Value) (x1 : Nat) (x0 : Nat) (I : Nat → Nat → Int32) (L : Nat → Nat → Int64) (P : Nat → Nat → Option Nat) (Q : Option Value → zMm → Prop), zSH[x1]? = some (.inl 6) → zWp d zi_118 none 51 [l0, l1, l2, l3, l4] [.ref x1, .ref x0] (zSH, I, L, P) Q = zWp d zi_118 none 54 [l0, l1, l2, l3, l4] [.int (I x1 2), .ref x0] (zSH, I, L, P) Q) ∧
    (∀ (d : Nat) (l0 : Value) (l1 : Value) (l2 : Value) (l3 : Value) (l4 : Value) (x1 : Int32) (x0 : Nat) (I : Nat → Nat → Int32) (L : Nat → Nat → Int64) (P : Nat → Nat → Option Nat) (Q : Option Value → zMm → Prop), zSH[x0]? = some (.inl 0) → zWp d zi_118 none 54 [l0, l1, l2, l3, l4] [.int x1, .ref x0] (zSH, I, L, P) Q = zWM d 1 [.ref x0, .int x1] (zSH, I, L, P) (fun r h1 => zWp d zi_118 none 57 [l0, l1, l2, l3, l4] (r.toList ++ []) h1 Q)) ∧
    (∀ (d : Nat) (l0 : Value) (l1 : Value) (l2 : Value) (l3 : Value) (l4 : Value) (x0 : Int32) (h : zMm) (Q : Option Value → zMm → Prop), zWp d zi_118 none 57 [l0, l1, l2, l3, l4] [.int x0] h Q = if x0 = 0 then zWp d zi_118 none 60 [l0, l1, l2, l3, l4] [] h Q else zWp d zi_118 none 63 [l0, l1, l2, l3, l4] [] h Q) ∧
    (∀ (d : Nat) (l0 : Value) (l1 : Value) (l2 : Value) (l3 : Value) (l4 : Value)  (h : zMm) (Q : Option Value → zMm → Prop), zWp d zi_118 none 60 [l0, l1, l2, l3, l4] [] h Q = zWp d zi_118 none 62 [l0, l1, l2, l3, l4] [.int (-12)] h Q) ∧
    (∀ (d : Nat) (l0 : Value) (l1 : Value) (l2 : Value) (l3 : Value) (l4 : Value) (x0 : Int32) (h : zMm) (Q : Option Value → zMm → Prop), zWp d zi_118 none 62 [l0, l1, l2, l3, l4] [.int x0] h Q = Q (some (.int x0)) h) ∧
    (∀ (d : Nat) (l0 : Nat) (l1 : Value) (l2 : Value) (l3 : Value) (l4 : Value)  (h : zMm) (Q : Option Value → zMm → Prop), zWp d zi_118 none 63 [.ref l0, l1, l2, l3, l4] [] h Q = zWp d zi_118 none 64 [.ref l0, l1, l2, l3, l4] [.ref l0] h Q) ∧
    (∀ (d : Nat) (l0 : Value) (l1 : Value) (l2 : Value) (l3 : Value) (l4 : Value) (x0 : Nat) (I : Nat → Nat → Int32) (L : Nat → Nat → Int64) (P : Nat → Nat → Option Nat) (Q : Option Value → zMm → Prop), zSH[x0]? = some (.inl 9) → zWp d zi_118 none 64 [l0, l1, l2, l3, l4] [.ref x0] (zSH, I, L, P) Q = zWp d zi_118 none 67 [l0, l1, l2, l3, l4] [va_rf (P x0 9)] (zSH, I, L, P) Q) ∧
    (∀ (d : Nat) (l0 : Value) (l1 : Value) (l2 : Value) (l3 : Value) (l4 : Value) (x0 : Nat) (I : Nat → Nat → Int32) (L : Nat → Nat → Int64) (P : Nat → Nat → Option Nat) (Q : Option Value → zMm → Prop), zSH[x0]? = some (.inl 0) → zWp d zi_118 none 67 [l0, l1, l2, l3, l4] [.ref x0] (zSH, I, L, P) Q = zWp d zi_118 none 70 [l0, l1, l2, l3, l4] [va_rf (P x0 0)] (zSH, I, L, P) Q) ∧
    (∀ (d : Nat) (l0 : Value) (l1 : Value) (l2 : Value) (l3 : Nat) (l4 : Value) (x0 : Nat) (h : zMm) (Q : Option Value → zMm → Prop), zWp d zi_118 none 70 [l0, l1, l2, .ref l3, l4] [.ref x0] h Q = zWp d zi_118 none 71 [l0, l1, l2, .ref l3, l4] [.ref l3, .ref x0] h Q) ∧
    (∀ (d : Nat) (l0 : Value) (l1 : Value) (l2 : Value) (l3 : Value) (l4 : Value) (x1 : Nat) (x0 : Nat) (I : Nat → Nat → Int32) (L : Nat → Nat → Int64) (P : Nat → Nat → Option Nat) (Q : Option Value → zMm → Prop), zSH[x1]? = some (.inl 6) → zWp d zi_118 none 71 [l0, l1, l2, l3, l4] [.ref x1, .ref x0] (zSH, I, L, P) Q = zWp d zi_118 none 74 [l0, l1, l2, l3, l4] [.int (I x1 2), .ref x0] (zSH, I, L, P) Q) ∧
    (∀ (d : Nat) (l0 : Value) (l1 : Value) (l2 : Value) (l3 : Value) (l4 : Value) (x1 : Int32) (x0 : Nat) (I : Nat → Nat → Int32) (L : Nat → Nat → Int64) (P : Nat → Nat → Option Nat) (Q : Option Value → zMm → Prop), zAk zSH x0 = some .int → zWp d zi_118 none 74 [l0, l1, l2, l3, l4] [.int x1, .ref x0] (zSH, I, L, P) Q = (vp_in x1 (zAn zSH x0) ∧ zWp d zi_118 none 75 [l0, l1, l2, l3, l4] [.int (I x0 x1.toNatClampNeg)] (zSH, I, L, P) Q)) ∧
    (∀ (d : Nat) (l0 : Value) (l1 : Value) (l2 : Value) (l3 : Nat) (l4 : Value) (x0 : Int32) (h : zMm) (Q : Option Value → zMm → Prop), zWp d zi_118 none 75 [l0, l1, l2, .ref l3, l4] [.int x0] h Q = zWp d zi_118 none 77 [l0, l1, l2, .ref l3, .int x0] [] h Q) ∧
    (∀ (d : Nat) (l0 : Value) (l1 : Value) (l2 : Value) (l3 : Value) (l4 : Int32)  (h : zMm) (Q : Option Value → zMm → Prop), zWp d zi_118 none 77 [l0, l1, l2, l3, .int l4] [] h Q = zWp d zi_118 none 79 [l0, l1, l2, l3, .int l4] [.int l4] h Q) ∧
    (∀ (d : Nat) (l0 : Value) (l1 : Value) (l2 : Int32) (l3 : Value) (l4 : Value) (x0 : Int32) (h : zMm) (Q : Option Value → zMm → Prop), zWp d zi_118 none 79 [l0, l1, .int l2, l3, l4] [.int x0] h Q = zWp d zi_118 none 80 [l0, l1, .int l2, l3, l4] [.int l2, .int x0] h Q) ∧
    (∀ (d : Nat) (l0 : Value) (l1 : Value) (l2 : Value) (l3 : Value) (l4 : Value) (x1 : Int32) (x0 : Int32) (h : zMm) (Q : Option Value → zMm → Prop), zWp d zi_118 none 80 [l0, l1, l2, l3, l4] [.int x1, .int x0] h Q = zWM d 2 [.int x0, .int x1] h (fun r h1 => zWp d zi_118 none 83 [l0, l1, l2, l3, l4] (r.toList ++ []) h1 Q)) ∧
    (∀ (d : Nat) (l0 : Value) (l1 : Value) (l2 : Value) (l3 : Value) (l4 : Value) (x0 : Int32) (h : zMm) (Q : Option Value → zMm → Prop), zWp d zi_118 none 83 [l0, l1, l2, l3, l4] [.int x0] h Q = if x0 = 0 then zWp d zi_118 none 91 [l0, l1, l2, l3, l4] [] h Q else zWp d zi_118 none 86 [l0, l1, l2, l3, l4] [] h Q) ∧
    (∀ (d : Nat) (l0 : Value) (l1 : Value) (l2 : Value) (l3 : Value) (l4 : Int32)  (h : zMm) (Q : Option Value → zMm → Prop), zWp d zi_118 none 86 [l0, l1, l2, l3, .int l4] [] h Q = zWp d zi_118 none 88 [l0, l1, l2, l3, .int l4] [.int l4] h Q) ∧
    (∀ (d : Nat) (l0 : Value) (l1 : Value) (l2 : Value) (l3 : Value) (l4 : Value) (x0 : Int32) (h : zMm) (Q : Option Value → zMm → Prop), zWp d zi_118 none 88 [l0, l1, l2, l3, l4] [.int x0] h Q = zWp d zi_118 none 93 [l0, l1, l2, l3, l4] [.int x0] h Q) ∧
    (∀ (d : Nat) (l0 : Value) (l1 : Value) (l2 : Value) (l3 : Value) (l4 : Value)  (h : zMm) (Q : Option Value → zMm → Prop), zWp d zi_118 none 91 [l0, l1, l2, l3, l4] [] h Q = zWp d zi_118 none 93 [l0, l1, l2, l3, l4] [.int (-12)] h Q) ∧
    (∀ (d : Nat) (l0 : Value) (l1 : Value) (l2 : Value) (l3 : Value) (l4 : Value) (x0 : Int32) (h : zMm) (Q : Option Value → zMm → Prop), zWp d zi_118 none 93 [l0, l1, l2, l3, l4] [.int x0] h Q = Q (some (.int x0)) h) :=
  ⟨(fun d l0 l1 l2 l3 l4  h Q => zr_iload_n rfl rfl),
   (fun d l0 l1 l2 l3 l4 x0 h Q => zr_sta (as := [.int x0]) (rest := []) rfl lm_9_124 (by decide) m_120 kd_120 rfl (Nat.le_of_ble_eq_true rfl)),
   (fun d l0 l1 l2 l3 l4 x0 h Q => zr_if_eq rfl (by decide)),
   (fun d l0 l1 l2 l3 l4  h Q => zr_iload_n rfl rfl),
   (fun d l0 l1 l2 l3 l4 x0 h Q => zr_if_lt rfl (by decide)),
   (fun d l0 l1 l2 l3 l4  h Q => zr_iload_n rfl rfl),
   (fun d l0 l1 l2 l3 l4 x0 h Q => zr_bipush rfl (by decide)),
   (fun d l0 l1 l2 l3 l4 x1 x0 h Q => zr_ic_lt rfl (by decide)),
   (fun d l0 l1 l2 l3 l4  h Q => zr_iconst rfl (by decide)),
   (fun d l0 l1 l2 l3 l4 x0 h Q => zr_iret rfl rfl),
   (fun d l0 l1 l2 l3 l4  h Q => zr_aload_n rfl rfl),
   (fun d l0 l1 l2 l3 l4 x0 I L P Q p0 => zr_getQ rfl lf_9_69 (fun _ _ _ => rfl) p0),
   (fun d l0 l1 l2 l3 l4 x0 h Q => zr_iload_n rfl rfl),
   (fun d l0 l1 l2 l3 l4 x1 x0 I L P Q p0 => zr_qldO rfl p0),
   (fun d l0 l1 l2 l3 l4 x0 h Q => zr_astore_n (n := 3) rfl (Nat.le_of_ble_eq_true rfl) rfl),
   (fun d l0 l1 l2 l3 l4  h Q => zr_aload_n rfl rfl),
   (fun d l0 l1 l2 l3 l4 x0 I L P Q p0 => zr_getI rfl lf_9_128 (fun _ _ _ => rfl) p0),
   (fun d l0 l1 l2 l3 l4 x0 h Q => zr_bipush rfl (by decide)),
   (fun d l0 l1 l2 l3 l4 x1 x0 h Q => zr_ic_ne rfl (by decide)),
   (fun d l0 l1 l2 l3 l4  h Q => zr_bipush rfl (by decide)),
   (fun d l0 l1 l2 l3 l4 x0 h Q => zr_iret rfl rfl),
   (fun d l0 l1 l2 l3 l4  h Q => zr_aload_n rfl rfl),
   (fun d l0 l1 l2 l3 l4 x0 I L P Q p0 => zr_getI rfl lf_9_128 (fun _ _ _ => rfl) p0),
   (fun d l0 l1 l2 l3 l4 x0 h Q => zr_iconst rfl (by decide)),
   (fun d l0 l1 l2 l3 l4 x1 x0 h Q => zr_ic_ne rfl (by decide)),
   (fun d l0 l1 l2 l3 l4  h Q => zr_aload_n rfl rfl),
   (fun d l0 l1 l2 l3 l4 x0 I L P Q p0 => zr_getQ rfl lf_9_63 (fun _ _ _ => rfl) p0),
   (fun d l0 l1 l2 l3 l4 x0 h Q => zr_aload_n rfl rfl),
   (fun d l0 l1 l2 l3 l4 x1 x0 I L P Q p0 => zr_getI rfl lf_9_348 (fun _ _ _ => rfl) p0),
   (fun d l0 l1 l2 l3 l4 x1 x0 I L P Q p0 => zr_vir (as := [.int x1]) (rest := []) rfl lm_9_341 m_1 kd_1 rfl (Nat.le_of_ble_eq_true rfl) p0),
   (fun d l0 l1 l2 l3 l4 x0 h Q => zr_if_ne rfl (by decide)),
   (fun d l0 l1 l2 l3 l4  h Q => zr_bipush rfl (by decide)),
   (fun d l0 l1 l2 l3 l4 x0 h Q => zr_iret rfl rfl),
   (fun d l0 l1 l2 l3 l4  h Q => zr_aload_n rfl rfl),
   (fun d l0 l1 l2 l3 l4 x0 I L P Q p0 => zr_getQ rfl lf_9_63 (fun _ _ _ => rfl) p0),
   (fun d l0 l1 l2 l3 l4 x0 I L P Q p0 => zr_getQ rfl lf_9_335 (fun _ _ _ => rfl) p0),
   (fun d l0 l1 l2 l3 l4 x0 h Q => zr_aload_n rfl rfl),
   (fun d l0 l1 l2 l3 l4 x1 x0 I L P Q p0 => zr_getI rfl lf_9_348 (fun _ _ _ => rfl) p0),
   (fun d l0 l1 l2 l3 l4 x1 x0 I L P Q p0 => zr_ald rfl p0),
   (fun d l0 l1 l2 l3 l4 x0 h Q => zr_istore (n := 4) rfl (Nat.le_of_ble_eq_true rfl) rfl),
   (fun d l0 l1 l2 l3 l4  h Q => zr_iload rfl rfl),
   (fun d l0 l1 l2 l3 l4 x0 h Q => zr_iload_n rfl rfl),
   (fun d l0 l1 l2 l3 l4 x1 x0 h Q => zr_sta (as := [.int x1, .int x0]) (rest := []) rfl lm_9_374 (by decide) m_2 kd_2 rfl (Nat.le_of_ble_eq_true rfl)),
   (fun d l0 l1 l2 l3 l4 x0 h Q => zr_if_eq rfl (by decide)),
   (fun d l0 l1 l2 l3 l4  h Q => zr_iload rfl rfl),
   (fun d l0 l1 l2 l3 l4 x0 h Q => zr_goto rfl (by decide)),
   (fun d l0 l1 l2 l3 l4  h Q => zr_bipush rfl (by decide)),
   (fun d l0 l1 l2 l3 l4 x0 h Q => zr_iret rfl rfl)⟩
theorem E_X9_count : ∀ (d : Nat) (a0 : Nat) (a1 : Int32) (h : zMm) (Q : Option Value → zMm → Prop), zWM (d + 1) 119 [.ref a0, .int a1] h Q = zWp d zi_119 none 0 [.ref a0, .int a1] [] h Q := fun d a0 a1 h Q => zW_M m_119 (Nat.le_of_ble_eq_true rfl) rfl
set_option maxRecDepth 100000 in
theorem R_X9_count :
    (∀ (d : Nat) (l0 : Value) (l1 : Int32)  (h : zMm) (Q : Option Value → zMm → Prop), zWp d zi_119 none 0 [l0, .int l1] [] h Q = zWp d zi_119 none 1 [l0, .int l1] [.int l1] h Q) ∧
    (∀ (d : Nat) (l0 : Value) (l1 : Value) (x0 : Int32) (h : zMm) (Q : Option Value → zMm → Prop), zWp d zi_119 none 1 [l0, l1] [.int x0] h Q = if x0 = 0 then zWp d zi_119 none 44 [l0, l1] [] h Q else if x0 = 1 then zWp d zi_119 none 52 [l0, l1] [] h Q else if x0 = 2 then zWp d zi_119 none 60 [l0, l1] [] h Q else if x0 = 3 then zWp d zi_119 none 68 [l0, l1] [] h Q else if x0 = 4 then zWp d zi_119 none 76 [l0, l1] [] h Q else if x0 = 5 then zWp d zi_119 none 84 [l0, l1] [] h Q else if x0 = 6 then zWp d zi_119 none 92 [l0, l1] [] h Q else zWp d zi_119 none 100 [l0, l1] [] h Q) ∧
    (∀ (d : Nat) (l0 : Nat) (l1 : Value)  (h : zMm) (Q : Option Value → zMm → Prop), zWp d zi_119 none 44 [.ref l0, l1] [] h Q = zWp d zi_119 none 45 [.ref l0, l1] [.ref l0] h Q) ∧
    (∀ (d : Nat) (l0 : Value) (l1 : Value) (x0 : Nat) (I : Nat → Nat → Int32) (L : Nat → Nat → Int64) (P : Nat → Nat → Option Nat) (Q : Option Value → zMm → Prop), zSH[x0]? = some (.inl 9) → zWp d zi_119 none 45 [l0, l1] [.ref x0] (zSH, I, L, P) Q = zWp d zi_119 none 48 [l0, l1] [va_rf (P x0 0)] (zSH, I, L, P) Q) ∧
    (∀ (d : Nat) (l0 : Value) (l1 : Value) (x0 : Nat) (I : Nat → Nat → Int32) (L : Nat → Nat → Int64) (P : Nat → Nat → Option Nat) (Q : Option Value → zMm → Prop), zSH[x0]? = some (.inl 8) → zWp d zi_119 none 48 [l0, l1] [.ref x0] (zSH, I, L, P) Q = zWp d zi_119 none 51 [l0, l1] [.int (I x0 6)] (zSH, I, L, P) Q) ∧
    (∀ (d : Nat) (l0 : Value) (l1 : Value) (x0 : Int32) (h : zMm) (Q : Option Value → zMm → Prop), zWp d zi_119 none 51 [l0, l1] [.int x0] h Q = Q (some (.int x0)) h) ∧
    (∀ (d : Nat) (l0 : Nat) (l1 : Value)  (h : zMm) (Q : Option Value → zMm → Prop), zWp d zi_119 none 52 [.ref l0, l1] [] h Q = zWp d zi_119 none 53 [.ref l0, l1] [.ref l0] h Q) ∧
    (∀ (d : Nat) (l0 : Value) (l1 : Value) (x0 : Nat) (I : Nat → Nat → Int32) (L : Nat → Nat → Int64) (P : Nat → Nat → Option Nat) (Q : Option Value → zMm → Prop), zSH[x0]? = some (.inl 9) → zWp d zi_119 none 53 [l0, l1] [.ref x0] (zSH, I, L, P) Q = zWp d zi_119 none 56 [l0, l1] [va_rf (P x0 2)] (zSH, I, L, P) Q) ∧
    (∀ (d : Nat) (l0 : Value) (l1 : Value) (x0 : Nat) (I : Nat → Nat → Int32) (L : Nat → Nat → Int64) (P : Nat → Nat → Option Nat) (Q : Option Value → zMm → Prop), zSH[x0]? = some (.inl 3) → zWp d zi_119 none 56 [l0, l1] [.ref x0] (zSH, I, L, P) Q = zWp d zi_119 none 59 [l0, l1] [.int (I x0 3)] (zSH, I, L, P) Q) ∧
    (∀ (d : Nat) (l0 : Value) (l1 : Value) (x0 : Int32) (h : zMm) (Q : Option Value → zMm → Prop), zWp d zi_119 none 59 [l0, l1] [.int x0] h Q = Q (some (.int x0)) h) ∧
    (∀ (d : Nat) (l0 : Nat) (l1 : Value)  (h : zMm) (Q : Option Value → zMm → Prop), zWp d zi_119 none 60 [.ref l0, l1] [] h Q = zWp d zi_119 none 61 [.ref l0, l1] [.ref l0] h Q) ∧
    (∀ (d : Nat) (l0 : Value) (l1 : Value) (x0 : Nat) (I : Nat → Nat → Int32) (L : Nat → Nat → Int64) (P : Nat → Nat → Option Nat) (Q : Option Value → zMm → Prop), zSH[x0]? = some (.inl 9) → zWp d zi_119 none 61 [l0, l1] [.ref x0] (zSH, I, L, P) Q = zWp d zi_119 none 64 [l0, l1] [va_rf (P x0 0)] (zSH, I, L, P) Q) ∧
    (∀ (d : Nat) (l0 : Value) (l1 : Value) (x0 : Nat) (I : Nat → Nat → Int32) (L : Nat → Nat → Int64) (P : Nat → Nat → Option Nat) (Q : Option Value → zMm → Prop), zSH[x0]? = some (.inl 8) → zWp d zi_119 none 64 [l0, l1] [.ref x0] (zSH, I, L, P) Q = zWM d 71 [.ref x0] (zSH, I, L, P) (fun r h1 => zWp d zi_119 none 67 [l0, l1] (r.toList ++ []) h1 Q)) ∧
    (∀ (d : Nat) (l0 : Value) (l1 : Value) (x0 : Int32) (h : zMm) (Q : Option Value → zMm → Prop), zWp d zi_119 none 67 [l0, l1] [.int x0] h Q = Q (some (.int x0)) h) ∧
    (∀ (d : Nat) (l0 : Nat) (l1 : Value)  (h : zMm) (Q : Option Value → zMm → Prop), zWp d zi_119 none 68 [.ref l0, l1] [] h Q = zWp d zi_119 none 69 [.ref l0, l1] [.ref l0] h Q) ∧
    (∀ (d : Nat) (l0 : Value) (l1 : Value) (x0 : Nat) (I : Nat → Nat → Int32) (L : Nat → Nat → Int64) (P : Nat → Nat → Option Nat) (Q : Option Value → zMm → Prop), zSH[x0]? = some (.inl 9) → zWp d zi_119 none 69 [l0, l1] [.ref x0] (zSH, I, L, P) Q = zWp d zi_119 none 72 [l0, l1] [va_rf (P x0 3)] (zSH, I, L, P) Q) ∧
    (∀ (d : Nat) (l0 : Value) (l1 : Value) (x0 : Nat) (I : Nat → Nat → Int32) (L : Nat → Nat → Int64) (P : Nat → Nat → Option Nat) (Q : Option Value → zMm → Prop), zSH[x0]? = some (.inl 4) → zWp d zi_119 none 72 [l0, l1] [.ref x0] (zSH, I, L, P) Q = zWp d zi_119 none 75 [l0, l1] [.int (I x0 1)] (zSH, I, L, P) Q) ∧
    (∀ (d : Nat) (l0 : Value) (l1 : Value) (x0 : Int32) (h : zMm) (Q : Option Value → zMm → Prop), zWp d zi_119 none 75 [l0, l1] [.int x0] h Q = Q (some (.int x0)) h) ∧
    (∀ (d : Nat) (l0 : Nat) (l1 : Value)  (h : zMm) (Q : Option Value → zMm → Prop), zWp d zi_119 none 76 [.ref l0, l1] [] h Q = zWp d zi_119 none 77 [.ref l0, l1] [.ref l0] h Q) ∧
    (∀ (d : Nat) (l0 : Value) (l1 : Value) (x0 : Nat) (I : Nat → Nat → Int32) (L : Nat → Nat → Int64) (P : Nat → Nat → Option Nat) (Q : Option Value → zMm → Prop), zSH[x0]? = some (.inl 9) → zWp d zi_119 none 77 [l0, l1] [.ref x0] (zSH, I, L, P) Q = zWp d zi_119 none 80 [l0, l1] [va_rf (P x0 8)] (zSH, I, L, P) Q) ∧
    (∀ (d : Nat) (l0 : Value) (l1 : Value) (x0 : Nat) (I : Nat → Nat → Int32) (L : Nat → Nat → Int64) (P : Nat → Nat → Option Nat) (Q : Option Value → zMm → Prop), zSH[x0]? = some (.inl 1) → zWp d zi_119 none 80 [l0, l1] [.ref x0] (zSH, I, L, P) Q = zWp d zi_119 none 83 [l0, l1] [.int (I x0 1)] (zSH, I, L, P) Q) ∧
    (∀ (d : Nat) (l0 : Value) (l1 : Value) (x0 : Int32) (h : zMm) (Q : Option Value → zMm → Prop), zWp d zi_119 none 83 [l0, l1] [.int x0] h Q = Q (some (.int x0)) h) ∧
    (∀ (d : Nat) (l0 : Nat) (l1 : Value)  (h : zMm) (Q : Option Value → zMm → Prop), zWp d zi_119 none 84 [.ref l0, l1] [] h Q = zWp d zi_119 none 85 [.ref l0, l1] [.ref l0] h Q) ∧
    (∀ (d : Nat) (l0 : Value) (l1 : Value) (x0 : Nat) (I : Nat → Nat → Int32) (L : Nat → Nat → Int64) (P : Nat → Nat → Option Nat) (Q : Option Value → zMm → Prop), zSH[x0]? = some (.inl 9) → zWp d zi_119 none 85 [l0, l1] [.ref x0] (zSH, I, L, P) Q = zWp d zi_119 none 88 [l0, l1] [va_rf (P x0 9)] (zSH, I, L, P) Q) ∧
    (∀ (d : Nat) (l0 : Value) (l1 : Value) (x0 : Nat) (I : Nat → Nat → Int32) (L : Nat → Nat → Int64) (P : Nat → Nat → Option Nat) (Q : Option Value → zMm → Prop), zSH[x0]? = some (.inl 0) → zWp d zi_119 none 88 [l0, l1] [.ref x0] (zSH, I, L, P) Q = zWp d zi_119 none 91 [l0, l1] [.int (I x0 2)] (zSH, I, L, P) Q) ∧
    (∀ (d : Nat) (l0 : Value) (l1 : Value) (x0 : Int32) (h : zMm) (Q : Option Value → zMm → Prop), zWp d zi_119 none 91 [l0, l1] [.int x0] h Q = Q (some (.int x0)) h) ∧
    (∀ (d : Nat) (l0 : Nat) (l1 : Value)  (h : zMm) (Q : Option Value → zMm → Prop), zWp d zi_119 none 92 [.ref l0, l1] [] h Q = zWp d zi_119 none 93 [.ref l0, l1] [.ref l0] h Q) ∧
    (∀ (d : Nat) (l0 : Value) (l1 : Value) (x0 : Nat) (I : Nat → Nat → Int32) (L : Nat → Nat → Int64) (P : Nat → Nat → Option Nat) (Q : Option Value → zMm → Prop), zSH[x0]? = some (.inl 9) → zWp d zi_119 none 93 [l0, l1] [.ref x0] (zSH, I, L, P) Q = zWp d zi_119 none 96 [l0, l1] [va_rf (P x0 9)] (zSH, I, L, P) Q) ∧
    (∀ (d : Nat) (l0 : Value) (l1 : Value) (x0 : Nat) (I : Nat → Nat → Int32) (L : Nat → Nat → Int64) (P : Nat → Nat → Option Nat) (Q : Option Value → zMm → Prop), zSH[x0]? = some (.inl 0) → zWp d zi_119 none 96 [l0, l1] [.ref x0] (zSH, I, L, P) Q = zWp d zi_119 none 99 [l0, l1] [.int (I x0 3)] (zSH, I, L, P) Q) ∧
    (∀ (d : Nat) (l0 : Value) (l1 : Value) (x0 : Int32) (h : zMm) (Q : Option Value → zMm → Prop), zWp d zi_119 none 99 [l0, l1] [.int x0] h Q = Q (some (.int x0)) h) ∧
    (∀ (d : Nat) (l0 : Value) (l1 : Value)  (h : zMm) (Q : Option Value → zMm → Prop), zWp d zi_119 none 100 [l0, l1] [] h Q = zWp d zi_119 none 101 [l0, l1] [.int (-1)] h Q) ∧
    (∀ (d : Nat) (l0 : Value) (l1 : Value) (x0 : Int32) (h : zMm) (Q : Option Value → zMm → Prop), zWp d zi_119 none 101 [l0, l1] [.int x0] h Q = Q (some (.int x0)) h) :=
  ⟨(fun d l0 l1  h Q => zr_iload_n rfl rfl),
   (fun d l0 l1 x0 h Q => by
      by_cases e0 : x0 = 0
      · subst e0; rw [if_pos rfl]; exact zr_tabI rfl (by decide) rfl (by decide)
      rw [if_neg e0]
      have n0 : ¬ x0.toInt = 0 := fun z => e0 (Int32.toInt_inj.mp z)
      by_cases e1 : x0 = 1
      · subst e1; rw [if_pos rfl]; exact zr_tabI rfl (by decide) rfl (by decide)
      rw [if_neg e1]
      have n1 : ¬ x0.toInt = 1 := fun z => e1 (Int32.toInt_inj.mp z)
      by_cases e2 : x0 = 2
      · subst e2; rw [if_pos rfl]; exact zr_tabI rfl (by decide) rfl (by decide)
      rw [if_neg e2]
      have n2 : ¬ x0.toInt = 2 := fun z => e2 (Int32.toInt_inj.mp z)
      by_cases e3 : x0 = 3
      · subst e3; rw [if_pos rfl]; exact zr_tabI rfl (by decide) rfl (by decide)
      rw [if_neg e3]
      have n3 : ¬ x0.toInt = 3 := fun z => e3 (Int32.toInt_inj.mp z)
      by_cases e4 : x0 = 4
      · subst e4; rw [if_pos rfl]; exact zr_tabI rfl (by decide) rfl (by decide)
      rw [if_neg e4]
      have n4 : ¬ x0.toInt = 4 := fun z => e4 (Int32.toInt_inj.mp z)
      by_cases e5 : x0 = 5
      · subst e5; rw [if_pos rfl]; exact zr_tabI rfl (by decide) rfl (by decide)
      rw [if_neg e5]
      have n5 : ¬ x0.toInt = 5 := fun z => e5 (Int32.toInt_inj.mp z)
      by_cases e6 : x0 = 6
      · subst e6; rw [if_pos rfl]; exact zr_tabI rfl (by decide) rfl (by decide)
      rw [if_neg e6]
      have n6 : ¬ x0.toInt = 6 := fun z => e6 (Int32.toInt_inj.mp z)
      exact zr_tabD rfl (by omega) (by decide)),
   (fun d l0 l1  h Q => zr_aload_n rfl rfl),
   (fun d l0 l1 x0 I L P Q p0 => zr_getQ rfl lf_9_10 (fun _ _ _ => rfl) p0),
   (fun d l0 l1 x0 I L P Q p0 => zr_getI rfl lf_9_92 (fun _ _ _ => rfl) p0),
   (fun d l0 l1 x0 h Q => zr_iret rfl rfl),
   (fun d l0 l1  h Q => zr_aload_n rfl rfl),
   (fun d l0 l1 x0 I L P Q p0 => zr_getQ rfl lf_9_22 (fun _ _ _ => rfl) p0),
   (fun d l0 l1 x0 I L P Q p0 => zr_getI rfl lf_9_139 (fun _ _ _ => rfl) p0),
   (fun d l0 l1 x0 h Q => zr_iret rfl rfl),
   (fun d l0 l1  h Q => zr_aload_n rfl rfl),
   (fun d l0 l1 x0 I L P Q p0 => zr_getQ rfl lf_9_10 (fun _ _ _ => rfl) p0),
   (fun d l0 l1 x0 I L P Q p0 => zr_vir (as := []) (rest := []) rfl lm_9_377 m_71 kd_71 rfl (Nat.le_of_ble_eq_true rfl) p0),
   (fun d l0 l1 x0 h Q => zr_iret rfl rfl),
   (fun d l0 l1  h Q => zr_aload_n rfl rfl),
   (fun d l0 l1 x0 I L P Q p0 => zr_getQ rfl lf_9_29 (fun _ _ _ => rfl) p0),
   (fun d l0 l1 x0 I L P Q p0 => zr_getI rfl lf_9_210 (fun _ _ _ => rfl) p0),
   (fun d l0 l1 x0 h Q => zr_iret rfl rfl),
   (fun d l0 l1  h Q => zr_aload_n rfl rfl),
   (fun d l0 l1 x0 I L P Q p0 => zr_getQ rfl lf_9_56 (fun _ _ _ => rfl) p0),
   (fun d l0 l1 x0 I L P Q p0 => zr_getI rfl lf_9_316 (fun _ _ _ => rfl) p0),
   (fun d l0 l1 x0 h Q => zr_iret rfl rfl),
   (fun d l0 l1  h Q => zr_aload_n rfl rfl),
   (fun d l0 l1 x0 I L P Q p0 => zr_getQ rfl lf_9_63 (fun _ _ _ => rfl) p0),
   (fun d l0 l1 x0 I L P Q p0 => zr_getI rfl lf_9_334 (fun _ _ _ => rfl) p0),
   (fun d l0 l1 x0 h Q => zr_iret rfl rfl),
   (fun d l0 l1  h Q => zr_aload_n rfl rfl),
   (fun d l0 l1 x0 I L P Q p0 => zr_getQ rfl lf_9_63 (fun _ _ _ => rfl) p0),
   (fun d l0 l1 x0 I L P Q p0 => zr_getI rfl lf_9_338 (fun _ _ _ => rfl) p0),
   (fun d l0 l1 x0 h Q => zr_iret rfl rfl),
   (fun d l0 l1  h Q => zr_iconst rfl (by decide)),
   (fun d l0 l1 x0 h Q => zr_iret rfl rfl)⟩
theorem E_X9_isShelf : ∀ (d : Nat) (a0 : Int32) (h : zMm) (Q : Option Value → zMm → Prop), zWM (d + 1) 120 [.int a0] h Q = zWp d zi_120 none 0 [.int a0] [] h Q := fun d a0 h Q => zW_M m_120 (Nat.le_of_ble_eq_true rfl) rfl
set_option maxRecDepth 100000 in
theorem R_X9_isShelf :
    (∀ (d : Nat) (l0 : Int32)  (h : zMm) (Q : Option Value → zMm → Prop), zWp d zi_120 none 0 [.int l0] [] h Q = zWp d zi_120 none 1 [.int l0] [.int l0] h Q) ∧
    (∀ (d : Nat) (l0 : Value) (x0 : Int32) (h : zMm) (Q : Option Value → zMm → Prop), zWp d zi_120 none 1 [l0] [.int x0] h Q = if x0 < 0 then zWp d zi_120 none 14 [l0] [] h Q else zWp d zi_120 none 4 [l0] [] h Q) ∧
    (∀ (d : Nat) (l0 : Int32)  (h : zMm) (Q : Option Value → zMm → Prop), zWp d zi_120 none 4 [.int l0] [] h Q = zWp d zi_120 none 5 [.int l0] [.int l0] h Q) ∧
    (∀ (d : Nat) (l0 : Value) (x0 : Int32) (h : zMm) (Q : Option Value → zMm → Prop), zWp d zi_120 none 5 [l0] [.int x0] h Q = zWp d zi_120 none 7 [l0] [.int 6, .int x0] h Q) ∧
    (∀ (d : Nat) (l0 : Value) (x1 : Int32) (x0 : Int32) (h : zMm) (Q : Option Value → zMm → Prop), zWp d zi_120 none 7 [l0] [.int x1, .int x0] h Q = if x1 ≤ x0 then zWp d zi_120 none 14 [l0] [] h Q else zWp d zi_120 none 10 [l0] [] h Q) ∧
    (∀ (d : Nat) (l0 : Value)  (h : zMm) (Q : Option Value → zMm → Prop), zWp d zi_120 none 10 [l0] [] h Q = zWp d zi_120 none 11 [l0] [.int 1] h Q) ∧
    (∀ (d : Nat) (l0 : Value) (x0 : Int32) (h : zMm) (Q : Option Value → zMm → Prop), zWp d zi_120 none 11 [l0] [.int x0] h Q = zWp d zi_120 none 15 [l0] [.int x0] h Q) ∧
    (∀ (d : Nat) (l0 : Value)  (h : zMm) (Q : Option Value → zMm → Prop), zWp d zi_120 none 14 [l0] [] h Q = zWp d zi_120 none 15 [l0] [.int 0] h Q) ∧
    (∀ (d : Nat) (l0 : Value) (x0 : Int32) (h : zMm) (Q : Option Value → zMm → Prop), x0 = 0 ∨ x0 = 1 → zWp d zi_120 none 15 [l0] [.int x0] h Q = Q (some (.int x0)) h) :=
  ⟨(fun d l0  h Q => zr_iload_n rfl rfl),
   (fun d l0 x0 h Q => zr_if_lt rfl (by decide)),
   (fun d l0  h Q => zr_iload_n rfl rfl),
   (fun d l0 x0 h Q => zr_bipush rfl (by decide)),
   (fun d l0 x1 x0 h Q => zr_ic_ge rfl (by decide)),
   (fun d l0  h Q => zr_iconst rfl (by decide)),
   (fun d l0 x0 h Q => zr_goto rfl (by decide)),
   (fun d l0  h Q => zr_iconst rfl (by decide)),
   (fun d l0 x0 h Q p0 => zr_zret rfl rfl p0)⟩
theorem E_X9_refusalOf : ∀ (d : Nat) (a0 : Nat) (a1 : Int32) (a2 : Int32) (h : zMm) (Q : Option Value → zMm → Prop), zWM (d + 1) 121 [.ref a0, .int a1, .int a2] h Q = zWp d zi_121 none 0 [.ref a0, .int a1, .int a2, .retAddr 0] [] h Q := fun d a0 a1 a2 h Q => zW_M m_121 (Nat.le_of_ble_eq_true rfl) rfl
set_option maxRecDepth 100000 in
theorem R_X9_refusalOf :
    (∀ (d : Nat) (l0 : Value) (l1 : Int32) (l2 : Value) (l3 : Value)  (h : zMm) (Q : Option Value → zMm → Prop), zWp d zi_121 none 0 [l0, .int l1, l2, l3] [] h Q = zWp d zi_121 none 1 [l0, .int l1, l2, l3] [.int l1] h Q) ∧
    (∀ (d : Nat) (l0 : Value) (l1 : Value) (l2 : Value) (l3 : Value) (x0 : Int32) (h : zMm) (Q : Option Value → zMm → Prop), zWp d zi_121 none 1 [l0, l1, l2, l3] [.int x0] h Q = zWM d 120 [.int x0] h (fun r h1 => zWp d zi_121 none 4 [l0, l1, l2, l3] (r.toList ++ []) h1 Q)) ∧
    (∀ (d : Nat) (l0 : Value) (l1 : Value) (l2 : Value) (l3 : Value) (x0 : Int32) (h : zMm) (Q : Option Value → zMm → Prop), zWp d zi_121 none 4 [l0, l1, l2, l3] [.int x0] h Q = if x0 = 0 then zWp d zi_121 none 7 [l0, l1, l2, l3] [] h Q else zWp d zi_121 none 9 [l0, l1, l2, l3] [] h Q) ∧
    (∀ (d : Nat) (l0 : Value) (l1 : Value) (l2 : Value) (l3 : Value)  (h : zMm) (Q : Option Value → zMm → Prop), zWp d zi_121 none 7 [l0, l1, l2, l3] [] h Q = zWp d zi_121 none 8 [l0, l1, l2, l3] [.int (-1)] h Q) ∧
    (∀ (d : Nat) (l0 : Value) (l1 : Value) (l2 : Value) (l3 : Value) (x0 : Int32) (h : zMm) (Q : Option Value → zMm → Prop), zWp d zi_121 none 8 [l0, l1, l2, l3] [.int x0] h Q = Q (some (.int x0)) h) ∧
    (∀ (d : Nat) (l0 : Nat) (l1 : Value) (l2 : Value) (l3 : Value)  (h : zMm) (Q : Option Value → zMm → Prop), zWp d zi_121 none 9 [.ref l0, l1, l2, l3] [] h Q = zWp d zi_121 none 10 [.ref l0, l1, l2, l3] [.ref l0] h Q) ∧
    (∀ (d : Nat) (l0 : Value) (l1 : Value) (l2 : Value) (l3 : Value) (x0 : Nat) (I : Nat → Nat → Int32) (L : Nat → Nat → Int64) (P : Nat → Nat → Option Nat) (Q : Option Value → zMm → Prop), zSH[x0]? = some (.inl 9) → zWp d zi_121 none 10 [l0, l1, l2, l3] [.ref x0] (zSH, I, L, P) Q = zWp d zi_121 none 13 [l0, l1, l2, l3] [va_rf (P x0 10)] (zSH, I, L, P) Q) ∧
    (∀ (d : Nat) (l0 : Value) (l1 : Int32) (l2 : Value) (l3 : Value) (x0 : Nat) (h : zMm) (Q : Option Value → zMm → Prop), zWp d zi_121 none 13 [l0, .int l1, l2, l3] [.ref x0] h Q = zWp d zi_121 none 14 [l0, .int l1, l2, l3] [.int l1, .ref x0] h Q) ∧
    (∀ (d : Nat) (l0 : Value) (l1 : Value) (l2 : Value) (l3 : Value) (x1 : Int32) (x0 : Nat) (I : Nat → Nat → Int32) (L : Nat → Nat → Int64) (P : Nat → Nat → Option Nat) (Q : Option Value → zMm → Prop), zAk zSH x0 = some (.object "PalletSky$Shelf") → zWp d zi_121 none 14 [l0, l1, l2, l3] [.int x1, .ref x0] (zSH, I, L, P) Q = (vp_in x1 (zAn zSH x0) ∧ zWp d zi_121 none 15 [l0, l1, l2, l3] [va_rf (P x0 x1.toNatClampNeg)] (zSH, I, L, P) Q)) ∧
    (∀ (d : Nat) (l0 : Value) (l1 : Value) (l2 : Int32) (l3 : Value) (x0 : Nat) (h : zMm) (Q : Option Value → zMm → Prop), zWp d zi_121 none 15 [l0, l1, .int l2, l3] [.ref x0] h Q = zWp d zi_121 none 16 [l0, l1, .int l2, .ref x0] [] h Q) ∧
    (∀ (d : Nat) (l0 : Value) (l1 : Value) (l2 : Value) (l3 : Nat)  (h : zMm) (Q : Option Value → zMm → Prop), zWp d zi_121 none 16 [l0, l1, l2, .ref l3] [] h Q = zWp d zi_121 none 17 [l0, l1, l2, .ref l3] [.ref l3] h Q) ∧
    (∀ (d : Nat) (l0 : Value) (l1 : Value) (l2 : Value) (l3 : Value) (x0 : Nat) (I : Nat → Nat → Int32) (L : Nat → Nat → Int64) (P : Nat → Nat → Option Nat) (Q : Option Value → zMm → Prop), zSH[x0]? = some (.inl 6) → zWp d zi_121 none 17 [l0, l1, l2, l3] [.ref x0] (zSH, I, L, P) Q = zWp d zi_121 none 20 [l0, l1, l2, l3] [.int (I x0 1)] (zSH, I, L, P) Q) ∧
    (∀ (d : Nat) (l0 : Value) (l1 : Value) (l2 : Value) (l3 : Value) (x0 : Int32) (h : zMm) (Q : Option Value → zMm → Prop), zWp d zi_121 none 20 [l0, l1, l2, l3] [.int x0] h Q = zWp d zi_121 none 22 [l0, l1, l2, l3] [.int (-2), .int x0] h Q) ∧
    (∀ (d : Nat) (l0 : Value) (l1 : Value) (l2 : Value) (l3 : Value) (x1 : Int32) (x0 : Int32) (h : zMm) (Q : Option Value → zMm → Prop), zWp d zi_121 none 22 [l0, l1, l2, l3] [.int x1, .int x0] h Q = if x0 = x1 then zWp d zi_121 none 25 [l0, l1, l2, l3] [] h Q else zWp d zi_121 none 28 [l0, l1, l2, l3] [] h Q) ∧
    (∀ (d : Nat) (l0 : Value) (l1 : Value) (l2 : Value) (l3 : Value)  (h : zMm) (Q : Option Value → zMm → Prop), zWp d zi_121 none 25 [l0, l1, l2, l3] [] h Q = zWp d zi_121 none 27 [l0, l1, l2, l3] [.int (-11)] h Q) ∧
    (∀ (d : Nat) (l0 : Value) (l1 : Value) (l2 : Value) (l3 : Value) (x0 : Int32) (h : zMm) (Q : Option Value → zMm → Prop), zWp d zi_121 none 27 [l0, l1, l2, l3] [.int x0] h Q = Q (some (.int x0)) h) ∧
    (∀ (d : Nat) (l0 : Value) (l1 : Value) (l2 : Value) (l3 : Nat)  (h : zMm) (Q : Option Value → zMm → Prop), zWp d zi_121 none 28 [l0, l1, l2, .ref l3] [] h Q = zWp d zi_121 none 29 [l0, l1, l2, .ref l3] [.ref l3] h Q) ∧
    (∀ (d : Nat) (l0 : Value) (l1 : Value) (l2 : Value) (l3 : Value) (x0 : Nat) (I : Nat → Nat → Int32) (L : Nat → Nat → Int64) (P : Nat → Nat → Option Nat) (Q : Option Value → zMm → Prop), zSH[x0]? = some (.inl 6) → zWp d zi_121 none 29 [l0, l1, l2, l3] [.ref x0] (zSH, I, L, P) Q = zWp d zi_121 none 32 [l0, l1, l2, l3] [.int (I x0 1)] (zSH, I, L, P) Q) ∧
    (∀ (d : Nat) (l0 : Value) (l1 : Value) (l2 : Value) (l3 : Value) (x0 : Int32) (h : zMm) (Q : Option Value → zMm → Prop), zWp d zi_121 none 32 [l0, l1, l2, l3] [.int x0] h Q = zWM d 48 [.int x0] h (fun r h1 => zWp d zi_121 none 35 [l0, l1, l2, l3] (r.toList ++ []) h1 Q)) ∧
    (∀ (d : Nat) (l0 : Value) (l1 : Value) (l2 : Value) (l3 : Value) (x0 : Int32) (h : zMm) (Q : Option Value → zMm → Prop), zWp d zi_121 none 35 [l0, l1, l2, l3] [.int x0] h Q = if x0 = 0 then zWp d zi_121 none 38 [l0, l1, l2, l3] [] h Q else zWp d zi_121 none 41 [l0, l1, l2, l3] [] h Q) ∧
    (∀ (d : Nat) (l0 : Value) (l1 : Value) (l2 : Value) (l3 : Value)  (h : zMm) (Q : Option Value → zMm → Prop), zWp d zi_121 none 38 [l0, l1, l2, l3] [] h Q = zWp d zi_121 none 40 [l0, l1, l2, l3] [.int (-12)] h Q) ∧
    (∀ (d : Nat) (l0 : Value) (l1 : Value) (l2 : Value) (l3 : Value) (x0 : Int32) (h : zMm) (Q : Option Value → zMm → Prop), zWp d zi_121 none 40 [l0, l1, l2, l3] [.int x0] h Q = Q (some (.int x0)) h) ∧
    (∀ (d : Nat) (l0 : Value) (l1 : Value) (l2 : Value) (l3 : Nat)  (h : zMm) (Q : Option Value → zMm → Prop), zWp d zi_121 none 41 [l0, l1, l2, .ref l3] [] h Q = zWp d zi_121 none 42 [l0, l1, l2, .ref l3] [.ref l3] h Q) ∧
    (∀ (d : Nat) (l0 : Value) (l1 : Value) (l2 : Int32) (l3 : Value) (x0 : Nat) (h : zMm) (Q : Option Value → zMm → Prop), zWp d zi_121 none 42 [l0, l1, .int l2, l3] [.ref x0] h Q = zWp d zi_121 none 43 [l0, l1, .int l2, l3] [.int l2, .ref x0] h Q) ∧
    (∀ (d : Nat) (l0 : Value) (l1 : Value) (l2 : Value) (l3 : Value) (x1 : Int32) (x0 : Nat) (h : zMm) (Q : Option Value → zMm → Prop), zWp d zi_121 none 43 [l0, l1, l2, l3] [.int x1, .ref x0] h Q = zWp d zi_121 none 44 [l0, l1, l2, l3] [.int 1, .int x1, .ref x0] h Q) ∧
    (∀ (d : Nat) (l0 : Value) (l1 : Value) (l2 : Value) (l3 : Value) (x2 : Int32) (x1 : Int32) (x0 : Nat) (I : Nat → Nat → Int32) (L : Nat → Nat → Int64) (P : Nat → Nat → Option Nat) (Q : Option Value → zMm → Prop), zSH[x0]? = some (.inl 6) → zWp d zi_121 none 44 [l0, l1, l2, l3] [.int x2, .int x1, .ref x0] (zSH, I, L, P) Q = zWM d 50 [.ref x0, .int x1, .int x2] (zSH, I, L, P) (fun r h1 => zWp d zi_121 none 47 [l0, l1, l2, l3] (r.toList ++ []) h1 Q)) ∧
    (∀ (d : Nat) (l0 : Value) (l1 : Value) (l2 : Value) (l3 : Value) (x0 : Int32) (h : zMm) (Q : Option Value → zMm → Prop), zWp d zi_121 none 47 [l0, l1, l2, l3] [.int x0] h Q = if x0 = 0 then zWp d zi_121 none 54 [l0, l1, l2, l3] [] h Q else zWp d zi_121 none 50 [l0, l1, l2, l3] [] h Q) ∧
    (∀ (d : Nat) (l0 : Value) (l1 : Value) (l2 : Value) (l3 : Value)  (h : zMm) (Q : Option Value → zMm → Prop), zWp d zi_121 none 50 [l0, l1, l2, l3] [] h Q = zWp d zi_121 none 51 [l0, l1, l2, l3] [.int 0] h Q) ∧
    (∀ (d : Nat) (l0 : Value) (l1 : Value) (l2 : Value) (l3 : Value) (x0 : Int32) (h : zMm) (Q : Option Value → zMm → Prop), zWp d zi_121 none 51 [l0, l1, l2, l3] [.int x0] h Q = zWp d zi_121 none 56 [l0, l1, l2, l3] [.int x0] h Q) ∧
    (∀ (d : Nat) (l0 : Value) (l1 : Value) (l2 : Value) (l3 : Value)  (h : zMm) (Q : Option Value → zMm → Prop), zWp d zi_121 none 54 [l0, l1, l2, l3] [] h Q = zWp d zi_121 none 56 [l0, l1, l2, l3] [.int (-13)] h Q) ∧
    (∀ (d : Nat) (l0 : Value) (l1 : Value) (l2 : Value) (l3 : Value) (x0 : Int32) (h : zMm) (Q : Option Value → zMm → Prop), zWp d zi_121 none 56 [l0, l1, l2, l3] [.int x0] h Q = Q (some (.int x0)) h) :=
  ⟨(fun d l0 l1 l2 l3  h Q => zr_iload_n rfl rfl),
   (fun d l0 l1 l2 l3 x0 h Q => zr_sta (as := [.int x0]) (rest := []) rfl lm_9_124 (by decide) m_120 kd_120 rfl (Nat.le_of_ble_eq_true rfl)),
   (fun d l0 l1 l2 l3 x0 h Q => zr_if_ne rfl (by decide)),
   (fun d l0 l1 l2 l3  h Q => zr_iconst rfl (by decide)),
   (fun d l0 l1 l2 l3 x0 h Q => zr_iret rfl rfl),
   (fun d l0 l1 l2 l3  h Q => zr_aload_n rfl rfl),
   (fun d l0 l1 l2 l3 x0 I L P Q p0 => zr_getQ rfl lf_9_69 (fun _ _ _ => rfl) p0),
   (fun d l0 l1 l2 l3 x0 h Q => zr_iload_n rfl rfl),
   (fun d l0 l1 l2 l3 x1 x0 I L P Q p0 => zr_qldO rfl p0),
   (fun d l0 l1 l2 l3 x0 h Q => zr_astore_n (n := 3) rfl (Nat.le_of_ble_eq_true rfl) rfl),
   (fun d l0 l1 l2 l3  h Q => zr_aload_n rfl rfl),
   (fun d l0 l1 l2 l3 x0 I L P Q p0 => zr_getI rfl lf_9_128 (fun _ _ _ => rfl) p0),
   (fun d l0 l1 l2 l3 x0 h Q => zr_bipush rfl (by decide)),
   (fun d l0 l1 l2 l3 x1 x0 h Q => zr_ic_ne rfl (by decide)),
   (fun d l0 l1 l2 l3  h Q => zr_bipush rfl (by decide)),
   (fun d l0 l1 l2 l3 x0 h Q => zr_iret rfl rfl),
   (fun d l0 l1 l2 l3  h Q => zr_aload_n rfl rfl),
   (fun d l0 l1 l2 l3 x0 I L P Q p0 => zr_getI rfl lf_9_128 (fun _ _ _ => rfl) p0),
   (fun d l0 l1 l2 l3 x0 h Q => zr_sta (as := [.int x0]) (rest := []) rfl lm_9_351 (by decide) m_48 kd_48 rfl (Nat.le_of_ble_eq_true rfl)),
   (fun d l0 l1 l2 l3 x0 h Q => zr_if_ne rfl (by decide)),
   (fun d l0 l1 l2 l3  h Q => zr_bipush rfl (by decide)),
   (fun d l0 l1 l2 l3 x0 h Q => zr_iret rfl rfl),
   (fun d l0 l1 l2 l3  h Q => zr_aload_n rfl rfl),
   (fun d l0 l1 l2 l3 x0 h Q => zr_iload_n rfl rfl),
   (fun d l0 l1 l2 l3 x1 x0 h Q => zr_iconst rfl (by decide)),
   (fun d l0 l1 l2 l3 x2 x1 x0 I L P Q p0 => zr_vir (as := [.int x2, .int x1]) (rest := []) rfl lm_9_131 m_50 kd_50 rfl (Nat.le_of_ble_eq_true rfl) p0),
   (fun d l0 l1 l2 l3 x0 h Q => zr_if_eq rfl (by decide)),
   (fun d l0 l1 l2 l3  h Q => zr_iconst rfl (by decide)),
   (fun d l0 l1 l2 l3 x0 h Q => zr_goto rfl (by decide)),
   (fun d l0 l1 l2 l3  h Q => zr_bipush rfl (by decide)),
   (fun d l0 l1 l2 l3 x0 h Q => zr_iret rfl rfl)⟩
