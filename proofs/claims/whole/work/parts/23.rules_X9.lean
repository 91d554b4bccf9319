theorem E_X9_build : ∀ (d : Nat) (a0 : Nat) (a1 : Int32) (a2 : Int32) (h : zMm) (Q : Option Value → zMm → Prop), zWM (d + 1) 73 [.ref a0, .int a1, .int a2] h Q = zWp d zi_73 none 0 [.ref a0, .int a1, .int a2, .retAddr 0, .retAddr 0, .retAddr 0, .retAddr 0] [] h Q := fun d a0 a1 a2 h Q => zW_M m_73 (Nat.le_of_ble_eq_true rfl) rfl
set_option maxRecDepth 100000 in
theorem R_X9_build :
    (∀ (d : Nat) (l0 : Value) (l1 : Int32) (l2 : Value) (l3 : Value) (l4 : Value) (l5 : Value) (l6 : Value)  (h : zMm) (Q : Option Value → zMm → Prop), zWp d zi_73 none 0 [l0, .int l1, l2, l3, l4, l5, l6] [] h Q = zWp d zi_73 none 1 [l0, .int l1, l2, l3, l4, l5, l6] [.int l1] h Q) ∧
    (∀ (d : Nat) (l0 : Value) (l1 : Value) (l2 : Value) (l3 : Value) (l4 : Value) (l5 : Value) (l6 : Value) (x0 : Int32) (h : zMm) (Q : Option Value → zMm → Prop), zWp d zi_73 none 1 [l0, l1, l2, l3, l4, l5, l6] [.int x0] h Q = zWp d zi_73 none 3 [l0, l1, l2, l3, l4, l5, l6] [.int 10, .int x0] h Q) ∧
    (∀ (d : Nat) (l0 : Value) (l1 : Value) (l2 : Value) (l3 : Value) (l4 : Value) (l5 : Value) (l6 : Value) (x1 : Int32) (x0 : Int32) (h : zMm) (Q : Option Value → zMm → Prop), zWp d zi_73 none 3 [l0, l1, l2, l3, l4, l5, l6] [.int x1, .int x0] h Q = if x0 < x1 then zWp d zi_73 none 22 [l0, l1, l2, l3, l4, l5, l6] [] h Q else zWp d zi_73 none 6 [l0, l1, l2, l3, l4, l5, l6] [] h Q) ∧
    (∀ (d : Nat) (l0 : Value) (l1 : Int32) (l2 : Value) (l3 : Value) (l4 : Value) (l5 : Value) (l6 : Value)  (h : zMm) (Q : Option Value → zMm → Prop), zWp d zi_73 none 6 [l0, .int l1, l2, l3, l4, l5, l6] [] h Q = zWp d zi_73 none 7 [l0, .int l1, l2, l3, l4, l5, l6] [.int l1] h Q) ∧
    (∀ (d : Nat) (l0 : Value) (l1 : Value) (l2 : Value) (l3 : Value) (l4 : Value) (l5 : Value) (l6 : Value) (x0 : Int32) (h : zMm) (Q : Option Value → zMm → Prop), zWp d zi_73 none 7 [l0, l1, l2, l3, l4, l5, l6] [.int x0] h Q = zWp d zi_73 none 9 [l0, l1, l2, l3, l4, l5, l6] [.int 99, .int x0] h Q) ∧
    (∀ (d : Nat) (l0 : Value) (l1 : Value) (l2 : Value) (l3 : Value) (l4 : Value) (l5 : Value) (l6 : Value) (x1 : Int32) (x0 : Int32) (h : zMm) (Q : Option Value → zMm → Prop), zWp d zi_73 none 9 [l0, l1, l2, l3, l4, l5, l6] [.int x1, .int x0] h Q = if x1 < x0 then zWp d zi_73 none 22 [l0, l1, l2, l3, l4, l5, l6] [] h Q else zWp d zi_73 none 12 [l0, l1, l2, l3, l4, l5, l6] [] h Q) ∧
    (∀ (d : Nat) (l0 : Value) (l1 : Value) (l2 : Int32) (l3 : Value) (l4 : Value) (l5 : Value) (l6 : Value)  (h : zMm) (Q : Option Value → zMm → Prop), zWp d zi_73 none 12 [l0, l1, .int l2, l3, l4, l5, l6] [] h Q = zWp d zi_73 none 13 [l0, l1, .int l2, l3, l4, l5, l6] [.int l2] h Q) ∧
    (∀ (d : Nat) (l0 : Value) (l1 : Value) (l2 : Value) (l3 : Value) (l4 : Value) (l5 : Value) (l6 : Value) (x0 : Int32) (h : zMm) (Q : Option Value → zMm → Prop), zWp d zi_73 none 13 [l0, l1, l2, l3, l4, l5, l6] [.int x0] h Q = if x0 < 0 then zWp d zi_73 none 22 [l0, l1, l2, l3, l4, l5, l6] [] h Q else zWp d zi_73 none 16 [l0, l1, l2, l3, l4, l5, l6] [] h Q) ∧
    (∀ (d : Nat) (l0 : Value) (l1 : Value) (l2 : Int32) (l3 : Value) (l4 : Value) (l5 : Value) (l6 : Value)  (h : zMm) (Q : Option Value → zMm → Prop), zWp d zi_73 none 16 [l0, l1, .int l2, l3, l4, l5, l6] [] h Q = zWp d zi_73 none 17 [l0, l1, .int l2, l3, l4, l5, l6] [.int l2] h Q) ∧
    (∀ (d : Nat) (l0 : Value) (l1 : Value) (l2 : Value) (l3 : Value) (l4 : Value) (l5 : Value) (l6 : Value) (x0 : Int32) (h : zMm) (Q : Option Value → zMm → Prop), zWp d zi_73 none 17 [l0, l1, l2, l3, l4, l5, l6] [.int x0] h Q = zWp d zi_73 none 19 [l0, l1, l2, l3, l4, l5, l6] [.int 88, .int x0] h Q) ∧
    (∀ (d : Nat) (l0 : Value) (l1 : Value) (l2 : Value) (l3 : Value) (l4 : Value) (l5 : Value) (l6 : Value) (x1 : Int32) (x0 : Int32) (h : zMm) (Q : Option Value → zMm → Prop), zWp d zi_73 none 19 [l0, l1, l2, l3, l4, l5, l6] [.int x1, .int x0] h Q = if x0 ≤ x1 then zWp d zi_73 none 24 [l0, l1, l2, l3, l4, l5, l6] [] h Q else zWp d zi_73 none 22 [l0, l1, l2, l3, l4, l5, l6] [] h Q) ∧
    (∀ (d : Nat) (l0 : Value) (l1 : Value) (l2 : Value) (l3 : Value) (l4 : Value) (l5 : Value) (l6 : Value)  (h : zMm) (Q : Option Value → zMm → Prop), zWp d zi_73 none 22 [l0, l1, l2, l3, l4, l5, l6] [] h Q = zWp d zi_73 none 23 [l0, l1, l2, l3, l4, l5, l6] [.int (-1)] h Q) ∧
    (∀ (d : Nat) (l0 : Value) (l1 : Value) (l2 : Value) (l3 : Value) (l4 : Value) (l5 : Value) (l6 : Value) (x0 : Int32) (h : zMm) (Q : Option Value → zMm → Prop), zWp d zi_73 none 23 [l0, l1, l2, l3, l4, l5, l6] [.int x0] h Q = Q (some (.int x0)) h) ∧
    (∀ (d : Nat) (l0 : Value) (l1 : Int32) (l2 : Value) (l3 : Value) (l4 : Value) (l5 : Value) (l6 : Value)  (h : zMm) (Q : Option Value → zMm → Prop), zWp d zi_73 none 24 [l0, .int l1, l2, l3, l4, l5, l6] [] h Q = zWp d zi_73 none 25 [l0, .int l1, l2, l3, l4, l5, l6] [.int l1] h Q) ∧
    (∀ (d : Nat) (l0 : Value) (l1 : Value) (l2 : Value) (l3 : Value) (l4 : Value) (l5 : Value) (l6 : Value) (x0 : Int32) (h : zMm) (Q : Option Value → zMm → Prop), zWp d zi_73 none 25 [l0, l1, l2, l3, l4, l5, l6] [.int x0] h Q = zWp d zi_73 none 27 [l0, l1, l2, l3, l4, l5, l6] [.int 10, .int x0] h Q) ∧
    (∀ (d : Nat) (l0 : Value) (l1 : Value) (l2 : Value) (l3 : Value) (l4 : Value) (l5 : Value) (l6 : Value) (x1 : Int32) (x0 : Int32) (h : zMm) (Q : Option Value → zMm → Prop), zWp d zi_73 none 27 [l0, l1, l2, l3, l4, l5, l6] [.int x1, .int x0] h Q = (¬ x1 = 0 ∧ zWp d zi_73 none 28 [l0, l1, l2, l3, l4, l5, l6] [.int (x0 / x1)] h Q)) ∧
    (∀ (d : Nat) (l0 : Value) (l1 : Value) (l2 : Int32) (l3 : Value) (l4 : Value) (l5 : Value) (l6 : Value) (x0 : Int32) (h : zMm) (Q : Option Value → zMm → Prop), zWp d zi_73 none 28 [l0, l1, .int l2, l3, l4, l5, l6] [.int x0] h Q = zWp d zi_73 none 29 [l0, l1, .int l2, .int x0, l4, l5, l6] [] h Q) ∧
    (∀ (d : Nat) (l0 : Value) (l1 : Int32) (l2 : Value) (l3 : Value) (l4 : Value) (l5 : Value) (l6 : Value)  (h : zMm) (Q : Option Value → zMm → Prop), zWp d zi_73 none 29 [l0, .int l1, l2, l3, l4, l5, l6] [] h Q = zWp d zi_73 none 30 [l0, .int l1, l2, l3, l4, l5, l6] [.int l1] h Q) ∧
    (∀ (d : Nat) (l0 : Value) (l1 : Value) (l2 : Value) (l3 : Value) (l4 : Value) (l5 : Value) (l6 : Value) (x0 : Int32) (h : zMm) (Q : Option Value → zMm → Prop), zWp d zi_73 none 30 [l0, l1, l2, l3, l4, l5, l6] [.int x0] h Q = zWp d zi_73 none 32 [l0, l1, l2, l3, l4, l5, l6] [.int 10, .int x0] h Q) ∧
    (∀ (d : Nat) (l0 : Value) (l1 : Value) (l2 : Value) (l3 : Value) (l4 : Value) (l5 : Value) (l6 : Value) (x1 : Int32) (x0 : Int32) (h : zMm) (Q : Option Value → zMm → Prop), zWp d zi_73 none 32 [l0, l1, l2, l3, l4, l5, l6] [.int x1, .int x0] h Q = (¬ x1 = 0 ∧ zWp d zi_73 none 33 [l0, l1, l2, l3, l4, l5, l6] [.int (x0 - x0 / x1 * x1)] h Q)) ∧
    (∀ (d : Nat) (l0 : Value) (l1 : Value) (l2 : Value) (l3 : Int32) (l4 : Value) (l5 : Value) (l6 : Value) (x0 : Int32) (h : zMm) (Q : Option Value → zMm → Prop), zWp d zi_73 none 33 [l0, l1, l2, .int l3, l4, l5, l6] [.int x0] h Q = zWp d zi_73 none 35 [l0, l1, l2, .int l3, .int x0, l5, l6] [] h Q) ∧
    (∀ (d : Nat) (l0 : Value) (l1 : Value) (l2 : Int32) (l3 : Value) (l4 : Value) (l5 : Value) (l6 : Value)  (h : zMm) (Q : Option Value → zMm → Prop), zWp d zi_73 none 35 [l0, l1, .int l2, l3, l4, l5, l6] [] h Q = zWp d zi_73 none 36 [l0, l1, .int l2, l3, l4, l5, l6] [.int l2] h Q) ∧
    (∀ (d : Nat) (l0 : Value) (l1 : Value) (l2 : Value) (l3 : Value) (l4 : Value) (l5 : Value) (l6 : Value) (x0 : Int32) (h : zMm) (Q : Option Value → zMm → Prop), zWp d zi_73 none 36 [l0, l1, l2, l3, l4, l5, l6] [.int x0] h Q = zWp d zi_73 none 38 [l0, l1, l2, l3, l4, l5, l6] [.int 10, .int x0] h Q) ∧
    (∀ (d : Nat) (l0 : Value) (l1 : Value) (l2 : Value) (l3 : Value) (l4 : Value) (l5 : Value) (l6 : Value) (x1 : Int32) (x0 : Int32) (h : zMm) (Q : Option Value → zMm → Prop), zWp d zi_73 none 38 [l0, l1, l2, l3, l4, l5, l6] [.int x1, .int x0] h Q = (¬ x1 = 0 ∧ zWp d zi_73 none 39 [l0, l1, l2, l3, l4, l5, l6] [.int (x0 / x1)] h Q)) ∧
    (∀ (d : Nat) (l0 : Value) (l1 : Value) (l2 : Value) (l3 : Value) (l4 : Value) (l5 : Value) (l6 : Value) (x0 : Int32) (h : zMm) (Q : Option Value → zMm → Prop), zWp d zi_73 none 39 [l0, l1, l2, l3, l4, l5, l6] [.int x0] h Q = zWp d zi_73 none 40 [l0, l1, l2, l3, l4, l5, l6] [.int 4, .int x0] h Q) ∧
    (∀ (d : Nat) (l0 : Value) (l1 : Value) (l2 : Value) (l3 : Value) (l4 : Value) (l5 : Value) (l6 : Value) (x1 : Int32) (x0 : Int32) (h : zMm) (Q : Option Value → zMm → Prop), zWp d zi_73 none 40 [l0, l1, l2, l3, l4, l5, l6] [.int x1, .int x0] h Q = zWp d zi_73 none 41 [l0, l1, l2, l3, l4, l5, l6] [.int (x0 - x1)] h Q) ∧
    (∀ (d : Nat) (l0 : Value) (l1 : Value) (l2 : Value) (l3 : Value) (l4 : Int32) (l5 : Value) (l6 : Value) (x0 : Int32) (h : zMm) (Q : Option Value → zMm → Prop), zWp d zi_73 none 41 [l0, l1, l2, l3, .int l4, l5, l6] [.int x0] h Q = zWp d zi_73 none 43 [l0, l1, l2, l3, .int l4, .int x0, l6] [] h Q) ∧
    (∀ (d : Nat) (l0 : Value) (l1 : Value) (l2 : Int32) (l3 : Value) (l4 : Value) (l5 : Value) (l6 : Value)  (h : zMm) (Q : Option Value → zMm → Prop), zWp d zi_73 none 43 [l0, l1, .int l2, l3, l4, l5, l6] [] h Q = zWp d zi_73 none 44 [l0, l1, .int l2, l3, l4, l5, l6] [.int l2] h Q) ∧
    (∀ (d : Nat) (l0 : Value) (l1 : Value) (l2 : Value) (l3 : Value) (l4 : Value) (l5 : Value) (l6 : Value) (x0 : Int32) (h : zMm) (Q : Option Value → zMm → Prop), zWp d zi_73 none 44 [l0, l1, l2, l3, l4, l5, l6] [.int x0] h Q = zWp d zi_73 none 46 [l0, l1, l2, l3, l4, l5, l6] [.int 10, .int x0] h Q) ∧
    (∀ (d : Nat) (l0 : Value) (l1 : Value) (l2 : Value) (l3 : Value) (l4 : Value) (l5 : Value) (l6 : Value) (x1 : Int32) (x0 : Int32) (h : zMm) (Q : Option Value → zMm → Prop), zWp d zi_73 none 46 [l0, l1, l2, l3, l4, l5, l6] [.int x1, .int x0] h Q = (¬ x1 = 0 ∧ zWp d zi_73 none 47 [l0, l1, l2, l3, l4, l5, l6] [.int (x0 - x0 / x1 * x1)] h Q)) ∧
    (∀ (d : Nat) (l0 : Value) (l1 : Value) (l2 : Value) (l3 : Value) (l4 : Value) (l5 : Value) (l6 : Value) (x0 : Int32) (h : zMm) (Q : Option Value → zMm → Prop), zWp d zi_73 none 47 [l0, l1, l2, l3, l4, l5, l6] [.int x0] h Q = zWp d zi_73 none 48 [l0, l1, l2, l3, l4, l5, l6] [.int 4, .int x0] h Q) ∧
    (∀ (d : Nat) (l0 : Value) (l1 : Value) (l2 : Value) (l3 : Value) (l4 : Value) (l5 : Value) (l6 : Value) (x1 : Int32) (x0 : Int32) (h : zMm) (Q : Option Value → zMm → Prop), zWp d zi_73 none 48 [l0, l1, l2, l3, l4, l5, l6] [.int x1, .int x0] h Q = zWp d zi_73 none 49 [l0, l1, l2, l3, l4, l5, l6] [.int (x0 - x1)] h Q) ∧
    (∀ (d : Nat) (l0 : Value) (l1 : Value) (l2 : Value) (l3 : Value) (l4 : Value) (l5 : Int32) (l6 : Value) (x0 : Int32) (h : zMm) (Q : Option Value → zMm → Prop), zWp d zi_73 none 49 [l0, l1, l2, l3, l4, .int l5, l6] [.int x0] h Q = zWp d zi_73 none 51 [l0, l1, l2, l3, l4, .int l5, .int x0] [] h Q) ∧
    (∀ (d : Nat) (l0 : Value) (l1 : Value) (l2 : Value) (l3 : Int32) (l4 : Value) (l5 : Value) (l6 : Value)  (h : zMm) (Q : Option Value → zMm → Prop), zWp d zi_73 none 51 [l0, l1, l2, .int l3, l4, l5, l6] [] h Q = zWp d zi_73 none 52 [l0, l1, l2, .int l3, l4, l5, l6] [.int l3] h Q) ∧
    (∀ (d : Nat) (l0 : Value) (l1 : Value) (l2 : Value) (l3 : Value) (l4 : Int32) (l5 : Value) (l6 : Value) (x0 : Int32) (h : zMm) (Q : Option Value → zMm → Prop), zWp d zi_73 none 52 [l0, l1, l2, l3, .int l4, l5, l6] [.int x0] h Q = zWp d zi_73 none 54 [l0, l1, l2, l3, .int l4, l5, l6] [.int l4, .int x0] h Q) ∧
    (∀ (d : Nat) (l0 : Value) (l1 : Value) (l2 : Value) (l3 : Value) (l4 : Value) (l5 : Int32) (l6 : Value) (x1 : Int32) (x0 : Int32) (h : zMm) (Q : Option Value → zMm → Prop), zWp d zi_73 none 54 [l0, l1, l2, l3, l4, .int l5, l6] [.int x1, .int x0] h Q = zWp d zi_73 none 56 [l0, l1, l2, l3, l4, .int l5, l6] [.int l5, .int x1, .int x0] h Q) ∧
    (∀ (d : Nat) (l0 : Value) (l1 : Value) (l2 : Value) (l3 : Value) (l4 : Value) (l5 : Value) (l6 : Int32) (x2 : Int32) (x1 : Int32) (x0 : Int32) (h : zMm) (Q : Option Value → zMm → Prop), zWp d zi_73 none 56 [l0, l1, l2, l3, l4, l5, .int l6] [.int x2, .int x1, .int x0] h Q = zWp d zi_73 none 58 [l0, l1, l2, l3, l4, l5, .int l6] [.int l6, .int x2, .int x1, .int x0] h Q) ∧
    (∀ (d : Nat) (l0 : Value) (l1 : Value) (l2 : Value) (l3 : Value) (l4 : Value) (l5 : Value) (l6 : Value) (x3 : Int32) (x2 : Int32) (x1 : Int32) (x0 : Int32) (h : zMm) (Q : Option Value → zMm → Prop), zWp d zi_73 none 58 [l0, l1, l2, l3, l4, l5, l6] [.int x3, .int x2, .int x1, .int x0] h Q = zWM d 58 [.int x0, .int x1, .int x2, .int x3] h (fun r h1 => zWp d zi_73 none 61 [l0, l1, l2, l3, l4, l5, l6] (r.toList ++ []) h1 Q)) ∧
    (∀ (d : Nat) (l0 : Value) (l1 : Value) (l2 : Value) (l3 : Value) (l4 : Value) (l5 : Value) (l6 : Value) (x0 : Int32) (h : zMm) (Q : Option Value → zMm → Prop), zWp d zi_73 none 61 [l0, l1, l2, l3, l4, l5, l6] [.int x0] h Q = if x0 = 0 then zWp d zi_73 none 64 [l0, l1, l2, l3, l4, l5, l6] [] h Q else zWp d zi_73 none 66 [l0, l1, l2, l3, l4, l5, l6] [] h Q) ∧
    (∀ (d : Nat) (l0 : Value) (l1 : Value) (l2 : Value) (l3 : Value) (l4 : Value) (l5 : Value) (l6 : Value)  (h : zMm) (Q : Option Value → zMm → Prop), zWp d zi_73 none 64 [l0, l1, l2, l3, l4, l5, l6] [] h Q = zWp d zi_73 none 65 [l0, l1, l2, l3, l4, l5, l6] [.int (-1)] h Q) ∧
    (∀ (d : Nat) (l0 : Value) (l1 : Value) (l2 : Value) (l3 : Value) (l4 : Value) (l5 : Value) (l6 : Value) (x0 : Int32) (h : zMm) (Q : Option Value → zMm → Prop), zWp d zi_73 none 65 [l0, l1, l2, l3, l4, l5, l6] [.int x0] h Q = Q (some (.int x0)) h) ∧
    (∀ (d : Nat) (l0 : Nat) (l1 : Value) (l2 : Value) (l3 : Value) (l4 : Value) (l5 : Value) (l6 : Value)  (h : zMm) (Q : Option Value → zMm → Prop), zWp d zi_73 none 66 [.ref l0, l1, l2, l3, l4, l5, l6] [] h Q = zWp d zi_73 none 67 [.ref l0, l1, l2, l3, l4, l5, l6] [.ref l0] h Q) ∧
    (∀ (d : Nat) (l0 : Value) (l1 : Value) (l2 : Value) (l3 : Value) (l4 : Value) (l5 : Value) (l6 : Value) (x0 : Nat) (I : Nat → Nat → Int32) (L : Nat → Nat → Int64) (P : Nat → Nat → Option Nat) (Q : Option Value → zMm → Prop), zSH[x0]? = some (.inl 9) → zWp d zi_73 none 67 [l0, l1, l2, l3, l4, l5, l6] [.ref x0] (zSH, I, L, P) Q = zWp d zi_73 none 70 [l0, l1, l2, l3, l4, l5, l6] [va_rf (P x0 0)] (zSH, I, L, P) Q) ∧
    (∀ (d : Nat) (l0 : Value) (l1 : Value) (l2 : Value) (l3 : Value) (l4 : Value) (l5 : Value) (l6 : Value) (x0 : Nat) (I : Nat → Nat → Int32) (L : Nat → Nat → Int64) (P : Nat → Nat → Option Nat) (Q : Option Value → zMm → Prop), zSH[x0]? = some (.inl 8) → zWp d zi_73 none 70 [l0, l1, l2, l3, l4, l5, l6] [.ref x0] (zSH, I, L, P) Q = zWp d zi_73 none 73 [l0, l1, l2, l3, l4, l5, l6] [.int (I x0 6)] (zSH, I, L, P) Q) ∧
    (∀ (d : Nat) (l0 : Value) (l1 : Value) (l2 : Value) (l3 : Value) (l4 : Value) (l5 : Value) (l6 : Value) (x0 : Int32) (h : zMm) (Q : Option Value → zMm → Prop), zWp d zi_73 none 73 [l0, l1, l2, l3, l4, l5, l6] [.int x0] h Q = zWp d zi_73 none 75 [l0, l1, l2, l3, l4, l5, l6] [.int 24, .int x0] h Q) ∧
    (∀ (d : Nat) (l0 : Value) (l1 : Value) (l2 : Value) (l3 : Value) (l4 : Value) (l5 : Value) (l6 : Value) (x1 : Int32) (x0 : Int32) (h : zMm) (Q : Option Value → zMm → Prop), zWp d zi_73 none 75 [l0, l1, l2, l3, l4, l5, l6] [.int x1, .int x0] h Q = if x0 < x1 then zWp d zi_73 none 81 [l0, l1, l2, l3, l4, l5, l6] [] h Q else zWp d zi_73 none 78 [l0, l1, l2, l3, l4, l5, l6] [] h Q) ∧
    (∀ (d : Nat) (l0 : Value) (l1 : Value) (l2 : Value) (l3 : Value) (l4 : Value) (l5 : Value) (l6 : Value)  (h : zMm) (Q : Option Value → zMm → Prop), zWp d zi_73 none 78 [l0, l1, l2, l3, l4, l5, l6] [] h Q = zWp d zi_73 none 80 [l0, l1, l2, l3, l4, l5, l6] [.int (-3)] h Q) ∧
    (∀ (d : Nat) (l0 : Value) (l1 : Value) (l2 : Value) (l3 : Value) (l4 : Value) (l5 : Value) (l6 : Value) (x0 : Int32) (h : zMm) (Q : Option Value → zMm → Prop), zWp d zi_73 none 80 [l0, l1, l2, l3, l4, l5, l6] [.int x0] h Q = Q (some (.int x0)) h) ∧
    (∀ (d : Nat) (l0 : Nat) (l1 : Value) (l2 : Value) (l3 : Value) (l4 : Value) (l5 : Value) (l6 : Value)  (h : zMm) (Q : Option Value → zMm → Prop), zWp d zi_73 none 81 [.ref l0, l1, l2, l3, l4, l5, l6] [] h Q = zWp d zi_73 none 82 [.ref l0, l1, l2, l3, l4, l5, l6] [.ref l0] h Q) ∧
    (∀ (d : Nat) (l0 : Value) (l1 : Value) (l2 : Value) (l3 : Value) (l4 : Value) (l5 : Value) (l6 : Value) (x0 : Nat) (I : Nat → Nat → Int32) (L : Nat → Nat → Int64) (P : Nat → Nat → Option Nat) (Q : Option Value → zMm → Prop), zSH[x0]? = some (.inl 9) → zWp d zi_73 none 82 [l0, l1, l2, l3, l4, l5, l6] [.ref x0] (zSH, I, L, P) Q = zWp d zi_73 none 85 [l0, l1, l2, l3, l4, l5, l6] [va_rf (P x0 5)] (zSH, I, L, P) Q) ∧
    (∀ (d : Nat) (l0 : Value) (l1 : Value) (l2 : Value) (l3 : Value) (l4 : Value) (l5 : Value) (l6 : Value) (x0 : Nat) (I : Nat → Nat → Int32) (L : Nat → Nat → Int64) (P : Nat → Nat → Option Nat) (Q : Option Value → zMm → Prop), zSH[x0]? = some (.inl 7) → zWp d zi_73 none 85 [l0, l1, l2, l3, l4, l5, l6] [.ref x0] (zSH, I, L, P) Q = zWp d zi_73 none 88 [l0, l1, l2, l3, l4, l5, l6] [.int (I x0 0)] (zSH, I, L, P) Q) ∧
    (∀ (d : Nat) (l0 : Value) (l1 : Value) (l2 : Value) (l3 : Int32) (l4 : Value) (l5 : Value) (l6 : Value) (x0 : Int32) (h : zMm) (Q : Option Value → zMm → Prop), zWp d zi_73 none 88 [l0, l1, l2, .int l3, l4, l5, l6] [.int x0] h Q = zWp d zi_73 none 89 [l0, l1, l2, .int l3, l4, l5, l6] [.int l3, .int x0] h Q) ∧
    (∀ (d : Nat) (l0 : Value) (l1 : Value) (l2 : Value) (l3 : Value) (l4 : Int32) (l5 : Value) (l6 : Value) (x1 : Int32) (x0 : Int32) (h : zMm) (Q : Option Value → zMm → Prop), zWp d zi_73 none 89 [l0, l1, l2, l3, .int l4, l5, l6] [.int x1, .int x0] h Q = zWp d zi_73 none 91 [l0, l1, l2, l3, .int l4, l5, l6] [.int l4, .int x1, .int x0] h Q) ∧
    (∀ (d : Nat) (l0 : Value) (l1 : Value) (l2 : Value) (l3 : Value) (l4 : Value) (l5 : Value) (l6 : Value) (x2 : Int32) (x1 : Int32) (x0 : Int32) (h : zMm) (Q : Option Value → zMm → Prop), zWp d zi_73 none 91 [l0, l1, l2, l3, l4, l5, l6] [.int x2, .int x1, .int x0] h Q = zWp d zi_73 none 92 [l0, l1, l2, l3, l4, l5, l6] [.int (x1 - x2), .int x0] h Q) ∧
    (∀ (d : Nat) (l0 : Value) (l1 : Value) (l2 : Value) (l3 : Value) (l4 : Value) (l5 : Value) (l6 : Value) (x1 : Int32) (x0 : Int32) (h : zMm) (Q : Option Value → zMm → Prop), zWp d zi_73 none 92 [l0, l1, l2, l3, l4, l5, l6] [.int x1, .int x0] h Q = if x0 < x1 then zWp d zi_73 none 107 [l0, l1, l2, l3, l4, l5, l6] [] h Q else zWp d zi_73 none 95 [l0, l1, l2, l3, l4, l5, l6] [] h Q) ∧
    (∀ (d : Nat) (l0 : Nat) (l1 : Value) (l2 : Value) (l3 : Value) (l4 : Value) (l5 : Value) (l6 : Value)  (h : zMm) (Q : Option Value → zMm → Prop), zWp d zi_73 none 95 [.ref l0, l1, l2, l3, l4, l5, l6] [] h Q = zWp d zi_73 none 96 [.ref l0, l1, l2, l3, l4, l5, l6] [.ref l0] h Q) ∧
    (∀ (d : Nat) (l0 : Value) (l1 : Value) (l2 : Value) (l3 : Value) (l4 : Value) (l5 : Value) (l6 : Value) (x0 : Nat) (I : Nat → Nat → Int32) (L : Nat → Nat → Int64) (P : Nat → Nat → Option Nat) (Q : Option Value → zMm → Prop), zSH[x0]? = some (.inl 9) → zWp d zi_73 none 96 [l0, l1, l2, l3, l4, l5, l6] [.ref x0] (zSH, I, L, P) Q = zWp d zi_73 none 99 [l0, l1, l2, l3, l4, l5, l6] [va_rf (P x0 5)] (zSH, I, L, P) Q) ∧
    (∀ (d : Nat) (l0 : Value) (l1 : Value) (l2 : Value) (l3 : Value) (l4 : Value) (l5 : Value) (l6 : Value) (x0 : Nat) (I : Nat → Nat → Int32) (L : Nat → Nat → Int64) (P : Nat → Nat → Option Nat) (Q : Option Value → zMm → Prop), zSH[x0]? = some (.inl 7) → zWp d zi_73 none 99 [l0, l1, l2, l3, l4, l5, l6] [.ref x0] (zSH, I, L, P) Q = zWp d zi_73 none 102 [l0, l1, l2, l3, l4, l5, l6] [.int (I x0 1)] (zSH, I, L, P) Q) ∧
    (∀ (d : Nat) (l0 : Value) (l1 : Value) (l2 : Value) (l3 : Value) (l4 : Int32) (l5 : Value) (l6 : Value) (x0 : Int32) (h : zMm) (Q : Option Value → zMm → Prop), zWp d zi_73 none 102 [l0, l1, l2, l3, .int l4, l5, l6] [.int x0] h Q = zWp d zi_73 none 104 [l0, l1, l2, l3, .int l4, l5, l6] [.int l4, .int x0] h Q) ∧
    (∀ (d : Nat) (l0 : Value) (l1 : Value) (l2 : Value) (l3 : Value) (l4 : Value) (l5 : Value) (l6 : Value) (x1 : Int32) (x0 : Int32) (h : zMm) (Q : Option Value → zMm → Prop), zWp d zi_73 none 104 [l0, l1, l2, l3, l4, l5, l6] [.int x1, .int x0] h Q = if x1 ≤ x0 then zWp d zi_73 none 110 [l0, l1, l2, l3, l4, l5, l6] [] h Q else zWp d zi_73 none 107 [l0, l1, l2, l3, l4, l5, l6] [] h Q) ∧
    (∀ (d : Nat) (l0 : Value) (l1 : Value) (l2 : Value) (l3 : Value) (l4 : Value) (l5 : Value) (l6 : Value)  (h : zMm) (Q : Option Value → zMm → Prop), zWp d zi_73 none 107 [l0, l1, l2, l3, l4, l5, l6] [] h Q = zWp d zi_73 none 109 [l0, l1, l2, l3, l4, l5, l6] [.int (-5)] h Q) ∧
    (∀ (d : Nat) (l0 : Value) (l1 : Value) (l2 : Value) (l3 : Value) (l4 : Value) (l5 : Value) (l6 : Value) (x0 : Int32) (h : zMm) (Q : Option Value → zMm → Prop), zWp d zi_73 none 109 [l0, l1, l2, l3, l4, l5, l6] [.int x0] h Q = Q (some (.int x0)) h) ∧
    (∀ (d : Nat) (l0 : Nat) (l1 : Value) (l2 : Value) (l3 : Value) (l4 : Value) (l5 : Value) (l6 : Value)  (h : zMm) (Q : Option Value → zMm → Prop), zWp d zi_73 none 110 [.ref l0, l1, l2, l3, l4, l5, l6] [] h Q = zWp d zi_73 none 111 [.ref l0, l1, l2, l3, l4, l5, l6] [.ref l0] h Q) ∧
    (∀ (d : Nat) (l0 : Value) (l1 : Value) (l2 : Value) (l3 : Value) (l4 : Value) (l5 : Value) (l6 : Value) (x0 : Nat) (I : Nat → Nat → Int32) (L : Nat → Nat → Int64) (P : Nat → Nat → Option Nat) (Q : Option Value → zMm → Prop), zSH[x0]? = some (.inl 9) → zWp d zi_73 none 111 [l0, l1, l2, l3, l4, l5, l6] [.ref x0] (zSH, I, L, P) Q = zWp d zi_73 none 114 [l0, l1, l2, l3, l4, l5, l6] [va_rf (P x0 5)] (zSH, I, L, P) Q) ∧
    (∀ (d : Nat) (l0 : Value) (l1 : Value) (l2 : Value) (l3 : Value) (l4 : Value) (l5 : Value) (l6 : Value) (x0 : Nat) (h : zMm) (Q : Option Value → zMm → Prop), zWp d zi_73 none 114 [l0, l1, l2, l3, l4, l5, l6] [.ref x0] h Q = zWp d zi_73 none 115 [l0, l1, l2, l3, l4, l5, l6] [.ref x0, .ref x0] h Q) ∧
    (∀ (d : Nat) (l0 : Value) (l1 : Value) (l2 : Value) (l3 : Value) (l4 : Value) (l5 : Value) (l6 : Value) (x1 : Nat) (x0 : Nat) (I : Nat → Nat → Int32) (L : Nat → Nat → Int64) (P : Nat → Nat → Option Nat) (Q : Option Value → zMm → Prop), zSH[x1]? = some (.inl 7) → zWp d zi_73 none 115 [l0, l1, l2, l3, l4, l5, l6] [.ref x1, .ref x0] (zSH, I, L, P) Q = zWp d zi_73 none 118 [l0, l1, l2, l3, l4, l5, l6] [.int (I x1 0), .ref x0] (zSH, I, L, P) Q) ∧
    (∀ (d : Nat) (l0 : Value) (l1 : Value) (l2 : Value) (l3 : Int32) (l4 : Value) (l5 : Value) (l6 : Value) (x1 : Int32) (x0 : Nat) (h : zMm) (Q : Option Value → zMm → Prop), zWp d zi_73 none 118 [l0, l1, l2, .int l3, l4, l5, l6] [.int x1, .ref x0] h Q = zWp d zi_73 none 119 [l0, l1, l2, .int l3, l4, l5, l6] [.int l3, .int x1, .ref x0] h Q) ∧
    (∀ (d : Nat) (l0 : Value) (l1 : Value) (l2 : Value) (l3 : Value) (l4 : Int32) (l5 : Value) (l6 : Value) (x2 : Int32) (x1 : Int32) (x0 : Nat) (h : zMm) (Q : Option Value → zMm → Prop), zWp d zi_73 none 119 [l0, l1, l2, l3, .int l4, l5, l6] [.int x2, .int x1, .ref x0] h Q = zWp d zi_73 none 121 [l0, l1, l2, l3, .int l4, l5, l6] [.int l4, .int x2, .int x1, .ref x0] h Q) ∧
    (∀ (d : Nat) (l0 : Value) (l1 : Value) (l2 : Value) (l3 : Value) (l4 : Value) (l5 : Value) (l6 : Value) (x3 : Int32) (x2 : Int32) (x1 : Int32) (x0 : Nat) (h : zMm) (Q : Option Value → zMm → Prop), zWp d zi_73 none 121 [l0, l1, l2, l3, l4, l5, l6] [.int x3, .int x2, .int x1, .ref x0] h Q = zWp d zi_73 none 122 [l0, l1, l2, l3, l4, l5, l6] [.int (x2 - x3), .int x1, .ref x0] h Q) ∧
    (∀ (d : Nat) (l0 : Value) (l1 : Value) (l2 : Value) (l3 : Value) (l4 : Value) (l5 : Value) (l6 : Value) (x2 : Int32) (x1 : Int32) (x0 : Nat) (h : zMm) (Q : Option Value → zMm → Prop), zWp d zi_73 none 122 [l0, l1, l2, l3, l4, l5, l6] [.int x2, .int x1, .ref x0] h Q = zWp d zi_73 none 123 [l0, l1, l2, l3, l4, l5, l6] [.int (x1 - x2), .ref x0] h Q) ∧
    (∀ (d : Nat) (l0 : Value) (l1 : Value) (l2 : Value) (l3 : Value) (l4 : Value) (l5 : Value) (l6 : Value) (x1 : Int32) (x0 : Nat) (I : Nat → Nat → Int32) (L : Nat → Nat → Int64) (P : Nat → Nat → Option Nat) (Q : Option Value → zMm → Prop), zSH[x0]? = some (.inl 7) → zWp d zi_73 none 123 [l0, l1, l2, l3, l4, l5, l6] [.int x1, .ref x0] (zSH, I, L, P) Q = zWp d zi_73 none 126 [l0, l1, l2, l3, l4, l5, l6] [] (zSH, zw I x0 (upd (I x0) 0 x1), L, P) Q) ∧
    (∀ (d : Nat) (l0 : Nat) (l1 : Value) (l2 : Value) (l3 : Value) (l4 : Value) (l5 : Value) (l6 : Value)  (h : zMm) (Q : Option Value → zMm → Prop), zWp d zi_73 none 126 [.ref l0, l1, l2, l3, l4, l5, l6] [] h Q = zWp d zi_73 none 127 [.ref l0, l1, l2, l3, l4, l5, l6] [.ref l0] h Q) ∧
    (∀ (d : Nat) (l0 : Value) (l1 : Value) (l2 : Value) (l3 : Value) (l4 : Value) (l5 : Value) (l6 : Value) (x0 : Nat) (I : Nat → Nat → Int32) (L : Nat → Nat → Int64) (P : Nat → Nat → Option Nat) (Q : Option Value → zMm → Prop), zSH[x0]? = some (.inl 9) → zWp d zi_73 none 127 [l0, l1, l2, l3, l4, l5, l6] [.ref x0] (zSH, I, L, P) Q = zWp d zi_73 none 130 [l0, l1, l2, l3, l4, l5, l6] [va_rf (P x0 5)] (zSH, I, L, P) Q) ∧
    (∀ (d : Nat) (l0 : Value) (l1 : Value) (l2 : Value) (l3 : Value) (l4 : Value) (l5 : Value) (l6 : Value) (x0 : Nat) (h : zMm) (Q : Option Value → zMm → Prop), zWp d zi_73 none 130 [l0, l1, l2, l3, l4, l5, l6] [.ref x0] h Q = zWp d zi_73 none 131 [l0, l1, l2, l3, l4, l5, l6] [.ref x0, .ref x0] h Q) ∧
    (∀ (d : Nat) (l0 : Value) (l1 : Value) (l2 : Value) (l3 : Value) (l4 : Value) (l5 : Value) (l6 : Value) (x1 : Nat) (x0 : Nat) (I : Nat → Nat → Int32) (L : Nat → Nat → Int64) (P : Nat → Nat → Option Nat) (Q : Option Value → zMm → Prop), zSH[x1]? = some (.inl 7) → zWp d zi_73 none 131 [l0, l1, l2, l3, l4, l5, l6] [.ref x1, .ref x0] (zSH, I, L, P) Q = zWp d zi_73 none 134 [l0, l1, l2, l3, l4, l5, l6] [.int (I x1 1), .ref x0] (zSH, I, L, P) Q) ∧
    (∀ (d : Nat) (l0 : Value) (l1 : Value) (l2 : Value) (l3 : Value) (l4 : Int32) (l5 : Value) (l6 : Value) (x1 : Int32) (x0 : Nat) (h : zMm) (Q : Option Value → zMm → Prop), zWp d zi_73 none 134 [l0, l1, l2, l3, .int l4, l5, l6] [.int x1, .ref x0] h Q = zWp d zi_73 none 136 [l0, l1, l2, l3, .int l4, l5, l6] [.int l4, .int x1, .ref x0] h Q) ∧
    (∀ (d : Nat) (l0 : Value) (l1 : Value) (l2 : Value) (l3 : Value) (l4 : Value) (l5 : Value) (l6 : Value) (x2 : Int32) (x1 : Int32) (x0 : Nat) (h : zMm) (Q : Option Value → zMm → Prop), zWp d zi_73 none 136 [l0, l1, l2, l3, l4, l5, l6] [.int x2, .int x1, .ref x0] h Q = zWp d zi_73 none 137 [l0, l1, l2, l3, l4, l5, l6] [.int (x1 - x2), .ref x0] h Q) ∧
    (∀ (d : Nat) (l0 : Value) (l1 : Value) (l2 : Value) (l3 : Value) (l4 : Value) (l5 : Value) (l6 : Value) (x1 : Int32) (x0 : Nat) (I : Nat → Nat → Int32) (L : Nat → Nat → Int64) (P : Nat → Nat → Option Nat) (Q : Option Value → zMm → Prop), zSH[x0]? = some (.inl 7) → zWp d zi_73 none 137 [l0, l1, l2, l3, l4, l5, l6] [.int x1, .ref x0] (zSH, I, L, P) Q = zWp d zi_73 none 140 [l0, l1, l2, l3, l4, l5, l6] [] (zSH, zw I x0 (upd (I x0) 1 x1), L, P) Q) ∧
    (∀ (d : Nat) (l0 : Nat) (l1 : Value) (l2 : Value) (l3 : Value) (l4 : Value) (l5 : Value) (l6 : Value)  (h : zMm) (Q : Option Value → zMm → Prop), zWp d zi_73 none 140 [.ref l0, l1, l2, l3, l4, l5, l6] [] h Q = zWp d zi_73 none 141 [.ref l0, l1, l2, l3, l4, l5, l6] [.ref l0] h Q) ∧
    (∀ (d : Nat) (l0 : Value) (l1 : Value) (l2 : Value) (l3 : Value) (l4 : Value) (l5 : Value) (l6 : Value) (x0 : Nat) (I : Nat → Nat → Int32) (L : Nat → Nat → Int64) (P : Nat → Nat → Option Nat) (Q : Option Value → zMm → Prop), zSH[x0]? = some (.inl 9) → zWp d zi_73 none 141 [l0, l1, l2, l3, l4, l5, l6] [.ref x0] (zSH, I, L, P) Q = zWp d zi_73 none 144 [l0, l1, l2, l3, l4, l5, l6] [va_rf (P x0 0)] (zSH, I, L, P) Q) ∧
    (∀ (d : Nat) (l0 : Value) (l1 : Value) (l2 : Value) (l3 : Int32) (l4 : Value) (l5 : Value) (l6 : Value) (x0 : Nat) (h : zMm) (Q : Option Value → zMm → Prop), zWp d zi_73 none 144 [l0, l1, l2, .int l3, l4, l5, l6] [.ref x0] h Q = zWp d zi_73 none 145 [l0, l1, l2, .int l3, l4, l5, l6] [.int l3, .ref x0] h Q) ∧
    (∀ (d : Nat) (l0 : Value) (l1 : Value) (l2 : Value) (l3 : Value) (l4 : Int32) (l5 : Value) (l6 : Value) (x1 : Int32) (x0 : Nat) (h : zMm) (Q : Option Value → zMm → Prop), zWp d zi_73 none 145 [l0, l1, l2, l3, .int l4, l5, l6] [.int x1, .ref x0] h Q = zWp d zi_73 none 147 [l0, l1, l2, l3, .int l4, l5, l6] [.int l4, .int x1, .ref x0] h Q) ∧
    (∀ (d : Nat) (l0 : Value) (l1 : Value) (l2 : Value) (l3 : Value) (l4 : Value) (l5 : Int32) (l6 : Value) (x2 : Int32) (x1 : Int32) (x0 : Nat) (h : zMm) (Q : Option Value → zMm → Prop), zWp d zi_73 none 147 [l0, l1, l2, l3, l4, .int l5, l6] [.int x2, .int x1, .ref x0] h Q = zWp d zi_73 none 149 [l0, l1, l2, l3, l4, .int l5, l6] [.int l5, .int x2, .int x1, .ref x0] h Q) ∧
    (∀ (d : Nat) (l0 : Value) (l1 : Value) (l2 : Value) (l3 : Value) (l4 : Value) (l5 : Value) (l6 : Int32) (x3 : Int32) (x2 : Int32) (x1 : Int32) (x0 : Nat) (h : zMm) (Q : Option Value → zMm → Prop), zWp d zi_73 none 149 [l0, l1, l2, l3, l4, l5, .int l6] [.int x3, .int x2, .int x1, .ref x0] h Q = zWp d zi_73 none 151 [l0, l1, l2, l3, l4, l5, .int l6] [.int l6, .int x3, .int x2, .int x1, .ref x0] h Q) ∧
    (∀ (d : Nat) (l0 : Value) (l1 : Value) (l2 : Value) (l3 : Value) (l4 : Value) (l5 : Value) (l6 : Value) (x4 : Int32) (x3 : Int32) (x2 : Int32) (x1 : Int32) (x0 : Nat) (I : Nat → Nat → Int32) (L : Nat → Nat → Int64) (P : Nat → Nat → Option Nat) (Q : Option Value → zMm → Prop), zSH[x0]? = some (.inl 8) → zWp d zi_73 none 151 [l0, l1, l2, l3, l4, l5, l6] [.int x4, .int x3, .int x2, .int x1, .ref x0] (zSH, I, L, P) Q = zWM d 60 [.ref x0, .int x1, .int x2, .int x3, .int x4] (zSH, I, L, P) (fun r h1 => zWp d zi_73 none 154 [l0, l1, l2, l3, l4, l5, l6] (r.toList ++ []) h1 Q)) ∧
    (∀ (d : Nat) (l0 : Nat) (l1 : Value) (l2 : Value) (l3 : Value) (l4 : Value) (l5 : Value) (l6 : Value)  (h : zMm) (Q : Option Value → zMm → Prop), zWp d zi_73 none 154 [.ref l0, l1, l2, l3, l4, l5, l6] [] h Q = zWp d zi_73 none 155 [.ref l0, l1, l2, l3, l4, l5, l6] [.ref l0] h Q) ∧
    (∀ (d : Nat) (l0 : Value) (l1 : Value) (l2 : Value) (l3 : Value) (l4 : Value) (l5 : Value) (l6 : Value) (x0 : Nat) (I : Nat → Nat → Int32) (L : Nat → Nat → Int64) (P : Nat → Nat → Option Nat) (Q : Option Value → zMm → Prop), zSH[x0]? = some (.inl 9) → zWp d zi_73 none 155 [l0, l1, l2, l3, l4, l5, l6] [.ref x0] (zSH, I, L, P) Q = zWp d zi_73 none 158 [l0, l1, l2, l3, l4, l5, l6] [va_rf (P x0 4)] (zSH, I, L, P) Q) ∧
    (∀ (d : Nat) (l0 : Value) (l1 : Value) (l2 : Value) (l3 : Value) (l4 : Value) (l5 : Value) (l6 : Value) (x0 : Nat) (h : zMm) (Q : Option Value → zMm → Prop), zWp d zi_73 none 158 [l0, l1, l2, l3, l4, l5, l6] [.ref x0] h Q = zWp d zi_73 none 159 [l0, l1, l2, l3, l4, l5, l6] [.int 0, .ref x0] h Q) ∧
    (∀ (d : Nat) (l0 : Value) (l1 : Value) (l2 : Value) (l3 : Value) (l4 : Value) (l5 : Value) (l6 : Value) (x1 : Int32) (x0 : Nat) (I : Nat → Nat → Int32) (L : Nat → Nat → Int64) (P : Nat → Nat → Option Nat) (Q : Option Value → zMm → Prop), zSH[x0]? = some (.inl 2) → x1 = 0 ∨ x1 = 1 → zWp d zi_73 none 159 [l0, l1, l2, l3, l4, l5, l6] [.int x1, .ref x0] (zSH, I, L, P) Q = zWp d zi_73 none 162 [l0, l1, l2, l3, l4, l5, l6] [] (zSH, zw I x0 (upd (I x0) 6 x1), L, P) Q) ∧
    (∀ (d : Nat) (l0 : Nat) (l1 : Value) (l2 : Value) (l3 : Value) (l4 : Value) (l5 : Value) (l6 : Value)  (h : zMm) (Q : Option Value → zMm → Prop), zWp d zi_73 none 162 [.ref l0, l1, l2, l3, l4, l5, l6] [] h Q = zWp d zi_73 none 163 [.ref l0, l1, l2, l3, l4, l5, l6] [.ref l0] h Q) ∧
    (∀ (d : Nat) (l0 : Value) (l1 : Value) (l2 : Value) (l3 : Value) (l4 : Value) (l5 : Value) (l6 : Value) (x0 : Nat) (I : Nat → Nat → Int32) (L : Nat → Nat → Int64) (P : Nat → Nat → Option Nat) (Q : Option Value → zMm → Prop), zSH[x0]? = some (.inl 9) → zWp d zi_73 none 163 [l0, l1, l2, l3, l4, l5, l6] [.ref x0] (zSH, I, L, P) Q = zWp d zi_73 none 166 [l0, l1, l2, l3, l4, l5, l6] [va_rf (P x0 0)] (zSH, I, L, P) Q) ∧
    (∀ (d : Nat) (l0 : Value) (l1 : Value) (l2 : Value) (l3 : Value) (l4 : Value) (l5 : Value) (l6 : Value) (x0 : Nat) (I : Nat → Nat → Int32) (L : Nat → Nat → Int64) (P : Nat → Nat → Option Nat) (Q : Option Value → zMm → Prop), zSH[x0]? = some (.inl 8) → zWp d zi_73 none 166 [l0, l1, l2, l3, l4, l5, l6] [.ref x0] (zSH, I, L, P) Q = zWp d zi_73 none 169 [l0, l1, l2, l3, l4, l5, l6] [.int (I x0 6)] (zSH, I, L, P) Q) ∧
    (∀ (d : Nat) (l0 : Value) (l1 : Value) (l2 : Value) (l3 : Value) (l4 : Value) (l5 : Value) (l6 : Value) (x0 : Int32) (h : zMm) (Q : Option Value → zMm → Prop), zWp d zi_73 none 169 [l0, l1, l2, l3, l4, l5, l6] [.int x0] h Q = zWp d zi_73 none 170 [l0, l1, l2, l3, l4, l5, l6] [.int 1, .int x0] h Q) ∧
    (∀ (d : Nat) (l0 : Value) (l1 : Value) (l2 : Value) (l3 : Value) (l4 : Value) (l5 : Value) (l6 : Value) (x1 : Int32) (x0 : Int32) (h : zMm) (Q : Option Value → zMm → Prop), zWp d zi_73 none 170 [l0, l1, l2, l3, l4, l5, l6] [.int x1, .int x0] h Q = zWp d zi_73 none 171 [l0, l1, l2, l3, l4, l5, l6] [.int (x0 - x1)] h Q) ∧
    (∀ (d : Nat) (l0 : Value) (l1 : Value) (l2 : Value) (l3 : Value) (l4 : Value) (l5 : Value) (l6 : Value) (x0 : Int32) (h : zMm) (Q : Option Value → zMm → Prop), zWp d zi_73 none 171 [l0, l1, l2, l3, l4, l5, l6] [.int x0] h Q = Q (some (.int x0)) h) :=
  ⟨(fun d l0 l1 l2 l3 l4 l5 l6  h Q => zr_iload_n rfl rfl),
   (fun d l0 l1 l2 l3 l4 l5 l6 x0 h Q => zr_bipush rfl (by decide)),
   (fun d l0 l1 l2 l3 l4 l5 l6 x1 x0 h Q => zr_ic_lt rfl (by decide)),
   (fun d l0 l1 l2 l3 l4 l5 l6  h Q => zr_iload_n rfl rfl),
   (fun d l0 l1 l2 l3 l4 l5 l6 x0 h Q => zr_bipush rfl (by decide)),
   (fun d l0 l1 l2 l3 l4 l5 l6 x1 x0 h Q => zr_ic_gt rfl (by decide)),
   (fun d l0 l1 l2 l3 l4 l5 l6  h Q => zr_iload_n rfl rfl),
   (fun d l0 l1 l2 l3 l4 l5 l6 x0 h Q => zr_if_lt rfl (by decide)),
   (fun d l0 l1 l2 l3 l4 l5 l6  h Q => zr_iload_n rfl rfl),
   (fun d l0 l1 l2 l3 l4 l5 l6 x0 h Q => zr_bipush rfl (by decide)),
   (fun d l0 l1 l2 l3 l4 l5 l6 x1 x0 h Q => zr_ic_le rfl (by decide)),
   (fun d l0 l1 l2 l3 l4 l5 l6  h Q => zr_iconst rfl (by decide)),
   (fun d l0 l1 l2 l3 l4 l5 l6 x0 h Q => zr_iret rfl rfl),
   (fun d l0 l1 l2 l3 l4 l5 l6  h Q => zr_iload_n rfl rfl),
   (fun d l0 l1 l2 l3 l4 l5 l6 x0 h Q => zr_bipush rfl (by decide)),
   (fun d l0 l1 l2 l3 l4 l5 l6 x1 x0 h Q => zr_idiv rfl),
   (fun d l0 l1 l2 l3 l4 l5 l6 x0 h Q => zr_istore_n (n := 3) rfl (Nat.le_of_ble_eq_true rfl) rfl),
   (fun d l0 l1 l2 l3 l4 l5 l6  h Q => zr_iload_n rfl rfl),
   (fun d l0 l1 l2 l3 l4 l5 l6 x0 h Q => zr_bipush rfl (by decide)),
   (fun d l0 l1 l2 l3 l4 l5 l6 x1 x0 h Q => zr_irem rfl),
   (fun d l0 l1 l2 l3 l4 l5 l6 x0 h Q => zr_istore (n := 4) rfl (Nat.le_of_ble_eq_true rfl) rfl),
   (fun d l0 l1 l2 l3 l4 l5 l6  h Q => zr_iload_n rfl rfl),
   (fun d l0 l1 l2 l3 l4 l5 l6 x0 h Q => zr_bipush rfl (by decide)),
   (fun d l0 l1 l2 l3 l4 l5 l6 x1 x0 h Q => zr_idiv rfl),
   (fun d l0 l1 l2 l3 l4 l5 l6 x0 h Q => zr_iconst rfl (by decide)),
   (fun d l0 l1 l2 l3 l4 l5 l6 x1 x0 h Q => zr_isub rfl),
   (fun d l0 l1 l2 l3 l4 l5 l6 x0 h Q => zr_istore (n := 5) rfl (Nat.le_of_ble_eq_true rfl) rfl),
   (fun d l0 l1 l2 l3 l4 l5 l6  h Q => zr_iload_n rfl rfl),
   (fun d l0 l1 l2 l3 l4 l5 l6 x0 h Q => zr_bipush rfl (by decide)),
   (fun d l0 l1 l2 l3 l4 l5 l6 x1 x0 h Q => zr_irem rfl),
   (fun d l0 l1 l2 l3 l4 l5 l6 x0 h Q => zr_iconst rfl (by decide)),
   (fun d l0 l1 l2 l3 l4 l5 l6 x1 x0 h Q => zr_isub rfl),
   (fun d l0 l1 l2 l3 l4 l5 l6 x0 h Q => zr_istore (n := 6) rfl (Nat.le_of_ble_eq_true rfl) rfl),
   (fun d l0 l1 l2 l3 l4 l5 l6  h Q => zr_iload_n rfl rfl),
   (fun d l0 l1 l2 l3 l4 l5 l6 x0 h Q => zr_iload rfl rfl),
   (fun d l0 l1 l2 l3 l4 l5 l6 x1 x0 h Q => zr_iload rfl rfl),
   (fun d l0 l1 l2 l3 l4 l5 l6 x2 x1 x0 h Q => zr_iload rfl rfl),
   (fun d l0 l1 l2 l3 l4 l5 l6 x3 x2 x1 x0 h Q => zr_sta (as := [.int x3, .int x2, .int x1, .int x0]) (rest := []) rfl lm_9_88 (by decide) m_58 kd_58 rfl (Nat.le_of_ble_eq_true rfl)),
   (fun d l0 l1 l2 l3 l4 l5 l6 x0 h Q => zr_if_ne rfl (by decide)),
   (fun d l0 l1 l2 l3 l4 l5 l6  h Q => zr_iconst rfl (by decide)),
   (fun d l0 l1 l2 l3 l4 l5 l6 x0 h Q => zr_iret rfl rfl),
   (fun d l0 l1 l2 l3 l4 l5 l6  h Q => zr_aload_n rfl rfl),
   (fun d l0 l1 l2 l3 l4 l5 l6 x0 I L P Q p0 => zr_getQ rfl lf_9_10 (fun _ _ _ => rfl) p0),
   (fun d l0 l1 l2 l3 l4 l5 l6 x0 I L P Q p0 => zr_getI rfl lf_9_92 (fun _ _ _ => rfl) p0),
   (fun d l0 l1 l2 l3 l4 l5 l6 x0 h Q => zr_bipush rfl (by decide)),
   (fun d l0 l1 l2 l3 l4 l5 l6 x1 x0 h Q => zr_ic_lt rfl (by decide)),
   (fun d l0 l1 l2 l3 l4 l5 l6  h Q => zr_bipush rfl (by decide)),
   (fun d l0 l1 l2 l3 l4 l5 l6 x0 h Q => zr_iret rfl rfl),
   (fun d l0 l1 l2 l3 l4 l5 l6  h Q => zr_aload_n rfl rfl),
   (fun d l0 l1 l2 l3 l4 l5 l6 x0 I L P Q p0 => zr_getQ rfl lf_9_43 (fun _ _ _ => rfl) p0),
   (fun d l0 l1 l2 l3 l4 l5 l6 x0 I L P Q p0 => zr_getI rfl lf_9_95 (fun _ _ _ => rfl) p0),
   (fun d l0 l1 l2 l3 l4 l5 l6 x0 h Q => zr_iload_n rfl rfl),
   (fun d l0 l1 l2 l3 l4 l5 l6 x1 x0 h Q => zr_iload rfl rfl),
   (fun d l0 l1 l2 l3 l4 l5 l6 x2 x1 x0 h Q => zr_isub rfl),
   (fun d l0 l1 l2 l3 l4 l5 l6 x1 x0 h Q => zr_ic_lt rfl (by decide)),
   (fun d l0 l1 l2 l3 l4 l5 l6  h Q => zr_aload_n rfl rfl),
   (fun d l0 l1 l2 l3 l4 l5 l6 x0 I L P Q p0 => zr_getQ rfl lf_9_43 (fun _ _ _ => rfl) p0),
   (fun d l0 l1 l2 l3 l4 l5 l6 x0 I L P Q p0 => zr_getI rfl lf_9_98 (fun _ _ _ => rfl) p0),
   (fun d l0 l1 l2 l3 l4 l5 l6 x0 h Q => zr_iload rfl rfl),
   (fun d l0 l1 l2 l3 l4 l5 l6 x1 x0 h Q => zr_ic_ge rfl (by decide)),
   (fun d l0 l1 l2 l3 l4 l5 l6  h Q => zr_bipush rfl (by decide)),
   (fun d l0 l1 l2 l3 l4 l5 l6 x0 h Q => zr_iret rfl rfl),
   (fun d l0 l1 l2 l3 l4 l5 l6  h Q => zr_aload_n rfl rfl),
   (fun d l0 l1 l2 l3 l4 l5 l6 x0 I L P Q p0 => zr_getQ rfl lf_9_43 (fun _ _ _ => rfl) p0),
   (fun d l0 l1 l2 l3 l4 l5 l6 x0 h Q => zr_dup rfl rfl),
   (fun d l0 l1 l2 l3 l4 l5 l6 x1 x0 I L P Q p0 => zr_getI rfl lf_9_95 (fun _ _ _ => rfl) p0),
   (fun d l0 l1 l2 l3 l4 l5 l6 x1 x0 h Q => zr_iload_n rfl rfl),
   (fun d l0 l1 l2 l3 l4 l5 l6 x2 x1 x0 h Q => zr_iload rfl rfl),
   (fun d l0 l1 l2 l3 l4 l5 l6 x3 x2 x1 x0 h Q => zr_isub rfl),
   (fun d l0 l1 l2 l3 l4 l5 l6 x2 x1 x0 h Q => zr_isub rfl),
   (fun d l0 l1 l2 l3 l4 l5 l6 x1 x0 I L P Q p0 => zr_putI rfl lf_9_95 (by decide) rfl p0),
   (fun d l0 l1 l2 l3 l4 l5 l6  h Q => zr_aload_n rfl rfl),
   (fun d l0 l1 l2 l3 l4 l5 l6 x0 I L P Q p0 => zr_getQ rfl lf_9_43 (fun _ _ _ => rfl) p0),
   (fun d l0 l1 l2 l3 l4 l5 l6 x0 h Q => zr_dup rfl rfl),
   (fun d l0 l1 l2 l3 l4 l5 l6 x1 x0 I L P Q p0 => zr_getI rfl lf_9_98 (fun _ _ _ => rfl) p0),
   (fun d l0 l1 l2 l3 l4 l5 l6 x1 x0 h Q => zr_iload rfl rfl),
   (fun d l0 l1 l2 l3 l4 l5 l6 x2 x1 x0 h Q => zr_isub rfl),
   (fun d l0 l1 l2 l3 l4 l5 l6 x1 x0 I L P Q p0 => zr_putI rfl lf_9_98 (by decide) rfl p0),
   (fun d l0 l1 l2 l3 l4 l5 l6  h Q => zr_aload_n rfl rfl),
   (fun d l0 l1 l2 l3 l4 l5 l6 x0 I L P Q p0 => zr_getQ rfl lf_9_10 (fun _ _ _ => rfl) p0),
   (fun d l0 l1 l2 l3 l4 l5 l6 x0 h Q => zr_iload_n rfl rfl),
   (fun d l0 l1 l2 l3 l4 l5 l6 x1 x0 h Q => zr_iload rfl rfl),
   (fun d l0 l1 l2 l3 l4 l5 l6 x2 x1 x0 h Q => zr_iload rfl rfl),
   (fun d l0 l1 l2 l3 l4 l5 l6 x3 x2 x1 x0 h Q => zr_iload rfl rfl),
   (fun d l0 l1 l2 l3 l4 l5 l6 x4 x3 x2 x1 x0 I L P Q p0 => zr_vir (as := [.int x4, .int x3, .int x2, .int x1]) (rest := []) rfl lm_9_101 m_60 kd_60 rfl (Nat.le_of_ble_eq_true rfl) p0),
   (fun d l0 l1 l2 l3 l4 l5 l6  h Q => zr_aload_n rfl rfl),
   (fun d l0 l1 l2 l3 l4 l5 l6 x0 I L P Q p0 => zr_getQ rfl lf_9_36 (fun _ _ _ => rfl) p0),
   (fun d l0 l1 l2 l3 l4 l5 l6 x0 h Q => zr_iconst rfl (by decide)),
   (fun d l0 l1 l2 l3 l4 l5 l6 x1 x0 I L P Q p0 p1 => zr_putZ rfl lf_9_105 (by decide) rfl p0 p1),
   (fun d l0 l1 l2 l3 l4 l5 l6  h Q => zr_aload_n rfl rfl),
   (fun d l0 l1 l2 l3 l4 l5 l6 x0 I L P Q p0 => zr_getQ rfl lf_9_10 (fun _ _ _ => rfl) p0),
   (fun d l0 l1 l2 l3 l4 l5 l6 x0 I L P Q p0 => zr_getI rfl lf_9_92 (fun _ _ _ => rfl) p0),
   (fun d l0 l1 l2 l3 l4 l5 l6 x0 h Q => zr_iconst rfl (by decide)),
   (fun d l0 l1 l2 l3 l4 l5 l6 x1 x0 h Q => zr_isub rfl),
   (fun d l0 l1 l2 l3 l4 l5 l6 x0 h Q => zr_iret rfl rfl)⟩
theorem E_X9_unbuild : ∀ (d : Nat) (a0 : Nat) (h : zMm) (Q : Option Value → zMm → Prop), zWM (d + 1) 74 [.ref a0] h Q = zWp d zi_74 none 0 [.ref a0, .retAddr 0] [] h Q := fun d a0 h Q => zW_M m_74 (Nat.le_of_ble_eq_true rfl) rfl
set_option maxRecDepth 100000 in
theorem R_X9_unbuild :
    (∀ (d : Nat) (l0 : Nat) (l1 : Value)  (h : zMm) (Q : Option Value → zMm → Prop), zWp d zi_74 none 0 [.ref l0, l1] [] h Q = zWp d zi_74 none 1 [.ref l0, l1] [.ref l0] h Q) ∧
    (∀ (d : Nat) (l0 : Value) (l1 : Value) (x0 : Nat) (I : Nat → Nat → Int32) (L : Nat → Nat → Int64) (P : Nat → Nat → Option Nat) (Q : Option Value → zMm → Prop), zSH[x0]? = some (.inl 9) → zWp d zi_74 none 1 [l0, l1] [.ref x0] (zSH, I, L, P) Q = zWp d zi_74 none 4 [l0, l1] [va_rf (P x0 0)] (zSH, I, L, P) Q) ∧
    (∀ (d : Nat) (l0 : Value) (l1 : Value) (x0 : Nat) (I : Nat → Nat → Int32) (L : Nat → Nat → Int64) (P : Nat → Nat → Option Nat) (Q : Option Value → zMm → Prop), zSH[x0]? = some (.inl 8) → zWp d zi_74 none 4 [l0, l1] [.ref x0] (zSH, I, L, P) Q = zWp d zi_74 none 7 [l0, l1] [.int (I x0 6)] (zSH, I, L, P) Q) ∧
    (∀ (d : Nat) (l0 : Value) (l1 : Value) (x0 : Int32) (h : zMm) (Q : Option Value → zMm → Prop), zWp d zi_74 none 7 [l0, l1] [.int x0] h Q = zWp d zi_74 none 8 [l0, l1] [.int 1, .int x0] h Q) ∧
    (∀ (d : Nat) (l0 : Value) (l1 : Value) (x1 : Int32) (x0 : Int32) (h : zMm) (Q : Option Value → zMm → Prop), zWp d zi_74 none 8 [l0, l1] [.int x1, .int x0] h Q = zWp d zi_74 none 9 [l0, l1] [.int (x0 - x1)] h Q) ∧
    (∀ (d : Nat) (l0 : Nat) (l1 : Value) (x0 : Int32) (h : zMm) (Q : Option Value → zMm → Prop), zWp d zi_74 none 9 [.ref l0, l1] [.int x0] h Q = zWp d zi_74 none 10 [.ref l0, .int x0] [] h Q) ∧
    (∀ (d : Nat) (l0 : Value) (l1 : Int32)  (h : zMm) (Q : Option Value → zMm → Prop), zWp d zi_74 none 10 [l0, .int l1] [] h Q = zWp d zi_74 none 11 [l0, .int l1] [.int l1] h Q) ∧
    (∀ (d : Nat) (l0 : Value) (l1 : Value) (x0 : Int32) (h : zMm) (Q : Option Value → zMm → Prop), zWp d zi_74 none 11 [l0, l1] [.int x0] h Q = if 0 ≤ x0 then zWp d zi_74 none 17 [l0, l1] [] h Q else zWp d zi_74 none 14 [l0, l1] [] h Q) ∧
    (∀ (d : Nat) (l0 : Value) (l1 : Value)  (h : zMm) (Q : Option Value → zMm → Prop), zWp d zi_74 none 14 [l0, l1] [] h Q = zWp d zi_74 none 16 [l0, l1] [.int (-5)] h Q) ∧
    (∀ (d : Nat) (l0 : Value) (l1 : Value) (x0 : Int32) (h : zMm) (Q : Option Value → zMm → Prop), zWp d zi_74 none 16 [l0, l1] [.int x0] h Q = Q (some (.int x0)) h) ∧
    (∀ (d : Nat) (l0 : Nat) (l1 : Value)  (h : zMm) (Q : Option Value → zMm → Prop), zWp d zi_74 none 17 [.ref l0, l1] [] h Q = zWp d zi_74 none 18 [.ref l0, l1] [.ref l0] h Q) ∧
    (∀ (d : Nat) (l0 : Value) (l1 : Value) (x0 : Nat) (I : Nat → Nat → Int32) (L : Nat → Nat → Int64) (P : Nat → Nat → Option Nat) (Q : Option Value → zMm → Prop), zSH[x0]? = some (.inl 9) → zWp d zi_74 none 18 [l0, l1] [.ref x0] (zSH, I, L, P) Q = zWp d zi_74 none 21 [l0, l1] [va_rf (P x0 5)] (zSH, I, L, P) Q) ∧
    (∀ (d : Nat) (l0 : Value) (l1 : Value) (x0 : Nat) (h : zMm) (Q : Option Value → zMm → Prop), zWp d zi_74 none 21 [l0, l1] [.ref x0] h Q = zWp d zi_74 none 23 [l0, l1] [.int 99, .ref x0] h Q) ∧
    (∀ (d : Nat) (l0 : Nat) (l1 : Value) (x1 : Int32) (x0 : Nat) (h : zMm) (Q : Option Value → zMm → Prop), zWp d zi_74 none 23 [.ref l0, l1] [.int x1, .ref x0] h Q = zWp d zi_74 none 24 [.ref l0, l1] [.ref l0, .int x1, .ref x0] h Q) ∧
    (∀ (d : Nat) (l0 : Value) (l1 : Value) (x2 : Nat) (x1 : Int32) (x0 : Nat) (I : Nat → Nat → Int32) (L : Nat → Nat → Int64) (P : Nat → Nat → Option Nat) (Q : Option Value → zMm → Prop), zSH[x2]? = some (.inl 9) → zWp d zi_74 none 24 [l0, l1] [.ref x2, .int x1, .ref x0] (zSH, I, L, P) Q = zWp d zi_74 none 27 [l0, l1] [va_rf (P x2 5), .int x1, .ref x0] (zSH, I, L, P) Q) ∧
    (∀ (d : Nat) (l0 : Value) (l1 : Value) (x2 : Nat) (x1 : Int32) (x0 : Nat) (I : Nat → Nat → Int32) (L : Nat → Nat → Int64) (P : Nat → Nat → Option Nat) (Q : Option Value → zMm → Prop), zSH[x2]? = some (.inl 7) → zWp d zi_74 none 27 [l0, l1] [.ref x2, .int x1, .ref x0] (zSH, I, L, P) Q = zWp d zi_74 none 30 [l0, l1] [.int (I x2 0), .int x1, .ref x0] (zSH, I, L, P) Q) ∧
    (∀ (d : Nat) (l0 : Nat) (l1 : Value) (x2 : Int32) (x1 : Int32) (x0 : Nat) (h : zMm) (Q : Option Value → zMm → Prop), zWp d zi_74 none 30 [.ref l0, l1] [.int x2, .int x1, .ref x0] h Q = zWp d zi_74 none 31 [.ref l0, l1] [.ref l0, .int x2, .int x1, .ref x0] h Q) ∧
    (∀ (d : Nat) (l0 : Value) (l1 : Value) (x3 : Nat) (x2 : Int32) (x1 : Int32) (x0 : Nat) (I : Nat → Nat → Int32) (L : Nat → Nat → Int64) (P : Nat → Nat → Option Nat) (Q : Option Value → zMm → Prop), zSH[x3]? = some (.inl 9) → zWp d zi_74 none 31 [l0, l1] [.ref x3, .int x2, .int x1, .ref x0] (zSH, I, L, P) Q = zWp d zi_74 none 34 [l0, l1] [va_rf (P x3 0), .int x2, .int x1, .ref x0] (zSH, I, L, P) Q) ∧
    (∀ (d : Nat) (l0 : Value) (l1 : Value) (x3 : Nat) (x2 : Int32) (x1 : Int32) (x0 : Nat) (I : Nat → Nat → Int32) (L : Nat → Nat → Int64) (P : Nat → Nat → Option Nat) (Q : Option Value → zMm → Prop), zSH[x3]? = some (.inl 8) → zWp d zi_74 none 34 [l0, l1] [.ref x3, .int x2, .int x1, .ref x0] (zSH, I, L, P) Q = zWp d zi_74 none 37 [l0, l1] [va_rf (P x3 0), .int x2, .int x1, .ref x0] (zSH, I, L, P) Q) ∧
    (∀ (d : Nat) (l0 : Value) (l1 : Int32) (x3 : Nat) (x2 : Int32) (x1 : Int32) (x0 : Nat) (h : zMm) (Q : Option Value → zMm → Prop), zWp d zi_74 none 37 [l0, .int l1] [.ref x3, .int x2, .int x1, .ref x0] h Q = zWp d zi_74 none 38 [l0, .int l1] [.int l1, .ref x3, .int x2, .int x1, .ref x0] h Q) ∧
    (∀ (d : Nat) (l0 : Value) (l1 : Value) (x4 : Int32) (x3 : Nat) (x2 : Int32) (x1 : Int32) (x0 : Nat) (I : Nat → Nat → Int32) (L : Nat → Nat → Int64) (P : Nat → Nat → Option Nat) (Q : Option Value → zMm → Prop), zAk zSH x3 = some .int → zWp d zi_74 none 38 [l0, l1] [.int x4, .ref x3, .int x2, .int x1, .ref x0] (zSH, I, L, P) Q = (vp_in x4 (zAn zSH x3) ∧ zWp d zi_74 none 39 [l0, l1] [.int (I x3 x4.toNatClampNeg), .int x2, .int x1, .ref x0] (zSH, I, L, P) Q)) ∧
    (∀ (d : Nat) (l0 : Value) (l1 : Value) (x3 : Int32) (x2 : Int32) (x1 : Int32) (x0 : Nat) (h : zMm) (Q : Option Value → zMm → Prop), zWp d zi_74 none 39 [l0, l1] [.int x3, .int x2, .int x1, .ref x0] h Q = zWp d zi_74 none 40 [l0, l1] [.int (x2 + x3), .int x1, .ref x0] h Q) ∧
    (∀ (d : Nat) (l0 : Nat) (l1 : Value) (x2 : Int32) (x1 : Int32) (x0 : Nat) (h : zMm) (Q : Option Value → zMm → Prop), zWp d zi_74 none 40 [.ref l0, l1] [.int x2, .int x1, .ref x0] h Q = zWp d zi_74 none 41 [.ref l0, l1] [.ref l0, .int x2, .int x1, .ref x0] h Q) ∧
    (∀ (d : Nat) (l0 : Value) (l1 : Value) (x3 : Nat) (x2 : Int32) (x1 : Int32) (x0 : Nat) (I : Nat → Nat → Int32) (L : Nat → Nat → Int64) (P : Nat → Nat → Option Nat) (Q : Option Value → zMm → Prop), zSH[x3]? = some (.inl 9) → zWp d zi_74 none 41 [l0, l1] [.ref x3, .int x2, .int x1, .ref x0] (zSH, I, L, P) Q = zWp d zi_74 none 44 [l0, l1] [va_rf (P x3 0), .int x2, .int x1, .ref x0] (zSH, I, L, P) Q) ∧
    (∀ (d : Nat) (l0 : Value) (l1 : Value) (x3 : Nat) (x2 : Int32) (x1 : Int32) (x0 : Nat) (I : Nat → Nat → Int32) (L : Nat → Nat → Int64) (P : Nat → Nat → Option Nat) (Q : Option Value → zMm → Prop), zSH[x3]? = some (.inl 8) → zWp d zi_74 none 44 [l0, l1] [.ref x3, .int x2, .int x1, .ref x0] (zSH, I, L, P) Q = zWp d zi_74 none 47 [l0, l1] [va_rf (P x3 1), .int x2, .int x1, .ref x0] (zSH, I, L, P) Q) ∧
    (∀ (d : Nat) (l0 : Value) (l1 : Int32) (x3 : Nat) (x2 : Int32) (x1 : Int32) (x0 : Nat) (h : zMm) (Q : Option Value → zMm → Prop), zWp d zi_74 none 47 [l0, .int l1] [.ref x3, .int x2, .int x1, .ref x0] h Q = zWp d zi_74 none 48 [l0, .int l1] [.int l1, .ref x3, .int x2, .int x1, .ref x0] h Q) ∧
    (∀ (d : Nat) (l0 : Value) (l1 : Value) (x4 : Int32) (x3 : Nat) (x2 : Int32) (x1 : Int32) (x0 : Nat) (I : Nat → Nat → Int32) (L : Nat → Nat → Int64) (P : Nat → Nat → Option Nat) (Q : Option Value → zMm → Prop), zAk zSH x3 = some .int → zWp d zi_74 none 48 [l0, l1] [.int x4, .ref x3, .int x2, .int x1, .ref x0] (zSH, I, L, P) Q = (vp_in x4 (zAn zSH x3) ∧ zWp d zi_74 none 49 [l0, l1] [.int (I x3 x4.toNatClampNeg), .int x2, .int x1, .ref x0] (zSH, I, L, P) Q)) ∧
    (∀ (d : Nat) (l0 : Value) (l1 : Value) (x3 : Int32) (x2 : Int32) (x1 : Int32) (x0 : Nat) (h : zMm) (Q : Option Value → zMm → Prop), zWp d zi_74 none 49 [l0, l1] [.int x3, .int x2, .int x1, .ref x0] h Q = zWp d zi_74 none 50 [l0, l1] [.int (x2 - x3), .int x1, .ref x0] h Q) ∧
    (∀ (d : Nat) (l0 : Value) (l1 : Value) (x2 : Int32) (x1 : Int32) (x0 : Nat) (h : zMm) (Q : Option Value → zMm → Prop), zWp d zi_74 none 50 [l0, l1] [.int x2, .int x1, .ref x0] h Q = zWp d zi_74 none 53 [l0, l1] [.int (if x2 < x1 then x2 else x1), .ref x0] h Q) ∧
    (∀ (d : Nat) (l0 : Value) (l1 : Value) (x1 : Int32) (x0 : Nat) (I : Nat → Nat → Int32) (L : Nat → Nat → Int64) (P : Nat → Nat → Option Nat) (Q : Option Value → zMm → Prop), zSH[x0]? = some (.inl 7) → zWp d zi_74 none 53 [l0, l1] [.int x1, .ref x0] (zSH, I, L, P) Q = zWp d zi_74 none 56 [l0, l1] [] (zSH, zw I x0 (upd (I x0) 0 x1), L, P) Q) ∧
    (∀ (d : Nat) (l0 : Nat) (l1 : Value)  (h : zMm) (Q : Option Value → zMm → Prop), zWp d zi_74 none 56 [.ref l0, l1] [] h Q = zWp d zi_74 none 57 [.ref l0, l1] [.ref l0] h Q) ∧
    (∀ (d : Nat) (l0 : Value) (l1 : Value) (x0 : Nat) (I : Nat → Nat → Int32) (L : Nat → Nat → Int64) (P : Nat → Nat → Option Nat) (Q : Option Value → zMm → Prop), zSH[x0]? = some (.inl 9) → zWp d zi_74 none 57 [l0, l1] [.ref x0] (zSH, I, L, P) Q = zWp d zi_74 none 60 [l0, l1] [va_rf (P x0 5)] (zSH, I, L, P) Q) ∧
    (∀ (d : Nat) (l0 : Value) (l1 : Value) (x0 : Nat) (h : zMm) (Q : Option Value → zMm → Prop), zWp d zi_74 none 60 [l0, l1] [.ref x0] h Q = zWp d zi_74 none 62 [l0, l1] [.int 99, .ref x0] h Q) ∧
    (∀ (d : Nat) (l0 : Nat) (l1 : Value) (x1 : Int32) (x0 : Nat) (h : zMm) (Q : Option Value → zMm → Prop), zWp d zi_74 none 62 [.ref l0, l1] [.int x1, .ref x0] h Q = zWp d zi_74 none 63 [.ref l0, l1] [.ref l0, .int x1, .ref x0] h Q) ∧
    (∀ (d : Nat) (l0 : Value) (l1 : Value) (x2 : Nat) (x1 : Int32) (x0 : Nat) (I : Nat → Nat → Int32) (L : Nat → Nat → Int64) (P : Nat → Nat → Option Nat) (Q : Option Value → zMm → Prop), zSH[x2]? = some (.inl 9) → zWp d zi_74 none 63 [l0, l1] [.ref x2, .int x1, .ref x0] (zSH, I, L, P) Q = zWp d zi_74 none 66 [l0, l1] [va_rf (P x2 5), .int x1, .ref x0] (zSH, I, L, P) Q) ∧
    (∀ (d : Nat) (l0 : Value) (l1 : Value) (x2 : Nat) (x1 : Int32) (x0 : Nat) (I : Nat → Nat → Int32) (L : Nat → Nat → Int64) (P : Nat → Nat → Option Nat) (Q : Option Value → zMm → Prop), zSH[x2]? = some (.inl 7) → zWp d zi_74 none 66 [l0, l1] [.ref x2, .int x1, .ref x0] (zSH, I, L, P) Q = zWp d zi_74 none 69 [l0, l1] [.int (I x2 1), .int x1, .ref x0] (zSH, I, L, P) Q) ∧
    (∀ (d : Nat) (l0 : Nat) (l1 : Value) (x2 : Int32) (x1 : Int32) (x0 : Nat) (h : zMm) (Q : Option Value → zMm → Prop), zWp d zi_74 none 69 [.ref l0, l1] [.int x2, .int x1, .ref x0] h Q = zWp d zi_74 none 70 [.ref l0, l1] [.ref l0, .int x2, .int x1, .ref x0] h Q) ∧
    (∀ (d : Nat) (l0 : Value) (l1 : Value) (x3 : Nat) (x2 : Int32) (x1 : Int32) (x0 : Nat) (I : Nat → Nat → Int32) (L : Nat → Nat → Int64) (P : Nat → Nat → Option Nat) (Q : Option Value → zMm → Prop), zSH[x3]? = some (.inl 9) → zWp d zi_74 none 70 [l0, l1] [.ref x3, .int x2, .int x1, .ref x0] (zSH, I, L, P) Q = zWp d zi_74 none 73 [l0, l1] [va_rf (P x3 0), .int x2, .int x1, .ref x0] (zSH, I, L, P) Q) ∧
    (∀ (d : Nat) (l0 : Value) (l1 : Value) (x3 : Nat) (x2 : Int32) (x1 : Int32) (x0 : Nat) (I : Nat → Nat → Int32) (L : Nat → Nat → Int64) (P : Nat → Nat → Option Nat) (Q : Option Value → zMm → Prop), zSH[x3]? = some (.inl 8) → zWp d zi_74 none 73 [l0, l1] [.ref x3, .int x2, .int x1, .ref x0] (zSH, I, L, P) Q = zWp d zi_74 none 76 [l0, l1] [va_rf (P x3 1), .int x2, .int x1, .ref x0] (zSH, I, L, P) Q) ∧
    (∀ (d : Nat) (l0 : Value) (l1 : Int32) (x3 : Nat) (x2 : Int32) (x1 : Int32) (x0 : Nat) (h : zMm) (Q : Option Value → zMm → Prop), zWp d zi_74 none 76 [l0, .int l1] [.ref x3, .int x2, .int x1, .ref x0] h Q = zWp d zi_74 none 77 [l0, .int l1] [.int l1, .ref x3, .int x2, .int x1, .ref x0] h Q) ∧
    (∀ (d : Nat) (l0 : Value) (l1 : Value) (x4 : Int32) (x3 : Nat) (x2 : Int32) (x1 : Int32) (x0 : Nat) (I : Nat → Nat → Int32) (L : Nat → Nat → Int64) (P : Nat → Nat → Option Nat) (Q : Option Value → zMm → Prop), zAk zSH x3 = some .int → zWp d zi_74 none 77 [l0, l1] [.int x4, .ref x3, .int x2, .int x1, .ref x0] (zSH, I, L, P) Q = (vp_in x4 (zAn zSH x3) ∧ zWp d zi_74 none 78 [l0, l1] [.int (I x3 x4.toNatClampNeg), .int x2, .int x1, .ref x0] (zSH, I, L, P) Q)) ∧
    (∀ (d : Nat) (l0 : Value) (l1 : Value) (x3 : Int32) (x2 : Int32) (x1 : Int32) (x0 : Nat) (h : zMm) (Q : Option Value → zMm → Prop), zWp d zi_74 none 78 [l0, l1] [.int x3, .int x2, .int x1, .ref x0] h Q = zWp d zi_74 none 79 [l0, l1] [.int (x2 + x3), .int x1, .ref x0] h Q) ∧
    (∀ (d : Nat) (l0 : Value) (l1 : Value) (x2 : Int32) (x1 : Int32) (x0 : Nat) (h : zMm) (Q : Option Value → zMm → Prop), zWp d zi_74 none 79 [l0, l1] [.int x2, .int x1, .ref x0] h Q = zWp d zi_74 none 82 [l0, l1] [.int (if x2 < x1 then x2 else x1), .ref x0] h Q) ∧
    (∀ (d : Nat) (l0 : Value) (l1 : Value) (x1 : Int32) (x0 : Nat) (I : Nat → Nat → Int32) (L : Nat → Nat → Int64) (P : Nat → Nat → Option Nat) (Q : Option Value → zMm → Prop), zSH[x0]? = some (.inl 7) → zWp d zi_74 none 82 [l0, l1] [.int x1, .ref x0] (zSH, I, L, P) Q = zWp d zi_74 none 85 [l0, l1] [] (zSH, zw I x0 (upd (I x0) 1 x1), L, P) Q) ∧
    (∀ (d : Nat) (l0 : Nat) (l1 : Value)  (h : zMm) (Q : Option Value → zMm → Prop), zWp d zi_74 none 85 [.ref l0, l1] [] h Q = zWp d zi_74 none 86 [.ref l0, l1] [.ref l0] h Q) ∧
    (∀ (d : Nat) (l0 : Value) (l1 : Value) (x0 : Nat) (I : Nat → Nat → Int32) (L : Nat → Nat → Int64) (P : Nat → Nat → Option Nat) (Q : Option Value → zMm → Prop), zSH[x0]? = some (.inl 9) → zWp d zi_74 none 86 [l0, l1] [.ref x0] (zSH, I, L, P) Q = zWp d zi_74 none 89 [l0, l1] [va_rf (P x0 0)] (zSH, I, L, P) Q) ∧
    (∀ (d : Nat) (l0 : Value) (l1 : Value) (x0 : Nat) (I : Nat → Nat → Int32) (L : Nat → Nat → Int64) (P : Nat → Nat → Option Nat) (Q : Option Value → zMm → Prop), zSH[x0]? = some (.inl 8) → zWp d zi_74 none 89 [l0, l1] [.ref x0] (zSH, I, L, P) Q = zWM d 61 [.ref x0] (zSH, I, L, P) (fun r h1 => zWp d zi_74 none 92 [l0, l1] (r.toList ++ []) h1 Q)) ∧
    (∀ (d : Nat) (l0 : Nat) (l1 : Value)  (h : zMm) (Q : Option Value → zMm → Prop), zWp d zi_74 none 92 [.ref l0, l1] [] h Q = zWp d zi_74 none 93 [.ref l0, l1] [.ref l0] h Q) ∧
    (∀ (d : Nat) (l0 : Value) (l1 : Value) (x0 : Nat) (I : Nat → Nat → Int32) (L : Nat → Nat → Int64) (P : Nat → Nat → Option Nat) (Q : Option Value → zMm → Prop), zSH[x0]? = some (.inl 9) → zWp d zi_74 none 93 [l0, l1] [.ref x0] (zSH, I, L, P) Q = zWp d zi_74 none 96 [l0, l1] [va_rf (P x0 4)] (zSH, I, L, P) Q) ∧
    (∀ (d : Nat) (l0 : Value) (l1 : Value) (x0 : Nat) (h : zMm) (Q : Option Value → zMm → Prop), zWp d zi_74 none 96 [l0, l1] [.ref x0] h Q = zWp d zi_74 none 97 [l0, l1] [.int 0, .ref x0] h Q) ∧
    (∀ (d : Nat) (l0 : Value) (l1 : Value) (x1 : Int32) (x0 : Nat) (I : Nat → Nat → Int32) (L : Nat → Nat → Int64) (P : Nat → Nat → Option Nat) (Q : Option Value → zMm → Prop), zSH[x0]? = some (.inl 2) → x1 = 0 ∨ x1 = 1 → zWp d zi_74 none 97 [l0, l1] [.int x1, .ref x0] (zSH, I, L, P) Q = zWp d zi_74 none 100 [l0, l1] [] (zSH, zw I x0 (upd (I x0) 6 x1), L, P) Q) ∧
    (∀ (d : Nat) (l0 : Nat) (l1 : Value)  (h : zMm) (Q : Option Value → zMm → Prop), zWp d zi_74 none 100 [.ref l0, l1] [] h Q = zWp d zi_74 none 101 [.ref l0, l1] [.ref l0] h Q) ∧
    (∀ (d : Nat) (l0 : Value) (l1 : Value) (x0 : Nat) (I : Nat → Nat → Int32) (L : Nat → Nat → Int64) (P : Nat → Nat → Option Nat) (Q : Option Value → zMm → Prop), zSH[x0]? = some (.inl 9) → zWp d zi_74 none 101 [l0, l1] [.ref x0] (zSH, I, L, P) Q = zWp d zi_74 none 104 [l0, l1] [va_rf (P x0 0)] (zSH, I, L, P) Q) ∧
    (∀ (d : Nat) (l0 : Value) (l1 : Value) (x0 : Nat) (I : Nat → Nat → Int32) (L : Nat → Nat → Int64) (P : Nat → Nat → Option Nat) (Q : Option Value → zMm → Prop), zSH[x0]? = some (.inl 8) → zWp d zi_74 none 104 [l0, l1] [.ref x0] (zSH, I, L, P) Q = zWp d zi_74 none 107 [l0, l1] [.int (I x0 6)] (zSH, I, L, P) Q) ∧
    (∀ (d : Nat) (l0 : Value) (l1 : Value) (x0 : Int32) (h : zMm) (Q : Option Value → zMm → Prop), zWp d zi_74 none 107 [l0, l1] [.int x0] h Q = Q (some (.int x0)) h) :=
  ⟨(fun d l0 l1  h Q => zr_aload_n rfl rfl),
   (fun d l0 l1 x0 I L P Q p0 => zr_getQ rfl lf_9_10 (fun _ _ _ => rfl) p0),
   (fun d l0 l1 x0 I L P Q p0 => zr_getI rfl lf_9_92 (fun _ _ _ => rfl) p0),
   (fun d l0 l1 x0 h Q => zr_iconst rfl (by decide)),
   (fun d l0 l1 x1 x0 h Q => zr_isub rfl),
   (fun d l0 l1 x0 h Q => zr_istore_n (n := 1) rfl (Nat.le_of_ble_eq_true rfl) rfl),
   (fun d l0 l1  h Q => zr_iload_n rfl rfl),
   (fun d l0 l1 x0 h Q => zr_if_ge rfl (by decide)),
   (fun d l0 l1  h Q => zr_bipush rfl (by decide)),
   (fun d l0 l1 x0 h Q => zr_iret rfl rfl),
   (fun d l0 l1  h Q => zr_aload_n rfl rfl),
   (fun d l0 l1 x0 I L P Q p0 => zr_getQ rfl lf_9_43 (fun _ _ _ => rfl) p0),
   (fun d l0 l1 x0 h Q => zr_bipush rfl (by decide)),
   (fun d l0 l1 x1 x0 h Q => zr_aload_n rfl rfl),
   (fun d l0 l1 x2 x1 x0 I L P Q p0 => zr_getQ rfl lf_9_43 (fun _ _ _ => rfl) p0),
   (fun d l0 l1 x2 x1 x0 I L P Q p0 => zr_getI rfl lf_9_95 (fun _ _ _ => rfl) p0),
   (fun d l0 l1 x2 x1 x0 h Q => zr_aload_n rfl rfl),
   (fun d l0 l1 x3 x2 x1 x0 I L P Q p0 => zr_getQ rfl lf_9_10 (fun _ _ _ => rfl) p0),
   (fun d l0 l1 x3 x2 x1 x0 I L P Q p0 => zr_getQ rfl lf_9_109 (fun _ _ _ => rfl) p0),
   (fun d l0 l1 x3 x2 x1 x0 h Q => zr_iload_n rfl rfl),
   (fun d l0 l1 x4 x3 x2 x1 x0 I L P Q p0 => zr_ald rfl p0),
   (fun d l0 l1 x3 x2 x1 x0 h Q => zr_iadd rfl),
   (fun d l0 l1 x2 x1 x0 h Q => zr_aload_n rfl rfl),
   (fun d l0 l1 x3 x2 x1 x0 I L P Q p0 => zr_getQ rfl lf_9_10 (fun _ _ _ => rfl) p0),
   (fun d l0 l1 x3 x2 x1 x0 I L P Q p0 => zr_getQ rfl lf_9_113 (fun _ _ _ => rfl) p0),
   (fun d l0 l1 x3 x2 x1 x0 h Q => zr_iload_n rfl rfl),
   (fun d l0 l1 x4 x3 x2 x1 x0 I L P Q p0 => zr_ald rfl p0),
   (fun d l0 l1 x3 x2 x1 x0 h Q => zr_isub rfl),
   (fun d l0 l1 x2 x1 x0 h Q => zr_min rfl lm_9_115 (Nat.le_of_ble_eq_true rfl)),
   (fun d l0 l1 x1 x0 I L P Q p0 => zr_putI rfl lf_9_95 (by decide) rfl p0),
   (fun d l0 l1  h Q => zr_aload_n rfl rfl),
   (fun d l0 l1 x0 I L P Q p0 => zr_getQ rfl lf_9_43 (fun _ _ _ => rfl) p0),
   (fun d l0 l1 x0 h Q => zr_bipush rfl (by decide)),
   (fun d l0 l1 x1 x0 h Q => zr_aload_n rfl rfl),
   (fun d l0 l1 x2 x1 x0 I L P Q p0 => zr_getQ rfl lf_9_43 (fun _ _ _ => rfl) p0),
   (fun d l0 l1 x2 x1 x0 I L P Q p0 => zr_getI rfl lf_9_98 (fun _ _ _ => rfl) p0),
   (fun d l0 l1 x2 x1 x0 h Q => zr_aload_n rfl rfl),
   (fun d l0 l1 x3 x2 x1 x0 I L P Q p0 => zr_getQ rfl lf_9_10 (fun _ _ _ => rfl) p0),
   (fun d l0 l1 x3 x2 x1 x0 I L P Q p0 => zr_getQ rfl lf_9_113 (fun _ _ _ => rfl) p0),
   (fun d l0 l1 x3 x2 x1 x0 h Q => zr_iload_n rfl rfl),
   (fun d l0 l1 x4 x3 x2 x1 x0 I L P Q p0 => zr_ald rfl p0),
   (fun d l0 l1 x3 x2 x1 x0 h Q => zr_iadd rfl),
   (fun d l0 l1 x2 x1 x0 h Q => zr_min rfl lm_9_115 (Nat.le_of_ble_eq_true rfl)),
   (fun d l0 l1 x1 x0 I L P Q p0 => zr_putI rfl lf_9_98 (by decide) rfl p0),
   (fun d l0 l1  h Q => zr_aload_n rfl rfl),
   (fun d l0 l1 x0 I L P Q p0 => zr_getQ rfl lf_9_10 (fun _ _ _ => rfl) p0),
   (fun d l0 l1 x0 I L P Q p0 => zr_vir (as := []) (rest := []) rfl lm_9_121 m_61 kd_61 rfl (Nat.le_of_ble_eq_true rfl) p0),
   (fun d l0 l1  h Q => zr_aload_n rfl rfl),
   (fun d l0 l1 x0 I L P Q p0 => zr_getQ rfl lf_9_36 (fun _ _ _ => rfl) p0),
   (fun d l0 l1 x0 h Q => zr_iconst rfl (by decide)),
   (fun d l0 l1 x1 x0 I L P Q p0 p1 => zr_putZ rfl lf_9_105 (by decide) rfl p0 p1),
   (fun d l0 l1  h Q => zr_aload_n rfl rfl),
   (fun d l0 l1 x0 I L P Q p0 => zr_getQ rfl lf_9_10 (fun _ _ _ => rfl) p0),
   (fun d l0 l1 x0 I L P Q p0 => zr_getI rfl lf_9_92 (fun _ _ _ => rfl) p0),
   (fun d l0 l1 x0 h Q => zr_iret rfl rfl)⟩
theorem E_X9_rounds : ∀ (d : Nat) (a0 : Nat) (a1 : Int32) (a2 : Int32) (a3 : Int32) (h : zMm) (Q : Option Value → zMm → Prop), zWM (d + 1) 75 [.ref a0, .int a1, .int a2, .int a3] h Q = zWp d zi_75 none 0 [.ref a0, .int a1, .int a2, .int a3, .retAddr 0, .retAddr 0, .retAddr 0, .retAddr 0, .retAddr 0, .retAddr 0, .retAddr 0] [] h Q := fun d a0 a1 a2 a3 h Q => zW_M m_75 (Nat.le_of_ble_eq_true rfl) rfl
set_option maxRecDepth 100000 in
theorem R_X9_rounds :
    (∀ (d : Nat) (l0 : Value) (l1 : Int32) (l2 : Value) (l3 : Value) (l4 : Value) (l5 : Value) (l6 : Value) (l7 : Value) (l8 : Value) (l9 : Value) (l10 : Value)  (h : zMm) (Q : Option Value → zMm → Prop), zWp d zi_75 none 0 [l0, .int l1, l2, l3, l4, l5, l6, l7, l8, l9, l10] [] h Q = zWp d zi_75 none 1 [l0, .int l1, l2, l3, l4, l5, l6, l7, l8, l9, l10] [.int l1] h Q) ∧
    (∀ (d : Nat) (l0 : Value) (l1 : Value) (l2 : Value) (l3 : Value) (l4 : Value) (l5 : Value) (l6 : Value) (l7 : Value) (l8 : Value) (l9 : Value) (l10 : Value) (x0 : Int32) (h : zMm) (Q : Option Value → zMm → Prop), zWp d zi_75 none 1 [l0, l1, l2, l3, l4, l5, l6, l7, l8, l9, l10] [.int x0] h Q = zWM d 120 [.int x0] h (fun r h1 => zWp d zi_75 none 4 [l0, l1, l2, l3, l4, l5, l6, l7, l8, l9, l10] (r.toList ++ []) h1 Q)) ∧
    (∀ (d : Nat) (l0 : Value) (l1 : Value) (l2 : Value) (l3 : Value) (l4 : Value) (l5 : Value) (l6 : Value) (l7 : Value) (l8 : Value) (l9 : Value) (l10 : Value) (x0 : Int32) (h : zMm) (Q : Option Value → zMm → Prop), zWp d zi_75 none 4 [l0, l1, l2, l3, l4, l5, l6, l7, l8, l9, l10] [.int x0] h Q = if x0 = 0 then zWp d zi_75 none 18 [l0, l1, l2, l3, l4, l5, l6, l7, l8, l9, l10] [] h Q else zWp d zi_75 none 7 [l0, l1, l2, l3, l4, l5, l6, l7, l8, l9, l10] [] h Q) ∧
    (∀ (d : Nat) (l0 : Value) (l1 : Value) (l2 : Value) (l3 : Int32) (l4 : Value) (l5 : Value) (l6 : Value) (l7 : Value) (l8 : Value) (l9 : Value) (l10 : Value)  (h : zMm) (Q : Option Value → zMm → Prop), zWp d zi_75 none 7 [l0, l1, l2, .int l3, l4, l5, l6, l7, l8, l9, l10] [] h Q = zWp d zi_75 none 8 [l0, l1, l2, .int l3, l4, l5, l6, l7, l8, l9, l10] [.int l3] h Q) ∧
    (∀ (d : Nat) (l0 : Value) (l1 : Value) (l2 : Value) (l3 : Value) (l4 : Value) (l5 : Value) (l6 : Value) (l7 : Value) (l8 : Value) (l9 : Value) (l10 : Value) (x0 : Int32) (h : zMm) (Q : Option Value → zMm → Prop), zWp d zi_75 none 8 [l0, l1, l2, l3, l4, l5, l6, l7, l8, l9, l10] [.int x0] h Q = zWp d zi_75 none 9 [l0, l1, l2, l3, l4, l5, l6, l7, l8, l9, l10] [.int 1, .int x0] h Q) ∧
    (∀ (d : Nat) (l0 : Value) (l1 : Value) (l2 : Value) (l3 : Value) (l4 : Value) (l5 : Value) (l6 : Value) (l7 : Value) (l8 : Value) (l9 : Value) (l10 : Value) (x1 : Int32) (x0 : Int32) (h : zMm) (Q : Option Value → zMm → Prop), zWp d zi_75 none 9 [l0, l1, l2, l3, l4, l5, l6, l7, l8, l9, l10] [.int x1, .int x0] h Q = if x0 < x1 then zWp d zi_75 none 18 [l0, l1, l2, l3, l4, l5, l6, l7, l8, l9, l10] [] h Q else zWp d zi_75 none 12 [l0, l1, l2, l3, l4, l5, l6, l7, l8, l9, l10] [] h Q) ∧
    (∀ (d : Nat) (l0 : Value) (l1 : Value) (l2 : Value) (l3 : Int32) (l4 : Value) (l5 : Value) (l6 : Value) (l7 : Value) (l8 : Value) (l9 : Value) (l10 : Value)  (h : zMm) (Q : Option Value → zMm → Prop), zWp d zi_75 none 12 [l0, l1, l2, .int l3, l4, l5, l6, l7, l8, l9, l10] [] h Q = zWp d zi_75 none 13 [l0, l1, l2, .int l3, l4, l5, l6, l7, l8, l9, l10] [.int l3] h Q) ∧
    (∀ (d : Nat) (l0 : Value) (l1 : Value) (l2 : Value) (l3 : Value) (l4 : Value) (l5 : Value) (l6 : Value) (l7 : Value) (l8 : Value) (l9 : Value) (l10 : Value) (x0 : Int32) (h : zMm) (Q : Option Value → zMm → Prop), zWp d zi_75 none 13 [l0, l1, l2, l3, l4, l5, l6, l7, l8, l9, l10] [.int x0] h Q = zWp d zi_75 none 15 [l0, l1, l2, l3, l4, l5, l6, l7, l8, l9, l10] [.int 15, .int x0] h Q) ∧
    (∀ (d : Nat) (l0 : Value) (l1 : Value) (l2 : Value) (l3 : Value) (l4 : Value) (l5 : Value) (l6 : Value) (l7 : Value) (l8 : Value) (l9 : Value) (l10 : Value) (x1 : Int32) (x0 : Int32) (h : zMm) (Q : Option Value → zMm → Prop), zWp d zi_75 none 15 [l0, l1, l2, l3, l4, l5, l6, l7, l8, l9, l10] [.int x1, .int x0] h Q = if x0 ≤ x1 then zWp d zi_75 none 20 [l0, l1, l2, l3, l4, l5, l6, l7, l8, l9, l10] [] h Q else zWp d zi_75 none 18 [l0, l1, l2, l3, l4, l5, l6, l7, l8, l9, l10] [] h Q) ∧
    (∀ (d : Nat) (l0 : Value) (l1 : Value) (l2 : Value) (l3 : Value) (l4 : Value) (l5 : Value) (l6 : Value) (l7 : Value) (l8 : Value) (l9 : Value) (l10 : Value)  (h : zMm) (Q : Option Value → zMm → Prop), zWp d zi_75 none 18 [l0, l1, l2, l3, l4, l5, l6, l7, l8, l9, l10] [] h Q = zWp d zi_75 none 19 [l0, l1, l2, l3, l4, l5, l6, l7, l8, l9, l10] [.int (-1)] h Q) ∧
    (∀ (d : Nat) (l0 : Value) (l1 : Value) (l2 : Value) (l3 : Value) (l4 : Value) (l5 : Value) (l6 : Value) (l7 : Value) (l8 : Value) (l9 : Value) (l10 : Value) (x0 : Int32) (h : zMm) (Q : Option Value → zMm → Prop), zWp d zi_75 none 19 [l0, l1, l2, l3, l4, l5, l6, l7, l8, l9, l10] [.int x0] h Q = Q (some (.int x0)) h) ∧
    (∀ (d : Nat) (l0 : Nat) (l1 : Value) (l2 : Value) (l3 : Value) (l4 : Value) (l5 : Value) (l6 : Value) (l7 : Value) (l8 : Value) (l9 : Value) (l10 : Value)  (h : zMm) (Q : Option Value → zMm → Prop), zWp d zi_75 none 20 [.ref l0, l1, l2, l3, l4, l5, l6, l7, l8, l9, l10] [] h Q = zWp d zi_75 none 21 [.ref l0, l1, l2, l3, l4, l5, l6, l7, l8, l9, l10] [.ref l0] h Q) ∧
    (∀ (d : Nat) (l0 : Value) (l1 : Value) (l2 : Value) (l3 : Value) (l4 : Value) (l5 : Value) (l6 : Value) (l7 : Value) (l8 : Value) (l9 : Value) (l10 : Value) (x0 : Nat) (I : Nat → Nat → Int32) (L : Nat → Nat → Int64) (P : Nat → Nat → Option Nat) (Q : Option Value → zMm → Prop), zSH[x0]? = some (.inl 9) → zWp d zi_75 none 21 [l0, l1, l2, l3, l4, l5, l6, l7, l8, l9, l10] [.ref x0] (zSH, I, L, P) Q = zWp d zi_75 none 24 [l0, l1, l2, l3, l4, l5, l6, l7, l8, l9, l10] [va_rf (P x0 10)] (zSH, I, L, P) Q) ∧
    (∀ (d : Nat) (l0 : Value) (l1 : Int32) (l2 : Value) (l3 : Value) (l4 : Value) (l5 : Value) (l6 : Value) (l7 : Value) (l8 : Value) (l9 : Value) (l10 : Value) (x0 : Nat) (h : zMm) (Q : Option Value → zMm → Prop), zWp d zi_75 none 24 [l0, .int l1, l2, l3, l4, l5, l6, l7, l8, l9, l10] [.ref x0] h Q = zWp d zi_75 none 25 [l0, .int l1, l2, l3, l4, l5, l6, l7, l8, l9, l10] [.int l1, .ref x0] h Q) ∧
    (∀ (d : Nat) (l0 : Value) (l1 : Value) (l2 : Value) (l3 : Value) (l4 : Value) (l5 : Value) (l6 : Value) (l7 : Value) (l8 : Value) (l9 : Value) (l10 : Value) (x1 : Int32) (x0 : Nat) (I : Nat → Nat → Int32) (L : Nat → Nat → Int64) (P : Nat → Nat → Option Nat) (Q : Option Value → zMm → Prop), zAk zSH x0 = some (.object "PalletSky$Shelf") → zWp d zi_75 none 25 [l0, l1, l2, l3, l4, l5, l6, l7, l8, l9, l10] [.int x1, .ref x0] (zSH, I, L, P) Q = (vp_in x1 (zAn zSH x0) ∧ zWp d zi_75 none 26 [l0, l1, l2, l3, l4, l5, l6, l7, l8, l9, l10] [va_rf (P x0 x1.toNatClampNeg)] (zSH, I, L, P) Q)) ∧
    (∀ (d : Nat) (l0 : Value) (l1 : Value) (l2 : Value) (l3 : Int32) (l4 : Value) (l5 : Value) (l6 : Value) (l7 : Value) (l8 : Value) (l9 : Value) (l10 : Value) (x0 : Nat) (h : zMm) (Q : Option Value → zMm → Prop), zWp d zi_75 none 26 [l0, l1, l2, .int l3, l4, l5, l6, l7, l8, l9, l10] [.ref x0] h Q = zWp d zi_75 none 28 [l0, l1, l2, .int l3, .ref x0, l5, l6, l7, l8, l9, l10] [] h Q) ∧
    (∀ (d : Nat) (l0 : Value) (l1 : Value) (l2 : Value) (l3 : Value) (l4 : Nat) (l5 : Value) (l6 : Value) (l7 : Value) (l8 : Value) (l9 : Value) (l10 : Value)  (h : zMm) (Q : Option Value → zMm → Prop), zWp d zi_75 none 28 [l0, l1, l2, l3, .ref l4, l5, l6, l7, l8, l9, l10] [] h Q = zWp d zi_75 none 30 [l0, l1, l2, l3, .ref l4, l5, l6, l7, l8, l9, l10] [.ref l4] h Q) ∧
    (∀ (d : Nat) (l0 : Value) (l1 : Value) (l2 : Value) (l3 : Value) (l4 : Value) (l5 : Value) (l6 : Value) (l7 : Value) (l8 : Value) (l9 : Value) (l10 : Value) (x0 : Nat) (I : Nat → Nat → Int32) (L : Nat → Nat → Int64) (P : Nat → Nat → Option Nat) (Q : Option Value → zMm → Prop), zSH[x0]? = some (.inl 6) → zWp d zi_75 none 30 [l0, l1, l2, l3, l4, l5, l6, l7, l8, l9, l10] [.ref x0] (zSH, I, L, P) Q = zWp d zi_75 none 33 [l0, l1, l2, l3, l4, l5, l6, l7, l8, l9, l10] [.int (I x0 1)] (zSH, I, L, P) Q) ∧
    (∀ (d : Nat) (l0 : Value) (l1 : Value) (l2 : Value) (l3 : Value) (l4 : Value) (l5 : Value) (l6 : Value) (l7 : Value) (l8 : Value) (l9 : Value) (l10 : Value) (x0 : Int32) (h : zMm) (Q : Option Value → zMm → Prop), zWp d zi_75 none 33 [l0, l1, l2, l3, l4, l5, l6, l7, l8, l9, l10] [.int x0] h Q = zWp d zi_75 none 35 [l0, l1, l2, l3, l4, l5, l6, l7, l8, l9, l10] [.int (-2), .int x0] h Q) ∧
    (∀ (d : Nat) (l0 : Value) (l1 : Value) (l2 : Value) (l3 : Value) (l4 : Value) (l5 : Value) (l6 : Value) (l7 : Value) (l8 : Value) (l9 : Value) (l10 : Value) (x1 : Int32) (x0 : Int32) (h : zMm) (Q : Option Value → zMm → Prop), zWp d zi_75 none 35 [l0, l1, l2, l3, l4, l5, l6, l7, l8, l9, l10] [.int x1, .int x0] h Q = if x0 = x1 then zWp d zi_75 none 38 [l0, l1, l2, l3, l4, l5, l6, l7, l8, l9, l10] [] h Q else zWp d zi_75 none 40 [l0, l1, l2, l3, l4, l5, l6, l7, l8, l9, l10] [] h Q) ∧
    (∀ (d : Nat) (l0 : Value) (l1 : Value) (l2 : Value) (l3 : Value) (l4 : Value) (l5 : Value) (l6 : Value) (l7 : Value) (l8 : Value) (l9 : Value) (l10 : Value)  (h : zMm) (Q : Option Value → zMm → Prop), zWp d zi_75 none 38 [l0, l1, l2, l3, l4, l5, l6, l7, l8, l9, l10] [] h Q = zWp d zi_75 none 39 [l0, l1, l2, l3, l4, l5, l6, l7, l8, l9, l10] [.int 0] h Q) ∧
    (∀ (d : Nat) (l0 : Value) (l1 : Value) (l2 : Value) (l3 : Value) (l4 : Value) (l5 : Value) (l6 : Value) (l7 : Value) (l8 : Value) (l9 : Value) (l10 : Value) (x0 : Int32) (h : zMm) (Q : Option Value → zMm → Prop), zWp d zi_75 none 39 [l0, l1, l2, l3, l4, l5, l6, l7, l8, l9, l10] [.int x0] h Q = Q (some (.int x0)) h) ∧
    (∀ (d : Nat) (l0 : Value) (l1 : Value) (l2 : Value) (l3 : Value) (l4 : Nat) (l5 : Value) (l6 : Value) (l7 : Value) (l8 : Value) (l9 : Value) (l10 : Value)  (h : zMm) (Q : Option Value → zMm → Prop), zWp d zi_75 none 40 [l0, l1, l2, l3, .ref l4, l5, l6, l7, l8, l9, l10] [] h Q = zWp d zi_75 none 42 [l0, l1, l2, l3, .ref l4, l5, l6, l7, l8, l9, l10] [.ref l4] h Q) ∧
    (∀ (d : Nat) (l0 : Value) (l1 : Value) (l2 : Value) (l3 : Value) (l4 : Value) (l5 : Value) (l6 : Value) (l7 : Value) (l8 : Value) (l9 : Value) (l10 : Value) (x0 : Nat) (I : Nat → Nat → Int32) (L : Nat → Nat → Int64) (P : Nat → Nat → Option Nat) (Q : Option Value → zMm → Prop), zSH[x0]? = some (.inl 6) → zWp d zi_75 none 42 [l0, l1, l2, l3, l4, l5, l6, l7, l8, l9, l10] [.ref x0] (zSH, I, L, P) Q = zWp d zi_75 none 45 [l0, l1, l2, l3, l4, l5, l6, l7, l8, l9, l10] [.int (I x0 1)] (zSH, I, L, P) Q) ∧
    (∀ (d : Nat) (l0 : Value) (l1 : Value) (l2 : Value) (l3 : Value) (l4 : Value) (l5 : Value) (l6 : Value) (l7 : Value) (l8 : Value) (l9 : Value) (l10 : Value) (x0 : Int32) (h : zMm) (Q : Option Value → zMm → Prop), zWp d zi_75 none 45 [l0, l1, l2, l3, l4, l5, l6, l7, l8, l9, l10] [.int x0] h Q = if x0 = 0 then zWp d zi_75 none 51 [l0, l1, l2, l3, l4, l5, l6, l7, l8, l9, l10] [] h Q else zWp d zi_75 none 48 [l0, l1, l2, l3, l4, l5, l6, l7, l8, l9, l10] [] h Q) ∧
    (∀ (d : Nat) (l0 : Value) (l1 : Value) (l2 : Value) (l3 : Value) (l4 : Value) (l5 : Value) (l6 : Value) (l7 : Value) (l8 : Value) (l9 : Value) (l10 : Value)  (h : zMm) (Q : Option Value → zMm → Prop), zWp d zi_75 none 48 [l0, l1, l2, l3, l4, l5, l6, l7, l8, l9, l10] [] h Q = zWp d zi_75 none 50 [l0, l1, l2, l3, l4, l5, l6, l7, l8, l9, l10] [.int (-12)] h Q) ∧
    (∀ (d : Nat) (l0 : Value) (l1 : Value) (l2 : Value) (l3 : Value) (l4 : Value) (l5 : Value) (l6 : Value) (l7 : Value) (l8 : Value) (l9 : Value) (l10 : Value) (x0 : Int32) (h : zMm) (Q : Option Value → zMm → Prop), zWp d zi_75 none 50 [l0, l1, l2, l3, l4, l5, l6, l7, l8, l9, l10] [.int x0] h Q = Q (some (.int x0)) h) ∧
    (∀ (d : Nat) (l0 : Nat) (l1 : Value) (l2 : Value) (l3 : Value) (l4 : Value) (l5 : Value) (l6 : Value) (l7 : Value) (l8 : Value) (l9 : Value) (l10 : Value)  (h : zMm) (Q : Option Value → zMm → Prop), zWp d zi_75 none 51 [.ref l0, l1, l2, l3, l4, l5, l6, l7, l8, l9, l10] [] h Q = zWp d zi_75 none 52 [.ref l0, l1, l2, l3, l4, l5, l6, l7, l8, l9, l10] [.ref l0] h Q) ∧
    (∀ (d : Nat) (l0 : Value) (l1 : Value) (l2 : Value) (l3 : Value) (l4 : Value) (l5 : Value) (l6 : Value) (l7 : Value) (l8 : Value) (l9 : Value) (l10 : Value) (x0 : Nat) (I : Nat → Nat → Int32) (L : Nat → Nat → Int64) (P : Nat → Nat → Option Nat) (Q : Option Value → zMm → Prop), zSH[x0]? = some (.inl 9) → zWp d zi_75 none 52 [l0, l1, l2, l3, l4, l5, l6, l7, l8, l9, l10] [.ref x0] (zSH, I, L, P) Q = zWp d zi_75 none 55 [l0, l1, l2, l3, l4, l5, l6, l7, l8, l9, l10] [va_rf (P x0 4)] (zSH, I, L, P) Q) ∧
    (∀ (d : Nat) (l0 : Value) (l1 : Value) (l2 : Value) (l3 : Value) (l4 : Value) (l5 : Value) (l6 : Value) (l7 : Value) (l8 : Value) (l9 : Value) (l10 : Value) (x0 : Nat) (h : zMm) (Q : Option Value → zMm → Prop), zWp d zi_75 none 55 [l0, l1, l2, l3, l4, l5, l6, l7, l8, l9, l10] [.ref x0] h Q = zWp d zi_75 none 56 [l0, l1, l2, l3, l4, l5, l6, l7, l8, l9, l10] [.int 0, .ref x0] h Q) ∧
    (∀ (d : Nat) (l0 : Value) (l1 : Value) (l2 : Value) (l3 : Value) (l4 : Value) (l5 : Value) (l6 : Value) (l7 : Value) (l8 : Value) (l9 : Value) (l10 : Value) (x1 : Int32) (x0 : Nat) (I : Nat → Nat → Int32) (L : Nat → Nat → Int64) (P : Nat → Nat → Option Nat) (Q : Option Value → zMm → Prop), zSH[x0]? = some (.inl 2) → x1 = 0 ∨ x1 = 1 → zWp d zi_75 none 56 [l0, l1, l2, l3, l4, l5, l6, l7, l8, l9, l10] [.int x1, .ref x0] (zSH, I, L, P) Q = zWp d zi_75 none 59 [l0, l1, l2, l3, l4, l5, l6, l7, l8, l9, l10] [] (zSH, zw I x0 (upd (I x0) 6 x1), L, P) Q) ∧
    (∀ (d : Nat) (l0 : Value) (l1 : Value) (l2 : Value) (l3 : Value) (l4 : Value) (l5 : Value) (l6 : Value) (l7 : Value) (l8 : Value) (l9 : Value) (l10 : Value)  (h : zMm) (Q : Option Value → zMm → Prop), zWp d zi_75 none 59 [l0, l1, l2, l3, l4, l5, l6, l7, l8, l9, l10] [] h Q = zWp d zi_75 none 60 [l0, l1, l2, l3, l4, l5, l6, l7, l8, l9, l10] [.int 0] h Q) ∧
    (∀ (d : Nat) (l0 : Value) (l1 : Value) (l2 : Value) (l3 : Value) (l4 : Nat) (l5 : Value) (l6 : Value) (l7 : Value) (l8 : Value) (l9 : Value) (l10 : Value) (x0 : Int32) (h : zMm) (Q : Option Value → zMm → Prop), zWp d zi_75 none 60 [l0, l1, l2, l3, .ref l4, l5, l6, l7, l8, l9, l10] [.int x0] h Q = zWp d zi_75 none 62 [l0, l1, l2, l3, .ref l4, .int x0, l6, l7, l8, l9, l10] [] h Q) ∧
    (∀ (d : Nat) (l0 : Value) (l1 : Value) (l2 : Int32) (l3 : Value) (l4 : Value) (l5 : Value) (l6 : Value) (l7 : Value) (l8 : Value) (l9 : Value) (l10 : Value)  (h : zMm) (Q : Option Value → zMm → Prop), zWp d zi_75 none 62 [l0, l1, .int l2, l3, l4, l5, l6, l7, l8, l9, l10] [] h Q = zWp d zi_75 none 63 [l0, l1, .int l2, l3, l4, l5, l6, l7, l8, l9, l10] [.int l2] h Q) ∧
    (∀ (d : Nat) (l0 : Value) (l1 : Value) (l2 : Value) (l3 : Value) (l4 : Value) (l5 : Int32) (l6 : Value) (l7 : Value) (l8 : Value) (l9 : Value) (l10 : Value) (x0 : Int32) (h : zMm) (Q : Option Value → zMm → Prop), zWp d zi_75 none 63 [l0, l1, l2, l3, l4, .int l5, l6, l7, l8, l9, l10] [.int x0] h Q = zWp d zi_75 none 65 [l0, l1, l2, l3, l4, .int l5, .int x0, l7, l8, l9, l10] [] h Q) ∧
    (∀ (d : Nat) (l0 : Value) (l1 : Value) (l2 : Value) (l3 : Int32) (l4 : Value) (l5 : Value) (l6 : Value) (l7 : Value) (l8 : Value) (l9 : Value) (l10 : Value) (x0 : Int32) (h : zMm) (Q : Option Value → zMm → Prop), zWp d zi_75 none 67 [l0, l1, l2, .int l3, l4, l5, l6, l7, l8, l9, l10] [.int x0] h Q = zWp d zi_75 none 68 [l0, l1, l2, .int l3, l4, l5, l6, l7, l8, l9, l10] [.int l3, .int x0] h Q) ∧
    (∀ (d : Nat) (l0 : Value) (l1 : Value) (l2 : Value) (l3 : Value) (l4 : Value) (l5 : Value) (l6 : Value) (l7 : Value) (l8 : Value) (l9 : Value) (l10 : Value) (x1 : Int32) (x0 : Int32) (h : zMm) (Q : Option Value → zMm → Prop), zWp d zi_75 none 68 [l0, l1, l2, l3, l4, l5, l6, l7, l8, l9, l10] [.int x1, .int x0] h Q = if x1 ≤ x0 then zWp d zi_75 none 185 [l0, l1, l2, l3, l4, l5, l6, l7, l8, l9, l10] [] h Q else zWp d zi_75 none 71 [l0, l1, l2, l3, l4, l5, l6, l7, l8, l9, l10] [] h Q) ∧
    (∀ (d : Nat) (l0 : Value) (l1 : Value) (l2 : Value) (l3 : Value) (l4 : Nat) (l5 : Value) (l6 : Value) (l7 : Value) (l8 : Value) (l9 : Value) (l10 : Value)  (h : zMm) (Q : Option Value → zMm → Prop), zWp d zi_75 none 71 [l0, l1, l2, l3, .ref l4, l5, l6, l7, l8, l9, l10] [] h Q = zWp d zi_75 none 73 [l0, l1, l2, l3, .ref l4, l5, l6, l7, l8, l9, l10] [.ref l4] h Q) ∧
    (∀ (d : Nat) (l0 : Value) (l1 : Value) (l2 : Value) (l3 : Value) (l4 : Value) (l5 : Value) (l6 : Int32) (l7 : Value) (l8 : Value) (l9 : Value) (l10 : Value) (x0 : Nat) (h : zMm) (Q : Option Value → zMm → Prop), zWp d zi_75 none 73 [l0, l1, l2, l3, l4, l5, .int l6, l7, l8, l9, l10] [.ref x0] h Q = zWp d zi_75 none 75 [l0, l1, l2, l3, l4, l5, .int l6, l7, l8, l9, l10] [.int l6, .ref x0] h Q) ∧
    (∀ (d : Nat) (l0 : Value) (l1 : Value) (l2 : Value) (l3 : Value) (l4 : Value) (l5 : Value) (l6 : Value) (l7 : Value) (l8 : Value) (l9 : Value) (l10 : Value) (x1 : Int32) (x0 : Nat) (h : zMm) (Q : Option Value → zMm → Prop), zWp d zi_75 none 75 [l0, l1, l2, l3, l4, l5, l6, l7, l8, l9, l10] [.int x1, .ref x0] h Q = zWp d zi_75 none 76 [l0, l1, l2, l3, l4, l5, l6, l7, l8, l9, l10] [.int 4, .int x1, .ref x0] h Q) ∧
    (∀ (d : Nat) (l0 : Value) (l1 : Value) (l2 : Value) (l3 : Value) (l4 : Value) (l5 : Value) (l6 : Value) (l7 : Value) (l8 : Value) (l9 : Value) (l10 : Value) (x2 : Int32) (x1 : Int32) (x0 : Nat) (I : Nat → Nat → Int32) (L : Nat → Nat → Int64) (P : Nat → Nat → Option Nat) (Q : Option Value → zMm → Prop), zSH[x0]? = some (.inl 6) → zWp d zi_75 none 76 [l0, l1, l2, l3, l4, l5, l6, l7, l8, l9, l10] [.int x2, .int x1, .ref x0] (zSH, I, L, P) Q = zWM d 50 [.ref x0, .int x1, .int x2] (zSH, I, L, P) (fun r h1 => zWp d zi_75 none 79 [l0, l1, l2, l3, l4, l5, l6, l7, l8, l9, l10] (r.toList ++ []) h1 Q)) ∧
    (∀ (d : Nat) (l0 : Value) (l1 : Value) (l2 : Value) (l3 : Value) (l4 : Value) (l5 : Value) (l6 : Value) (l7 : Value) (l8 : Value) (l9 : Value) (l10 : Value) (x0 : Int32) (h : zMm) (Q : Option Value → zMm → Prop), zWp d zi_75 none 79 [l0, l1, l2, l3, l4, l5, l6, l7, l8, l9, l10] [.int x0] h Q = if x0 = 0 then zWp d zi_75 none 185 [l0, l1, l2, l3, l4, l5, l6, l7, l8, l9, l10] [] h Q else zWp d zi_75 none 82 [l0, l1, l2, l3, l4, l5, l6, l7, l8, l9, l10] [] h Q) ∧
    (∀ (d : Nat) (l0 : Nat) (l1 : Value) (l2 : Value) (l3 : Value) (l4 : Value) (l5 : Value) (l6 : Value) (l7 : Value) (l8 : Value) (l9 : Value) (l10 : Value)  (h : zMm) (Q : Option Value → zMm → Prop), zWp d zi_75 none 82 [.ref l0, l1, l2, l3, l4, l5, l6, l7, l8, l9, l10] [] h Q = zWp d zi_75 none 83 [.ref l0, l1, l2, l3, l4, l5, l6, l7, l8, l9, l10] [.ref l0] h Q) ∧
    (∀ (d : Nat) (l0 : Value) (l1 : Value) (l2 : Value) (l3 : Value) (l4 : Value) (l5 : Value) (l6 : Value) (l7 : Value) (l8 : Value) (l9 : Value) (l10 : Value) (x0 : Nat) (I : Nat → Nat → Int32) (L : Nat → Nat → Int64) (P : Nat → Nat → Option Nat) (Q : Option Value → zMm → Prop), zSH[x0]? = some (.inl 9) → zWp d zi_75 none 83 [l0, l1, l2, l3, l4, l5, l6, l7, l8, l9, l10] [.ref x0] (zSH, I, L, P) Q = zWp d zi_75 none 86 [l0, l1, l2, l3, l4, l5, l6, l7, l8, l9, l10] [va_rf (P x0 0)] (zSH, I, L, P) Q) ∧
    (∀ (d : Nat) (l0 : Value) (l1 : Value) (l2 : Value) (l3 : Value) (l4 : Value) (l5 : Value) (l6 : Value) (l7 : Value) (l8 : Value) (l9 : Value) (l10 : Value) (x0 : Nat) (I : Nat → Nat → Int32) (L : Nat → Nat → Int64) (P : Nat → Nat → Option Nat) (Q : Option Value → zMm → Prop), zSH[x0]? = some (.inl 8) → zWp d zi_75 none 86 [l0, l1, l2, l3, l4, l5, l6, l7, l8, l9, l10] [.ref x0] (zSH, I, L, P) Q = zWp d zi_75 none 89 [l0, l1, l2, l3, l4, l5, l6, l7, l8, l9, l10] [.int (I x0 6)] (zSH, I, L, P) Q) ∧
    (∀ (d : Nat) (l0 : Value) (l1 : Value) (l2 : Value) (l3 : Value) (l4 : Value) (l5 : Value) (l6 : Value) (l7 : Value) (l8 : Value) (l9 : Value) (l10 : Value) (x0 : Int32) (h : zMm) (Q : Option Value → zMm → Prop), zWp d zi_75 none 89 [l0, l1, l2, l3, l4, l5, l6, l7, l8, l9, l10] [.int x0] h Q = zWp d zi_75 none 91 [l0, l1, l2, l3, l4, l5, l6, l7, l8, l9, l10] [.int 24, .int x0] h Q) ∧
    (∀ (d : Nat) (l0 : Value) (l1 : Value) (l2 : Value) (l3 : Value) (l4 : Value) (l5 : Value) (l6 : Value) (l7 : Value) (l8 : Value) (l9 : Value) (l10 : Value) (x1 : Int32) (x0 : Int32) (h : zMm) (Q : Option Value → zMm → Prop), zWp d zi_75 none 91 [l0, l1, l2, l3, l4, l5, l6, l7, l8, l9, l10] [.int x1, .int x0] h Q = if x1 ≤ x0 then zWp d zi_75 none 185 [l0, l1, l2, l3, l4, l5, l6, l7, l8, l9, l10] [] h Q else zWp d zi_75 none 94 [l0, l1, l2, l3, l4, l5, l6, l7, l8, l9, l10] [] h Q) ∧
    (∀ (d : Nat) (l0 : Value) (l1 : Value) (l2 : Value) (l3 : Value) (l4 : Nat) (l5 : Value) (l6 : Value) (l7 : Value) (l8 : Value) (l9 : Value) (l10 : Value)  (h : zMm) (Q : Option Value → zMm → Prop), zWp d zi_75 none 94 [l0, l1, l2, l3, .ref l4, l5, l6, l7, l8, l9, l10] [] h Q = zWp d zi_75 none 96 [l0, l1, l2, l3, .ref l4, l5, l6, l7, l8, l9, l10] [.ref l4] h Q) ∧
    (∀ (d : Nat) (l0 : Value) (l1 : Value) (l2 : Value) (l3 : Value) (l4 : Value) (l5 : Value) (l6 : Value) (l7 : Value) (l8 : Value) (l9 : Value) (l10 : Value) (x0 : Nat) (I : Nat → Nat → Int32) (L : Nat → Nat → Int64) (P : Nat → Nat → Option Nat) (Q : Option Value → zMm → Prop), zSH[x0]? = some (.inl 6) → zWp d zi_75 none 96 [l0, l1, l2, l3, l4, l5, l6, l7, l8, l9, l10] [.ref x0] (zSH, I, L, P) Q = zWp d zi_75 none 99 [l0, l1, l2, l3, l4, l5, l6, l7, l8, l9, l10] [va_rf (P x0 0)] (zSH, I, L, P) Q) ∧
    (∀ (d : Nat) (l0 : Value) (l1 : Value) (l2 : Value) (l3 : Value) (l4 : Value) (l5 : Value) (l6 : Int32) (l7 : Value) (l8 : Value) (l9 : Value) (l10 : Value) (x0 : Nat) (h : zMm) (Q : Option Value → zMm → Prop), zWp d zi_75 none 99 [l0, l1, l2, l3, l4, l5, .int l6, l7, l8, l9, l10] [.ref x0] h Q = zWp d zi_75 none 101 [l0, l1, l2, l3, l4, l5, .int l6, l7, l8, l9, l10] [.int l6, .ref x0] h Q) ∧
    (∀ (d : Nat) (l0 : Value) (l1 : Value) (l2 : Value) (l3 : Value) (l4 : Value) (l5 : Value) (l6 : Value) (l7 : Value) (l8 : Value) (l9 : Value) (l10 : Value) (x1 : Int32) (x0 : Nat) (I : Nat → Nat → Int32) (L : Nat → Nat → Int64) (P : Nat → Nat → Option Nat) (Q : Option Value → zMm → Prop), zAk zSH x0 = some .long → zWp d zi_75 none 101 [l0, l1, l2, l3, l4, l5, l6, l7, l8, l9, l10] [.int x1, .ref x0] (zSH, I, L, P) Q = (vp_in x1 (zAn zSH x0) ∧ zWp d zi_75 none 102 [l0, l1, l2, l3, l4, l5, l6, l7, l8, l9, l10] [.long (L x0 x1.toNatClampNeg)] (zSH, I, L, P) Q)) ∧
    (∀ (d : Nat) (l0 : Value) (l1 : Value) (l2 : Value) (l3 : Value) (l4 : Value) (l5 : Value) (l6 : Value) (l7 : Value) (l8 : Value) (l9 : Value) (l10 : Value) (x0 : Int64) (h : zMm) (Q : Option Value → zMm → Prop), zWp d zi_75 none 102 [l0, l1, l2, l3, l4, l5, l6, l7, l8, l9, l10] [.long x0] h Q = zWp d zi_75 none 103 [l0, l1, l2, l3, l4, l5, l6, l7, l8, l9, l10] [.int x0.toInt32] h Q) ∧
    (∀ (d : Nat) (l0 : Value) (l1 : Value) (l2 : Value) (l3 : Value) (l4 : Value) (l5 : Value) (l6 : Int32) (l7 : Value) (l8 : Value) (l9 : Value) (l10 : Value) (x0 : Int32) (h : zMm) (Q : Option Value → zMm → Prop), zWp d zi_75 none 103 [l0, l1, l2, l3, l4, l5, .int l6, l7, l8, l9, l10] [.int x0] h Q = zWp d zi_75 none 105 [l0, l1, l2, l3, l4, l5, .int l6, .int x0, l8, l9, l10] [] h Q) ∧
    (∀ (d : Nat) (l0 : Value) (l1 : Value) (l2 : Value) (l3 : Value) (l4 : Nat) (l5 : Value) (l6 : Value) (l7 : Value) (l8 : Value) (l9 : Value) (l10 : Value)  (h : zMm) (Q : Option Value → zMm → Prop), zWp d zi_75 none 105 [l0, l1, l2, l3, .ref l4, l5, l6, l7, l8, l9, l10] [] h Q = zWp d zi_75 none 107 [l0, l1, l2, l3, .ref l4, l5, l6, l7, l8, l9, l10] [.ref l4] h Q) ∧
    (∀ (d : Nat) (l0 : Value) (l1 : Value) (l2 : Value) (l3 : Value) (l4 : Value) (l5 : Value) (l6 : Value) (l7 : Value) (l8 : Value) (l9 : Value) (l10 : Value) (x0 : Nat) (I : Nat → Nat → Int32) (L : Nat → Nat → Int64) (P : Nat → Nat → Option Nat) (Q : Option Value → zMm → Prop), zSH[x0]? = some (.inl 6) → zWp d zi_75 none 107 [l0, l1, l2, l3, l4, l5, l6, l7, l8, l9, l10] [.ref x0] (zSH, I, L, P) Q = zWp d zi_75 none 110 [l0, l1, l2, l3, l4, l5, l6, l7, l8, l9, l10] [va_rf (P x0 0)] (zSH, I, L, P) Q) ∧
    (∀ (d : Nat) (l0 : Value) (l1 : Value) (l2 : Value) (l3 : Value) (l4 : Value) (l5 : Value) (l6 : Int32) (l7 : Value) (l8 : Value) (l9 : Value) (l10 : Value) (x0 : Nat) (h : zMm) (Q : Option Value → zMm → Prop), zWp d zi_75 none 110 [l0, l1, l2, l3, l4, l5, .int l6, l7, l8, l9, l10] [.ref x0] h Q = zWp d zi_75 none 112 [l0, l1, l2, l3, l4, l5, .int l6, l7, l8, l9, l10] [.int l6, .ref x0] h Q) ∧
    (∀ (d : Nat) (l0 : Value) (l1 : Value) (l2 : Value) (l3 : Value) (l4 : Value) (l5 : Value) (l6 : Value) (l7 : Value) (l8 : Value) (l9 : Value) (l10 : Value) (x1 : Int32) (x0 : Nat) (h : zMm) (Q : Option Value → zMm → Prop), zWp d zi_75 none 112 [l0, l1, l2, l3, l4, l5, l6, l7, l8, l9, l10] [.int x1, .ref x0] h Q = zWp d zi_75 none 113 [l0, l1, l2, l3, l4, l5, l6, l7, l8, l9, l10] [.int 1, .int x1, .ref x0] h Q) ∧
    (∀ (d : Nat) (l0 : Value) (l1 : Value) (l2 : Value) (l3 : Value) (l4 : Value) (l5 : Value) (l6 : Value) (l7 : Value) (l8 : Value) (l9 : Value) (l10 : Value) (x2 : Int32) (x1 : Int32) (x0 : Nat) (h : zMm) (Q : Option Value → zMm → Prop), zWp d zi_75 none 113 [l0, l1, l2, l3, l4, l5, l6, l7, l8, l9, l10] [.int x2, .int x1, .ref x0] h Q = zWp d zi_75 none 114 [l0, l1, l2, l3, l4, l5, l6, l7, l8, l9, l10] [.int (x1 + x2), .ref x0] h Q) ∧
    (∀ (d : Nat) (l0 : Value) (l1 : Value) (l2 : Value) (l3 : Value) (l4 : Value) (l5 : Value) (l6 : Value) (l7 : Value) (l8 : Value) (l9 : Value) (l10 : Value) (x1 : Int32) (x0 : Nat) (I : Nat → Nat → Int32) (L : Nat → Nat → Int64) (P : Nat → Nat → Option Nat) (Q : Option Value → zMm → Prop), zAk zSH x0 = some .long → zWp d zi_75 none 114 [l0, l1, l2, l3, l4, l5, l6, l7, l8, l9, l10] [.int x1, .ref x0] (zSH, I, L, P) Q = (vp_in x1 (zAn zSH x0) ∧ zWp d zi_75 none 115 [l0, l1, l2, l3, l4, l5, l6, l7, l8, l9, l10] [.long (L x0 x1.toNatClampNeg)] (zSH, I, L, P) Q)) ∧
    (∀ (d : Nat) (l0 : Value) (l1 : Value) (l2 : Value) (l3 : Value) (l4 : Value) (l5 : Value) (l6 : Value) (l7 : Value) (l8 : Value) (l9 : Value) (l10 : Value) (x0 : Int64) (h : zMm) (Q : Option Value → zMm → Prop), zWp d zi_75 none 115 [l0, l1, l2, l3, l4, l5, l6, l7, l8, l9, l10] [.long x0] h Q = zWp d zi_75 none 116 [l0, l1, l2, l3, l4, l5, l6, l7, l8, l9, l10] [.int x0.toInt32] h Q) ∧
    (∀ (d : Nat) (l0 : Value) (l1 : Value) (l2 : Value) (l3 : Value) (l4 : Value) (l5 : Value) (l6 : Value) (l7 : Int32) (l8 : Value) (l9 : Value) (l10 : Value) (x0 : Int32) (h : zMm) (Q : Option Value → zMm → Prop), zWp d zi_75 none 116 [l0, l1, l2, l3, l4, l5, l6, .int l7, l8, l9, l10] [.int x0] h Q = zWp d zi_75 none 118 [l0, l1, l2, l3, l4, l5, l6, .int l7, .int x0, l9, l10] [] h Q) ∧
    (∀ (d : Nat) (l0 : Value) (l1 : Value) (l2 : Value) (l3 : Value) (l4 : Nat) (l5 : Value) (l6 : Value) (l7 : Value) (l8 : Value) (l9 : Value) (l10 : Value)  (h : zMm) (Q : Option Value → zMm → Prop), zWp d zi_75 none 118 [l0, l1, l2, l3, .ref l4, l5, l6, l7, l8, l9, l10] [] h Q = zWp d zi_75 none 120 [l0, l1, l2, l3, .ref l4, l5, l6, l7, l8, l9, l10] [.ref l4] h Q) ∧
    (∀ (d : Nat) (l0 : Value) (l1 : Value) (l2 : Value) (l3 : Value) (l4 : Value) (l5 : Value) (l6 : Value) (l7 : Value) (l8 : Value) (l9 : Value) (l10 : Value) (x0 : Nat) (I : Nat → Nat → Int32) (L : Nat → Nat → Int64) (P : Nat → Nat → Option Nat) (Q : Option Value → zMm → Prop), zSH[x0]? = some (.inl 6) → zWp d zi_75 none 120 [l0, l1, l2, l3, l4, l5, l6, l7, l8, l9, l10] [.ref x0] (zSH, I, L, P) Q = zWp d zi_75 none 123 [l0, l1, l2, l3, l4, l5, l6, l7, l8, l9, l10] [va_rf (P x0 0)] (zSH, I, L, P) Q) ∧
    (∀ (d : Nat) (l0 : Value) (l1 : Value) (l2 : Value) (l3 : Value) (l4 : Value) (l5 : Value) (l6 : Int32) (l7 : Value) (l8 : Value) (l9 : Value) (l10 : Value) (x0 : Nat) (h : zMm) (Q : Option Value → zMm → Prop), zWp d zi_75 none 123 [l0, l1, l2, l3, l4, l5, .int l6, l7, l8, l9, l10] [.ref x0] h Q = zWp d zi_75 none 125 [l0, l1, l2, l3, l4, l5, .int l6, l7, l8, l9, l10] [.int l6, .ref x0] h Q) ∧
    (∀ (d : Nat) (l0 : Value) (l1 : Value) (l2 : Value) (l3 : Value) (l4 : Value) (l5 : Value) (l6 : Value) (l7 : Value) (l8 : Value) (l9 : Value) (l10 : Value) (x1 : Int32) (x0 : Nat) (h : zMm) (Q : Option Value → zMm → Prop), zWp d zi_75 none 125 [l0, l1, l2, l3, l4, l5, l6, l7, l8, l9, l10] [.int x1, .ref x0] h Q = zWp d zi_75 none 126 [l0, l1, l2, l3, l4, l5, l6, l7, l8, l9, l10] [.int 2, .int x1, .ref x0] h Q) ∧
    (∀ (d : Nat) (l0 : Value) (l1 : Value) (l2 : Value) (l3 : Value) (l4 : Value) (l5 : Value) (l6 : Value) (l7 : Value) (l8 : Value) (l9 : Value) (l10 : Value) (x2 : Int32) (x1 : Int32) (x0 : Nat) (h : zMm) (Q : Option Value → zMm → Prop), zWp d zi_75 none 126 [l0, l1, l2, l3, l4, l5, l6, l7, l8, l9, l10] [.int x2, .int x1, .ref x0] h Q = zWp d zi_75 none 127 [l0, l1, l2, l3, l4, l5, l6, l7, l8, l9, l10] [.int (x1 + x2), .ref x0] h Q) ∧
    (∀ (d : Nat) (l0 : Value) (l1 : Value) (l2 : Value) (l3 : Value) (l4 : Value) (l5 : Value) (l6 : Value) (l7 : Value) (l8 : Value) (l9 : Value) (l10 : Value) (x1 : Int32) (x0 : Nat) (I : Nat → Nat → Int32) (L : Nat → Nat → Int64) (P : Nat → Nat → Option Nat) (Q : Option Value → zMm → Prop), zAk zSH x0 = some .long → zWp d zi_75 none 127 [l0, l1, l2, l3, l4, l5, l6, l7, l8, l9, l10] [.int x1, .ref x0] (zSH, I, L, P) Q = (vp_in x1 (zAn zSH x0) ∧ zWp d zi_75 none 128 [l0, l1, l2, l3, l4, l5, l6, l7, l8, l9, l10] [.long (L x0 x1.toNatClampNeg)] (zSH, I, L, P) Q)) ∧
    (∀ (d : Nat) (l0 : Value) (l1 : Value) (l2 : Value) (l3 : Value) (l4 : Value) (l5 : Value) (l6 : Value) (l7 : Value) (l8 : Value) (l9 : Value) (l10 : Value) (x0 : Int64) (h : zMm) (Q : Option Value → zMm → Prop), zWp d zi_75 none 128 [l0, l1, l2, l3, l4, l5, l6, l7, l8, l9, l10] [.long x0] h Q = zWp d zi_75 none 129 [l0, l1, l2, l3, l4, l5, l6, l7, l8, l9, l10] [.int x0.toInt32] h Q) ∧
    (∀ (d : Nat) (l0 : Value) (l1 : Value) (l2 : Value) (l3 : Value) (l4 : Value) (l5 : Value) (l6 : Value) (l7 : Value) (l8 : Int32) (l9 : Value) (l10 : Value) (x0 : Int32) (h : zMm) (Q : Option Value → zMm → Prop), zWp d zi_75 none 129 [l0, l1, l2, l3, l4, l5, l6, l7, .int l8, l9, l10] [.int x0] h Q = zWp d zi_75 none 131 [l0, l1, l2, l3, l4, l5, l6, l7, .int l8, .int x0, l10] [] h Q) ∧
    (∀ (d : Nat) (l0 : Value) (l1 : Value) (l2 : Value) (l3 : Value) (l4 : Nat) (l5 : Value) (l6 : Value) (l7 : Value) (l8 : Value) (l9 : Value) (l10 : Value)  (h : zMm) (Q : Option Value → zMm → Prop), zWp d zi_75 none 131 [l0, l1, l2, l3, .ref l4, l5, l6, l7, l8, l9, l10] [] h Q = zWp d zi_75 none 133 [l0, l1, l2, l3, .ref l4, l5, l6, l7, l8, l9, l10] [.ref l4] h Q) ∧
    (∀ (d : Nat) (l0 : Value) (l1 : Value) (l2 : Value) (l3 : Value) (l4 : Value) (l5 : Value) (l6 : Value) (l7 : Value) (l8 : Value) (l9 : Value) (l10 : Value) (x0 : Nat) (I : Nat → Nat → Int32) (L : Nat → Nat → Int64) (P : Nat → Nat → Option Nat) (Q : Option Value → zMm → Prop), zSH[x0]? = some (.inl 6) → zWp d zi_75 none 133 [l0, l1, l2, l3, l4, l5, l6, l7, l8, l9, l10] [.ref x0] (zSH, I, L, P) Q = zWp d zi_75 none 136 [l0, l1, l2, l3, l4, l5, l6, l7, l8, l9, l10] [va_rf (P x0 0)] (zSH, I, L, P) Q) ∧
    (∀ (d : Nat) (l0 : Value) (l1 : Value) (l2 : Value) (l3 : Value) (l4 : Value) (l5 : Value) (l6 : Int32) (l7 : Value) (l8 : Value) (l9 : Value) (l10 : Value) (x0 : Nat) (h : zMm) (Q : Option Value → zMm → Prop), zWp d zi_75 none 136 [l0, l1, l2, l3, l4, l5, .int l6, l7, l8, l9, l10] [.ref x0] h Q = zWp d zi_75 none 138 [l0, l1, l2, l3, l4, l5, .int l6, l7, l8, l9, l10] [.int l6, .ref x0] h Q) ∧
    (∀ (d : Nat) (l0 : Value) (l1 : Value) (l2 : Value) (l3 : Value) (l4 : Value) (l5 : Value) (l6 : Value) (l7 : Value) (l8 : Value) (l9 : Value) (l10 : Value) (x1 : Int32) (x0 : Nat) (h : zMm) (Q : Option Value → zMm → Prop), zWp d zi_75 none 138 [l0, l1, l2, l3, l4, l5, l6, l7, l8, l9, l10] [.int x1, .ref x0] h Q = zWp d zi_75 none 139 [l0, l1, l2, l3, l4, l5, l6, l7, l8, l9, l10] [.int 3, .int x1, .ref x0] h Q) ∧
    (∀ (d : Nat) (l0 : Value) (l1 : Value) (l2 : Value) (l3 : Value) (l4 : Value) (l5 : Value) (l6 : Value) (l7 : Value) (l8 : Value) (l9 : Value) (l10 : Value) (x2 : Int32) (x1 : Int32) (x0 : Nat) (h : zMm) (Q : Option Value → zMm → Prop), zWp d zi_75 none 139 [l0, l1, l2, l3, l4, l5, l6, l7, l8, l9, l10] [.int x2, .int x1, .ref x0] h Q = zWp d zi_75 none 140 [l0, l1, l2, l3, l4, l5, l6, l7, l8, l9, l10] [.int (x1 + x2), .ref x0] h Q) ∧
    (∀ (d : Nat) (l0 : Value) (l1 : Value) (l2 : Value) (l3 : Value) (l4 : Value) (l5 : Value) (l6 : Value) (l7 : Value) (l8 : Value) (l9 : Value) (l10 : Value) (x1 : Int32) (x0 : Nat) (I : Nat → Nat → Int32) (L : Nat → Nat → Int64) (P : Nat → Nat → Option Nat) (Q : Option Value → zMm → Prop), zAk zSH x0 = some .long → zWp d zi_75 none 140 [l0, l1, l2, l3, l4, l5, l6, l7, l8, l9, l10] [.int x1, .ref x0] (zSH, I, L, P) Q = (vp_in x1 (zAn zSH x0) ∧ zWp d zi_75 none 141 [l0, l1, l2, l3, l4, l5, l6, l7, l8, l9, l10] [.long (L x0 x1.toNatClampNeg)] (zSH, I, L, P) Q)) ∧
    (∀ (d : Nat) (l0 : Value) (l1 : Value) (l2 : Value) (l3 : Value) (l4 : Value) (l5 : Value) (l6 : Value) (l7 : Value) (l8 : Value) (l9 : Value) (l10 : Value) (x0 : Int64) (h : zMm) (Q : Option Value → zMm → Prop), zWp d zi_75 none 141 [l0, l1, l2, l3, l4, l5, l6, l7, l8, l9, l10] [.long x0] h Q = zWp d zi_75 none 142 [l0, l1, l2, l3, l4, l5, l6, l7, l8, l9, l10] [.int x0.toInt32] h Q) ∧
    (∀ (d : Nat) (l0 : Value) (l1 : Value) (l2 : Value) (l3 : Value) (l4 : Value) (l5 : Value) (l6 : Value) (l7 : Value) (l8 : Value) (l9 : Int32) (l10 : Value) (x0 : Int32) (h : zMm) (Q : Option Value → zMm → Prop), zWp d zi_75 none 142 [l0, l1, l2, l3, l4, l5, l6, l7, l8, .int l9, l10] [.int x0] h Q = zWp d zi_75 none 144 [l0, l1, l2, l3, l4, l5, l6, l7, l8, .int l9, .int x0] [] h Q) ∧
    (∀ (d : Nat) (l0 : Value) (l1 : Value) (l2 : Value) (l3 : Value) (l4 : Value) (l5 : Value) (l6 : Value) (l7 : Int32) (l8 : Value) (l9 : Value) (l10 : Value)  (h : zMm) (Q : Option Value → zMm → Prop), zWp d zi_75 none 144 [l0, l1, l2, l3, l4, l5, l6, .int l7, l8, l9, l10] [] h Q = zWp d zi_75 none 146 [l0, l1, l2, l3, l4, l5, l6, .int l7, l8, l9, l10] [.int l7] h Q) ∧
    (∀ (d : Nat) (l0 : Value) (l1 : Value) (l2 : Value) (l3 : Value) (l4 : Value) (l5 : Value) (l6 : Value) (l7 : Value) (l8 : Int32) (l9 : Value) (l10 : Value) (x0 : Int32) (h : zMm) (Q : Option Value → zMm → Prop), zWp d zi_75 none 146 [l0, l1, l2, l3, l4, l5, l6, l7, .int l8, l9, l10] [.int x0] h Q = zWp d zi_75 none 148 [l0, l1, l2, l3, l4, l5, l6, l7, .int l8, l9, l10] [.int l8, .int x0] h Q) ∧
    (∀ (d : Nat) (l0 : Value) (l1 : Value) (l2 : Value) (l3 : Value) (l4 : Value) (l5 : Value) (l6 : Value) (l7 : Value) (l8 : Value) (l9 : Int32) (l10 : Value) (x1 : Int32) (x0 : Int32) (h : zMm) (Q : Option Value → zMm → Prop), zWp d zi_75 none 148 [l0, l1, l2, l3, l4, l5, l6, l7, l8, .int l9, l10] [.int x1, .int x0] h Q = zWp d zi_75 none 150 [l0, l1, l2, l3, l4, l5, l6, l7, l8, .int l9, l10] [.int l9, .int x1, .int x0] h Q) ∧
    (∀ (d : Nat) (l0 : Value) (l1 : Value) (l2 : Value) (l3 : Value) (l4 : Value) (l5 : Value) (l6 : Value) (l7 : Value) (l8 : Value) (l9 : Value) (l10 : Int32) (x2 : Int32) (x1 : Int32) (x0 : Int32) (h : zMm) (Q : Option Value → zMm → Prop), zWp d zi_75 none 150 [l0, l1, l2, l3, l4, l5, l6, l7, l8, l9, .int l10] [.int x2, .int x1, .int x0] h Q = zWp d zi_75 none 152 [l0, l1, l2, l3, l4, l5, l6, l7, l8, l9, .int l10] [.int l10, .int x2, .int x1, .int x0] h Q) ∧
    (∀ (d : Nat) (l0 : Value) (l1 : Value) (l2 : Value) (l3 : Value) (l4 : Value) (l5 : Value) (l6 : Value) (l7 : Value) (l8 : Value) (l9 : Value) (l10 : Value) (x3 : Int32) (x2 : Int32) (x1 : Int32) (x0 : Int32) (h : zMm) (Q : Option Value → zMm → Prop), zWp d zi_75 none 152 [l0, l1, l2, l3, l4, l5, l6, l7, l8, l9, l10] [.int x3, .int x2, .int x1, .int x0] h Q = zWM d 58 [.int x0, .int x1, .int x2, .int x3] h (fun r h1 => zWp d zi_75 none 155 [l0, l1, l2, l3, l4, l5, l6, l7, l8, l9, l10] (r.toList ++ []) h1 Q)) ∧
    (∀ (d : Nat) (l0 : Value) (l1 : Value) (l2 : Value) (l3 : Value) (l4 : Value) (l5 : Value) (l6 : Value) (l7 : Value) (l8 : Value) (l9 : Value) (l10 : Value) (x0 : Int32) (h : zMm) (Q : Option Value → zMm → Prop), zWp d zi_75 none 155 [l0, l1, l2, l3, l4, l5, l6, l7, l8, l9, l10] [.int x0] h Q = if x0 = 0 then zWp d zi_75 none 158 [l0, l1, l2, l3, l4, l5, l6, l7, l8, l9, l10] [] h Q else zWp d zi_75 none 161 [l0, l1, l2, l3, l4, l5, l6, l7, l8, l9, l10] [] h Q) ∧
    (∀ (d : Nat) (l0 : Value) (l1 : Value) (l2 : Value) (l3 : Value) (l4 : Value) (l5 : Value) (l6 : Value) (l7 : Value) (l8 : Value) (l9 : Value) (l10 : Value)  (h : zMm) (Q : Option Value → zMm → Prop), zWp d zi_75 none 158 [l0, l1, l2, l3, l4, l5, l6, l7, l8, l9, l10] [] h Q = zWp d zi_75 none 185 [l0, l1, l2, l3, l4, l5, l6, l7, l8, l9, l10] [] h Q) ∧
    (∀ (d : Nat) (l0 : Nat) (l1 : Value) (l2 : Value) (l3 : Value) (l4 : Value) (l5 : Value) (l6 : Value) (l7 : Value) (l8 : Value) (l9 : Value) (l10 : Value)  (h : zMm) (Q : Option Value → zMm → Prop), zWp d zi_75 none 161 [.ref l0, l1, l2, l3, l4, l5, l6, l7, l8, l9, l10] [] h Q = zWp d zi_75 none 162 [.ref l0, l1, l2, l3, l4, l5, l6, l7, l8, l9, l10] [.ref l0] h Q) ∧
    (∀ (d : Nat) (l0 : Value) (l1 : Value) (l2 : Value) (l3 : Value) (l4 : Value) (l5 : Value) (l6 : Value) (l7 : Value) (l8 : Value) (l9 : Value) (l10 : Value) (x0 : Nat) (I : Nat → Nat → Int32) (L : Nat → Nat → Int64) (P : Nat → Nat → Option Nat) (Q : Option Value → zMm → Prop), zSH[x0]? = some (.inl 9) → zWp d zi_75 none 162 [l0, l1, l2, l3, l4, l5, l6, l7, l8, l9, l10] [.ref x0] (zSH, I, L, P) Q = zWp d zi_75 none 165 [l0, l1, l2, l3, l4, l5, l6, l7, l8, l9, l10] [va_rf (P x0 0)] (zSH, I, L, P) Q) ∧
    (∀ (d : Nat) (l0 : Value) (l1 : Value) (l2 : Value) (l3 : Value) (l4 : Value) (l5 : Value) (l6 : Value) (l7 : Int32) (l8 : Value) (l9 : Value) (l10 : Value) (x0 : Nat) (h : zMm) (Q : Option Value → zMm → Prop), zWp d zi_75 none 165 [l0, l1, l2, l3, l4, l5, l6, .int l7, l8, l9, l10] [.ref x0] h Q = zWp d zi_75 none 167 [l0, l1, l2, l3, l4, l5, l6, .int l7, l8, l9, l10] [.int l7, .ref x0] h Q) ∧
    (∀ (d : Nat) (l0 : Value) (l1 : Value) (l2 : Value) (l3 : Value) (l4 : Value) (l5 : Value) (l6 : Value) (l7 : Value) (l8 : Int32) (l9 : Value) (l10 : Value) (x1 : Int32) (x0 : Nat) (h : zMm) (Q : Option Value → zMm → Prop), zWp d zi_75 none 167 [l0, l1, l2, l3, l4, l5, l6, l7, .int l8, l9, l10] [.int x1, .ref x0] h Q = zWp d zi_75 none 169 [l0, l1, l2, l3, l4, l5, l6, l7, .int l8, l9, l10] [.int l8, .int x1, .ref x0] h Q) ∧
    (∀ (d : Nat) (l0 : Value) (l1 : Value) (l2 : Value) (l3 : Value) (l4 : Value) (l5 : Value) (l6 : Value) (l7 : Value) (l8 : Value) (l9 : Int32) (l10 : Value) (x2 : Int32) (x1 : Int32) (x0 : Nat) (h : zMm) (Q : Option Value → zMm → Prop), zWp d zi_75 none 169 [l0, l1, l2, l3, l4, l5, l6, l7, l8, .int l9, l10] [.int x2, .int x1, .ref x0] h Q = zWp d zi_75 none 171 [l0, l1, l2, l3, l4, l5, l6, l7, l8, .int l9, l10] [.int l9, .int x2, .int x1, .ref x0] h Q) ∧
    (∀ (d : Nat) (l0 : Value) (l1 : Value) (l2 : Value) (l3 : Value) (l4 : Value) (l5 : Value) (l6 : Value) (l7 : Value) (l8 : Value) (l9 : Value) (l10 : Int32) (x3 : Int32) (x2 : Int32) (x1 : Int32) (x0 : Nat) (h : zMm) (Q : Option Value → zMm → Prop), zWp d zi_75 none 171 [l0, l1, l2, l3, l4, l5, l6, l7, l8, l9, .int l10] [.int x3, .int x2, .int x1, .ref x0] h Q = zWp d zi_75 none 173 [l0, l1, l2, l3, l4, l5, l6, l7, l8, l9, .int l10] [.int l10, .int x3, .int x2, .int x1, .ref x0] h Q) ∧
    (∀ (d : Nat) (l0 : Value) (l1 : Value) (l2 : Value) (l3 : Value) (l4 : Value) (l5 : Value) (l6 : Value) (l7 : Value) (l8 : Value) (l9 : Value) (l10 : Value) (x4 : Int32) (x3 : Int32) (x2 : Int32) (x1 : Int32) (x0 : Nat) (I : Nat → Nat → Int32) (L : Nat → Nat → Int64) (P : Nat → Nat → Option Nat) (Q : Option Value → zMm → Prop), zSH[x0]? = some (.inl 8) → zWp d zi_75 none 173 [l0, l1, l2, l3, l4, l5, l6, l7, l8, l9, l10] [.int x4, .int x3, .int x2, .int x1, .ref x0] (zSH, I, L, P) Q = zWM d 60 [.ref x0, .int x1, .int x2, .int x3, .int x4] (zSH, I, L, P) (fun r h1 => zWp d zi_75 none 176 [l0, l1, l2, l3, l4, l5, l6, l7, l8, l9, l10] (r.toList ++ []) h1 Q)) ∧
    (∀ (d : Nat) (l0 : Value) (l1 : Value) (l2 : Value) (l3 : Value) (l4 : Nat) (l5 : Int32) (l6 : Value) (l7 : Value) (l8 : Value) (l9 : Value) (l10 : Value)  (h : zMm) (Q : Option Value → zMm → Prop), zWp d zi_75 none 176 [l0, l1, l2, l3, .ref l4, .int l5, l6, l7, l8, l9, l10] [] h Q = zWp d zi_75 none 179 [l0, l1, l2, l3, .ref l4, .int (l5 + 1), l6, l7, l8, l9, l10] [] h Q) ∧
    (∀ (d : Nat) (l0 : Value) (l1 : Value) (l2 : Value) (l3 : Value) (l4 : Value) (l5 : Int32) (l6 : Int32) (l7 : Value) (l8 : Value) (l9 : Value) (l10 : Value)  (h : zMm) (Q : Option Value → zMm → Prop), zWp d zi_75 none 179 [l0, l1, l2, l3, l4, .int l5, .int l6, l7, l8, l9, l10] [] h Q = zWp d zi_75 none 182 [l0, l1, l2, l3, l4, .int l5, .int (l6 + 4), l7, l8, l9, l10] [] h Q) ∧
    (∀ (d : Nat) (l0 : Value) (l1 : Value) (l2 : Value) (l3 : Value) (l4 : Value) (l5 : Value) (l6 : Value) (l7 : Value) (l8 : Value) (l9 : Value) (l10 : Value)  (h : zMm) (Q : Option Value → zMm → Prop), zWp d zi_75 none 182 [l0, l1, l2, l3, l4, l5, l6, l7, l8, l9, l10] [] h Q = zWp d zi_75 none 65 [l0, l1, l2, l3, l4, l5, l6, l7, l8, l9, l10] [] h Q) ∧
    (∀ (d : Nat) (l0 : Value) (l1 : Value) (l2 : Value) (l3 : Value) (l4 : Value) (l5 : Int32) (l6 : Value) (l7 : Value) (l8 : Value) (l9 : Value) (l10 : Value)  (h : zMm) (Q : Option Value → zMm → Prop), zWp d zi_75 none 185 [l0, l1, l2, l3, l4, .int l5, l6, l7, l8, l9, l10] [] h Q = zWp d zi_75 none 187 [l0, l1, l2, l3, l4, .int l5, l6, l7, l8, l9, l10] [.int l5] h Q) ∧
    (∀ (d : Nat) (l0 : Value) (l1 : Value) (l2 : Value) (l3 : Value) (l4 : Value) (l5 : Value) (l6 : Value) (l7 : Value) (l8 : Value) (l9 : Value) (l10 : Value) (x0 : Int32) (h : zMm) (Q : Option Value → zMm → Prop), zWp d zi_75 none 187 [l0, l1, l2, l3, l4, l5, l6, l7, l8, l9, l10] [.int x0] h Q = Q (some (.int x0)) h) :=
  ⟨(fun d l0 l1 l2 l3 l4 l5 l6 l7 l8 l9 l10  h Q => zr_iload_n rfl rfl),
   (fun d l0 l1 l2 l3 l4 l5 l6 l7 l8 l9 l10 x0 h Q => zr_sta (as := [.int x0]) (rest := []) rfl lm_9_124 (by decide) m_120 kd_120 rfl (Nat.le_of_ble_eq_true rfl)),
   (fun d l0 l1 l2 l3 l4 l5 l6 l7 l8 l9 l10 x0 h Q => zr_if_eq rfl (by decide)),
   (fun d l0 l1 l2 l3 l4 l5 l6 l7 l8 l9 l10  h Q => zr_iload_n rfl rfl),
   (fun d l0 l1 l2 l3 l4 l5 l6 l7 l8 l9 l10 x0 h Q => zr_iconst rfl (by decide)),
   (fun d l0 l1 l2 l3 l4 l5 l6 l7 l8 l9 l10 x1 x0 h Q => zr_ic_lt rfl (by decide)),
   (fun d l0 l1 l2 l3 l4 l5 l6 l7 l8 l9 l10  h Q => zr_iload_n rfl rfl),
   (fun d l0 l1 l2 l3 l4 l5 l6 l7 l8 l9 l10 x0 h Q => zr_bipush rfl (by decide)),
   (fun d l0 l1 l2 l3 l4 l5 l6 l7 l8 l9 l10 x1 x0 h Q => zr_ic_le rfl (by decide)),
   (fun d l0 l1 l2 l3 l4 l5 l6 l7 l8 l9 l10  h Q => zr_iconst rfl (by decide)),
   (fun d l0 l1 l2 l3 l4 l5 l6 l7 l8 l9 l10 x0 h Q => zr_iret rfl rfl),
   (fun d l0 l1 l2 l3 l4 l5 l6 l7 l8 l9 l10  h Q => zr_aload_n rfl rfl),
   (fun d l0 l1 l2 l3 l4 l5 l6 l7 l8 l9 l10 x0 I L P Q p0 => zr_getQ rfl lf_9_69 (fun _ _ _ => rfl) p0),
   (fun d l0 l1 l2 l3 l4 l5 l6 l7 l8 l9 l10 x0 h Q => zr_iload_n rfl rfl),
   (fun d l0 l1 l2 l3 l4 l5 l6 l7 l8 l9 l10 x1 x0 I L P Q p0 => zr_qldO rfl p0),
   (fun d l0 l1 l2 l3 l4 l5 l6 l7 l8 l9 l10 x0 h Q => zr_astore (n := 4) rfl (Nat.le_of_ble_eq_true rfl) rfl),
   (fun d l0 l1 l2 l3 l4 l5 l6 l7 l8 l9 l10  h Q => zr_aload rfl rfl),
   (fun d l0 l1 l2 l3 l4 l5 l6 l7 l8 l9 l10 x0 I L P Q p0 => zr_getI rfl lf_9_128 (fun _ _ _ => rfl) p0),
   (fun d l0 l1 l2 l3 l4 l5 l6 l7 l8 l9 l10 x0 h Q => zr_bipush rfl (by decide)),
   (fun d l0 l1 l2 l3 l4 l5 l6 l7 l8 l9 l10 x1 x0 h Q => zr_ic_ne rfl (by decide)),
   (fun d l0 l1 l2 l3 l4 l5 l6 l7 l8 l9 l10  h Q => zr_iconst rfl (by decide)),
   (fun d l0 l1 l2 l3 l4 l5 l6 l7 l8 l9 l10 x0 h Q => zr_iret rfl rfl),
   (fun d l0 l1 l2 l3 l4 l5 l6 l7 l8 l9 l10  h Q => zr_aload rfl rfl),
   (fun d l0 l1 l2 l3 l4 l5 l6 l7 l8 l9 l10 x0 I L P Q p0 => zr_getI rfl lf_9_128 (fun _ _ _ => rfl) p0),
   (fun d l0 l1 l2 l3 l4 l5 l6 l7 l8 l9 l10 x0 h Q => zr_if_eq rfl (by decide)),
   (fun d l0 l1 l2 l3 l4 l5 l6 l7 l8 l9 l10  h Q => zr_bipush rfl (by decide)),
   (fun d l0 l1 l2 l3 l4 l5 l6 l7 l8 l9 l10 x0 h Q => zr_iret rfl rfl),
   (fun d l0 l1 l2 l3 l4 l5 l6 l7 l8 l9 l10  h Q => zr_aload_n rfl rfl),
   (fun d l0 l1 l2 l3 l4 l5 l6 l7 l8 l9 l10 x0 I L P Q p0 => zr_getQ rfl lf_9_36 (fun _ _ _ => rfl) p0),
   (fun d l0 l1 l2 l3 l4 l5 l6 l7 l8 l9 l10 x0 h Q => zr_iconst rfl (by decide)),
   (fun d l0 l1 l2 l3 l4 l5 l6 l7 l8 l9 l10 x1 x0 I L P Q p0 p1 => zr_putZ rfl lf_9_105 (by decide) rfl p0 p1),
   (fun d l0 l1 l2 l3 l4 l5 l6 l7 l8 l9 l10  h Q => zr_iconst rfl (by decide)),
   (fun d l0 l1 l2 l3 l4 l5 l6 l7 l8 l9 l10 x0 h Q => zr_istore (n := 5) rfl (Nat.le_of_ble_eq_true rfl) rfl),
   (fun d l0 l1 l2 l3 l4 l5 l6 l7 l8 l9 l10  h Q => zr_iload_n rfl rfl),
   (fun d l0 l1 l2 l3 l4 l5 l6 l7 l8 l9 l10 x0 h Q => zr_istore (n := 6) rfl (Nat.le_of_ble_eq_true rfl) rfl),
   (fun d l0 l1 l2 l3 l4 l5 l6 l7 l8 l9 l10 x0 h Q => zr_iload_n rfl rfl),
   (fun d l0 l1 l2 l3 l4 l5 l6 l7 l8 l9 l10 x1 x0 h Q => zr_ic_ge rfl (by decide)),
   (fun d l0 l1 l2 l3 l4 l5 l6 l7 l8 l9 l10  h Q => zr_aload rfl rfl),
   (fun d l0 l1 l2 l3 l4 l5 l6 l7 l8 l9 l10 x0 h Q => zr_iload rfl rfl),
   (fun d l0 l1 l2 l3 l4 l5 l6 l7 l8 l9 l10 x1 x0 h Q => zr_iconst rfl (by decide)),
   (fun d l0 l1 l2 l3 l4 l5 l6 l7 l8 l9 l10 x2 x1 x0 I L P Q p0 => zr_vir (as := [.int x2, .int x1]) (rest := []) rfl lm_9_131 m_50 kd_50 rfl (Nat.le_of_ble_eq_true rfl) p0),
   (fun d l0 l1 l2 l3 l4 l5 l6 l7 l8 l9 l10 x0 h Q => zr_if_eq rfl (by decide)),
   (fun d l0 l1 l2 l3 l4 l5 l6 l7 l8 l9 l10  h Q => zr_aload_n rfl rfl),
   (fun d l0 l1 l2 l3 l4 l5 l6 l7 l8 l9 l10 x0 I L P Q p0 => zr_getQ rfl lf_9_10 (fun _ _ _ => rfl) p0),
   (fun d l0 l1 l2 l3 l4 l5 l6 l7 l8 l9 l10 x0 I L P Q p0 => zr_getI rfl lf_9_92 (fun _ _ _ => rfl) p0),
   (fun d l0 l1 l2 l3 l4 l5 l6 l7 l8 l9 l10 x0 h Q => zr_bipush rfl (by decide)),
   (fun d l0 l1 l2 l3 l4 l5 l6 l7 l8 l9 l10 x1 x0 h Q => zr_ic_ge rfl (by decide)),
   (fun d l0 l1 l2 l3 l4 l5 l6 l7 l8 l9 l10  h Q => zr_aload rfl rfl),
   (fun d l0 l1 l2 l3 l4 l5 l6 l7 l8 l9 l10 x0 I L P Q p0 => zr_getQ rfl lf_9_135 (fun _ _ _ => rfl) p0),
   (fun d l0 l1 l2 l3 l4 l5 l6 l7 l8 l9 l10 x0 h Q => zr_iload rfl rfl),
   (fun d l0 l1 l2 l3 l4 l5 l6 l7 l8 l9 l10 x1 x0 I L P Q p0 => zr_lld rfl p0),
   (fun d l0 l1 l2 l3 l4 l5 l6 l7 l8 l9 l10 x0 h Q => zr_l2i rfl),
   (fun d l0 l1 l2 l3 l4 l5 l6 l7 l8 l9 l10 x0 h Q => zr_istore (n := 7) rfl (Nat.le_of_ble_eq_true rfl) rfl),
   (fun d l0 l1 l2 l3 l4 l5 l6 l7 l8 l9 l10  h Q => zr_aload rfl rfl),
   (fun d l0 l1 l2 l3 l4 l5 l6 l7 l8 l9 l10 x0 I L P Q p0 => zr_getQ rfl lf_9_135 (fun _ _ _ => rfl) p0),
   (fun d l0 l1 l2 l3 l4 l5 l6 l7 l8 l9 l10 x0 h Q => zr_iload rfl rfl),
   (fun d l0 l1 l2 l3 l4 l5 l6 l7 l8 l9 l10 x1 x0 h Q => zr_iconst rfl (by decide)),
   (fun d l0 l1 l2 l3 l4 l5 l6 l7 l8 l9 l10 x2 x1 x0 h Q => zr_iadd rfl),
   (fun d l0 l1 l2 l3 l4 l5 l6 l7 l8 l9 l10 x1 x0 I L P Q p0 => zr_lld rfl p0),
   (fun d l0 l1 l2 l3 l4 l5 l6 l7 l8 l9 l10 x0 h Q => zr_l2i rfl),
   (fun d l0 l1 l2 l3 l4 l5 l6 l7 l8 l9 l10 x0 h Q => zr_istore (n := 8) rfl (Nat.le_of_ble_eq_true rfl) rfl),
   (fun d l0 l1 l2 l3 l4 l5 l6 l7 l8 l9 l10  h Q => zr_aload rfl rfl),
   (fun d l0 l1 l2 l3 l4 l5 l6 l7 l8 l9 l10 x0 I L P Q p0 => zr_getQ rfl lf_9_135 (fun _ _ _ => rfl) p0),
   (fun d l0 l1 l2 l3 l4 l5 l6 l7 l8 l9 l10 x0 h Q => zr_iload rfl rfl),
   (fun d l0 l1 l2 l3 l4 l5 l6 l7 l8 l9 l10 x1 x0 h Q => zr_iconst rfl (by decide)),
   (fun d l0 l1 l2 l3 l4 l5 l6 l7 l8 l9 l10 x2 x1 x0 h Q => zr_iadd rfl),
   (fun d l0 l1 l2 l3 l4 l5 l6 l7 l8 l9 l10 x1 x0 I L P Q p0 => zr_lld rfl p0),
   (fun d l0 l1 l2 l3 l4 l5 l6 l7 l8 l9 l10 x0 h Q => zr_l2i rfl),
   (fun d l0 l1 l2 l3 l4 l5 l6 l7 l8 l9 l10 x0 h Q => zr_istore (n := 9) rfl (Nat.le_of_ble_eq_true rfl) rfl),
   (fun d l0 l1 l2 l3 l4 l5 l6 l7 l8 l9 l10  h Q => zr_aload rfl rfl),
   (fun d l0 l1 l2 l3 l4 l5 l6 l7 l8 l9 l10 x0 I L P Q p0 => zr_getQ rfl lf_9_135 (fun _ _ _ => rfl) p0),
   (fun d l0 l1 l2 l3 l4 l5 l6 l7 l8 l9 l10 x0 h Q => zr_iload rfl rfl),
   (fun d l0 l1 l2 l3 l4 l5 l6 l7 l8 l9 l10 x1 x0 h Q => zr_iconst rfl (by decide)),
   (fun d l0 l1 l2 l3 l4 l5 l6 l7 l8 l9 l10 x2 x1 x0 h Q => zr_iadd rfl),
   (fun d l0 l1 l2 l3 l4 l5 l6 l7 l8 l9 l10 x1 x0 I L P Q p0 => zr_lld rfl p0),
   (fun d l0 l1 l2 l3 l4 l5 l6 l7 l8 l9 l10 x0 h Q => zr_l2i rfl),
   (fun d l0 l1 l2 l3 l4 l5 l6 l7 l8 l9 l10 x0 h Q => zr_istore (n := 10) rfl (Nat.le_of_ble_eq_true rfl) rfl),
   (fun d l0 l1 l2 l3 l4 l5 l6 l7 l8 l9 l10  h Q => zr_iload rfl rfl),
   (fun d l0 l1 l2 l3 l4 l5 l6 l7 l8 l9 l10 x0 h Q => zr_iload rfl rfl),
   (fun d l0 l1 l2 l3 l4 l5 l6 l7 l8 l9 l10 x1 x0 h Q => zr_iload rfl rfl),
   (fun d l0 l1 l2 l3 l4 l5 l6 l7 l8 l9 l10 x2 x1 x0 h Q => zr_iload rfl rfl),
   (fun d l0 l1 l2 l3 l4 l5 l6 l7 l8 l9 l10 x3 x2 x1 x0 h Q => zr_sta (as := [.int x3, .int x2, .int x1, .int x0]) (rest := []) rfl lm_9_88 (by decide) m_58 kd_58 rfl (Nat.le_of_ble_eq_true rfl)),
   (fun d l0 l1 l2 l3 l4 l5 l6 l7 l8 l9 l10 x0 h Q => zr_if_ne rfl (by decide)),
   (fun d l0 l1 l2 l3 l4 l5 l6 l7 l8 l9 l10  h Q => zr_goto rfl (by decide)),
   (fun d l0 l1 l2 l3 l4 l5 l6 l7 l8 l9 l10  h Q => zr_aload_n rfl rfl),
   (fun d l0 l1 l2 l3 l4 l5 l6 l7 l8 l9 l10 x0 I L P Q p0 => zr_getQ rfl lf_9_10 (fun _ _ _ => rfl) p0),
   (fun d l0 l1 l2 l3 l4 l5 l6 l7 l8 l9 l10 x0 h Q => zr_iload rfl rfl),
   (fun d l0 l1 l2 l3 l4 l5 l6 l7 l8 l9 l10 x1 x0 h Q => zr_iload rfl rfl),
   (fun d l0 l1 l2 l3 l4 l5 l6 l7 l8 l9 l10 x2 x1 x0 h Q => zr_iload rfl rfl),
   (fun d l0 l1 l2 l3 l4 l5 l6 l7 l8 l9 l10 x3 x2 x1 x0 h Q => zr_iload rfl rfl),
   (fun d l0 l1 l2 l3 l4 l5 l6 l7 l8 l9 l10 x4 x3 x2 x1 x0 I L P Q p0 => zr_vir (as := [.int x4, .int x3, .int x2, .int x1]) (rest := []) rfl lm_9_101 m_60 kd_60 rfl (Nat.le_of_ble_eq_true rfl) p0),
   (fun d l0 l1 l2 l3 l4 l5 l6 l7 l8 l9 l10  h Q => zr_iinc (n := 5) (kc := 1) rfl rfl (Nat.le_of_ble_eq_true rfl) rfl (by decide)),
   (fun d l0 l1 l2 l3 l4 l5 l6 l7 l8 l9 l10  h Q => zr_iinc (n := 6) (kc := 4) rfl rfl (Nat.le_of_ble_eq_true rfl) rfl (by decide)),
   (fun d l0 l1 l2 l3 l4 l5 l6 l7 l8 l9 l10  h Q => zr_goto rfl (by decide)),
   (fun d l0 l1 l2 l3 l4 l5 l6 l7 l8 l9 l10  h Q => zr_iload rfl rfl),
   (fun d l0 l1 l2 l3 l4 l5 l6 l7 l8 l9 l10 x0 h Q => zr_iret rfl rfl)⟩
theorem H_X9_rounds_65 : ∀ (d : Nat) (l0 : Value) (l1 : Value) (l2 : Value) (l3 : Value) (l4 : Value) (l5 : Int32) (l6 : Value) (l7 : Value) (l8 : Value) (l9 : Value) (l10 : Value)  (h : zMm) (Q : Option Value → zMm → Prop), zWp d zi_75 none 65 [l0, l1, l2, l3, l4, .int l5, l6, l7, l8, l9, l10] [] h Q = zWp d zi_75 none 67 [l0, l1, l2, l3, l4, .int l5, l6, l7, l8, l9, l10] [.int l5] h Q := fun d l0 l1 l2 l3 l4 l5 l6 l7 l8 l9 l10  h Q => zr_iload rfl rfl
theorem E_X9_pane : ∀ (d : Nat) (a0 : Nat) (a1 : Int32) (h : zMm) (Q : Option Value → zMm → Prop), zWM (d + 1) 76 [.ref a0, .int a1] h Q = zWp d zi_76 none 0 [.ref a0, .int a1] [] h Q := fun d a0 a1 h Q => zW_M m_76 (Nat.le_of_ble_eq_true rfl) rfl
set_option maxRecDepth 100000 in
theorem R_X9_pane :
    (∀ (d : Nat) (l0 : Value) (l1 : Int32)  (h : zMm) (Q : Option Value → zMm → Prop), zWp d zi_76 none 0 [l0, .int l1] [] h Q = zWp d zi_76 none 1 [l0, .int l1] [.int l1] h Q) ∧
    (∀ (d : Nat) (l0 : Value) (l1 : Value) (x0 : Int32) (h : zMm) (Q : Option Value → zMm → Prop), zWp d zi_76 none 1 [l0, l1] [.int x0] h Q = zWp d zi_76 none 3 [l0, l1] [.int 100, .int x0] h Q) ∧
    (∀ (d : Nat) (l0 : Value) (l1 : Value) (x1 : Int32) (x0 : Int32) (h : zMm) (Q : Option Value → zMm → Prop), zWp d zi_76 none 3 [l0, l1] [.int x1, .int x0] h Q = if x0 < x1 then zWp d zi_76 none 22 [l0, l1] [] h Q else zWp d zi_76 none 6 [l0, l1] [] h Q) ∧
    (∀ (d : Nat) (l0 : Value) (l1 : Int32)  (h : zMm) (Q : Option Value → zMm → Prop), zWp d zi_76 none 6 [l0, .int l1] [] h Q = zWp d zi_76 none 7 [l0, .int l1] [.int l1] h Q) ∧
    (∀ (d : Nat) (l0 : Value) (l1 : Value) (x0 : Int32) (h : zMm) (Q : Option Value → zMm → Prop), zWp d zi_76 none 7 [l0, l1] [.int x0] h Q = zWp d zi_76 none 10 [l0, l1] [.int 9999, .int x0] h Q) ∧
    (∀ (d : Nat) (l0 : Value) (l1 : Value) (x1 : Int32) (x0 : Int32) (h : zMm) (Q : Option Value → zMm → Prop), zWp d zi_76 none 10 [l0, l1] [.int x1, .int x0] h Q = if x1 < x0 then zWp d zi_76 none 22 [l0, l1] [] h Q else zWp d zi_76 none 13 [l0, l1] [] h Q) ∧
    (∀ (d : Nat) (l0 : Value) (l1 : Int32)  (h : zMm) (Q : Option Value → zMm → Prop), zWp d zi_76 none 13 [l0, .int l1] [] h Q = zWp d zi_76 none 14 [l0, .int l1] [.int l1] h Q) ∧
    (∀ (d : Nat) (l0 : Value) (l1 : Value) (x0 : Int32) (h : zMm) (Q : Option Value → zMm → Prop), zWp d zi_76 none 14 [l0, l1] [.int x0] h Q = zWp d zi_76 none 16 [l0, l1] [.int 100, .int x0] h Q) ∧
    (∀ (d : Nat) (l0 : Value) (l1 : Value) (x1 : Int32) (x0 : Int32) (h : zMm) (Q : Option Value → zMm → Prop), zWp d zi_76 none 16 [l0, l1] [.int x1, .int x0] h Q = (¬ x1 = 0 ∧ zWp d zi_76 none 17 [l0, l1] [.int (x0 - x0 / x1 * x1)] h Q)) ∧
    (∀ (d : Nat) (l0 : Value) (l1 : Value) (x0 : Int32) (h : zMm) (Q : Option Value → zMm → Prop), zWp d zi_76 none 17 [l0, l1] [.int x0] h Q = zWp d zi_76 none 19 [l0, l1] [.int 24, .int x0] h Q) ∧
    (∀ (d : Nat) (l0 : Value) (l1 : Value) (x1 : Int32) (x0 : Int32) (h : zMm) (Q : Option Value → zMm → Prop), zWp d zi_76 none 19 [l0, l1] [.int x1, .int x0] h Q = if x0 < x1 then zWp d zi_76 none 24 [l0, l1] [] h Q else zWp d zi_76 none 22 [l0, l1] [] h Q) ∧
    (∀ (d : Nat) (l0 : Value) (l1 : Value)  (h : zMm) (Q : Option Value → zMm → Prop), zWp d zi_76 none 22 [l0, l1] [] h Q = zWp d zi_76 none 23 [l0, l1] [.int (-1)] h Q) ∧
    (∀ (d : Nat) (l0 : Value) (l1 : Value) (x0 : Int32) (h : zMm) (Q : Option Value → zMm → Prop), zWp d zi_76 none 23 [l0, l1] [.int x0] h Q = Q (some (.int x0)) h) ∧
    (∀ (d : Nat) (l0 : Nat) (l1 : Value)  (h : zMm) (Q : Option Value → zMm → Prop), zWp d zi_76 none 24 [.ref l0, l1] [] h Q = zWp d zi_76 none 25 [.ref l0, l1] [.ref l0] h Q) ∧
    (∀ (d : Nat) (l0 : Value) (l1 : Value) (x0 : Nat) (I : Nat → Nat → Int32) (L : Nat → Nat → Int64) (P : Nat → Nat → Option Nat) (Q : Option Value → zMm → Prop), zSH[x0]? = some (.inl 9) → zWp d zi_76 none 25 [l0, l1] [.ref x0] (zSH, I, L, P) Q = zWp d zi_76 none 28 [l0, l1] [va_rf (P x0 2)] (zSH, I, L, P) Q) ∧
    (∀ (d : Nat) (l0 : Value) (l1 : Value) (x0 : Nat) (I : Nat → Nat → Int32) (L : Nat → Nat → Int64) (P : Nat → Nat → Option Nat) (Q : Option Value → zMm → Prop), zSH[x0]? = some (.inl 3) → zWp d zi_76 none 28 [l0, l1] [.ref x0] (zSH, I, L, P) Q = zWp d zi_76 none 31 [l0, l1] [.int (I x0 3)] (zSH, I, L, P) Q) ∧
    (∀ (d : Nat) (l0 : Value) (l1 : Value) (x0 : Int32) (h : zMm) (Q : Option Value → zMm → Prop), zWp d zi_76 none 31 [l0, l1] [.int x0] h Q = zWp d zi_76 none 33 [l0, l1] [.int 8, .int x0] h Q) ∧
    (∀ (d : Nat) (l0 : Value) (l1 : Value) (x1 : Int32) (x0 : Int32) (h : zMm) (Q : Option Value → zMm → Prop), zWp d zi_76 none 33 [l0, l1] [.int x1, .int x0] h Q = if x0 < x1 then zWp d zi_76 none 39 [l0, l1] [] h Q else zWp d zi_76 none 36 [l0, l1] [] h Q) ∧
    (∀ (d : Nat) (l0 : Value) (l1 : Value)  (h : zMm) (Q : Option Value → zMm → Prop), zWp d zi_76 none 36 [l0, l1] [] h Q = zWp d zi_76 none 38 [l0, l1] [.int (-3)] h Q) ∧
    (∀ (d : Nat) (l0 : Value) (l1 : Value) (x0 : Int32) (h : zMm) (Q : Option Value → zMm → Prop), zWp d zi_76 none 38 [l0, l1] [.int x0] h Q = Q (some (.int x0)) h) ∧
    (∀ (d : Nat) (l0 : Nat) (l1 : Value)  (h : zMm) (Q : Option Value → zMm → Prop), zWp d zi_76 none 39 [.ref l0, l1] [] h Q = zWp d zi_76 none 40 [.ref l0, l1] [.ref l0] h Q) ∧
    (∀ (d : Nat) (l0 : Value) (l1 : Value) (x0 : Nat) (I : Nat → Nat → Int32) (L : Nat → Nat → Int64) (P : Nat → Nat → Option Nat) (Q : Option Value → zMm → Prop), zSH[x0]? = some (.inl 9) → zWp d zi_76 none 40 [l0, l1] [.ref x0] (zSH, I, L, P) Q = zWp d zi_76 none 43 [l0, l1] [va_rf (P x0 2)] (zSH, I, L, P) Q) ∧
    (∀ (d : Nat) (l0 : Value) (l1 : Int32) (x0 : Nat) (h : zMm) (Q : Option Value → zMm → Prop), zWp d zi_76 none 43 [l0, .int l1] [.ref x0] h Q = zWp d zi_76 none 44 [l0, .int l1] [.int l1, .ref x0] h Q) ∧
    (∀ (d : Nat) (l0 : Value) (l1 : Value) (x1 : Int32) (x0 : Nat) (h : zMm) (Q : Option Value → zMm → Prop), zWp d zi_76 none 44 [l0, l1] [.int x1, .ref x0] h Q = zWp d zi_76 none 46 [l0, l1] [.int 100, .int x1, .ref x0] h Q) ∧
    (∀ (d : Nat) (l0 : Value) (l1 : Value) (x2 : Int32) (x1 : Int32) (x0 : Nat) (h : zMm) (Q : Option Value → zMm → Prop), zWp d zi_76 none 46 [l0, l1] [.int x2, .int x1, .ref x0] h Q = (¬ x2 = 0 ∧ zWp d zi_76 none 47 [l0, l1] [.int (x1 / x2), .ref x0] h Q)) ∧
    (∀ (d : Nat) (l0 : Value) (l1 : Int32) (x1 : Int32) (x0 : Nat) (h : zMm) (Q : Option Value → zMm → Prop), zWp d zi_76 none 47 [l0, .int l1] [.int x1, .ref x0] h Q = zWp d zi_76 none 48 [l0, .int l1] [.int l1, .int x1, .ref x0] h Q) ∧
    (∀ (d : Nat) (l0 : Value) (l1 : Value) (x2 : Int32) (x1 : Int32) (x0 : Nat) (h : zMm) (Q : Option Value → zMm → Prop), zWp d zi_76 none 48 [l0, l1] [.int x2, .int x1, .ref x0] h Q = zWp d zi_76 none 50 [l0, l1] [.int 100, .int x2, .int x1, .ref x0] h Q) ∧
    (∀ (d : Nat) (l0 : Value) (l1 : Value) (x3 : Int32) (x2 : Int32) (x1 : Int32) (x0 : Nat) (h : zMm) (Q : Option Value → zMm → Prop), zWp d zi_76 none 50 [l0, l1] [.int x3, .int x2, .int x1, .ref x0] h Q = (¬ x3 = 0 ∧ zWp d zi_76 none 51 [l0, l1] [.int (x2 - x2 / x3 * x3), .int x1, .ref x0] h Q)) ∧
    (∀ (d : Nat) (l0 : Value) (l1 : Value) (x2 : Int32) (x1 : Int32) (x0 : Nat) (I : Nat → Nat → Int32) (L : Nat → Nat → Int64) (P : Nat → Nat → Option Nat) (Q : Option Value → zMm → Prop), zSH[x0]? = some (.inl 3) → zWp d zi_76 none 51 [l0, l1] [.int x2, .int x1, .ref x0] (zSH, I, L, P) Q = zWM d 23 [.ref x0, .int x1, .int x2] (zSH, I, L, P) (fun r h1 => zWp d zi_76 none 54 [l0, l1] (r.toList ++ []) h1 Q)) ∧
    (∀ (d : Nat) (l0 : Nat) (l1 : Value)  (h : zMm) (Q : Option Value → zMm → Prop), zWp d zi_76 none 54 [.ref l0, l1] [] h Q = zWp d zi_76 none 55 [.ref l0, l1] [.ref l0] h Q) ∧
    (∀ (d : Nat) (l0 : Value) (l1 : Value) (x0 : Nat) (I : Nat → Nat → Int32) (L : Nat → Nat → Int64) (P : Nat → Nat → Option Nat) (Q : Option Value → zMm → Prop), zSH[x0]? = some (.inl 9) → zWp d zi_76 none 55 [l0, l1] [.ref x0] (zSH, I, L, P) Q = zWp d zi_76 none 58 [l0, l1] [va_rf (P x0 2)] (zSH, I, L, P) Q) ∧
    (∀ (d : Nat) (l0 : Value) (l1 : Value) (x0 : Nat) (I : Nat → Nat → Int32) (L : Nat → Nat → Int64) (P : Nat → Nat → Option Nat) (Q : Option Value → zMm → Prop), zSH[x0]? = some (.inl 3) → zWp d zi_76 none 58 [l0, l1] [.ref x0] (zSH, I, L, P) Q = zWp d zi_76 none 61 [l0, l1] [.int (I x0 3)] (zSH, I, L, P) Q) ∧
    (∀ (d : Nat) (l0 : Value) (l1 : Value) (x0 : Int32) (h : zMm) (Q : Option Value → zMm → Prop), zWp d zi_76 none 61 [l0, l1] [.int x0] h Q = zWp d zi_76 none 62 [l0, l1] [.int 1, .int x0] h Q) ∧
    (∀ (d : Nat) (l0 : Value) (l1 : Value) (x1 : Int32) (x0 : Int32) (h : zMm) (Q : Option Value → zMm → Prop), zWp d zi_76 none 62 [l0, l1] [.int x1, .int x0] h Q = zWp d zi_76 none 63 [l0, l1] [.int (x0 - x1)] h Q) ∧
    (∀ (d : Nat) (l0 : Value) (l1 : Value) (x0 : Int32) (h : zMm) (Q : Option Value → zMm → Prop), zWp d zi_76 none 63 [l0, l1] [.int x0] h Q = Q (some (.int x0)) h) :=
  ⟨(fun d l0 l1  h Q => zr_iload_n rfl rfl),
   (fun d l0 l1 x0 h Q => zr_bipush rfl (by decide)),
   (fun d l0 l1 x1 x0 h Q => zr_ic_lt rfl (by decide)),
   (fun d l0 l1  h Q => zr_iload_n rfl rfl),
   (fun d l0 l1 x0 h Q => zr_sipush rfl (by decide)),
   (fun d l0 l1 x1 x0 h Q => zr_ic_gt rfl (by decide)),
   (fun d l0 l1  h Q => zr_iload_n rfl rfl),
   (fun d l0 l1 x0 h Q => zr_bipush rfl (by decide)),
   (fun d l0 l1 x1 x0 h Q => zr_irem rfl),
   (fun d l0 l1 x0 h Q => zr_bipush rfl (by decide)),
   (fun d l0 l1 x1 x0 h Q => zr_ic_lt rfl (by decide)),
   (fun d l0 l1  h Q => zr_iconst rfl (by decide)),
   (fun d l0 l1 x0 h Q => zr_iret rfl rfl),
   (fun d l0 l1  h Q => zr_aload_n rfl rfl),
   (fun d l0 l1 x0 I L P Q p0 => zr_getQ rfl lf_9_22 (fun _ _ _ => rfl) p0),
   (fun d l0 l1 x0 I L P Q p0 => zr_getI rfl lf_9_139 (fun _ _ _ => rfl) p0),
   (fun d l0 l1 x0 h Q => zr_bipush rfl (by decide)),
   (fun d l0 l1 x1 x0 h Q => zr_ic_lt rfl (by decide)),
   (fun d l0 l1  h Q => zr_bipush rfl (by decide)),
   (fun d l0 l1 x0 h Q => zr_iret rfl rfl),
   (fun d l0 l1  h Q => zr_aload_n rfl rfl),
   (fun d l0 l1 x0 I L P Q p0 => zr_getQ rfl lf_9_22 (fun _ _ _ => rfl) p0),
   (fun d l0 l1 x0 h Q => zr_iload_n rfl rfl),
   (fun d l0 l1 x1 x0 h Q => zr_bipush rfl (by decide)),
   (fun d l0 l1 x2 x1 x0 h Q => zr_idiv rfl),
   (fun d l0 l1 x1 x0 h Q => zr_iload_n rfl rfl),
   (fun d l0 l1 x2 x1 x0 h Q => zr_bipush rfl (by decide)),
   (fun d l0 l1 x3 x2 x1 x0 h Q => zr_irem rfl),
   (fun d l0 l1 x2 x1 x0 I L P Q p0 => zr_vir (as := [.int x2, .int x1]) (rest := []) rfl lm_9_140 m_23 kd_23 rfl (Nat.le_of_ble_eq_true rfl) p0),
   (fun d l0 l1  h Q => zr_aload_n rfl rfl),
   (fun d l0 l1 x0 I L P Q p0 => zr_getQ rfl lf_9_22 (fun _ _ _ => rfl) p0),
   (fun d l0 l1 x0 I L P Q p0 => zr_getI rfl lf_9_139 (fun _ _ _ => rfl) p0),
   (fun d l0 l1 x0 h Q => zr_iconst rfl (by decide)),
   (fun d l0 l1 x1 x0 h Q => zr_isub rfl),
   (fun d l0 l1 x0 h Q => zr_iret rfl rfl)⟩
theorem E_X9_mend : ∀ (d : Nat) (a0 : Nat) (a1 : Int32) (a2 : Int32) (a3 : Int32) (h : zMm) (Q : Option Value → zMm → Prop), zWM (d + 1) 77 [.ref a0, .int a1, .int a2, .int a3] h Q = zWp d zi_77 none 0 [.ref a0, .int a1, .int a2, .int a3, .retAddr 0] [] h Q := fun d a0 a1 a2 a3 h Q => zW_M m_77 (Nat.le_of_ble_eq_true rfl) rfl
set_option maxRecDepth 100000 in
theorem R_X9_mend :
    (∀ (d : Nat) (l0 : Nat) (l1 : Value) (l2 : Value) (l3 : Value) (l4 : Value)  (h : zMm) (Q : Option Value → zMm → Prop), zWp d zi_77 none 0 [.ref l0, l1, l2, l3, l4] [] h Q = zWp d zi_77 none 1 [.ref l0, l1, l2, l3, l4] [.ref l0] h Q) ∧
    (∀ (d : Nat) (l0 : Value) (l1 : Int32) (l2 : Value) (l3 : Value) (l4 : Value) (x0 : Nat) (h : zMm) (Q : Option Value → zMm → Prop), zWp d zi_77 none 1 [l0, .int l1, l2, l3, l4] [.ref x0] h Q = zWp d zi_77 none 2 [l0, .int l1, l2, l3, l4] [.int l1, .ref x0] h Q) ∧
    (∀ (d : Nat) (l0 : Value) (l1 : Value) (l2 : Int32) (l3 : Value) (l4 : Value) (x1 : Int32) (x0 : Nat) (h : zMm) (Q : Option Value → zMm → Prop), zWp d zi_77 none 2 [l0, l1, .int l2, l3, l4] [.int x1, .ref x0] h Q = zWp d zi_77 none 3 [l0, l1, .int l2, l3, l4] [.int l2, .int x1, .ref x0] h Q) ∧
    (∀ (d : Nat) (l0 : Value) (l1 : Value) (l2 : Value) (l3 : Value) (l4 : Value) (x2 : Int32) (x1 : Int32) (x0 : Nat) (I : Nat → Nat → Int32) (L : Nat → Nat → Int64) (P : Nat → Nat → Option Nat) (Q : Option Value → zMm → Prop), zSH[x0]? = some (.inl 9) → zWp d zi_77 none 3 [l0, l1, l2, l3, l4] [.int x2, .int x1, .ref x0] (zSH, I, L, P) Q = zWM d 84 [.ref x0, .int x1, .int x2] (zSH, I, L, P) (fun r h1 => zWp d zi_77 none 6 [l0, l1, l2, l3, l4] (r.toList ++ []) h1 Q)) ∧
    (∀ (d : Nat) (l0 : Value) (l1 : Value) (l2 : Value) (l3 : Value) (l4 : Value) (x0 : Int32) (h : zMm) (Q : Option Value → zMm → Prop), zWp d zi_77 none 6 [l0, l1, l2, l3, l4] [.int x0] h Q = if x0 = 0 then zWp d zi_77 none 19 [l0, l1, l2, l3, l4] [] h Q else zWp d zi_77 none 9 [l0, l1, l2, l3, l4] [] h Q) ∧
    (∀ (d : Nat) (l0 : Nat) (l1 : Value) (l2 : Value) (l3 : Value) (l4 : Value)  (h : zMm) (Q : Option Value → zMm → Prop), zWp d zi_77 none 9 [.ref l0, l1, l2, l3, l4] [] h Q = zWp d zi_77 none 10 [.ref l0, l1, l2, l3, l4] [.ref l0] h Q) ∧
    (∀ (d : Nat) (l0 : Value) (l1 : Int32) (l2 : Value) (l3 : Value) (l4 : Value) (x0 : Nat) (h : zMm) (Q : Option Value → zMm → Prop), zWp d zi_77 none 10 [l0, .int l1, l2, l3, l4] [.ref x0] h Q = zWp d zi_77 none 11 [l0, .int l1, l2, l3, l4] [.int l1, .ref x0] h Q) ∧
    (∀ (d : Nat) (l0 : Value) (l1 : Value) (l2 : Int32) (l3 : Value) (l4 : Value) (x1 : Int32) (x0 : Nat) (h : zMm) (Q : Option Value → zMm → Prop), zWp d zi_77 none 11 [l0, l1, .int l2, l3, l4] [.int x1, .ref x0] h Q = zWp d zi_77 none 12 [l0, l1, .int l2, l3, l4] [.int l2, .int x1, .ref x0] h Q) ∧
    (∀ (d : Nat) (l0 : Value) (l1 : Value) (l2 : Value) (l3 : Int32) (l4 : Value) (x2 : Int32) (x1 : Int32) (x0 : Nat) (h : zMm) (Q : Option Value → zMm → Prop), zWp d zi_77 none 12 [l0, l1, l2, .int l3, l4] [.int x2, .int x1, .ref x0] h Q = zWp d zi_77 none 13 [l0, l1, l2, .int l3, l4] [.int l3, .int x2, .int x1, .ref x0] h Q) ∧
    (∀ (d : Nat) (l0 : Value) (l1 : Value) (l2 : Value) (l3 : Value) (l4 : Value) (x3 : Int32) (x2 : Int32) (x1 : Int32) (x0 : Nat) (I : Nat → Nat → Int32) (L : Nat → Nat → Int64) (P : Nat → Nat → Option Nat) (Q : Option Value → zMm → Prop), zSH[x0]? = some (.inl 9) → zWp d zi_77 none 13 [l0, l1, l2, l3, l4] [.int x3, .int x2, .int x1, .ref x0] (zSH, I, L, P) Q = zWM d 85 [.ref x0, .int x1, .int x2, .int x3] (zSH, I, L, P) (fun r h1 => zWp d zi_77 none 16 [l0, l1, l2, l3, l4] (r.toList ++ []) h1 Q)) ∧
    (∀ (d : Nat) (l0 : Value) (l1 : Value) (l2 : Value) (l3 : Value) (l4 : Value) (x0 : Int32) (h : zMm) (Q : Option Value → zMm → Prop), zWp d zi_77 none 16 [l0, l1, l2, l3, l4] [.int x0] h Q = if x0 = 0 then zWp d zi_77 none 19 [l0, l1, l2, l3, l4] [] h Q else zWp d zi_77 none 22 [l0, l1, l2, l3, l4] [] h Q) ∧
    (∀ (d : Nat) (l0 : Value) (l1 : Value) (l2 : Value) (l3 : Value) (l4 : Value)  (h : zMm) (Q : Option Value → zMm → Prop), zWp d zi_77 none 19 [l0, l1, l2, l3, l4] [] h Q = zWp d zi_77 none 21 [l0, l1, l2, l3, l4] [.int (-2000000000)] h Q) ∧
    (∀ (d : Nat) (l0 : Value) (l1 : Value) (l2 : Value) (l3 : Value) (l4 : Value) (x0 : Int32) (h : zMm) (Q : Option Value → zMm → Prop), zWp d zi_77 none 21 [l0, l1, l2, l3, l4] [.int x0] h Q = Q (some (.int x0)) h) ∧
    (∀ (d : Nat) (l0 : Nat) (l1 : Value) (l2 : Value) (l3 : Value) (l4 : Value)  (h : zMm) (Q : Option Value → zMm → Prop), zWp d zi_77 none 22 [.ref l0, l1, l2, l3, l4] [] h Q = zWp d zi_77 none 23 [.ref l0, l1, l2, l3, l4] [.ref l0] h Q) ∧
    (∀ (d : Nat) (l0 : Value) (l1 : Int32) (l2 : Value) (l3 : Value) (l4 : Value) (x0 : Nat) (h : zMm) (Q : Option Value → zMm → Prop), zWp d zi_77 none 23 [l0, .int l1, l2, l3, l4] [.ref x0] h Q = zWp d zi_77 none 24 [l0, .int l1, l2, l3, l4] [.int l1, .ref x0] h Q) ∧
    (∀ (d : Nat) (l0 : Value) (l1 : Value) (l2 : Int32) (l3 : Value) (l4 : Value) (x1 : Int32) (x0 : Nat) (h : zMm) (Q : Option Value → zMm → Prop), zWp d zi_77 none 24 [l0, l1, .int l2, l3, l4] [.int x1, .ref x0] h Q = zWp d zi_77 none 25 [l0, l1, .int l2, l3, l4] [.int l2, .int x1, .ref x0] h Q) ∧
    (∀ (d : Nat) (l0 : Value) (l1 : Value) (l2 : Value) (l3 : Value) (l4 : Value) (x2 : Int32) (x1 : Int32) (x0 : Nat) (I : Nat → Nat → Int32) (L : Nat → Nat → Int64) (P : Nat → Nat → Option Nat) (Q : Option Value → zMm → Prop), zSH[x0]? = some (.inl 9) → zWp d zi_77 none 25 [l0, l1, l2, l3, l4] [.int x2, .int x1, .ref x0] (zSH, I, L, P) Q = zWM d 86 [.ref x0, .int x1, .int x2] (zSH, I, L, P) (fun r h1 => zWp d zi_77 none 28 [l0, l1, l2, l3, l4] (r.toList ++ []) h1 Q)) ∧
    (∀ (d : Nat) (l0 : Value) (l1 : Value) (l2 : Value) (l3 : Int32) (l4 : Value) (x0 : Int32) (h : zMm) (Q : Option Value → zMm → Prop), zWp d zi_77 none 28 [l0, l1, l2, .int l3, l4] [.int x0] h Q = zWp d zi_77 none 30 [l0, l1, l2, .int l3, .int x0] [] h Q) ∧
    (∀ (d : Nat) (l0 : Value) (l1 : Value) (l2 : Value) (l3 : Value) (l4 : Int32)  (h : zMm) (Q : Option Value → zMm → Prop), zWp d zi_77 none 30 [l0, l1, l2, l3, .int l4] [] h Q = zWp d zi_77 none 32 [l0, l1, l2, l3, .int l4] [.int l4] h Q) ∧
    (∀ (d : Nat) (l0 : Value) (l1 : Value) (l2 : Value) (l3 : Int32) (l4 : Value) (x0 : Int32) (h : zMm) (Q : Option Value → zMm → Prop), zWp d zi_77 none 32 [l0, l1, l2, .int l3, l4] [.int x0] h Q = zWp d zi_77 none 33 [l0, l1, l2, .int l3, l4] [.int l3, .int x0] h Q) ∧
    (∀ (d : Nat) (l0 : Value) (l1 : Value) (l2 : Value) (l3 : Value) (l4 : Value) (x1 : Int32) (x0 : Int32) (h : zMm) (Q : Option Value → zMm → Prop), zWp d zi_77 none 33 [l0, l1, l2, l3, l4] [.int x1, .int x0] h Q = if x0 = x1 then zWp d zi_77 none 55 [l0, l1, l2, l3, l4] [] h Q else zWp d zi_77 none 36 [l0, l1, l2, l3, l4] [] h Q) ∧
    (∀ (d : Nat) (l0 : Nat) (l1 : Value) (l2 : Value) (l3 : Value) (l4 : Value)  (h : zMm) (Q : Option Value → zMm → Prop), zWp d zi_77 none 36 [.ref l0, l1, l2, l3, l4] [] h Q = zWp d zi_77 none 37 [.ref l0, l1, l2, l3, l4] [.ref l0] h Q) ∧
    (∀ (d : Nat) (l0 : Value) (l1 : Int32) (l2 : Value) (l3 : Value) (l4 : Value) (x0 : Nat) (h : zMm) (Q : Option Value → zMm → Prop), zWp d zi_77 none 37 [l0, .int l1, l2, l3, l4] [.ref x0] h Q = zWp d zi_77 none 38 [l0, .int l1, l2, l3, l4] [.int l1, .ref x0] h Q) ∧
    (∀ (d : Nat) (l0 : Value) (l1 : Value) (l2 : Int32) (l3 : Value) (l4 : Value) (x1 : Int32) (x0 : Nat) (h : zMm) (Q : Option Value → zMm → Prop), zWp d zi_77 none 38 [l0, l1, .int l2, l3, l4] [.int x1, .ref x0] h Q = zWp d zi_77 none 39 [l0, l1, .int l2, l3, l4] [.int l2, .int x1, .ref x0] h Q) ∧
    (∀ (d : Nat) (l0 : Value) (l1 : Value) (l2 : Value) (l3 : Int32) (l4 : Value) (x2 : Int32) (x1 : Int32) (x0 : Nat) (h : zMm) (Q : Option Value → zMm → Prop), zWp d zi_77 none 39 [l0, l1, l2, .int l3, l4] [.int x2, .int x1, .ref x0] h Q = zWp d zi_77 none 40 [l0, l1, l2, .int l3, l4] [.int l3, .int x2, .int x1, .ref x0] h Q) ∧
    (∀ (d : Nat) (l0 : Value) (l1 : Value) (l2 : Value) (l3 : Value) (l4 : Value) (x3 : Int32) (x2 : Int32) (x1 : Int32) (x0 : Nat) (I : Nat → Nat → Int32) (L : Nat → Nat → Int64) (P : Nat → Nat → Option Nat) (Q : Option Value → zMm → Prop), zSH[x0]? = some (.inl 9) → zWp d zi_77 none 40 [l0, l1, l2, l3, l4] [.int x3, .int x2, .int x1, .ref x0] (zSH, I, L, P) Q = zWM d 87 [.ref x0, .int x1, .int x2, .int x3] (zSH, I, L, P) (fun r h1 => zWp d zi_77 none 43 [l0, l1, l2, l3, l4] (r.toList ++ []) h1 Q)) ∧
    (∀ (d : Nat) (l0 : Nat) (l1 : Value) (l2 : Value) (l3 : Value) (l4 : Value)  (h : zMm) (Q : Option Value → zMm → Prop), zWp d zi_77 none 43 [.ref l0, l1, l2, l3, l4] [] h Q = zWp d zi_77 none 44 [.ref l0, l1, l2, l3, l4] [.ref l0] h Q) ∧
    (∀ (d : Nat) (l0 : Value) (l1 : Value) (l2 : Value) (l3 : Value) (l4 : Value) (x0 : Nat) (I : Nat → Nat → Int32) (L : Nat → Nat → Int64) (P : Nat → Nat → Option Nat) (Q : Option Value → zMm → Prop), zSH[x0]? = some (.inl 9) → zWp d zi_77 none 44 [l0, l1, l2, l3, l4] [.ref x0] (zSH, I, L, P) Q = zWp d zi_77 none 47 [l0, l1, l2, l3, l4] [va_rf (P x0 8)] (zSH, I, L, P) Q) ∧
    (∀ (d : Nat) (l0 : Value) (l1 : Int32) (l2 : Value) (l3 : Value) (l4 : Value) (x0 : Nat) (h : zMm) (Q : Option Value → zMm → Prop), zWp d zi_77 none 47 [l0, .int l1, l2, l3, l4] [.ref x0] h Q = zWp d zi_77 none 48 [l0, .int l1, l2, l3, l4] [.int l1, .ref x0] h Q) ∧
    (∀ (d : Nat) (l0 : Value) (l1 : Value) (l2 : Int32) (l3 : Value) (l4 : Value) (x1 : Int32) (x0 : Nat) (h : zMm) (Q : Option Value → zMm → Prop), zWp d zi_77 none 48 [l0, l1, .int l2, l3, l4] [.int x1, .ref x0] h Q = zWp d zi_77 none 49 [l0, l1, .int l2, l3, l4] [.int l2, .int x1, .ref x0] h Q) ∧
    (∀ (d : Nat) (l0 : Value) (l1 : Value) (l2 : Value) (l3 : Value) (l4 : Int32) (x2 : Int32) (x1 : Int32) (x0 : Nat) (h : zMm) (Q : Option Value → zMm → Prop), zWp d zi_77 none 49 [l0, l1, l2, l3, .int l4] [.int x2, .int x1, .ref x0] h Q = zWp d zi_77 none 51 [l0, l1, l2, l3, .int l4] [.int l4, .int x2, .int x1, .ref x0] h Q) ∧
    (∀ (d : Nat) (l0 : Value) (l1 : Value) (l2 : Value) (l3 : Int32) (l4 : Value) (x3 : Int32) (x2 : Int32) (x1 : Int32) (x0 : Nat) (h : zMm) (Q : Option Value → zMm → Prop), zWp d zi_77 none 51 [l0, l1, l2, .int l3, l4] [.int x3, .int x2, .int x1, .ref x0] h Q = zWp d zi_77 none 52 [l0, l1, l2, .int l3, l4] [.int l3, .int x3, .int x2, .int x1, .ref x0] h Q) ∧
    (∀ (d : Nat) (l0 : Value) (l1 : Value) (l2 : Value) (l3 : Value) (l4 : Value) (x4 : Int32) (x3 : Int32) (x2 : Int32) (x1 : Int32) (x0 : Nat) (I : Nat → Nat → Int32) (L : Nat → Nat → Int64) (P : Nat → Nat → Option Nat) (Q : Option Value → zMm → Prop), zSH[x0]? = some (.inl 1) → zWp d zi_77 none 52 [l0, l1, l2, l3, l4] [.int x4, .int x3, .int x2, .int x1, .ref x0] (zSH, I, L, P) Q = zWM d 7 [.ref x0, .int x1, .int x2, .int x3, .int x4] (zSH, I, L, P) (fun r h1 => zWp d zi_77 none 55 [l0, l1, l2, l3, l4] (r.toList ++ []) h1 Q)) ∧
    (∀ (d : Nat) (l0 : Value) (l1 : Value) (l2 : Value) (l3 : Value) (l4 : Int32)  (h : zMm) (Q : Option Value → zMm → Prop), zWp d zi_77 none 55 [l0, l1, l2, l3, .int l4] [] h Q = zWp d zi_77 none 57 [l0, l1, l2, l3, .int l4] [.int l4] h Q) ∧
    (∀ (d : Nat) (l0 : Value) (l1 : Value) (l2 : Value) (l3 : Value) (l4 : Value) (x0 : Int32) (h : zMm) (Q : Option Value → zMm → Prop), zWp d zi_77 none 57 [l0, l1, l2, l3, l4] [.int x0] h Q = Q (some (.int x0)) h) :=
  ⟨(fun d l0 l1 l2 l3 l4  h Q => zr_aload_n rfl rfl),
   (fun d l0 l1 l2 l3 l4 x0 h Q => zr_iload_n rfl rfl),
   (fun d l0 l1 l2 l3 l4 x1 x0 h Q => zr_iload_n rfl rfl),
   (fun d l0 l1 l2 l3 l4 x2 x1 x0 I L P Q p0 => zr_vir (as := [.int x2, .int x1]) (rest := []) rfl lm_9_144 m_84 kd_84 rfl (Nat.le_of_ble_eq_true rfl) p0),
   (fun d l0 l1 l2 l3 l4 x0 h Q => zr_if_eq rfl (by decide)),
   (fun d l0 l1 l2 l3 l4  h Q => zr_aload_n rfl rfl),
   (fun d l0 l1 l2 l3 l4 x0 h Q => zr_iload_n rfl rfl),
   (fun d l0 l1 l2 l3 l4 x1 x0 h Q => zr_iload_n rfl rfl),
   (fun d l0 l1 l2 l3 l4 x2 x1 x0 h Q => zr_iload_n rfl rfl),
   (fun d l0 l1 l2 l3 l4 x3 x2 x1 x0 I L P Q p0 => zr_vir (as := [.int x3, .int x2, .int x1]) (rest := []) rfl lm_9_147 m_85 kd_85 rfl (Nat.le_of_ble_eq_true rfl) p0),
   (fun d l0 l1 l2 l3 l4 x0 h Q => zr_if_ne rfl (by decide)),
   (fun d l0 l1 l2 l3 l4  h Q => zr_ldc rfl lk_9_151),
   (fun d l0 l1 l2 l3 l4 x0 h Q => zr_iret rfl rfl),
   (fun d l0 l1 l2 l3 l4  h Q => zr_aload_n rfl rfl),
   (fun d l0 l1 l2 l3 l4 x0 h Q => zr_iload_n rfl rfl),
   (fun d l0 l1 l2 l3 l4 x1 x0 h Q => zr_iload_n rfl rfl),
   (fun d l0 l1 l2 l3 l4 x2 x1 x0 I L P Q p0 => zr_vir (as := [.int x2, .int x1]) (rest := []) rfl lm_9_152 m_86 kd_86 rfl (Nat.le_of_ble_eq_true rfl) p0),
   (fun d l0 l1 l2 l3 l4 x0 h Q => zr_istore (n := 4) rfl (Nat.le_of_ble_eq_true rfl) rfl),
   (fun d l0 l1 l2 l3 l4  h Q => zr_iload rfl rfl),
   (fun d l0 l1 l2 l3 l4 x0 h Q => zr_iload_n rfl rfl),
   (fun d l0 l1 l2 l3 l4 x1 x0 h Q => zr_ic_eq rfl (by decide)),
   (fun d l0 l1 l2 l3 l4  h Q => zr_aload_n rfl rfl),
   (fun d l0 l1 l2 l3 l4 x0 h Q => zr_iload_n rfl rfl),
   (fun d l0 l1 l2 l3 l4 x1 x0 h Q => zr_iload_n rfl rfl),
   (fun d l0 l1 l2 l3 l4 x2 x1 x0 h Q => zr_iload_n rfl rfl),
   (fun d l0 l1 l2 l3 l4 x3 x2 x1 x0 I L P Q p0 => zr_vir (as := [.int x3, .int x2, .int x1]) (rest := []) rfl lm_9_155 m_87 kd_87 rfl (Nat.le_of_ble_eq_true rfl) p0),
   (fun d l0 l1 l2 l3 l4  h Q => zr_aload_n rfl rfl),
   (fun d l0 l1 l2 l3 l4 x0 I L P Q p0 => zr_getQ rfl lf_9_56 (fun _ _ _ => rfl) p0),
   (fun d l0 l1 l2 l3 l4 x0 h Q => zr_iload_n rfl rfl),
   (fun d l0 l1 l2 l3 l4 x1 x0 h Q => zr_iload_n rfl rfl),
   (fun d l0 l1 l2 l3 l4 x2 x1 x0 h Q => zr_iload rfl rfl),
   (fun d l0 l1 l2 l3 l4 x3 x2 x1 x0 h Q => zr_iload_n rfl rfl),
   (fun d l0 l1 l2 l3 l4 x4 x3 x2 x1 x0 I L P Q p0 => zr_vir (as := [.int x4, .int x3, .int x2, .int x1]) (rest := []) rfl lm_9_159 m_7 kd_7 rfl (Nat.le_of_ble_eq_true rfl) p0),
   (fun d l0 l1 l2 l3 l4  h Q => zr_iload rfl rfl),
   (fun d l0 l1 l2 l3 l4 x0 h Q => zr_iret rfl rfl)⟩
theorem E_X9_of : ∀ (d : Nat) (a0 : Nat) (a1 : Int32) (a2 : Int32) (h : zMm) (Q : Option Value → zMm → Prop), zWM (d + 1) 78 [.ref a0, .int a1, .int a2] h Q = zWp d zi_78 none 0 [.ref a0, .int a1, .int a2] [] h Q := fun d a0 a1 a2 h Q => zW_M m_78 (Nat.le_of_ble_eq_true rfl) rfl
set_option maxRecDepth 100000 in
theorem R_X9_of :
    (∀ (d : Nat) (l0 : Value) (l1 : Value) (l2 : Int32)  (h : zMm) (Q : Option Value → zMm → Prop), zWp d zi_78 none 0 [l0, l1, .int l2] [] h Q = zWp d zi_78 none 1 [l0, l1, .int l2] [.int l2] h Q) ∧
    (∀ (d : Nat) (l0 : Value) (l1 : Value) (l2 : Value) (x0 : Int32) (h : zMm) (Q : Option Value → zMm → Prop), zWp d zi_78 none 1 [l0, l1, l2] [.int x0] h Q = if x0 < 0 then zWp d zi_78 none 33 [l0, l1, l2] [] h Q else zWp d zi_78 none 4 [l0, l1, l2] [] h Q) ∧
    (∀ (d : Nat) (l0 : Value) (l1 : Value) (l2 : Int32)  (h : zMm) (Q : Option Value → zMm → Prop), zWp d zi_78 none 4 [l0, l1, .int l2] [] h Q = zWp d zi_78 none 5 [l0, l1, .int l2] [.int l2] h Q) ∧
    (∀ (d : Nat) (l0 : Value) (l1 : Value) (l2 : Value) (x0 : Int32) (h : zMm) (Q : Option Value → zMm → Prop), zWp d zi_78 none 5 [l0, l1, l2] [.int x0] h Q = zWp d zi_78 none 7 [l0, l1, l2] [.int 6, .int x0] h Q) ∧
    (∀ (d : Nat) (l0 : Value) (l1 : Value) (l2 : Value) (x1 : Int32) (x0 : Int32) (h : zMm) (Q : Option Value → zMm → Prop), zWp d zi_78 none 7 [l0, l1, l2] [.int x1, .int x0] h Q = if x1 < x0 then zWp d zi_78 none 33 [l0, l1, l2] [] h Q else zWp d zi_78 none 10 [l0, l1, l2] [] h Q) ∧
    (∀ (d : Nat) (l0 : Nat) (l1 : Value) (l2 : Value)  (h : zMm) (Q : Option Value → zMm → Prop), zWp d zi_78 none 10 [.ref l0, l1, l2] [] h Q = zWp d zi_78 none 11 [.ref l0, l1, l2] [.ref l0] h Q) ∧
    (∀ (d : Nat) (l0 : Value) (l1 : Value) (l2 : Value) (x0 : Nat) (I : Nat → Nat → Int32) (L : Nat → Nat → Int64) (P : Nat → Nat → Option Nat) (Q : Option Value → zMm → Prop), zSH[x0]? = some (.inl 9) → zWp d zi_78 none 11 [l0, l1, l2] [.ref x0] (zSH, I, L, P) Q = zWp d zi_78 none 14 [l0, l1, l2] [va_rf (P x0 0)] (zSH, I, L, P) Q) ∧
    (∀ (d : Nat) (l0 : Value) (l1 : Int32) (l2 : Value) (x0 : Nat) (h : zMm) (Q : Option Value → zMm → Prop), zWp d zi_78 none 14 [l0, .int l1, l2] [.ref x0] h Q = zWp d zi_78 none 15 [l0, .int l1, l2] [.int l1, .ref x0] h Q) ∧
    (∀ (d : Nat) (l0 : Value) (l1 : Value) (l2 : Value) (x1 : Int32) (x0 : Nat) (I : Nat → Nat → Int32) (L : Nat → Nat → Int64) (P : Nat → Nat → Option Nat) (Q : Option Value → zMm → Prop), zSH[x0]? = some (.inl 8) → zWp d zi_78 none 15 [l0, l1, l2] [.int x1, .ref x0] (zSH, I, L, P) Q = zWM d 59 [.ref x0, .int x1] (zSH, I, L, P) (fun r h1 => zWp d zi_78 none 18 [l0, l1, l2] (r.toList ++ []) h1 Q)) ∧
    (∀ (d : Nat) (l0 : Value) (l1 : Value) (l2 : Value) (x0 : Int32) (h : zMm) (Q : Option Value → zMm → Prop), zWp d zi_78 none 18 [l0, l1, l2] [.int x0] h Q = if x0 = 0 then zWp d zi_78 none 30 [l0, l1, l2] [] h Q else zWp d zi_78 none 21 [l0, l1, l2] [] h Q) ∧
    (∀ (d : Nat) (l0 : Nat) (l1 : Value) (l2 : Value)  (h : zMm) (Q : Option Value → zMm → Prop), zWp d zi_78 none 21 [.ref l0, l1, l2] [] h Q = zWp d zi_78 none 22 [.ref l0, l1, l2] [.ref l0] h Q) ∧
    (∀ (d : Nat) (l0 : Value) (l1 : Int32) (l2 : Value) (x0 : Nat) (h : zMm) (Q : Option Value → zMm → Prop), zWp d zi_78 none 22 [l0, .int l1, l2] [.ref x0] h Q = zWp d zi_78 none 23 [l0, .int l1, l2] [.int l1, .ref x0] h Q) ∧
    (∀ (d : Nat) (l0 : Value) (l1 : Value) (l2 : Int32) (x1 : Int32) (x0 : Nat) (h : zMm) (Q : Option Value → zMm → Prop), zWp d zi_78 none 23 [l0, l1, .int l2] [.int x1, .ref x0] h Q = zWp d zi_78 none 24 [l0, l1, .int l2] [.int l2, .int x1, .ref x0] h Q) ∧
    (∀ (d : Nat) (l0 : Value) (l1 : Value) (l2 : Value) (x2 : Int32) (x1 : Int32) (x0 : Nat) (I : Nat → Nat → Int32) (L : Nat → Nat → Int64) (P : Nat → Nat → Option Nat) (Q : Option Value → zMm → Prop), zSH[x0]? = some (.inl 9) → zWp d zi_78 none 24 [l0, l1, l2] [.int x2, .int x1, .ref x0] (zSH, I, L, P) Q = zWM d 79 [.ref x0, .int x1, .int x2] (zSH, I, L, P) (fun r h1 => zWp d zi_78 none 27 [l0, l1, l2] (r.toList ++ []) h1 Q)) ∧
    (∀ (d : Nat) (l0 : Value) (l1 : Value) (l2 : Value) (x0 : Int32) (h : zMm) (Q : Option Value → zMm → Prop), zWp d zi_78 none 27 [l0, l1, l2] [.int x0] h Q = zWp d zi_78 none 32 [l0, l1, l2] [.int x0] h Q) ∧
    (∀ (d : Nat) (l0 : Value) (l1 : Value) (l2 : Value)  (h : zMm) (Q : Option Value → zMm → Prop), zWp d zi_78 none 30 [l0, l1, l2] [] h Q = zWp d zi_78 none 32 [l0, l1, l2] [.int (-2000000000)] h Q) ∧
    (∀ (d : Nat) (l0 : Value) (l1 : Value) (l2 : Value) (x0 : Int32) (h : zMm) (Q : Option Value → zMm → Prop), zWp d zi_78 none 32 [l0, l1, l2] [.int x0] h Q = Q (some (.int x0)) h) ∧
    (∀ (d : Nat) (l0 : Value) (l1 : Value) (l2 : Int32)  (h : zMm) (Q : Option Value → zMm → Prop), zWp d zi_78 none 33 [l0, l1, .int l2] [] h Q = zWp d zi_78 none 34 [l0, l1, .int l2] [.int l2] h Q) ∧
    (∀ (d : Nat) (l0 : Value) (l1 : Value) (l2 : Value) (x0 : Int32) (h : zMm) (Q : Option Value → zMm → Prop), zWp d zi_78 none 34 [l0, l1, l2] [.int x0] h Q = zWp d zi_78 none 36 [l0, l1, l2] [.int 10, .int x0] h Q) ∧
    (∀ (d : Nat) (l0 : Value) (l1 : Value) (l2 : Value) (x1 : Int32) (x0 : Int32) (h : zMm) (Q : Option Value → zMm → Prop), zWp d zi_78 none 36 [l0, l1, l2] [.int x1, .int x0] h Q = if x0 < x1 then zWp d zi_78 none 68 [l0, l1, l2] [] h Q else zWp d zi_78 none 39 [l0, l1, l2] [] h Q) ∧
    (∀ (d : Nat) (l0 : Value) (l1 : Value) (l2 : Int32)  (h : zMm) (Q : Option Value → zMm → Prop), zWp d zi_78 none 39 [l0, l1, .int l2] [] h Q = zWp d zi_78 none 40 [l0, l1, .int l2] [.int l2] h Q) ∧
    (∀ (d : Nat) (l0 : Value) (l1 : Value) (l2 : Value) (x0 : Int32) (h : zMm) (Q : Option Value → zMm → Prop), zWp d zi_78 none 40 [l0, l1, l2] [.int x0] h Q = zWp d zi_78 none 42 [l0, l1, l2] [.int 12, .int x0] h Q) ∧
    (∀ (d : Nat) (l0 : Value) (l1 : Value) (l2 : Value) (x1 : Int32) (x0 : Int32) (h : zMm) (Q : Option Value → zMm → Prop), zWp d zi_78 none 42 [l0, l1, l2] [.int x1, .int x0] h Q = if x1 < x0 then zWp d zi_78 none 68 [l0, l1, l2] [] h Q else zWp d zi_78 none 45 [l0, l1, l2] [] h Q) ∧
    (∀ (d : Nat) (l0 : Nat) (l1 : Value) (l2 : Value)  (h : zMm) (Q : Option Value → zMm → Prop), zWp d zi_78 none 45 [.ref l0, l1, l2] [] h Q = zWp d zi_78 none 46 [.ref l0, l1, l2] [.ref l0] h Q) ∧
    (∀ (d : Nat) (l0 : Value) (l1 : Value) (l2 : Value) (x0 : Nat) (I : Nat → Nat → Int32) (L : Nat → Nat → Int64) (P : Nat → Nat → Option Nat) (Q : Option Value → zMm → Prop), zSH[x0]? = some (.inl 9) → zWp d zi_78 none 46 [l0, l1, l2] [.ref x0] (zSH, I, L, P) Q = zWp d zi_78 none 49 [l0, l1, l2] [va_rf (P x0 2)] (zSH, I, L, P) Q) ∧
    (∀ (d : Nat) (l0 : Value) (l1 : Int32) (l2 : Value) (x0 : Nat) (h : zMm) (Q : Option Value → zMm → Prop), zWp d zi_78 none 49 [l0, .int l1, l2] [.ref x0] h Q = zWp d zi_78 none 50 [l0, .int l1, l2] [.int l1, .ref x0] h Q) ∧
    (∀ (d : Nat) (l0 : Value) (l1 : Value) (l2 : Value) (x1 : Int32) (x0 : Nat) (I : Nat → Nat → Int32) (L : Nat → Nat → Int64) (P : Nat → Nat → Option Nat) (Q : Option Value → zMm → Prop), zSH[x0]? = some (.inl 3) → zWp d zi_78 none 50 [l0, l1, l2] [.int x1, .ref x0] (zSH, I, L, P) Q = zWM d 22 [.ref x0, .int x1] (zSH, I, L, P) (fun r h1 => zWp d zi_78 none 53 [l0, l1, l2] (r.toList ++ []) h1 Q)) ∧
    (∀ (d : Nat) (l0 : Value) (l1 : Value) (l2 : Value) (x0 : Int32) (h : zMm) (Q : Option Value → zMm → Prop), zWp d zi_78 none 53 [l0, l1, l2] [.int x0] h Q = if x0 = 0 then zWp d zi_78 none 65 [l0, l1, l2] [] h Q else zWp d zi_78 none 56 [l0, l1, l2] [] h Q) ∧
    (∀ (d : Nat) (l0 : Nat) (l1 : Value) (l2 : Value)  (h : zMm) (Q : Option Value → zMm → Prop), zWp d zi_78 none 56 [.ref l0, l1, l2] [] h Q = zWp d zi_78 none 57 [.ref l0, l1, l2] [.ref l0] h Q) ∧
    (∀ (d : Nat) (l0 : Value) (l1 : Int32) (l2 : Value) (x0 : Nat) (h : zMm) (Q : Option Value → zMm → Prop), zWp d zi_78 none 57 [l0, .int l1, l2] [.ref x0] h Q = zWp d zi_78 none 58 [l0, .int l1, l2] [.int l1, .ref x0] h Q) ∧
    (∀ (d : Nat) (l0 : Value) (l1 : Value) (l2 : Int32) (x1 : Int32) (x0 : Nat) (h : zMm) (Q : Option Value → zMm → Prop), zWp d zi_78 none 58 [l0, l1, .int l2] [.int x1, .ref x0] h Q = zWp d zi_78 none 59 [l0, l1, .int l2] [.int l2, .int x1, .ref x0] h Q) ∧
    (∀ (d : Nat) (l0 : Value) (l1 : Value) (l2 : Value) (x2 : Int32) (x1 : Int32) (x0 : Nat) (I : Nat → Nat → Int32) (L : Nat → Nat → Int64) (P : Nat → Nat → Option Nat) (Q : Option Value → zMm → Prop), zSH[x0]? = some (.inl 9) → zWp d zi_78 none 59 [l0, l1, l2] [.int x2, .int x1, .ref x0] (zSH, I, L, P) Q = zWM d 80 [.ref x0, .int x1, .int x2] (zSH, I, L, P) (fun r h1 => zWp d zi_78 none 62 [l0, l1, l2] (r.toList ++ []) h1 Q)) ∧
    (∀ (d : Nat) (l0 : Value) (l1 : Value) (l2 : Value) (x0 : Int32) (h : zMm) (Q : Option Value → zMm → Prop), zWp d zi_78 none 62 [l0, l1, l2] [.int x0] h Q = zWp d zi_78 none 67 [l0, l1, l2] [.int x0] h Q) ∧
    (∀ (d : Nat) (l0 : Value) (l1 : Value) (l2 : Value)  (h : zMm) (Q : Option Value → zMm → Prop), zWp d zi_78 none 65 [l0, l1, l2] [] h Q = zWp d zi_78 none 67 [l0, l1, l2] [.int (-2000000000)] h Q) ∧
    (∀ (d : Nat) (l0 : Value) (l1 : Value) (l2 : Value) (x0 : Int32) (h : zMm) (Q : Option Value → zMm → Prop), zWp d zi_78 none 67 [l0, l1, l2] [.int x0] h Q = Q (some (.int x0)) h) ∧
    (∀ (d : Nat) (l0 : Value) (l1 : Int32) (l2 : Value)  (h : zMm) (Q : Option Value → zMm → Prop), zWp d zi_78 none 68 [l0, .int l1, l2] [] h Q = zWp d zi_78 none 69 [l0, .int l1, l2] [.int l1] h Q) ∧
    (∀ (d : Nat) (l0 : Value) (l1 : Value) (l2 : Value) (x0 : Int32) (h : zMm) (Q : Option Value → zMm → Prop), zWp d zi_78 none 69 [l0, l1, l2] [.int x0] h Q = if x0 = 0 then zWp d zi_78 none 72 [l0, l1, l2] [] h Q else zWp d zi_78 none 80 [l0, l1, l2] [] h Q) ∧
    (∀ (d : Nat) (l0 : Nat) (l1 : Value) (l2 : Value)  (h : zMm) (Q : Option Value → zMm → Prop), zWp d zi_78 none 72 [.ref l0, l1, l2] [] h Q = zWp d zi_78 none 73 [.ref l0, l1, l2] [.ref l0] h Q) ∧
    (∀ (d : Nat) (l0 : Value) (l1 : Value) (l2 : Int32) (x0 : Nat) (h : zMm) (Q : Option Value → zMm → Prop), zWp d zi_78 none 73 [l0, l1, .int l2] [.ref x0] h Q = zWp d zi_78 none 74 [l0, l1, .int l2] [.int l2, .ref x0] h Q) ∧
    (∀ (d : Nat) (l0 : Value) (l1 : Value) (l2 : Value) (x1 : Int32) (x0 : Nat) (I : Nat → Nat → Int32) (L : Nat → Nat → Int64) (P : Nat → Nat → Option Nat) (Q : Option Value → zMm → Prop), zSH[x0]? = some (.inl 9) → zWp d zi_78 none 74 [l0, l1, l2] [.int x1, .ref x0] (zSH, I, L, P) Q = zWM d 81 [.ref x0, .int x1] (zSH, I, L, P) (fun r h1 => zWp d zi_78 none 77 [l0, l1, l2] (r.toList ++ []) h1 Q)) ∧
    (∀ (d : Nat) (l0 : Value) (l1 : Value) (l2 : Value) (x0 : Int32) (h : zMm) (Q : Option Value → zMm → Prop), zWp d zi_78 none 77 [l0, l1, l2] [.int x0] h Q = zWp d zi_78 none 82 [l0, l1, l2] [.int x0] h Q) ∧
    (∀ (d : Nat) (l0 : Value) (l1 : Value) (l2 : Value)  (h : zMm) (Q : Option Value → zMm → Prop), zWp d zi_78 none 80 [l0, l1, l2] [] h Q = zWp d zi_78 none 82 [l0, l1, l2] [.int (-2000000000)] h Q) ∧
    (∀ (d : Nat) (l0 : Value) (l1 : Value) (l2 : Value) (x0 : Int32) (h : zMm) (Q : Option Value → zMm → Prop), zWp d zi_78 none 82 [l0, l1, l2] [.int x0] h Q = Q (some (.int x0)) h) :=
  ⟨(fun d l0 l1 l2  h Q => zr_iload_n rfl rfl),
   (fun d l0 l1 l2 x0 h Q => zr_if_lt rfl (by decide)),
   (fun d l0 l1 l2  h Q => zr_iload_n rfl rfl),
   (fun d l0 l1 l2 x0 h Q => zr_bipush rfl (by decide)),
   (fun d l0 l1 l2 x1 x0 h Q => zr_ic_gt rfl (by decide)),
   (fun d l0 l1 l2  h Q => zr_aload_n rfl rfl),
   (fun d l0 l1 l2 x0 I L P Q p0 => zr_getQ rfl lf_9_10 (fun _ _ _ => rfl) p0),
   (fun d l0 l1 l2 x0 h Q => zr_iload_n rfl rfl),
   (fun d l0 l1 l2 x1 x0 I L P Q p0 => zr_vir (as := [.int x1]) (rest := []) rfl lm_9_161 m_59 kd_59 rfl (Nat.le_of_ble_eq_true rfl) p0),
   (fun d l0 l1 l2 x0 h Q => zr_if_eq rfl (by decide)),
   (fun d l0 l1 l2  h Q => zr_aload_n rfl rfl),
   (fun d l0 l1 l2 x0 h Q => zr_iload_n rfl rfl),
   (fun d l0 l1 l2 x1 x0 h Q => zr_iload_n rfl rfl),
   (fun d l0 l1 l2 x2 x1 x0 I L P Q p0 => zr_vir (as := [.int x2, .int x1]) (rest := []) rfl lm_9_164 m_79 kd_79 rfl (Nat.le_of_ble_eq_true rfl) p0),
   (fun d l0 l1 l2 x0 h Q => zr_goto rfl (by decide)),
   (fun d l0 l1 l2  h Q => zr_ldc rfl lk_9_151),
   (fun d l0 l1 l2 x0 h Q => zr_iret rfl rfl),
   (fun d l0 l1 l2  h Q => zr_iload_n rfl rfl),
   (fun d l0 l1 l2 x0 h Q => zr_bipush rfl (by decide)),
   (fun d l0 l1 l2 x1 x0 h Q => zr_ic_lt rfl (by decide)),
   (fun d l0 l1 l2  h Q => zr_iload_n rfl rfl),
   (fun d l0 l1 l2 x0 h Q => zr_bipush rfl (by decide)),
   (fun d l0 l1 l2 x1 x0 h Q => zr_ic_gt rfl (by decide)),
   (fun d l0 l1 l2  h Q => zr_aload_n rfl rfl),
   (fun d l0 l1 l2 x0 I L P Q p0 => zr_getQ rfl lf_9_22 (fun _ _ _ => rfl) p0),
   (fun d l0 l1 l2 x0 h Q => zr_iload_n rfl rfl),
   (fun d l0 l1 l2 x1 x0 I L P Q p0 => zr_vir (as := [.int x1]) (rest := []) rfl lm_9_167 m_22 kd_22 rfl (Nat.le_of_ble_eq_true rfl) p0),
   (fun d l0 l1 l2 x0 h Q => zr_if_eq rfl (by decide)),
   (fun d l0 l1 l2  h Q => zr_aload_n rfl rfl),
   (fun d l0 l1 l2 x0 h Q => zr_iload_n rfl rfl),
   (fun d l0 l1 l2 x1 x0 h Q => zr_iload_n rfl rfl),
   (fun d l0 l1 l2 x2 x1 x0 I L P Q p0 => zr_vir (as := [.int x2, .int x1]) (rest := []) rfl lm_9_168 m_80 kd_80 rfl (Nat.le_of_ble_eq_true rfl) p0),
   (fun d l0 l1 l2 x0 h Q => zr_goto rfl (by decide)),
   (fun d l0 l1 l2  h Q => zr_ldc rfl lk_9_151),
   (fun d l0 l1 l2 x0 h Q => zr_iret rfl rfl),
   (fun d l0 l1 l2  h Q => zr_iload_n rfl rfl),
   (fun d l0 l1 l2 x0 h Q => zr_if_ne rfl (by decide)),
   (fun d l0 l1 l2  h Q => zr_aload_n rfl rfl),
   (fun d l0 l1 l2 x0 h Q => zr_iload_n rfl rfl),
   (fun d l0 l1 l2 x1 x0 I L P Q p0 => zr_vir (as := [.int x1]) (rest := []) rfl lm_9_171 m_81 kd_81 rfl (Nat.le_of_ble_eq_true rfl) p0),
   (fun d l0 l1 l2 x0 h Q => zr_goto rfl (by decide)),
   (fun d l0 l1 l2  h Q => zr_ldc rfl lk_9_151),
   (fun d l0 l1 l2 x0 h Q => zr_iret rfl rfl)⟩
theorem E_X9_ofRound : ∀ (d : Nat) (a0 : Nat) (a1 : Int32) (a2 : Int32) (h : zMm) (Q : Option Value → zMm → Prop), zWM (d + 1) 79 [.ref a0, .int a1, .int a2] h Q = zWp d zi_79 none 0 [.ref a0, .int a1, .int a2] [] h Q := fun d a0 a1 a2 h Q => zW_M m_79 (Nat.le_of_ble_eq_true rfl) rfl
set_option maxRecDepth 100000 in
theorem R_X9_ofRound :
    (∀ (d : Nat) (l0 : Value) (l1 : Value) (l2 : Int32)  (h : zMm) (Q : Option Value → zMm → Prop), zWp d zi_79 none 0 [l0, l1, .int l2] [] h Q = zWp d zi_79 none 1 [l0, l1, .int l2] [.int l2] h Q) ∧
    (∀ (d : Nat) (l0 : Value) (l1 : Value) (l2 : Value) (x0 : Int32) (h : zMm) (Q : Option Value → zMm → Prop), zWp d zi_79 none 1 [l0, l1, l2] [.int x0] h Q = if x0 = 0 then zWp d zi_79 none 40 [l0, l1, l2] [] h Q else if x0 = 1 then zWp d zi_79 none 52 [l0, l1, l2] [] h Q else if x0 = 2 then zWp d zi_79 none 64 [l0, l1, l2] [] h Q else if x0 = 3 then zWp d zi_79 none 74 [l0, l1, l2] [] h Q else if x0 = 4 then zWp d zi_79 none 84 [l0, l1, l2] [] h Q else if x0 = 5 then zWp d zi_79 none 96 [l0, l1, l2] [] h Q else zWp d zi_79 none 108 [l0, l1, l2] [] h Q) ∧
    (∀ (d : Nat) (l0 : Nat) (l1 : Value) (l2 : Value)  (h : zMm) (Q : Option Value → zMm → Prop), zWp d zi_79 none 40 [.ref l0, l1, l2] [] h Q = zWp d zi_79 none 41 [.ref l0, l1, l2] [.ref l0] h Q) ∧
    (∀ (d : Nat) (l0 : Value) (l1 : Value) (l2 : Value) (x0 : Nat) (I : Nat → Nat → Int32) (L : Nat → Nat → Int64) (P : Nat → Nat → Option Nat) (Q : Option Value → zMm → Prop), zSH[x0]? = some (.inl 9) → zWp d zi_79 none 41 [l0, l1, l2] [.ref x0] (zSH, I, L, P) Q = zWp d zi_79 none 44 [l0, l1, l2] [va_rf (P x0 0)] (zSH, I, L, P) Q) ∧
    (∀ (d : Nat) (l0 : Value) (l1 : Value) (l2 : Value) (x0 : Nat) (I : Nat → Nat → Int32) (L : Nat → Nat → Int64) (P : Nat → Nat → Option Nat) (Q : Option Value → zMm → Prop), zSH[x0]? = some (.inl 8) → zWp d zi_79 none 44 [l0, l1, l2] [.ref x0] (zSH, I, L, P) Q = zWp d zi_79 none 47 [l0, l1, l2] [va_rf (P x0 2)] (zSH, I, L, P) Q) ∧
    (∀ (d : Nat) (l0 : Value) (l1 : Value) (l2 : Value) (x0 : Nat) (h : zMm) (Q : Option Value → zMm → Prop), zWp d zi_79 none 47 [l0, l1, l2] [.ref x0] h Q = zWp d zi_79 none 48 [l0, l1, l2] [.int 0, .ref x0] h Q) ∧
    (∀ (d : Nat) (l0 : Value) (l1 : Value) (l2 : Value) (x1 : Int32) (x0 : Nat) (I : Nat → Nat → Int32) (L : Nat → Nat → Int64) (P : Nat → Nat → Option Nat) (Q : Option Value → zMm → Prop), zAk zSH x0 = some (.array .int) → zWp d zi_79 none 48 [l0, l1, l2] [.int x1, .ref x0] (zSH, I, L, P) Q = (vp_in x1 (zAn zSH x0) ∧ zWp d zi_79 none 49 [l0, l1, l2] [va_rf (P x0 x1.toNatClampNeg)] (zSH, I, L, P) Q)) ∧
    (∀ (d : Nat) (l0 : Value) (l1 : Int32) (l2 : Value) (x0 : Nat) (h : zMm) (Q : Option Value → zMm → Prop), zWp d zi_79 none 49 [l0, .int l1, l2] [.ref x0] h Q = zWp d zi_79 none 50 [l0, .int l1, l2] [.int l1, .ref x0] h Q) ∧
    (∀ (d : Nat) (l0 : Value) (l1 : Value) (l2 : Value) (x1 : Int32) (x0 : Nat) (I : Nat → Nat → Int32) (L : Nat → Nat → Int64) (P : Nat → Nat → Option Nat) (Q : Option Value → zMm → Prop), zAk zSH x0 = some .int → zWp d zi_79 none 50 [l0, l1, l2] [.int x1, .ref x0] (zSH, I, L, P) Q = (vp_in x1 (zAn zSH x0) ∧ zWp d zi_79 none 51 [l0, l1, l2] [.int (I x0 x1.toNatClampNeg)] (zSH, I, L, P) Q)) ∧
    (∀ (d : Nat) (l0 : Value) (l1 : Value) (l2 : Value) (x0 : Int32) (h : zMm) (Q : Option Value → zMm → Prop), zWp d zi_79 none 51 [l0, l1, l2] [.int x0] h Q = Q (some (.int x0)) h) ∧
    (∀ (d : Nat) (l0 : Nat) (l1 : Value) (l2 : Value)  (h : zMm) (Q : Option Value → zMm → Prop), zWp d zi_79 none 52 [.ref l0, l1, l2] [] h Q = zWp d zi_79 none 53 [.ref l0, l1, l2] [.ref l0] h Q) ∧
    (∀ (d : Nat) (l0 : Value) (l1 : Value) (l2 : Value) (x0 : Nat) (I : Nat → Nat → Int32) (L : Nat → Nat → Int64) (P : Nat → Nat → Option Nat) (Q : Option Value → zMm → Prop), zSH[x0]? = some (.inl 9) → zWp d zi_79 none 53 [l0, l1, l2] [.ref x0] (zSH, I, L, P) Q = zWp d zi_79 none 56 [l0, l1, l2] [va_rf (P x0 0)] (zSH, I, L, P) Q) ∧
    (∀ (d : Nat) (l0 : Value) (l1 : Value) (l2 : Value) (x0 : Nat) (I : Nat → Nat → Int32) (L : Nat → Nat → Int64) (P : Nat → Nat → Option Nat) (Q : Option Value → zMm → Prop), zSH[x0]? = some (.inl 8) → zWp d zi_79 none 56 [l0, l1, l2] [.ref x0] (zSH, I, L, P) Q = zWp d zi_79 none 59 [l0, l1, l2] [va_rf (P x0 2)] (zSH, I, L, P) Q) ∧
    (∀ (d : Nat) (l0 : Value) (l1 : Value) (l2 : Value) (x0 : Nat) (h : zMm) (Q : Option Value → zMm → Prop), zWp d zi_79 none 59 [l0, l1, l2] [.ref x0] h Q = zWp d zi_79 none 60 [l0, l1, l2] [.int 1, .ref x0] h Q) ∧
    (∀ (d : Nat) (l0 : Value) (l1 : Value) (l2 : Value) (x1 : Int32) (x0 : Nat) (I : Nat → Nat → Int32) (L : Nat → Nat → Int64) (P : Nat → Nat → Option Nat) (Q : Option Value → zMm → Prop), zAk zSH x0 = some (.array .int) → zWp d zi_79 none 60 [l0, l1, l2] [.int x1, .ref x0] (zSH, I, L, P) Q = (vp_in x1 (zAn zSH x0) ∧ zWp d zi_79 none 61 [l0, l1, l2] [va_rf (P x0 x1.toNatClampNeg)] (zSH, I, L, P) Q)) ∧
    (∀ (d : Nat) (l0 : Value) (l1 : Int32) (l2 : Value) (x0 : Nat) (h : zMm) (Q : Option Value → zMm → Prop), zWp d zi_79 none 61 [l0, .int l1, l2] [.ref x0] h Q = zWp d zi_79 none 62 [l0, .int l1, l2] [.int l1, .ref x0] h Q) ∧
    (∀ (d : Nat) (l0 : Value) (l1 : Value) (l2 : Value) (x1 : Int32) (x0 : Nat) (I : Nat → Nat → Int32) (L : Nat → Nat → Int64) (P : Nat → Nat → Option Nat) (Q : Option Value → zMm → Prop), zAk zSH x0 = some .int → zWp d zi_79 none 62 [l0, l1, l2] [.int x1, .ref x0] (zSH, I, L, P) Q = (vp_in x1 (zAn zSH x0) ∧ zWp d zi_79 none 63 [l0, l1, l2] [.int (I x0 x1.toNatClampNeg)] (zSH, I, L, P) Q)) ∧
    (∀ (d : Nat) (l0 : Value) (l1 : Value) (l2 : Value) (x0 : Int32) (h : zMm) (Q : Option Value → zMm → Prop), zWp d zi_79 none 63 [l0, l1, l2] [.int x0] h Q = Q (some (.int x0)) h) ∧
    (∀ (d : Nat) (l0 : Nat) (l1 : Value) (l2 : Value)  (h : zMm) (Q : Option Value → zMm → Prop), zWp d zi_79 none 64 [.ref l0, l1, l2] [] h Q = zWp d zi_79 none 65 [.ref l0, l1, l2] [.ref l0] h Q) ∧
    (∀ (d : Nat) (l0 : Value) (l1 : Value) (l2 : Value) (x0 : Nat) (I : Nat → Nat → Int32) (L : Nat → Nat → Int64) (P : Nat → Nat → Option Nat) (Q : Option Value → zMm → Prop), zSH[x0]? = some (.inl 9) → zWp d zi_79 none 65 [l0, l1, l2] [.ref x0] (zSH, I, L, P) Q = zWp d zi_79 none 68 [l0, l1, l2] [va_rf (P x0 0)] (zSH, I, L, P) Q) ∧
    (∀ (d : Nat) (l0 : Value) (l1 : Value) (l2 : Value) (x0 : Nat) (I : Nat → Nat → Int32) (L : Nat → Nat → Int64) (P : Nat → Nat → Option Nat) (Q : Option Value → zMm → Prop), zSH[x0]? = some (.inl 8) → zWp d zi_79 none 68 [l0, l1, l2] [.ref x0] (zSH, I, L, P) Q = zWp d zi_79 none 71 [l0, l1, l2] [va_rf (P x0 1)] (zSH, I, L, P) Q) ∧
    (∀ (d : Nat) (l0 : Value) (l1 : Int32) (l2 : Value) (x0 : Nat) (h : zMm) (Q : Option Value → zMm → Prop), zWp d zi_79 none 71 [l0, .int l1, l2] [.ref x0] h Q = zWp d zi_79 none 72 [l0, .int l1, l2] [.int l1, .ref x0] h Q) ∧
    (∀ (d : Nat) (l0 : Value) (l1 : Value) (l2 : Value) (x1 : Int32) (x0 : Nat) (I : Nat → Nat → Int32) (L : Nat → Nat → Int64) (P : Nat → Nat → Option Nat) (Q : Option Value → zMm → Prop), zAk zSH x0 = some .int → zWp d zi_79 none 72 [l0, l1, l2] [.int x1, .ref x0] (zSH, I, L, P) Q = (vp_in x1 (zAn zSH x0) ∧ zWp d zi_79 none 73 [l0, l1, l2] [.int (I x0 x1.toNatClampNeg)] (zSH, I, L, P) Q)) ∧
    (∀ (d : Nat) (l0 : Value) (l1 : Value) (l2 : Value) (x0 : Int32) (h : zMm) (Q : Option Value → zMm → Prop), zWp d zi_79 none 73 [l0, l1, l2] [.int x0] h Q = Q (some (.int x0)) h) ∧
    (∀ (d : Nat) (l0 : Nat) (l1 : Value) (l2 : Value)  (h : zMm) (Q : Option Value → zMm → Prop), zWp d zi_79 none 74 [.ref l0, l1, l2] [] h Q = zWp d zi_79 none 75 [.ref l0, l1, l2] [.ref l0] h Q) ∧
    (∀ (d : Nat) (l0 : Value) (l1 : Value) (l2 : Value) (x0 : Nat) (I : Nat → Nat → Int32) (L : Nat → Nat → Int64) (P : Nat → Nat → Option Nat) (Q : Option Value → zMm → Prop), zSH[x0]? = some (.inl 9) → zWp d zi_79 none 75 [l0, l1, l2] [.ref x0] (zSH, I, L, P) Q = zWp d zi_79 none 78 [l0, l1, l2] [va_rf (P x0 0)] (zSH, I, L, P) Q) ∧
    (∀ (d : Nat) (l0 : Value) (l1 : Value) (l2 : Value) (x0 : Nat) (I : Nat → Nat → Int32) (L : Nat → Nat → Int64) (P : Nat → Nat → Option Nat) (Q : Option Value → zMm → Prop), zSH[x0]? = some (.inl 8) → zWp d zi_79 none 78 [l0, l1, l2] [.ref x0] (zSH, I, L, P) Q = zWp d zi_79 none 81 [l0, l1, l2] [va_rf (P x0 0)] (zSH, I, L, P) Q) ∧
    (∀ (d : Nat) (l0 : Value) (l1 : Int32) (l2 : Value) (x0 : Nat) (h : zMm) (Q : Option Value → zMm → Prop), zWp d zi_79 none 81 [l0, .int l1, l2] [.ref x0] h Q = zWp d zi_79 none 82 [l0, .int l1, l2] [.int l1, .ref x0] h Q) ∧
    (∀ (d : Nat) (l0 : Value) (l1 : Value) (l2 : Value) (x1 : Int32) (x0 : Nat) (I : Nat → Nat → Int32) (L : Nat → Nat → Int64) (P : Nat → Nat → Option Nat) (Q : Option Value → zMm → Prop), zAk zSH x0 = some .int → zWp d zi_79 none 82 [l0, l1, l2] [.int x1, .ref x0] (zSH, I, L, P) Q = (vp_in x1 (zAn zSH x0) ∧ zWp d zi_79 none 83 [l0, l1, l2] [.int (I x0 x1.toNatClampNeg)] (zSH, I, L, P) Q)) ∧
    (∀ (d : Nat) (l0 : Value) (l1 : Value) (l2 : Value) (x0 : Int32) (h : zMm) (Q : Option Value → zMm → Prop), zWp d zi_79 none 83 [l0, l1, l2] [.int x0] h Q = Q (some (.int x0)) h) ∧
    (∀ (d : Nat) (l0 : Nat) (l1 : Value) (l2 : Value)  (h : zMm) (Q : Option Value → zMm → Prop), zWp d zi_79 none 84 [.ref l0, l1, l2] [] h Q = zWp d zi_79 none 85 [.ref l0, l1, l2] [.ref l0] h Q) ∧
    (∀ (d : Nat) (l0 : Value) (l1 : Value) (l2 : Value) (x0 : Nat) (I : Nat → Nat → Int32) (L : Nat → Nat → Int64) (P : Nat → Nat → Option Nat) (Q : Option Value → zMm → Prop), zSH[x0]? = some (.inl 9) → zWp d zi_79 none 85 [l0, l1, l2] [.ref x0] (zSH, I, L, P) Q = zWp d zi_79 none 88 [l0, l1, l2] [va_rf (P x0 0)] (zSH, I, L, P) Q) ∧
    (∀ (d : Nat) (l0 : Value) (l1 : Value) (l2 : Value) (x0 : Nat) (I : Nat → Nat → Int32) (L : Nat → Nat → Int64) (P : Nat → Nat → Option Nat) (Q : Option Value → zMm → Prop), zSH[x0]? = some (.inl 8) → zWp d zi_79 none 88 [l0, l1, l2] [.ref x0] (zSH, I, L, P) Q = zWp d zi_79 none 91 [l0, l1, l2] [va_rf (P x0 3)] (zSH, I, L, P) Q) ∧
    (∀ (d : Nat) (l0 : Value) (l1 : Value) (l2 : Value) (x0 : Nat) (h : zMm) (Q : Option Value → zMm → Prop), zWp d zi_79 none 91 [l0, l1, l2] [.ref x0] h Q = zWp d zi_79 none 92 [l0, l1, l2] [.int 0, .ref x0] h Q) ∧
    (∀ (d : Nat) (l0 : Value) (l1 : Value) (l2 : Value) (x1 : Int32) (x0 : Nat) (I : Nat → Nat → Int32) (L : Nat → Nat → Int64) (P : Nat → Nat → Option Nat) (Q : Option Value → zMm → Prop), zAk zSH x0 = some (.array .int) → zWp d zi_79 none 92 [l0, l1, l2] [.int x1, .ref x0] (zSH, I, L, P) Q = (vp_in x1 (zAn zSH x0) ∧ zWp d zi_79 none 93 [l0, l1, l2] [va_rf (P x0 x1.toNatClampNeg)] (zSH, I, L, P) Q)) ∧
    (∀ (d : Nat) (l0 : Value) (l1 : Int32) (l2 : Value) (x0 : Nat) (h : zMm) (Q : Option Value → zMm → Prop), zWp d zi_79 none 93 [l0, .int l1, l2] [.ref x0] h Q = zWp d zi_79 none 94 [l0, .int l1, l2] [.int l1, .ref x0] h Q) ∧
    (∀ (d : Nat) (l0 : Value) (l1 : Value) (l2 : Value) (x1 : Int32) (x0 : Nat) (I : Nat → Nat → Int32) (L : Nat → Nat → Int64) (P : Nat → Nat → Option Nat) (Q : Option Value → zMm → Prop), zAk zSH x0 = some .int → zWp d zi_79 none 94 [l0, l1, l2] [.int x1, .ref x0] (zSH, I, L, P) Q = (vp_in x1 (zAn zSH x0) ∧ zWp d zi_79 none 95 [l0, l1, l2] [.int (I x0 x1.toNatClampNeg)] (zSH, I, L, P) Q)) ∧
    (∀ (d : Nat) (l0 : Value) (l1 : Value) (l2 : Value) (x0 : Int32) (h : zMm) (Q : Option Value → zMm → Prop), zWp d zi_79 none 95 [l0, l1, l2] [.int x0] h Q = Q (some (.int x0)) h) ∧
    (∀ (d : Nat) (l0 : Nat) (l1 : Value) (l2 : Value)  (h : zMm) (Q : Option Value → zMm → Prop), zWp d zi_79 none 96 [.ref l0, l1, l2] [] h Q = zWp d zi_79 none 97 [.ref l0, l1, l2] [.ref l0] h Q) ∧
    (∀ (d : Nat) (l0 : Value) (l1 : Value) (l2 : Value) (x0 : Nat) (I : Nat → Nat → Int32) (L : Nat → Nat → Int64) (P : Nat → Nat → Option Nat) (Q : Option Value → zMm → Prop), zSH[x0]? = some (.inl 9) → zWp d zi_79 none 97 [l0, l1, l2] [.ref x0] (zSH, I, L, P) Q = zWp d zi_79 none 100 [l0, l1, l2] [va_rf (P x0 0)] (zSH, I, L, P) Q) ∧
    (∀ (d : Nat) (l0 : Value) (l1 : Value) (l2 : Value) (x0 : Nat) (I : Nat → Nat → Int32) (L : Nat → Nat → Int64) (P : Nat → Nat → Option Nat) (Q : Option Value → zMm → Prop), zSH[x0]? = some (.inl 8) → zWp d zi_79 none 100 [l0, l1, l2] [.ref x0] (zSH, I, L, P) Q = zWp d zi_79 none 103 [l0, l1, l2] [va_rf (P x0 3)] (zSH, I, L, P) Q) ∧
    (∀ (d : Nat) (l0 : Value) (l1 : Value) (l2 : Value) (x0 : Nat) (h : zMm) (Q : Option Value → zMm → Prop), zWp d zi_79 none 103 [l0, l1, l2] [.ref x0] h Q = zWp d zi_79 none 104 [l0, l1, l2] [.int 1, .ref x0] h Q) ∧
    (∀ (d : Nat) (l0 : Value) (l1 : Value) (l2 : Value) (x1 : Int32) (x0 : Nat) (I : Nat → Nat → Int32) (L : Nat → Nat → Int64) (P : Nat → Nat → Option Nat) (Q : Option Value → zMm → Prop), zAk zSH x0 = some (.array .int) → zWp d zi_79 none 104 [l0, l1, l2] [.int x1, .ref x0] (zSH, I, L, P) Q = (vp_in x1 (zAn zSH x0) ∧ zWp d zi_79 none 105 [l0, l1, l2] [va_rf (P x0 x1.toNatClampNeg)] (zSH, I, L, P) Q)) ∧
    (∀ (d : Nat) (l0 : Value) (l1 : Int32) (l2 : Value) (x0 : Nat) (h : zMm) (Q : Option Value → zMm → Prop), zWp d zi_79 none 105 [l0, .int l1, l2] [.ref x0] h Q = zWp d zi_79 none 106 [l0, .int l1, l2] [.int l1, .ref x0] h Q) ∧
    (∀ (d : Nat) (l0 : Value) (l1 : Value) (l2 : Value) (x1 : Int32) (x0 : Nat) (I : Nat → Nat → Int32) (L : Nat → Nat → Int64) (P : Nat → Nat → Option Nat) (Q : Option Value → zMm → Prop), zAk zSH x0 = some .int → zWp d zi_79 none 106 [l0, l1, l2] [.int x1, .ref x0] (zSH, I, L, P) Q = (vp_in x1 (zAn zSH x0) ∧ zWp d zi_79 none 107 [l0, l1, l2] [.int (I x0 x1.toNatClampNeg)] (zSH, I, L, P) Q)) ∧
    (∀ (d : Nat) (l0 : Value) (l1 : Value) (l2 : Value) (x0 : Int32) (h : zMm) (Q : Option Value → zMm → Prop), zWp d zi_79 none 107 [l0, l1, l2] [.int x0] h Q = Q (some (.int x0)) h) ∧
    (∀ (d : Nat) (l0 : Nat) (l1 : Value) (l2 : Value)  (h : zMm) (Q : Option Value → zMm → Prop), zWp d zi_79 none 108 [.ref l0, l1, l2] [] h Q = zWp d zi_79 none 109 [.ref l0, l1, l2] [.ref l0] h Q) ∧
    (∀ (d : Nat) (l0 : Value) (l1 : Value) (l2 : Value) (x0 : Nat) (I : Nat → Nat → Int32) (L : Nat → Nat → Int64) (P : Nat → Nat → Option Nat) (Q : Option Value → zMm → Prop), zSH[x0]? = some (.inl 9) → zWp d zi_79 none 109 [l0, l1, l2] [.ref x0] (zSH, I, L, P) Q = zWp d zi_79 none 112 [l0, l1, l2] [va_rf (P x0 0)] (zSH, I, L, P) Q) ∧
    (∀ (d : Nat) (l0 : Value) (l1 : Int32) (l2 : Value) (x0 : Nat) (h : zMm) (Q : Option Value → zMm → Prop), zWp d zi_79 none 112 [l0, .int l1, l2] [.ref x0] h Q = zWp d zi_79 none 113 [l0, .int l1, l2] [.int l1, .ref x0] h Q) ∧
    (∀ (d : Nat) (l0 : Nat) (l1 : Value) (l2 : Value) (x1 : Int32) (x0 : Nat) (h : zMm) (Q : Option Value → zMm → Prop), zWp d zi_79 none 113 [.ref l0, l1, l2] [.int x1, .ref x0] h Q = zWp d zi_79 none 114 [.ref l0, l1, l2] [.ref l0, .int x1, .ref x0] h Q) ∧
    (∀ (d : Nat) (l0 : Value) (l1 : Value) (l2 : Value) (x2 : Nat) (x1 : Int32) (x0 : Nat) (I : Nat → Nat → Int32) (L : Nat → Nat → Int64) (P : Nat → Nat → Option Nat) (Q : Option Value → zMm → Prop), zSH[x2]? = some (.inl 9) → zWp d zi_79 none 114 [l0, l1, l2] [.ref x2, .int x1, .ref x0] (zSH, I, L, P) Q = zWp d zi_79 none 117 [l0, l1, l2] [.int (I x2 14), .int x1, .ref x0] (zSH, I, L, P) Q) ∧
    (∀ (d : Nat) (l0 : Nat) (l1 : Value) (l2 : Value) (x2 : Int32) (x1 : Int32) (x0 : Nat) (h : zMm) (Q : Option Value → zMm → Prop), zWp d zi_79 none 117 [.ref l0, l1, l2] [.int x2, .int x1, .ref x0] h Q = zWp d zi_79 none 118 [.ref l0, l1, l2] [.ref l0, .int x2, .int x1, .ref x0] h Q) ∧
    (∀ (d : Nat) (l0 : Value) (l1 : Value) (l2 : Value) (x3 : Nat) (x2 : Int32) (x1 : Int32) (x0 : Nat) (I : Nat → Nat → Int32) (L : Nat → Nat → Int64) (P : Nat → Nat → Option Nat) (Q : Option Value → zMm → Prop), zSH[x3]? = some (.inl 9) → zWp d zi_79 none 118 [l0, l1, l2] [.ref x3, .int x2, .int x1, .ref x0] (zSH, I, L, P) Q = zWp d zi_79 none 121 [l0, l1, l2] [.int (I x3 15), .int x2, .int x1, .ref x0] (zSH, I, L, P) Q) ∧
    (∀ (d : Nat) (l0 : Value) (l1 : Value) (l2 : Value) (x3 : Int32) (x2 : Int32) (x1 : Int32) (x0 : Nat) (I : Nat → Nat → Int32) (L : Nat → Nat → Int64) (P : Nat → Nat → Option Nat) (Q : Option Value → zMm → Prop), zSH[x0]? = some (.inl 8) → zWp d zi_79 none 121 [l0, l1, l2] [.int x3, .int x2, .int x1, .ref x0] (zSH, I, L, P) Q = zWM d 68 [.ref x0, .int x1, .int x2, .int x3] (zSH, I, L, P) (fun r h1 => zWp d zi_79 none 124 [l0, l1, l2] (r.toList ++ []) h1 Q)) ∧
    (∀ (d : Nat) (l0 : Value) (l1 : Value) (l2 : Value) (x0 : Int32) (h : zMm) (Q : Option Value → zMm → Prop), zWp d zi_79 none 124 [l0, l1, l2] [.int x0] h Q = if x0 = 0 then zWp d zi_79 none 131 [l0, l1, l2] [] h Q else zWp d zi_79 none 127 [l0, l1, l2] [] h Q) ∧
    (∀ (d : Nat) (l0 : Value) (l1 : Value) (l2 : Value)  (h : zMm) (Q : Option Value → zMm → Prop), zWp d zi_79 none 127 [l0, l1, l2] [] h Q = zWp d zi_79 none 128 [l0, l1, l2] [.int 1] h Q) ∧
    (∀ (d : Nat) (l0 : Value) (l1 : Value) (l2 : Value) (x0 : Int32) (h : zMm) (Q : Option Value → zMm → Prop), zWp d zi_79 none 128 [l0, l1, l2] [.int x0] h Q = zWp d zi_79 none 132 [l0, l1, l2] [.int x0] h Q) ∧
    (∀ (d : Nat) (l0 : Value) (l1 : Value) (l2 : Value)  (h : zMm) (Q : Option Value → zMm → Prop), zWp d zi_79 none 131 [l0, l1, l2] [] h Q = zWp d zi_79 none 132 [l0, l1, l2] [.int 0] h Q) ∧
    (∀ (d : Nat) (l0 : Value) (l1 : Value) (l2 : Value) (x0 : Int32) (h : zMm) (Q : Option Value → zMm → Prop), zWp d zi_79 none 132 [l0, l1, l2] [.int x0] h Q = Q (some (.int x0)) h) :=
  ⟨(fun d l0 l1 l2  h Q => zr_iload_n rfl rfl),
   (fun d l0 l1 l2 x0 h Q => by
      by_cases e0 : x0 = 0
      · subst e0; rw [if_pos rfl]; exact zr_tabI rfl (by decide) rfl (by decide)
      rw [if_neg e0]
      have n0 : ¬ x0.toInt = 0 := fun z => e0 (Int32.toInt_inj.mp z)
      by_cases e1 : x0 = 1
      · subst e1; rw [if_pos rfl]; exact zr_tabI rfl (by decide) rfl (by decide)
      rw [if_neg e1]
      have n1 : ¬ x0.toInt = 1 := fun z => e1 (Int32.toInt_inj.mp z)
      by_cases e2 : x0 = 2
      · subst e2; rw [if_pos rfl]; exact zr_tabI rfl (by decide) rfl (by decide)
      rw [if_neg e2]
      have n2 : ¬ x0.toInt = 2 := fun z => e2 (Int32.toInt_inj.mp z)
      by_cases e3 : x0 = 3
      · subst e3; rw [if_pos rfl]; exact zr_tabI rfl (by decide) rfl (by decide)
      rw [if_neg e3]
      have n3 : ¬ x0.toInt = 3 := fun z => e3 (Int32.toInt_inj.mp z)
      by_cases e4 : x0 = 4
      · subst e4; rw [if_pos rfl]; exact zr_tabI rfl (by decide) rfl (by decide)
      rw [if_neg e4]
      have n4 : ¬ x0.toInt = 4 := fun z => e4 (Int32.toInt_inj.mp z)
      by_cases e5 : x0 = 5
      · subst e5; rw [if_pos rfl]; exact zr_tabI rfl (by decide) rfl (by decide)
      rw [if_neg e5]
      have n5 : ¬ x0.toInt = 5 := fun z => e5 (Int32.toInt_inj.mp z)
      exact zr_tabD rfl (by omega) (by decide)),
   (fun d l0 l1 l2  h Q => zr_aload_n rfl rfl),
   (fun d l0 l1 l2 x0 I L P Q p0 => zr_getQ rfl lf_9_10 (fun _ _ _ => rfl) p0),
   (fun d l0 l1 l2 x0 I L P Q p0 => zr_getQ rfl lf_9_175 (fun _ _ _ => rfl) p0),
   (fun d l0 l1 l2 x0 h Q => zr_iconst rfl (by decide)),
   (fun d l0 l1 l2 x1 x0 I L P Q p0 => zr_qldA rfl p0),
   (fun d l0 l1 l2 x0 h Q => zr_iload_n rfl rfl),
   (fun d l0 l1 l2 x1 x0 I L P Q p0 => zr_ald rfl p0),
   (fun d l0 l1 l2 x0 h Q => zr_iret rfl rfl),
   (fun d l0 l1 l2  h Q => zr_aload_n rfl rfl),
   (fun d l0 l1 l2 x0 I L P Q p0 => zr_getQ rfl lf_9_10 (fun _ _ _ => rfl) p0),
   (fun d l0 l1 l2 x0 I L P Q p0 => zr_getQ rfl lf_9_175 (fun _ _ _ => rfl) p0),
   (fun d l0 l1 l2 x0 h Q => zr_iconst rfl (by decide)),
   (fun d l0 l1 l2 x1 x0 I L P Q p0 => zr_qldA rfl p0),
   (fun d l0 l1 l2 x0 h Q => zr_iload_n rfl rfl),
   (fun d l0 l1 l2 x1 x0 I L P Q p0 => zr_ald rfl p0),
   (fun d l0 l1 l2 x0 h Q => zr_iret rfl rfl),
   (fun d l0 l1 l2  h Q => zr_aload_n rfl rfl),
   (fun d l0 l1 l2 x0 I L P Q p0 => zr_getQ rfl lf_9_10 (fun _ _ _ => rfl) p0),
   (fun d l0 l1 l2 x0 I L P Q p0 => zr_getQ rfl lf_9_113 (fun _ _ _ => rfl) p0),
   (fun d l0 l1 l2 x0 h Q => zr_iload_n rfl rfl),
   (fun d l0 l1 l2 x1 x0 I L P Q p0 => zr_ald rfl p0),
   (fun d l0 l1 l2 x0 h Q => zr_iret rfl rfl),
   (fun d l0 l1 l2  h Q => zr_aload_n rfl rfl),
   (fun d l0 l1 l2 x0 I L P Q p0 => zr_getQ rfl lf_9_10 (fun _ _ _ => rfl) p0),
   (fun d l0 l1 l2 x0 I L P Q p0 => zr_getQ rfl lf_9_109 (fun _ _ _ => rfl) p0),
   (fun d l0 l1 l2 x0 h Q => zr_iload_n rfl rfl),
   (fun d l0 l1 l2 x1 x0 I L P Q p0 => zr_ald rfl p0),
   (fun d l0 l1 l2 x0 h Q => zr_iret rfl rfl),
   (fun d l0 l1 l2  h Q => zr_aload_n rfl rfl),
   (fun d l0 l1 l2 x0 I L P Q p0 => zr_getQ rfl lf_9_10 (fun _ _ _ => rfl) p0),
   (fun d l0 l1 l2 x0 I L P Q p0 => zr_getQ rfl lf_9_179 (fun _ _ _ => rfl) p0),
   (fun d l0 l1 l2 x0 h Q => zr_iconst rfl (by decide)),
   (fun d l0 l1 l2 x1 x0 I L P Q p0 => zr_qldA rfl p0),
   (fun d l0 l1 l2 x0 h Q => zr_iload_n rfl rfl),
   (fun d l0 l1 l2 x1 x0 I L P Q p0 => zr_ald rfl p0),
   (fun d l0 l1 l2 x0 h Q => zr_iret rfl rfl),
   (fun d l0 l1 l2  h Q => zr_aload_n rfl rfl),
   (fun d l0 l1 l2 x0 I L P Q p0 => zr_getQ rfl lf_9_10 (fun _ _ _ => rfl) p0),
   (fun d l0 l1 l2 x0 I L P Q p0 => zr_getQ rfl lf_9_179 (fun _ _ _ => rfl) p0),
   (fun d l0 l1 l2 x0 h Q => zr_iconst rfl (by decide)),
   (fun d l0 l1 l2 x1 x0 I L P Q p0 => zr_qldA rfl p0),
   (fun d l0 l1 l2 x0 h Q => zr_iload_n rfl rfl),
   (fun d l0 l1 l2 x1 x0 I L P Q p0 => zr_ald rfl p0),
   (fun d l0 l1 l2 x0 h Q => zr_iret rfl rfl),
   (fun d l0 l1 l2  h Q => zr_aload_n rfl rfl),
   (fun d l0 l1 l2 x0 I L P Q p0 => zr_getQ rfl lf_9_10 (fun _ _ _ => rfl) p0),
   (fun d l0 l1 l2 x0 h Q => zr_iload_n rfl rfl),
   (fun d l0 l1 l2 x1 x0 h Q => zr_aload_n rfl rfl),
   (fun d l0 l1 l2 x2 x1 x0 I L P Q p0 => zr_getI rfl lf_9_182 (fun _ _ _ => rfl) p0),
   (fun d l0 l1 l2 x2 x1 x0 h Q => zr_aload_n rfl rfl),
   (fun d l0 l1 l2 x3 x2 x1 x0 I L P Q p0 => zr_getI rfl lf_9_185 (fun _ _ _ => rfl) p0),
   (fun d l0 l1 l2 x3 x2 x1 x0 I L P Q p0 => zr_vir (as := [.int x3, .int x2, .int x1]) (rest := []) rfl lm_9_188 m_68 kd_68 rfl (Nat.le_of_ble_eq_true rfl) p0),
   (fun d l0 l1 l2 x0 h Q => zr_if_eq rfl (by decide)),
   (fun d l0 l1 l2  h Q => zr_iconst rfl (by decide)),
   (fun d l0 l1 l2 x0 h Q => zr_goto rfl (by decide)),
   (fun d l0 l1 l2  h Q => zr_iconst rfl (by decide)),
   (fun d l0 l1 l2 x0 h Q => zr_iret rfl rfl)⟩
theorem E_X9_ofPane : ∀ (d : Nat) (a0 : Nat) (a1 : Int32) (a2 : Int32) (h : zMm) (Q : Option Value → zMm → Prop), zWM (d + 1) 80 [.ref a0, .int a1, .int a2] h Q = zWp d zi_80 none 0 [.ref a0, .int a1, .int a2] [] h Q := fun d a0 a1 a2 h Q => zW_M m_80 (Nat.le_of_ble_eq_true rfl) rfl
set_option maxRecDepth 100000 in
theorem R_X9_ofPane :
    (∀ (d : Nat) (l0 : Value) (l1 : Value) (l2 : Int32)  (h : zMm) (Q : Option Value → zMm → Prop), zWp d zi_80 none 0 [l0, l1, .int l2] [] h Q = zWp d zi_80 none 1 [l0, l1, .int l2] [.int l2] h Q) ∧
    (∀ (d : Nat) (l0 : Value) (l1 : Value) (l2 : Value) (x0 : Int32) (h : zMm) (Q : Option Value → zMm → Prop), zWp d zi_80 none 1 [l0, l1, l2] [.int x0] h Q = if x0 = 10 then zWp d zi_80 none 28 [l0, l1, l2] [] h Q else if x0 = 11 then zWp d zi_80 none 38 [l0, l1, l2] [] h Q else zWp d zi_80 none 48 [l0, l1, l2] [] h Q) ∧
    (∀ (d : Nat) (l0 : Nat) (l1 : Value) (l2 : Value)  (h : zMm) (Q : Option Value → zMm → Prop), zWp d zi_80 none 28 [.ref l0, l1, l2] [] h Q = zWp d zi_80 none 29 [.ref l0, l1, l2] [.ref l0] h Q) ∧
    (∀ (d : Nat) (l0 : Value) (l1 : Value) (l2 : Value) (x0 : Nat) (I : Nat → Nat → Int32) (L : Nat → Nat → Int64) (P : Nat → Nat → Option Nat) (Q : Option Value → zMm → Prop), zSH[x0]? = some (.inl 9) → zWp d zi_80 none 29 [l0, l1, l2] [.ref x0] (zSH, I, L, P) Q = zWp d zi_80 none 32 [l0, l1, l2] [va_rf (P x0 2)] (zSH, I, L, P) Q) ∧
    (∀ (d : Nat) (l0 : Value) (l1 : Value) (l2 : Value) (x0 : Nat) (I : Nat → Nat → Int32) (L : Nat → Nat → Int64) (P : Nat → Nat → Option Nat) (Q : Option Value → zMm → Prop), zSH[x0]? = some (.inl 3) → zWp d zi_80 none 32 [l0, l1, l2] [.ref x0] (zSH, I, L, P) Q = zWp d zi_80 none 35 [l0, l1, l2] [va_rf (P x0 0)] (zSH, I, L, P) Q) ∧
    (∀ (d : Nat) (l0 : Value) (l1 : Int32) (l2 : Value) (x0 : Nat) (h : zMm) (Q : Option Value → zMm → Prop), zWp d zi_80 none 35 [l0, .int l1, l2] [.ref x0] h Q = zWp d zi_80 none 36 [l0, .int l1, l2] [.int l1, .ref x0] h Q) ∧
    (∀ (d : Nat) (l0 : Value) (l1 : Value) (l2 : Value) (x1 : Int32) (x0 : Nat) (I : Nat → Nat → Int32) (L : Nat → Nat → Int64) (P : Nat → Nat → Option Nat) (Q : Option Value → zMm → Prop), zAk zSH x0 = some .int → zWp d zi_80 none 36 [l0, l1, l2] [.int x1, .ref x0] (zSH, I, L, P) Q = (vp_in x1 (zAn zSH x0) ∧ zWp d zi_80 none 37 [l0, l1, l2] [.int (I x0 x1.toNatClampNeg)] (zSH, I, L, P) Q)) ∧
    (∀ (d : Nat) (l0 : Value) (l1 : Value) (l2 : Value) (x0 : Int32) (h : zMm) (Q : Option Value → zMm → Prop), zWp d zi_80 none 37 [l0, l1, l2] [.int x0] h Q = Q (some (.int x0)) h) ∧
    (∀ (d : Nat) (l0 : Nat) (l1 : Value) (l2 : Value)  (h : zMm) (Q : Option Value → zMm → Prop), zWp d zi_80 none 38 [.ref l0, l1, l2] [] h Q = zWp d zi_80 none 39 [.ref l0, l1, l2] [.ref l0] h Q) ∧
    (∀ (d : Nat) (l0 : Value) (l1 : Value) (l2 : Value) (x0 : Nat) (I : Nat → Nat → Int32) (L : Nat → Nat → Int64) (P : Nat → Nat → Option Nat) (Q : Option Value → zMm → Prop), zSH[x0]? = some (.inl 9) → zWp d zi_80 none 39 [l0, l1, l2] [.ref x0] (zSH, I, L, P) Q = zWp d zi_80 none 42 [l0, l1, l2] [va_rf (P x0 2)] (zSH, I, L, P) Q) ∧
    (∀ (d : Nat) (l0 : Value) (l1 : Value) (l2 : Value) (x0 : Nat) (I : Nat → Nat → Int32) (L : Nat → Nat → Int64) (P : Nat → Nat → Option Nat) (Q : Option Value → zMm → Prop), zSH[x0]? = some (.inl 3) → zWp d zi_80 none 42 [l0, l1, l2] [.ref x0] (zSH, I, L, P) Q = zWp d zi_80 none 45 [l0, l1, l2] [va_rf (P x0 1)] (zSH, I, L, P) Q) ∧
    (∀ (d : Nat) (l0 : Value) (l1 : Int32) (l2 : Value) (x0 : Nat) (h : zMm) (Q : Option Value → zMm → Prop), zWp d zi_80 none 45 [l0, .int l1, l2] [.ref x0] h Q = zWp d zi_80 none 46 [l0, .int l1, l2] [.int l1, .ref x0] h Q) ∧
    (∀ (d : Nat) (l0 : Value) (l1 : Value) (l2 : Value) (x1 : Int32) (x0 : Nat) (I : Nat → Nat → Int32) (L : Nat → Nat → Int64) (P : Nat → Nat → Option Nat) (Q : Option Value → zMm → Prop), zAk zSH x0 = some .int → zWp d zi_80 none 46 [l0, l1, l2] [.int x1, .ref x0] (zSH, I, L, P) Q = (vp_in x1 (zAn zSH x0) ∧ zWp d zi_80 none 47 [l0, l1, l2] [.int (I x0 x1.toNatClampNeg)] (zSH, I, L, P) Q)) ∧
    (∀ (d : Nat) (l0 : Value) (l1 : Value) (l2 : Value) (x0 : Int32) (h : zMm) (Q : Option Value → zMm → Prop), zWp d zi_80 none 47 [l0, l1, l2] [.int x0] h Q = Q (some (.int x0)) h) ∧
    (∀ (d : Nat) (l0 : Nat) (l1 : Value) (l2 : Value)  (h : zMm) (Q : Option Value → zMm → Prop), zWp d zi_80 none 48 [.ref l0, l1, l2] [] h Q = zWp d zi_80 none 49 [.ref l0, l1, l2] [.ref l0] h Q) ∧
    (∀ (d : Nat) (l0 : Value) (l1 : Value) (l2 : Value) (x0 : Nat) (I : Nat → Nat → Int32) (L : Nat → Nat → Int64) (P : Nat → Nat → Option Nat) (Q : Option Value → zMm → Prop), zSH[x0]? = some (.inl 9) → zWp d zi_80 none 49 [l0, l1, l2] [.ref x0] (zSH, I, L, P) Q = zWp d zi_80 none 52 [l0, l1, l2] [va_rf (P x0 2)] (zSH, I, L, P) Q) ∧
    (∀ (d : Nat) (l0 : Value) (l1 : Value) (l2 : Value) (x0 : Nat) (I : Nat → Nat → Int32) (L : Nat → Nat → Int64) (P : Nat → Nat → Option Nat) (Q : Option Value → zMm → Prop), zSH[x0]? = some (.inl 3) → zWp d zi_80 none 52 [l0, l1, l2] [.ref x0] (zSH, I, L, P) Q = zWp d zi_80 none 55 [l0, l1, l2] [va_rf (P x0 2)] (zSH, I, L, P) Q) ∧
    (∀ (d : Nat) (l0 : Value) (l1 : Int32) (l2 : Value) (x0 : Nat) (h : zMm) (Q : Option Value → zMm → Prop), zWp d zi_80 none 55 [l0, .int l1, l2] [.ref x0] h Q = zWp d zi_80 none 56 [l0, .int l1, l2] [.int l1, .ref x0] h Q) ∧
    (∀ (d : Nat) (l0 : Value) (l1 : Value) (l2 : Value) (x1 : Int32) (x0 : Nat) (I : Nat → Nat → Int32) (L : Nat → Nat → Int64) (P : Nat → Nat → Option Nat) (Q : Option Value → zMm → Prop), zAk zSH x0 = some .int → zWp d zi_80 none 56 [l0, l1, l2] [.int x1, .ref x0] (zSH, I, L, P) Q = (vp_in x1 (zAn zSH x0) ∧ zWp d zi_80 none 57 [l0, l1, l2] [.int (I x0 x1.toNatClampNeg)] (zSH, I, L, P) Q)) ∧
    (∀ (d : Nat) (l0 : Value) (l1 : Value) (l2 : Value) (x0 : Int32) (h : zMm) (Q : Option Value → zMm → Prop), zWp d zi_80 none 57 [l0, l1, l2] [.int x0] h Q = Q (some (.int x0)) h) :=
  ⟨(fun d l0 l1 l2  h Q => zr_iload_n rfl rfl),
   (fun d l0 l1 l2 x0 h Q => by
      by_cases e0 : x0 = 10
      · subst e0; rw [if_pos rfl]; exact zr_look (off := 27) rfl (by decide) (by decide) (by decide)
      rw [if_neg e0]
      by_cases e1 : x0 = 11
      · subst e1; rw [if_pos rfl]; exact zr_look (off := 37) rfl (by decide) (by decide) (by decide)
      rw [if_neg e1]
      exact zr_look (off := 47) rfl (by decide) (by show Op.lookupswitch.offset [(10, 27), (11, 37)] _ _ = _; rw [lv_osw e0 (by decide), lv_osw e1 (by decide)]; rfl) (by decide)),
   (fun d l0 l1 l2  h Q => zr_aload_n rfl rfl),
   (fun d l0 l1 l2 x0 I L P Q p0 => zr_getQ rfl lf_9_22 (fun _ _ _ => rfl) p0),
   (fun d l0 l1 l2 x0 I L P Q p0 => zr_getQ rfl lf_9_191 (fun _ _ _ => rfl) p0),
   (fun d l0 l1 l2 x0 h Q => zr_iload_n rfl rfl),
   (fun d l0 l1 l2 x1 x0 I L P Q p0 => zr_ald rfl p0),
   (fun d l0 l1 l2 x0 h Q => zr_iret rfl rfl),
   (fun d l0 l1 l2  h Q => zr_aload_n rfl rfl),
   (fun d l0 l1 l2 x0 I L P Q p0 => zr_getQ rfl lf_9_22 (fun _ _ _ => rfl) p0),
   (fun d l0 l1 l2 x0 I L P Q p0 => zr_getQ rfl lf_9_194 (fun _ _ _ => rfl) p0),
   (fun d l0 l1 l2 x0 h Q => zr_iload_n rfl rfl),
   (fun d l0 l1 l2 x1 x0 I L P Q p0 => zr_ald rfl p0),
   (fun d l0 l1 l2 x0 h Q => zr_iret rfl rfl),
   (fun d l0 l1 l2  h Q => zr_aload_n rfl rfl),
   (fun d l0 l1 l2 x0 I L P Q p0 => zr_getQ rfl lf_9_22 (fun _ _ _ => rfl) p0),
   (fun d l0 l1 l2 x0 I L P Q p0 => zr_getQ rfl lf_9_197 (fun _ _ _ => rfl) p0),
   (fun d l0 l1 l2 x0 h Q => zr_iload_n rfl rfl),
   (fun d l0 l1 l2 x1 x0 I L P Q p0 => zr_ald rfl p0),
   (fun d l0 l1 l2 x0 h Q => zr_iret rfl rfl)⟩
theorem E_X9_ofPlace : ∀ (d : Nat) (a0 : Nat) (a1 : Int32) (h : zMm) (Q : Option Value → zMm → Prop), zWM (d + 1) 81 [.ref a0, .int a1] h Q = zWp d zi_81 none 0 [.ref a0, .int a1] [] h Q := fun d a0 a1 h Q => zW_M m_81 (Nat.le_of_ble_eq_true rfl) rfl
set_option maxRecDepth 100000 in
theorem R_X9_ofPlace :
    (∀ (d : Nat) (l0 : Value) (l1 : Int32)  (h : zMm) (Q : Option Value → zMm → Prop), zWp d zi_81 none 0 [l0, .int l1] [] h Q = zWp d zi_81 none 1 [l0, .int l1] [.int l1] h Q) ∧
    (∀ (d : Nat) (l0 : Value) (l1 : Value) (x0 : Int32) (h : zMm) (Q : Option Value → zMm → Prop), zWp d zi_81 none 1 [l0, l1] [.int x0] h Q = if x0 = 20 then zWp d zi_81 none 52 [l0, l1] [] h Q else if x0 = 21 then zWp d zi_81 none 57 [l0, l1] [] h Q else if x0 = 22 then zWp d zi_81 none 62 [l0, l1] [] h Q else if x0 = 23 then zWp d zi_81 none 70 [l0, l1] [] h Q else if x0 = 24 then zWp d zi_81 none 75 [l0, l1] [] h Q else if x0 = 25 then zWp d zi_81 none 83 [l0, l1] [] h Q else if x0 = 26 then zWp d zi_81 none 91 [l0, l1] [] h Q else if x0 = 27 then zWp d zi_81 none 101 [l0, l1] [] h Q else if x0 = 28 then zWp d zi_81 none 109 [l0, l1] [] h Q else zWp d zi_81 none 117 [l0, l1] [] h Q) ∧
    (∀ (d : Nat) (l0 : Nat) (l1 : Value)  (h : zMm) (Q : Option Value → zMm → Prop), zWp d zi_81 none 52 [.ref l0, l1] [] h Q = zWp d zi_81 none 53 [.ref l0, l1] [.ref l0] h Q) ∧
    (∀ (d : Nat) (l0 : Value) (l1 : Value) (x0 : Nat) (I : Nat → Nat → Int32) (L : Nat → Nat → Int64) (P : Nat → Nat → Option Nat) (Q : Option Value → zMm → Prop), zSH[x0]? = some (.inl 9) → zWp d zi_81 none 53 [l0, l1] [.ref x0] (zSH, I, L, P) Q = zWp d zi_81 none 56 [l0, l1] [.int (I x0 14)] (zSH, I, L, P) Q) ∧
    (∀ (d : Nat) (l0 : Value) (l1 : Value) (x0 : Int32) (h : zMm) (Q : Option Value → zMm → Prop), zWp d zi_81 none 56 [l0, l1] [.int x0] h Q = Q (some (.int x0)) h) ∧
    (∀ (d : Nat) (l0 : Nat) (l1 : Value)  (h : zMm) (Q : Option Value → zMm → Prop), zWp d zi_81 none 57 [.ref l0, l1] [] h Q = zWp d zi_81 none 58 [.ref l0, l1] [.ref l0] h Q) ∧
    (∀ (d : Nat) (l0 : Value) (l1 : Value) (x0 : Nat) (I : Nat → Nat → Int32) (L : Nat → Nat → Int64) (P : Nat → Nat → Option Nat) (Q : Option Value → zMm → Prop), zSH[x0]? = some (.inl 9) → zWp d zi_81 none 58 [l0, l1] [.ref x0] (zSH, I, L, P) Q = zWp d zi_81 none 61 [l0, l1] [.int (I x0 15)] (zSH, I, L, P) Q) ∧
    (∀ (d : Nat) (l0 : Value) (l1 : Value) (x0 : Int32) (h : zMm) (Q : Option Value → zMm → Prop), zWp d zi_81 none 61 [l0, l1] [.int x0] h Q = Q (some (.int x0)) h) ∧
    (∀ (d : Nat) (l0 : Nat) (l1 : Value)  (h : zMm) (Q : Option Value → zMm → Prop), zWp d zi_81 none 62 [.ref l0, l1] [] h Q = zWp d zi_81 none 63 [.ref l0, l1] [.ref l0] h Q) ∧
    (∀ (d : Nat) (l0 : Value) (l1 : Value) (x0 : Nat) (I : Nat → Nat → Int32) (L : Nat → Nat → Int64) (P : Nat → Nat → Option Nat) (Q : Option Value → zMm → Prop), zSH[x0]? = some (.inl 9) → zWp d zi_81 none 63 [l0, l1] [.ref x0] (zSH, I, L, P) Q = zWp d zi_81 none 66 [l0, l1] [va_rf (P x0 2)] (zSH, I, L, P) Q) ∧
    (∀ (d : Nat) (l0 : Value) (l1 : Value) (x0 : Nat) (I : Nat → Nat → Int32) (L : Nat → Nat → Int64) (P : Nat → Nat → Option Nat) (Q : Option Value → zMm → Prop), zSH[x0]? = some (.inl 3) → zWp d zi_81 none 66 [l0, l1] [.ref x0] (zSH, I, L, P) Q = zWp d zi_81 none 69 [l0, l1] [.int (I x0 4)] (zSH, I, L, P) Q) ∧
    (∀ (d : Nat) (l0 : Value) (l1 : Value) (x0 : Int32) (h : zMm) (Q : Option Value → zMm → Prop), zWp d zi_81 none 69 [l0, l1] [.int x0] h Q = Q (some (.int x0)) h) ∧
    (∀ (d : Nat) (l0 : Nat) (l1 : Value)  (h : zMm) (Q : Option Value → zMm → Prop), zWp d zi_81 none 70 [.ref l0, l1] [] h Q = zWp d zi_81 none 71 [.ref l0, l1] [.ref l0] h Q) ∧
    (∀ (d : Nat) (l0 : Value) (l1 : Value) (x0 : Nat) (I : Nat → Nat → Int32) (L : Nat → Nat → Int64) (P : Nat → Nat → Option Nat) (Q : Option Value → zMm → Prop), zSH[x0]? = some (.inl 9) → zWp d zi_81 none 71 [l0, l1] [.ref x0] (zSH, I, L, P) Q = zWp d zi_81 none 74 [l0, l1] [.int (I x0 16)] (zSH, I, L, P) Q) ∧
    (∀ (d : Nat) (l0 : Value) (l1 : Value) (x0 : Int32) (h : zMm) (Q : Option Value → zMm → Prop), zWp d zi_81 none 74 [l0, l1] [.int x0] h Q = Q (some (.int x0)) h) ∧
    (∀ (d : Nat) (l0 : Nat) (l1 : Value)  (h : zMm) (Q : Option Value → zMm → Prop), zWp d zi_81 none 75 [.ref l0, l1] [] h Q = zWp d zi_81 none 76 [.ref l0, l1] [.ref l0] h Q) ∧
    (∀ (d : Nat) (l0 : Value) (l1 : Value) (x0 : Nat) (I : Nat → Nat → Int32) (L : Nat → Nat → Int64) (P : Nat → Nat → Option Nat) (Q : Option Value → zMm → Prop), zSH[x0]? = some (.inl 9) → zWp d zi_81 none 76 [l0, l1] [.ref x0] (zSH, I, L, P) Q = zWp d zi_81 none 79 [l0, l1] [va_rf (P x0 5)] (zSH, I, L, P) Q) ∧
    (∀ (d : Nat) (l0 : Value) (l1 : Value) (x0 : Nat) (I : Nat → Nat → Int32) (L : Nat → Nat → Int64) (P : Nat → Nat → Option Nat) (Q : Option Value → zMm → Prop), zSH[x0]? = some (.inl 7) → zWp d zi_81 none 79 [l0, l1] [.ref x0] (zSH, I, L, P) Q = zWp d zi_81 none 82 [l0, l1] [.int (I x0 0)] (zSH, I, L, P) Q) ∧
    (∀ (d : Nat) (l0 : Value) (l1 : Value) (x0 : Int32) (h : zMm) (Q : Option Value → zMm → Prop), zWp d zi_81 none 82 [l0, l1] [.int x0] h Q = Q (some (.int x0)) h) ∧
    (∀ (d : Nat) (l0 : Nat) (l1 : Value)  (h : zMm) (Q : Option Value → zMm → Prop), zWp d zi_81 none 83 [.ref l0, l1] [] h Q = zWp d zi_81 none 84 [.ref l0, l1] [.ref l0] h Q) ∧
    (∀ (d : Nat) (l0 : Value) (l1 : Value) (x0 : Nat) (I : Nat → Nat → Int32) (L : Nat → Nat → Int64) (P : Nat → Nat → Option Nat) (Q : Option Value → zMm → Prop), zSH[x0]? = some (.inl 9) → zWp d zi_81 none 84 [l0, l1] [.ref x0] (zSH, I, L, P) Q = zWp d zi_81 none 87 [l0, l1] [va_rf (P x0 5)] (zSH, I, L, P) Q) ∧
    (∀ (d : Nat) (l0 : Value) (l1 : Value) (x0 : Nat) (I : Nat → Nat → Int32) (L : Nat → Nat → Int64) (P : Nat → Nat → Option Nat) (Q : Option Value → zMm → Prop), zSH[x0]? = some (.inl 7) → zWp d zi_81 none 87 [l0, l1] [.ref x0] (zSH, I, L, P) Q = zWp d zi_81 none 90 [l0, l1] [.int (I x0 1)] (zSH, I, L, P) Q) ∧
    (∀ (d : Nat) (l0 : Value) (l1 : Value) (x0 : Int32) (h : zMm) (Q : Option Value → zMm → Prop), zWp d zi_81 none 90 [l0, l1] [.int x0] h Q = Q (some (.int x0)) h) ∧
    (∀ (d : Nat) (l0 : Value) (l1 : Value)  (h : zMm) (Q : Option Value → zMm → Prop), zWp d zi_81 none 91 [l0, l1] [] h Q = zWp d zi_81 none 92 [l0, l1] [.int 5] h Q) ∧
    (∀ (d : Nat) (l0 : Nat) (l1 : Value) (x0 : Int32) (h : zMm) (Q : Option Value → zMm → Prop), zWp d zi_81 none 92 [.ref l0, l1] [.int x0] h Q = zWp d zi_81 none 93 [.ref l0, l1] [.ref l0, .int x0] h Q) ∧
    (∀ (d : Nat) (l0 : Value) (l1 : Value) (x1 : Nat) (x0 : Int32) (I : Nat → Nat → Int32) (L : Nat → Nat → Int64) (P : Nat → Nat → Option Nat) (Q : Option Value → zMm → Prop), zSH[x1]? = some (.inl 9) → zWp d zi_81 none 93 [l0, l1] [.ref x1, .int x0] (zSH, I, L, P) Q = zWp d zi_81 none 96 [l0, l1] [va_rf (P x1 0), .int x0] (zSH, I, L, P) Q) ∧
    (∀ (d : Nat) (l0 : Value) (l1 : Value) (x1 : Nat) (x0 : Int32) (I : Nat → Nat → Int32) (L : Nat → Nat → Int64) (P : Nat → Nat → Option Nat) (Q : Option Value → zMm → Prop), zSH[x1]? = some (.inl 8) → zWp d zi_81 none 96 [l0, l1] [.ref x1, .int x0] (zSH, I, L, P) Q = zWp d zi_81 none 99 [l0, l1] [.int (I x1 6), .int x0] (zSH, I, L, P) Q) ∧
    (∀ (d : Nat) (l0 : Value) (l1 : Value) (x1 : Int32) (x0 : Int32) (h : zMm) (Q : Option Value → zMm → Prop), zWp d zi_81 none 99 [l0, l1] [.int x1, .int x0] h Q = zWp d zi_81 none 100 [l0, l1] [.int (x0 * x1)] h Q) ∧
    (∀ (d : Nat) (l0 : Value) (l1 : Value) (x0 : Int32) (h : zMm) (Q : Option Value → zMm → Prop), zWp d zi_81 none 100 [l0, l1] [.int x0] h Q = Q (some (.int x0)) h) ∧
    (∀ (d : Nat) (l0 : Nat) (l1 : Value)  (h : zMm) (Q : Option Value → zMm → Prop), zWp d zi_81 none 101 [.ref l0, l1] [] h Q = zWp d zi_81 none 102 [.ref l0, l1] [.ref l0] h Q) ∧
    (∀ (d : Nat) (l0 : Value) (l1 : Value) (x0 : Nat) (I : Nat → Nat → Int32) (L : Nat → Nat → Int64) (P : Nat → Nat → Option Nat) (Q : Option Value → zMm → Prop), zSH[x0]? = some (.inl 9) → zWp d zi_81 none 102 [l0, l1] [.ref x0] (zSH, I, L, P) Q = zWp d zi_81 none 105 [l0, l1] [va_rf (P x0 2)] (zSH, I, L, P) Q) ∧
    (∀ (d : Nat) (l0 : Value) (l1 : Value) (x0 : Nat) (I : Nat → Nat → Int32) (L : Nat → Nat → Int64) (P : Nat → Nat → Option Nat) (Q : Option Value → zMm → Prop), zSH[x0]? = some (.inl 3) → zWp d zi_81 none 105 [l0, l1] [.ref x0] (zSH, I, L, P) Q = zWM d 24 [.ref x0] (zSH, I, L, P) (fun r h1 => zWp d zi_81 none 108 [l0, l1] (r.toList ++ []) h1 Q)) ∧
    (∀ (d : Nat) (l0 : Value) (l1 : Value) (x0 : Int32) (h : zMm) (Q : Option Value → zMm → Prop), zWp d zi_81 none 108 [l0, l1] [.int x0] h Q = Q (some (.int x0)) h) ∧
    (∀ (d : Nat) (l0 : Nat) (l1 : Value)  (h : zMm) (Q : Option Value → zMm → Prop), zWp d zi_81 none 109 [.ref l0, l1] [] h Q = zWp d zi_81 none 110 [.ref l0, l1] [.ref l0] h Q) ∧
    (∀ (d : Nat) (l0 : Value) (l1 : Value) (x0 : Nat) (I : Nat → Nat → Int32) (L : Nat → Nat → Int64) (P : Nat → Nat → Option Nat) (Q : Option Value → zMm → Prop), zSH[x0]? = some (.inl 9) → zWp d zi_81 none 110 [l0, l1] [.ref x0] (zSH, I, L, P) Q = zWp d zi_81 none 113 [l0, l1] [va_rf (P x0 5)] (zSH, I, L, P) Q) ∧
    (∀ (d : Nat) (l0 : Value) (l1 : Value) (x0 : Nat) (I : Nat → Nat → Int32) (L : Nat → Nat → Int64) (P : Nat → Nat → Option Nat) (Q : Option Value → zMm → Prop), zSH[x0]? = some (.inl 7) → zWp d zi_81 none 113 [l0, l1] [.ref x0] (zSH, I, L, P) Q = zWp d zi_81 none 116 [l0, l1] [.int (I x0 2)] (zSH, I, L, P) Q) ∧
    (∀ (d : Nat) (l0 : Value) (l1 : Value) (x0 : Int32) (h : zMm) (Q : Option Value → zMm → Prop), zWp d zi_81 none 116 [l0, l1] [.int x0] h Q = Q (some (.int x0)) h) ∧
    (∀ (d : Nat) (l0 : Value) (l1 : Value)  (h : zMm) (Q : Option Value → zMm → Prop), zWp d zi_81 none 117 [l0, l1] [] h Q = zWp d zi_81 none 119 [l0, l1] [.int (-2000000000)] h Q) ∧
    (∀ (d : Nat) (l0 : Value) (l1 : Value) (x0 : Int32) (h : zMm) (Q : Option Value → zMm → Prop), zWp d zi_81 none 119 [l0, l1] [.int x0] h Q = Q (some (.int x0)) h) :=
  ⟨(fun d l0 l1  h Q => zr_iload_n rfl rfl),
   (fun d l0 l1 x0 h Q => by
      by_cases e0 : x0 = 20
      · subst e0; rw [if_pos rfl]; exact zr_tabI rfl (by decide) rfl (by decide)
      rw [if_neg e0]
      have n0 : ¬ x0.toInt = 20 := fun z => e0 (Int32.toInt_inj.mp z)
      by_cases e1 : x0 = 21
      · subst e1; rw [if_pos rfl]; exact zr_tabI rfl (by decide) rfl (by decide)
      rw [if_neg e1]
      have n1 : ¬ x0.toInt = 21 := fun z => e1 (Int32.toInt_inj.mp z)
      by_cases e2 : x0 = 22
      · subst e2; rw [if_pos rfl]; exact zr_tabI rfl (by decide) rfl (by decide)
      rw [if_neg e2]
      have n2 : ¬ x0.toInt = 22 := fun z => e2 (Int32.toInt_inj.mp z)
      by_cases e3 : x0 = 23
      · subst e3; rw [if_pos rfl]; exact zr_tabI rfl (by decide) rfl (by decide)
      rw [if_neg e3]
      have n3 : ¬ x0.toInt = 23 := fun z => e3 (Int32.toInt_inj.mp z)
      by_cases e4 : x0 = 24
      · subst e4; rw [if_pos rfl]; exact zr_tabI rfl (by decide) rfl (by decide)
      rw [if_neg e4]
      have n4 : ¬ x0.toInt = 24 := fun z => e4 (Int32.toInt_inj.mp z)
      by_cases e5 : x0 = 25
      · subst e5; rw [if_pos rfl]; exact zr_tabI rfl (by decide) rfl (by decide)
      rw [if_neg e5]
      have n5 : ¬ x0.toInt = 25 := fun z => e5 (Int32.toInt_inj.mp z)
      by_cases e6 : x0 = 26
      · subst e6; rw [if_pos rfl]; exact zr_tabI rfl (by decide) rfl (by decide)
      rw [if_neg e6]
      have n6 : ¬ x0.toInt = 26 := fun z => e6 (Int32.toInt_inj.mp z)
      by_cases e7 : x0 = 27
      · subst e7; rw [if_pos rfl]; exact zr_tabI rfl (by decide) rfl (by decide)
      rw [if_neg e7]
      have n7 : ¬ x0.toInt = 27 := fun z => e7 (Int32.toInt_inj.mp z)
      by_cases e8 : x0 = 28
      · subst e8; rw [if_pos rfl]; exact zr_tabI rfl (by decide) rfl (by decide)
      rw [if_neg e8]
      have n8 : ¬ x0.toInt = 28 := fun z => e8 (Int32.toInt_inj.mp z)
      exact zr_tabD rfl (by omega) (by decide)),
   (fun d l0 l1  h Q => zr_aload_n rfl rfl),
   (fun d l0 l1 x0 I L P Q p0 => zr_getI rfl lf_9_182 (fun _ _ _ => rfl) p0),
   (fun d l0 l1 x0 h Q => zr_iret rfl rfl),
   (fun d l0 l1  h Q => zr_aload_n rfl rfl),
   (fun d l0 l1 x0 I L P Q p0 => zr_getI rfl lf_9_185 (fun _ _ _ => rfl) p0),
   (fun d l0 l1 x0 h Q => zr_iret rfl rfl),
   (fun d l0 l1  h Q => zr_aload_n rfl rfl),
   (fun d l0 l1 x0 I L P Q p0 => zr_getQ rfl lf_9_22 (fun _ _ _ => rfl) p0),
   (fun d l0 l1 x0 I L P Q p0 => zr_getI rfl lf_9_200 (fun _ _ _ => rfl) p0),
   (fun d l0 l1 x0 h Q => zr_iret rfl rfl),
   (fun d l0 l1  h Q => zr_aload_n rfl rfl),
   (fun d l0 l1 x0 I L P Q p0 => zr_getI rfl lf_9_83 (fun _ _ _ => rfl) p0),
   (fun d l0 l1 x0 h Q => zr_iret rfl rfl),
   (fun d l0 l1  h Q => zr_aload_n rfl rfl),
   (fun d l0 l1 x0 I L P Q p0 => zr_getQ rfl lf_9_43 (fun _ _ _ => rfl) p0),
   (fun d l0 l1 x0 I L P Q p0 => zr_getI rfl lf_9_95 (fun _ _ _ => rfl) p0),
   (fun d l0 l1 x0 h Q => zr_iret rfl rfl),
   (fun d l0 l1  h Q => zr_aload_n rfl rfl),
   (fun d l0 l1 x0 I L P Q p0 => zr_getQ rfl lf_9_43 (fun _ _ _ => rfl) p0),
   (fun d l0 l1 x0 I L P Q p0 => zr_getI rfl lf_9_98 (fun _ _ _ => rfl) p0),
   (fun d l0 l1 x0 h Q => zr_iret rfl rfl),
   (fun d l0 l1  h Q => zr_iconst rfl (by decide)),
   (fun d l0 l1 x0 h Q => zr_aload_n rfl rfl),
   (fun d l0 l1 x1 x0 I L P Q p0 => zr_getQ rfl lf_9_10 (fun _ _ _ => rfl) p0),
   (fun d l0 l1 x1 x0 I L P Q p0 => zr_getI rfl lf_9_92 (fun _ _ _ => rfl) p0),
   (fun d l0 l1 x1 x0 h Q => zr_imul rfl),
   (fun d l0 l1 x0 h Q => zr_iret rfl rfl),
   (fun d l0 l1  h Q => zr_aload_n rfl rfl),
   (fun d l0 l1 x0 I L P Q p0 => zr_getQ rfl lf_9_22 (fun _ _ _ => rfl) p0),
   (fun d l0 l1 x0 I L P Q p0 => zr_vir (as := []) (rest := []) rfl lm_9_203 m_24 kd_24 rfl (Nat.le_of_ble_eq_true rfl) p0),
   (fun d l0 l1 x0 h Q => zr_iret rfl rfl),
   (fun d l0 l1  h Q => zr_aload_n rfl rfl),
   (fun d l0 l1 x0 I L P Q p0 => zr_getQ rfl lf_9_43 (fun _ _ _ => rfl) p0),
   (fun d l0 l1 x0 I L P Q p0 => zr_getI rfl lf_9_207 (fun _ _ _ => rfl) p0),
   (fun d l0 l1 x0 h Q => zr_iret rfl rfl),
   (fun d l0 l1  h Q => zr_ldc rfl lk_9_151),
   (fun d l0 l1 x0 h Q => zr_iret rfl rfl)⟩
theorem E_X9_feed : ∀ (d : Nat) (a0 : Nat) (a1 : Int32) (h : zMm) (Q : Option Value → zMm → Prop), zWM (d + 1) 82 [.ref a0, .int a1] h Q = zWp d zi_82 none 0 [.ref a0, .int a1] [] h Q := fun d a0 a1 h Q => zW_M m_82 (Nat.le_of_ble_eq_true rfl) rfl
set_option maxRecDepth 100000 in
theorem R_X9_feed :
    (∀ (d : Nat) (l0 : Value) (l1 : Int32)  (h : zMm) (Q : Option Value → zMm → Prop), zWp d zi_82 none 0 [l0, .int l1] [] h Q = zWp d zi_82 none 1 [l0, .int l1] [.int l1] h Q) ∧
    (∀ (d : Nat) (l0 : Value) (l1 : Value) (x0 : Int32) (h : zMm) (Q : Option Value → zMm → Prop), zWp d zi_82 none 1 [l0, l1] [.int x0] h Q = if x0 < 0 then zWp d zi_82 none 11 [l0, l1] [] h Q else zWp d zi_82 none 4 [l0, l1] [] h Q) ∧
    (∀ (d : Nat) (l0 : Value) (l1 : Int32)  (h : zMm) (Q : Option Value → zMm → Prop), zWp d zi_82 none 4 [l0, .int l1] [] h Q = zWp d zi_82 none 5 [l0, .int l1] [.int l1] h Q) ∧
    (∀ (d : Nat) (l0 : Value) (l1 : Value) (x0 : Int32) (h : zMm) (Q : Option Value → zMm → Prop), zWp d zi_82 none 5 [l0, l1] [.int x0] h Q = zWp d zi_82 none 8 [l0, l1] [.int 255, .int x0] h Q) ∧
    (∀ (d : Nat) (l0 : Value) (l1 : Value) (x1 : Int32) (x0 : Int32) (h : zMm) (Q : Option Value → zMm → Prop), zWp d zi_82 none 8 [l0, l1] [.int x1, .int x0] h Q = if x0 ≤ x1 then zWp d zi_82 none 13 [l0, l1] [] h Q else zWp d zi_82 none 11 [l0, l1] [] h Q) ∧
    (∀ (d : Nat) (l0 : Value) (l1 : Value)  (h : zMm) (Q : Option Value → zMm → Prop), zWp d zi_82 none 11 [l0, l1] [] h Q = zWp d zi_82 none 12 [l0, l1] [.int (-1)] h Q) ∧
    (∀ (d : Nat) (l0 : Value) (l1 : Value) (x0 : Int32) (h : zMm) (Q : Option Value → zMm → Prop), zWp d zi_82 none 12 [l0, l1] [.int x0] h Q = Q (some (.int x0)) h) ∧
    (∀ (d : Nat) (l0 : Nat) (l1 : Value)  (h : zMm) (Q : Option Value → zMm → Prop), zWp d zi_82 none 13 [.ref l0, l1] [] h Q = zWp d zi_82 none 14 [.ref l0, l1] [.ref l0] h Q) ∧
    (∀ (d : Nat) (l0 : Value) (l1 : Value) (x0 : Nat) (I : Nat → Nat → Int32) (L : Nat → Nat → Int64) (P : Nat → Nat → Option Nat) (Q : Option Value → zMm → Prop), zSH[x0]? = some (.inl 9) → zWp d zi_82 none 14 [l0, l1] [.ref x0] (zSH, I, L, P) Q = zWp d zi_82 none 17 [l0, l1] [va_rf (P x0 3)] (zSH, I, L, P) Q) ∧
    (∀ (d : Nat) (l0 : Value) (l1 : Value) (x0 : Nat) (I : Nat → Nat → Int32) (L : Nat → Nat → Int64) (P : Nat → Nat → Option Nat) (Q : Option Value → zMm → Prop), zSH[x0]? = some (.inl 4) → zWp d zi_82 none 17 [l0, l1] [.ref x0] (zSH, I, L, P) Q = zWp d zi_82 none 20 [l0, l1] [.int (I x0 1)] (zSH, I, L, P) Q) ∧
    (∀ (d : Nat) (l0 : Value) (l1 : Value) (x0 : Int32) (h : zMm) (Q : Option Value → zMm → Prop), zWp d zi_82 none 20 [l0, l1] [.int x0] h Q = zWp d zi_82 none 22 [l0, l1] [.int 120, .int x0] h Q) ∧
    (∀ (d : Nat) (l0 : Value) (l1 : Value) (x1 : Int32) (x0 : Int32) (h : zMm) (Q : Option Value → zMm → Prop), zWp d zi_82 none 22 [l0, l1] [.int x1, .int x0] h Q = if x0 < x1 then zWp d zi_82 none 28 [l0, l1] [] h Q else zWp d zi_82 none 25 [l0, l1] [] h Q) ∧
    (∀ (d : Nat) (l0 : Value) (l1 : Value)  (h : zMm) (Q : Option Value → zMm → Prop), zWp d zi_82 none 25 [l0, l1] [] h Q = zWp d zi_82 none 27 [l0, l1] [.int (-3)] h Q) ∧
    (∀ (d : Nat) (l0 : Value) (l1 : Value) (x0 : Int32) (h : zMm) (Q : Option Value → zMm → Prop), zWp d zi_82 none 27 [l0, l1] [.int x0] h Q = Q (some (.int x0)) h) ∧
    (∀ (d : Nat) (l0 : Nat) (l1 : Value)  (h : zMm) (Q : Option Value → zMm → Prop), zWp d zi_82 none 28 [.ref l0, l1] [] h Q = zWp d zi_82 none 29 [.ref l0, l1] [.ref l0] h Q) ∧
    (∀ (d : Nat) (l0 : Value) (l1 : Value) (x0 : Nat) (I : Nat → Nat → Int32) (L : Nat → Nat → Int64) (P : Nat → Nat → Option Nat) (Q : Option Value → zMm → Prop), zSH[x0]? = some (.inl 9) → zWp d zi_82 none 29 [l0, l1] [.ref x0] (zSH, I, L, P) Q = zWp d zi_82 none 32 [l0, l1] [va_rf (P x0 3)] (zSH, I, L, P) Q) ∧
    (∀ (d : Nat) (l0 : Value) (l1 : Value) (x0 : Nat) (I : Nat → Nat → Int32) (L : Nat → Nat → Int64) (P : Nat → Nat → Option Nat) (Q : Option Value → zMm → Prop), zSH[x0]? = some (.inl 4) → zWp d zi_82 none 32 [l0, l1] [.ref x0] (zSH, I, L, P) Q = zWp d zi_82 none 35 [l0, l1] [va_rf (P x0 0)] (zSH, I, L, P) Q) ∧
    (∀ (d : Nat) (l0 : Nat) (l1 : Value) (x0 : Nat) (h : zMm) (Q : Option Value → zMm → Prop), zWp d zi_82 none 35 [.ref l0, l1] [.ref x0] h Q = zWp d zi_82 none 36 [.ref l0, l1] [.ref l0, .ref x0] h Q) ∧
    (∀ (d : Nat) (l0 : Value) (l1 : Value) (x1 : Nat) (x0 : Nat) (I : Nat → Nat → Int32) (L : Nat → Nat → Int64) (P : Nat → Nat → Option Nat) (Q : Option Value → zMm → Prop), zSH[x1]? = some (.inl 9) → zWp d zi_82 none 36 [l0, l1] [.ref x1, .ref x0] (zSH, I, L, P) Q = zWp d zi_82 none 39 [l0, l1] [va_rf (P x1 3), .ref x0] (zSH, I, L, P) Q) ∧
    (∀ (d : Nat) (l0 : Value) (l1 : Value) (x1 : Nat) (x0 : Nat) (I : Nat → Nat → Int32) (L : Nat → Nat → Int64) (P : Nat → Nat → Option Nat) (Q : Option Value → zMm → Prop), zSH[x1]? = some (.inl 4) → zWp d zi_82 none 39 [l0, l1] [.ref x1, .ref x0] (zSH, I, L, P) Q = zWp d zi_82 none 42 [l0, l1] [.int (I x1 1), .ref x0] (zSH, I, L, P) Q) ∧
    (∀ (d : Nat) (l0 : Value) (l1 : Int32) (x1 : Int32) (x0 : Nat) (h : zMm) (Q : Option Value → zMm → Prop), zWp d zi_82 none 42 [l0, .int l1] [.int x1, .ref x0] h Q = zWp d zi_82 none 43 [l0, .int l1] [.int l1, .int x1, .ref x0] h Q) ∧
    (∀ (d : Nat) (l0 : Value) (l1 : Value) (x2 : Int32) (x1 : Int32) (x0 : Nat) (I : Nat → Nat → Int32) (L : Nat → Nat → Int64) (P : Nat → Nat → Option Nat) (Q : Option Value → zMm → Prop), zAk zSH x0 = some .int → zWp d zi_82 none 43 [l0, l1] [.int x2, .int x1, .ref x0] (zSH, I, L, P) Q = (vp_in x1 (zAn zSH x0) ∧ zWp d zi_82 none 44 [l0, l1] [] (zSH, zw I x0 (upd (I x0) x1.toNatClampNeg x2), L, P) Q)) ∧
    (∀ (d : Nat) (l0 : Nat) (l1 : Value)  (h : zMm) (Q : Option Value → zMm → Prop), zWp d zi_82 none 44 [.ref l0, l1] [] h Q = zWp d zi_82 none 45 [.ref l0, l1] [.ref l0] h Q) ∧
    (∀ (d : Nat) (l0 : Value) (l1 : Value) (x0 : Nat) (I : Nat → Nat → Int32) (L : Nat → Nat → Int64) (P : Nat → Nat → Option Nat) (Q : Option Value → zMm → Prop), zSH[x0]? = some (.inl 9) → zWp d zi_82 none 45 [l0, l1] [.ref x0] (zSH, I, L, P) Q = zWp d zi_82 none 48 [l0, l1] [va_rf (P x0 3)] (zSH, I, L, P) Q) ∧
    (∀ (d : Nat) (l0 : Value) (l1 : Value) (x0 : Nat) (h : zMm) (Q : Option Value → zMm → Prop), zWp d zi_82 none 48 [l0, l1] [.ref x0] h Q = zWp d zi_82 none 49 [l0, l1] [.ref x0, .ref x0] h Q) ∧
    (∀ (d : Nat) (l0 : Value) (l1 : Value) (x1 : Nat) (x0 : Nat) (I : Nat → Nat → Int32) (L : Nat → Nat → Int64) (P : Nat → Nat → Option Nat) (Q : Option Value → zMm → Prop), zSH[x1]? = some (.inl 4) → zWp d zi_82 none 49 [l0, l1] [.ref x1, .ref x0] (zSH, I, L, P) Q = zWp d zi_82 none 52 [l0, l1] [.int (I x1 1), .ref x0] (zSH, I, L, P) Q) ∧
    (∀ (d : Nat) (l0 : Value) (l1 : Value) (x1 : Int32) (x0 : Nat) (h : zMm) (Q : Option Value → zMm → Prop), zWp d zi_82 none 52 [l0, l1] [.int x1, .ref x0] h Q = zWp d zi_82 none 53 [l0, l1] [.int 1, .int x1, .ref x0] h Q) ∧
    (∀ (d : Nat) (l0 : Value) (l1 : Value) (x2 : Int32) (x1 : Int32) (x0 : Nat) (h : zMm) (Q : Option Value → zMm → Prop), zWp d zi_82 none 53 [l0, l1] [.int x2, .int x1, .ref x0] h Q = zWp d zi_82 none 54 [l0, l1] [.int (x1 + x2), .ref x0] h Q) ∧
    (∀ (d : Nat) (l0 : Value) (l1 : Value) (x1 : Int32) (x0 : Nat) (I : Nat → Nat → Int32) (L : Nat → Nat → Int64) (P : Nat → Nat → Option Nat) (Q : Option Value → zMm → Prop), zSH[x0]? = some (.inl 4) → zWp d zi_82 none 54 [l0, l1] [.int x1, .ref x0] (zSH, I, L, P) Q = zWp d zi_82 none 57 [l0, l1] [] (zSH, zw I x0 (upd (I x0) 1 x1), L, P) Q) ∧
    (∀ (d : Nat) (l0 : Nat) (l1 : Value)  (h : zMm) (Q : Option Value → zMm → Prop), zWp d zi_82 none 57 [.ref l0, l1] [] h Q = zWp d zi_82 none 58 [.ref l0, l1] [.ref l0] h Q) ∧
    (∀ (d : Nat) (l0 : Value) (l1 : Value) (x0 : Nat) (I : Nat → Nat → Int32) (L : Nat → Nat → Int64) (P : Nat → Nat → Option Nat) (Q : Option Value → zMm → Prop), zSH[x0]? = some (.inl 9) → zWp d zi_82 none 58 [l0, l1] [.ref x0] (zSH, I, L, P) Q = zWp d zi_82 none 61 [l0, l1] [va_rf (P x0 3)] (zSH, I, L, P) Q) ∧
    (∀ (d : Nat) (l0 : Value) (l1 : Value) (x0 : Nat) (I : Nat → Nat → Int32) (L : Nat → Nat → Int64) (P : Nat → Nat → Option Nat) (Q : Option Value → zMm → Prop), zSH[x0]? = some (.inl 4) → zWp d zi_82 none 61 [l0, l1] [.ref x0] (zSH, I, L, P) Q = zWp d zi_82 none 64 [l0, l1] [.int (I x0 1)] (zSH, I, L, P) Q) ∧
    (∀ (d : Nat) (l0 : Value) (l1 : Value) (x0 : Int32) (h : zMm) (Q : Option Value → zMm → Prop), zWp d zi_82 none 64 [l0, l1] [.int x0] h Q = Q (some (.int x0)) h) :=
  ⟨(fun d l0 l1  h Q => zr_iload_n rfl rfl),
   (fun d l0 l1 x0 h Q => zr_if_lt rfl (by decide)),
   (fun d l0 l1  h Q => zr_iload_n rfl rfl),
   (fun d l0 l1 x0 h Q => zr_sipush rfl (by decide)),
   (fun d l0 l1 x1 x0 h Q => zr_ic_le rfl (by decide)),
   (fun d l0 l1  h Q => zr_iconst rfl (by decide)),
   (fun d l0 l1 x0 h Q => zr_iret rfl rfl),
   (fun d l0 l1  h Q => zr_aload_n rfl rfl),
   (fun d l0 l1 x0 I L P Q p0 => zr_getQ rfl lf_9_29 (fun _ _ _ => rfl) p0),
   (fun d l0 l1 x0 I L P Q p0 => zr_getI rfl lf_9_210 (fun _ _ _ => rfl) p0),
   (fun d l0 l1 x0 h Q => zr_bipush rfl (by decide)),
   (fun d l0 l1 x1 x0 h Q => zr_ic_lt rfl (by decide)),
   (fun d l0 l1  h Q => zr_bipush rfl (by decide)),
   (fun d l0 l1 x0 h Q => zr_iret rfl rfl),
   (fun d l0 l1  h Q => zr_aload_n rfl rfl),
   (fun d l0 l1 x0 I L P Q p0 => zr_getQ rfl lf_9_29 (fun _ _ _ => rfl) p0),
   (fun d l0 l1 x0 I L P Q p0 => zr_getQ rfl lf_9_211 (fun _ _ _ => rfl) p0),
   (fun d l0 l1 x0 h Q => zr_aload_n rfl rfl),
   (fun d l0 l1 x1 x0 I L P Q p0 => zr_getQ rfl lf_9_29 (fun _ _ _ => rfl) p0),
   (fun d l0 l1 x1 x0 I L P Q p0 => zr_getI rfl lf_9_210 (fun _ _ _ => rfl) p0),
   (fun d l0 l1 x1 x0 h Q => zr_iload_n rfl rfl),
   (fun d l0 l1 x2 x1 x0 I L P Q p0 => zr_ast rfl p0),
   (fun d l0 l1  h Q => zr_aload_n rfl rfl),
   (fun d l0 l1 x0 I L P Q p0 => zr_getQ rfl lf_9_29 (fun _ _ _ => rfl) p0),
   (fun d l0 l1 x0 h Q => zr_dup rfl rfl),
   (fun d l0 l1 x1 x0 I L P Q p0 => zr_getI rfl lf_9_210 (fun _ _ _ => rfl) p0),
   (fun d l0 l1 x1 x0 h Q => zr_iconst rfl (by decide)),
   (fun d l0 l1 x2 x1 x0 h Q => zr_iadd rfl),
   (fun d l0 l1 x1 x0 I L P Q p0 => zr_putI rfl lf_9_210 (by decide) rfl p0),
   (fun d l0 l1  h Q => zr_aload_n rfl rfl),
   (fun d l0 l1 x0 I L P Q p0 => zr_getQ rfl lf_9_29 (fun _ _ _ => rfl) p0),
   (fun d l0 l1 x0 I L P Q p0 => zr_getI rfl lf_9_210 (fun _ _ _ => rfl) p0),
   (fun d l0 l1 x0 h Q => zr_iret rfl rfl)⟩
theorem E_X9_law : ∀ (d : Nat) (a0 : Nat) (h : zMm) (Q : Option Value → zMm → Prop), zWM (d + 1) 83 [.ref a0] h Q = zWp d zi_83 none 0 [.ref a0, .retAddr 0, .retAddr 0, .retAddr 0] [] h Q := fun d a0 h Q => zW_M m_83 (Nat.le_of_ble_eq_true rfl) rfl
set_option maxRecDepth 100000 in
theorem R_X9_law :
    (∀ (d : Nat) (l0 : Nat) (l1 : Value) (l2 : Value) (l3 : Value)  (h : zMm) (Q : Option Value → zMm → Prop), zWp d zi_83 none 0 [.ref l0, l1, l2, l3] [] h Q = zWp d zi_83 none 1 [.ref l0, l1, l2, l3] [.ref l0] h Q) ∧
    (∀ (d : Nat) (l0 : Value) (l1 : Value) (l2 : Value) (l3 : Value) (x0 : Nat) (I : Nat → Nat → Int32) (L : Nat → Nat → Int64) (P : Nat → Nat → Option Nat) (Q : Option Value → zMm → Prop), zSH[x0]? = some (.inl 9) → zWp d zi_83 none 1 [l0, l1, l2, l3] [.ref x0] (zSH, I, L, P) Q = zWp d zi_83 none 4 [l0, l1, l2, l3] [va_rf (P x0 3)] (zSH, I, L, P) Q) ∧
    (∀ (d : Nat) (l0 : Nat) (l1 : Value) (l2 : Value) (l3 : Value) (x0 : Nat) (h : zMm) (Q : Option Value → zMm → Prop), zWp d zi_83 none 4 [.ref l0, l1, l2, l3] [.ref x0] h Q = zWp d zi_83 none 5 [.ref l0, l1, l2, l3] [.ref l0, .ref x0] h Q) ∧
    (∀ (d : Nat) (l0 : Value) (l1 : Value) (l2 : Value) (l3 : Value) (x1 : Nat) (x0 : Nat) (I : Nat → Nat → Int32) (L : Nat → Nat → Int64) (P : Nat → Nat → Option Nat) (Q : Option Value → zMm → Prop), zSH[x1]? = some (.inl 9) → zWp d zi_83 none 5 [l0, l1, l2, l3] [.ref x1, .ref x0] (zSH, I, L, P) Q = zWp d zi_83 none 8 [l0, l1, l2, l3] [va_rf (P x1 12), .ref x0] (zSH, I, L, P) Q) ∧
    (∀ (d : Nat) (l0 : Value) (l1 : Value) (l2 : Value) (l3 : Value) (x1 : Nat) (x0 : Nat) (I : Nat → Nat → Int32) (L : Nat → Nat → Int64) (P : Nat → Nat → Option Nat) (Q : Option Value → zMm → Prop), zSH[x0]? = some (.inl 4) → zWp d zi_83 none 8 [l0, l1, l2, l3] [.ref x1, .ref x0] (zSH, I, L, P) Q = zWM d 33 [.ref x0, .ref x1] (zSH, I, L, P) (fun r h1 => zWp d zi_83 none 11 [l0, l1, l2, l3] (r.toList ++ []) h1 Q)) ∧
    (∀ (d : Nat) (l0 : Nat) (l1 : Value) (l2 : Value) (l3 : Value) (x0 : Int32) (h : zMm) (Q : Option Value → zMm → Prop), zWp d zi_83 none 11 [.ref l0, l1, l2, l3] [.int x0] h Q = zWp d zi_83 none 12 [.ref l0, .int x0, l2, l3] [] h Q) ∧
    (∀ (d : Nat) (l0 : Nat) (l1 : Value) (l2 : Value) (l3 : Value)  (h : zMm) (Q : Option Value → zMm → Prop), zWp d zi_83 none 12 [.ref l0, l1, l2, l3] [] h Q = zWp d zi_83 none 13 [.ref l0, l1, l2, l3] [.ref l0] h Q) ∧
    (∀ (d : Nat) (l0 : Value) (l1 : Value) (l2 : Value) (l3 : Value) (x0 : Nat) (I : Nat → Nat → Int32) (L : Nat → Nat → Int64) (P : Nat → Nat → Option Nat) (Q : Option Value → zMm → Prop), zSH[x0]? = some (.inl 9) → zWp d zi_83 none 13 [l0, l1, l2, l3] [.ref x0] (zSH, I, L, P) Q = zWp d zi_83 none 16 [l0, l1, l2, l3] [va_rf (P x0 3)] (zSH, I, L, P) Q) ∧
    (∀ (d : Nat) (l0 : Value) (l1 : Value) (l2 : Value) (l3 : Value) (x0 : Nat) (I : Nat → Nat → Int32) (L : Nat → Nat → Int64) (P : Nat → Nat → Option Nat) (Q : Option Value → zMm → Prop), zSH[x0]? = some (.inl 4) → zWp d zi_83 none 16 [l0, l1, l2, l3] [.ref x0] (zSH, I, L, P) Q = zWp d zi_83 none 19 [l0, l1, l2, l3] [.int (I x0 2)] (zSH, I, L, P) Q) ∧
    (∀ (d : Nat) (l0 : Value) (l1 : Int32) (l2 : Value) (l3 : Value) (x0 : Int32) (h : zMm) (Q : Option Value → zMm → Prop), zWp d zi_83 none 19 [l0, .int l1, l2, l3] [.int x0] h Q = zWp d zi_83 none 20 [l0, .int l1, .int x0, l3] [] h Q) ∧
    (∀ (d : Nat) (l0 : Nat) (l1 : Value) (l2 : Value) (l3 : Value)  (h : zMm) (Q : Option Value → zMm → Prop), zWp d zi_83 none 20 [.ref l0, l1, l2, l3] [] h Q = zWp d zi_83 none 21 [.ref l0, l1, l2, l3] [.ref l0] h Q) ∧
    (∀ (d : Nat) (l0 : Value) (l1 : Value) (l2 : Value) (l3 : Value) (x0 : Nat) (I : Nat → Nat → Int32) (L : Nat → Nat → Int64) (P : Nat → Nat → Option Nat) (Q : Option Value → zMm → Prop), zSH[x0]? = some (.inl 9) → zWp d zi_83 none 21 [l0, l1, l2, l3] [.ref x0] (zSH, I, L, P) Q = zWp d zi_83 none 24 [l0, l1, l2, l3] [va_rf (P x0 3)] (zSH, I, L, P) Q) ∧
    (∀ (d : Nat) (l0 : Value) (l1 : Value) (l2 : Value) (l3 : Value) (x0 : Nat) (h : zMm) (Q : Option Value → zMm → Prop), zWp d zi_83 none 24 [l0, l1, l2, l3] [.ref x0] h Q = zWp d zi_83 none 25 [l0, l1, l2, l3] [.int 0, .ref x0] h Q) ∧
    (∀ (d : Nat) (l0 : Value) (l1 : Value) (l2 : Value) (l3 : Value) (x1 : Int32) (x0 : Nat) (I : Nat → Nat → Int32) (L : Nat → Nat → Int64) (P : Nat → Nat → Option Nat) (Q : Option Value → zMm → Prop), zSH[x0]? = some (.inl 4) → zWp d zi_83 none 25 [l0, l1, l2, l3] [.int x1, .ref x0] (zSH, I, L, P) Q = zWp d zi_83 none 28 [l0, l1, l2, l3] [] (zSH, zw I x0 (upd (I x0) 1 x1), L, P) Q) ∧
    (∀ (d : Nat) (l0 : Value) (l1 : Int32) (l2 : Value) (l3 : Value)  (h : zMm) (Q : Option Value → zMm → Prop), zWp d zi_83 none 28 [l0, .int l1, l2, l3] [] h Q = zWp d zi_83 none 29 [l0, .int l1, l2, l3] [.int l1] h Q) ∧
    (∀ (d : Nat) (l0 : Value) (l1 : Value) (l2 : Value) (l3 : Value) (x0 : Int32) (h : zMm) (Q : Option Value → zMm → Prop), zWp d zi_83 none 29 [l0, l1, l2, l3] [.int x0] h Q = if x0 = 0 then zWp d zi_83 none 32 [l0, l1, l2, l3] [] h Q else zWp d zi_83 none 37 [l0, l1, l2, l3] [] h Q) ∧
    (∀ (d : Nat) (l0 : Value) (l1 : Value) (l2 : Value) (l3 : Value)  (h : zMm) (Q : Option Value → zMm → Prop), zWp d zi_83 none 32 [l0, l1, l2, l3] [] h Q = zWp d zi_83 none 34 [l0, l1, l2, l3] [.int (-100)] h Q) ∧
    (∀ (d : Nat) (l0 : Value) (l1 : Value) (l2 : Int32) (l3 : Value) (x0 : Int32) (h : zMm) (Q : Option Value → zMm → Prop), zWp d zi_83 none 34 [l0, l1, .int l2, l3] [.int x0] h Q = zWp d zi_83 none 35 [l0, l1, .int l2, l3] [.int l2, .int x0] h Q) ∧
    (∀ (d : Nat) (l0 : Value) (l1 : Value) (l2 : Value) (l3 : Value) (x1 : Int32) (x0 : Int32) (h : zMm) (Q : Option Value → zMm → Prop), zWp d zi_83 none 35 [l0, l1, l2, l3] [.int x1, .int x0] h Q = zWp d zi_83 none 36 [l0, l1, l2, l3] [.int (x0 - x1)] h Q) ∧
    (∀ (d : Nat) (l0 : Value) (l1 : Value) (l2 : Value) (l3 : Value) (x0 : Int32) (h : zMm) (Q : Option Value → zMm → Prop), zWp d zi_83 none 36 [l0, l1, l2, l3] [.int x0] h Q = Q (some (.int x0)) h) ∧
    (∀ (d : Nat) (l0 : Nat) (l1 : Value) (l2 : Value) (l3 : Value)  (h : zMm) (Q : Option Value → zMm → Prop), zWp d zi_83 none 37 [.ref l0, l1, l2, l3] [] h Q = zWp d zi_83 none 38 [.ref l0, l1, l2, l3] [.ref l0] h Q) ∧
    (∀ (d : Nat) (l0 : Value) (l1 : Value) (l2 : Value) (l3 : Value) (x0 : Nat) (I : Nat → Nat → Int32) (L : Nat → Nat → Int64) (P : Nat → Nat → Option Nat) (Q : Option Value → zMm → Prop), zSH[x0]? = some (.inl 9) → zWp d zi_83 none 38 [l0, l1, l2, l3] [.ref x0] (zSH, I, L, P) Q = zWp d zi_83 none 41 [l0, l1, l2, l3] [va_rf (P x0 11)] (zSH, I, L, P) Q) ∧
    (∀ (d : Nat) (l0 : Value) (l1 : Value) (l2 : Int32) (l3 : Value) (x0 : Nat) (h : zMm) (Q : Option Value → zMm → Prop), zWp d zi_83 none 41 [l0, l1, .int l2, l3] [.ref x0] h Q = zWp d zi_83 none 42 [l0, l1, .int l2, .ref x0] [] h Q) ∧
    (∀ (d : Nat) (l0 : Nat) (l1 : Value) (l2 : Value) (l3 : Value)  (h : zMm) (Q : Option Value → zMm → Prop), zWp d zi_83 none 42 [.ref l0, l1, l2, l3] [] h Q = zWp d zi_83 none 43 [.ref l0, l1, l2, l3] [.ref l0] h Q) ∧
    (∀ (d : Nat) (l0 : Nat) (l1 : Value) (l2 : Value) (l3 : Value) (x0 : Nat) (h : zMm) (Q : Option Value → zMm → Prop), zWp d zi_83 none 43 [.ref l0, l1, l2, l3] [.ref x0] h Q = zWp d zi_83 none 44 [.ref l0, l1, l2, l3] [.ref l0, .ref x0] h Q) ∧
    (∀ (d : Nat) (l0 : Value) (l1 : Value) (l2 : Value) (l3 : Value) (x1 : Nat) (x0 : Nat) (I : Nat → Nat → Int32) (L : Nat → Nat → Int64) (P : Nat → Nat → Option Nat) (Q : Option Value → zMm → Prop), zSH[x1]? = some (.inl 9) → zWp d zi_83 none 44 [l0, l1, l2, l3] [.ref x1, .ref x0] (zSH, I, L, P) Q = zWp d zi_83 none 47 [l0, l1, l2, l3] [va_rf (P x1 12), .ref x0] (zSH, I, L, P) Q) ∧
    (∀ (d : Nat) (l0 : Value) (l1 : Value) (l2 : Value) (l3 : Value) (x1 : Nat) (x0 : Nat) (I : Nat → Nat → Int32) (L : Nat → Nat → Int64) (P : Nat → Nat → Option Nat) (Q : Option Value → zMm → Prop), zSH[x0]? = some (.inl 9) → zWp d zi_83 none 47 [l0, l1, l2, l3] [.ref x1, .ref x0] (zSH, I, L, P) Q = zWp d zi_83 none 50 [l0, l1, l2, l3] [] (zSH, I, L, zw P x0 (va_up (P x0) 11 (some x1))) Q) ∧
    (∀ (d : Nat) (l0 : Nat) (l1 : Value) (l2 : Value) (l3 : Value)  (h : zMm) (Q : Option Value → zMm → Prop), zWp d zi_83 none 50 [.ref l0, l1, l2, l3] [] h Q = zWp d zi_83 none 51 [.ref l0, l1, l2, l3] [.ref l0] h Q) ∧
    (∀ (d : Nat) (l0 : Value) (l1 : Value) (l2 : Value) (l3 : Nat) (x0 : Nat) (h : zMm) (Q : Option Value → zMm → Prop), zWp d zi_83 none 51 [l0, l1, l2, .ref l3] [.ref x0] h Q = zWp d zi_83 none 52 [l0, l1, l2, .ref l3] [.ref l3, .ref x0] h Q) ∧
    (∀ (d : Nat) (l0 : Value) (l1 : Value) (l2 : Value) (l3 : Value) (x1 : Nat) (x0 : Nat) (I : Nat → Nat → Int32) (L : Nat → Nat → Int64) (P : Nat → Nat → Option Nat) (Q : Option Value → zMm → Prop), zSH[x0]? = some (.inl 9) → zWp d zi_83 none 52 [l0, l1, l2, l3] [.ref x1, .ref x0] (zSH, I, L, P) Q = zWp d zi_83 none 55 [l0, l1, l2, l3] [] (zSH, I, L, zw P x0 (va_up (P x0) 12 (some x1))) Q) ∧
    (∀ (d : Nat) (l0 : Nat) (l1 : Value) (l2 : Value) (l3 : Value)  (h : zMm) (Q : Option Value → zMm → Prop), zWp d zi_83 none 55 [.ref l0, l1, l2, l3] [] h Q = zWp d zi_83 none 56 [.ref l0, l1, l2, l3] [.ref l0] h Q) ∧
    (∀ (d : Nat) (l0 : Value) (l1 : Value) (l2 : Value) (l3 : Value) (x0 : Nat) (I : Nat → Nat → Int32) (L : Nat → Nat → Int64) (P : Nat → Nat → Option Nat) (Q : Option Value → zMm → Prop), zSH[x0]? = some (.inl 9) → zWp d zi_83 none 56 [l0, l1, l2, l3] [.ref x0] (zSH, I, L, P) Q = zWp d zi_83 none 59 [l0, l1, l2, l3] [va_rf (P x0 4)] (zSH, I, L, P) Q) ∧
    (∀ (d : Nat) (l0 : Value) (l1 : Value) (l2 : Value) (l3 : Value) (x0 : Nat) (h : zMm) (Q : Option Value → zMm → Prop), zWp d zi_83 none 59 [l0, l1, l2, l3] [.ref x0] h Q = zWp d zi_83 none 60 [l0, l1, l2, l3] [.int 0, .ref x0] h Q) ∧
    (∀ (d : Nat) (l0 : Value) (l1 : Value) (l2 : Value) (l3 : Value) (x1 : Int32) (x0 : Nat) (I : Nat → Nat → Int32) (L : Nat → Nat → Int64) (P : Nat → Nat → Option Nat) (Q : Option Value → zMm → Prop), zSH[x0]? = some (.inl 2) → x1 = 0 ∨ x1 = 1 → zWp d zi_83 none 60 [l0, l1, l2, l3] [.int x1, .ref x0] (zSH, I, L, P) Q = zWp d zi_83 none 63 [l0, l1, l2, l3] [] (zSH, zw I x0 (upd (I x0) 6 x1), L, P) Q) ∧
    (∀ (d : Nat) (l0 : Value) (l1 : Value) (l2 : Value) (l3 : Value)  (h : zMm) (Q : Option Value → zMm → Prop), zWp d zi_83 none 63 [l0, l1, l2, l3] [] h Q = zWp d zi_83 none 64 [l0, l1, l2, l3] [.int 1] h Q) ∧
    (∀ (d : Nat) (l0 : Value) (l1 : Value) (l2 : Value) (l3 : Value) (x0 : Int32) (h : zMm) (Q : Option Value → zMm → Prop), zWp d zi_83 none 64 [l0, l1, l2, l3] [.int x0] h Q = Q (some (.int x0)) h) :=
  ⟨(fun d l0 l1 l2 l3  h Q => zr_aload_n rfl rfl),
   (fun d l0 l1 l2 l3 x0 I L P Q p0 => zr_getQ rfl lf_9_29 (fun _ _ _ => rfl) p0),
   (fun d l0 l1 l2 l3 x0 h Q => zr_aload_n rfl rfl),
   (fun d l0 l1 l2 l3 x1 x0 I L P Q p0 => zr_getQ rfl lf_9_80 (fun _ _ _ => rfl) p0),
   (fun d l0 l1 l2 l3 x1 x0 I L P Q p0 => zr_vir (as := [.ref x1]) (rest := []) rfl lm_9_214 m_33 kd_33 rfl (Nat.le_of_ble_eq_true rfl) p0),
   (fun d l0 l1 l2 l3 x0 h Q => zr_istore_n (n := 1) rfl (Nat.le_of_ble_eq_true rfl) rfl),
   (fun d l0 l1 l2 l3  h Q => zr_aload_n rfl rfl),
   (fun d l0 l1 l2 l3 x0 I L P Q p0 => zr_getQ rfl lf_9_29 (fun _ _ _ => rfl) p0),
   (fun d l0 l1 l2 l3 x0 I L P Q p0 => zr_getI rfl lf_9_218 (fun _ _ _ => rfl) p0),
   (fun d l0 l1 l2 l3 x0 h Q => zr_istore_n (n := 2) rfl (Nat.le_of_ble_eq_true rfl) rfl),
   (fun d l0 l1 l2 l3  h Q => zr_aload_n rfl rfl),
   (fun d l0 l1 l2 l3 x0 I L P Q p0 => zr_getQ rfl lf_9_29 (fun _ _ _ => rfl) p0),
   (fun d l0 l1 l2 l3 x0 h Q => zr_iconst rfl (by decide)),
   (fun d l0 l1 l2 l3 x1 x0 I L P Q p0 => zr_putI rfl lf_9_210 (by decide) rfl p0),
   (fun d l0 l1 l2 l3  h Q => zr_iload_n rfl rfl),
   (fun d l0 l1 l2 l3 x0 h Q => zr_if_ne rfl (by decide)),
   (fun d l0 l1 l2 l3  h Q => zr_bipush rfl (by decide)),
   (fun d l0 l1 l2 l3 x0 h Q => zr_iload_n rfl rfl),
   (fun d l0 l1 l2 l3 x1 x0 h Q => zr_isub rfl),
   (fun d l0 l1 l2 l3 x0 h Q => zr_iret rfl rfl),
   (fun d l0 l1 l2 l3  h Q => zr_aload_n rfl rfl),
   (fun d l0 l1 l2 l3 x0 I L P Q p0 => zr_getQ rfl lf_9_76 (fun _ _ _ => rfl) p0),
   (fun d l0 l1 l2 l3 x0 h Q => zr_astore_n (n := 3) rfl (Nat.le_of_ble_eq_true rfl) rfl),
   (fun d l0 l1 l2 l3  h Q => zr_aload_n rfl rfl),
   (fun d l0 l1 l2 l3 x0 h Q => zr_aload_n rfl rfl),
   (fun d l0 l1 l2 l3 x1 x0 I L P Q p0 => zr_getQ rfl lf_9_80 (fun _ _ _ => rfl) p0),
   (fun d l0 l1 l2 l3 x1 x0 I L P Q p0 => zr_putO rfl lf_9_76 (by decide) rfl p0),
   (fun d l0 l1 l2 l3  h Q => zr_aload_n rfl rfl),
   (fun d l0 l1 l2 l3 x0 h Q => zr_aload_n rfl rfl),
   (fun d l0 l1 l2 l3 x1 x0 I L P Q p0 => zr_putO rfl lf_9_80 (by decide) rfl p0),
   (fun d l0 l1 l2 l3  h Q => zr_aload_n rfl rfl),
   (fun d l0 l1 l2 l3 x0 I L P Q p0 => zr_getQ rfl lf_9_36 (fun _ _ _ => rfl) p0),
   (fun d l0 l1 l2 l3 x0 h Q => zr_iconst rfl (by decide)),
   (fun d l0 l1 l2 l3 x1 x0 I L P Q p0 p1 => zr_putZ rfl lf_9_105 (by decide) rfl p0 p1),
   (fun d l0 l1 l2 l3  h Q => zr_iconst rfl (by decide)),
   (fun d l0 l1 l2 l3 x0 h Q => zr_iret rfl rfl)⟩
theorem E_X9_isThere : ∀ (d : Nat) (a0 : Nat) (a1 : Int32) (a2 : Int32) (h : zMm) (Q : Option Value → zMm → Prop), zWM (d + 1) 84 [.ref a0, .int a1, .int a2] h Q = zWp d zi_84 none 0 [.ref a0, .int a1, .int a2] [] h Q := fun d a0 a1 a2 h Q => zW_M m_84 (Nat.le_of_ble_eq_true rfl) rfl
set_option maxRecDepth 100000 in
theorem R_X9_isThere :
    (∀ (d : Nat) (l0 : Value) (l1 : Value) (l2 : Int32)  (h : zMm) (Q : Option Value → zMm → Prop), zWp d zi_84 none 0 [l0, l1, .int l2] [] h Q = zWp d zi_84 none 1 [l0, l1, .int l2] [.int l2] h Q) ∧
    (∀ (d : Nat) (l0 : Value) (l1 : Value) (l2 : Value) (x0 : Int32) (h : zMm) (Q : Option Value → zMm → Prop), zWp d zi_84 none 1 [l0, l1, l2] [.int x0] h Q = if x0 = 0 then zWp d zi_84 none 48 [l0, l1, l2] [] h Q else if x0 = 1 then zWp d zi_84 none 48 [l0, l1, l2] [] h Q else if x0 = 2 then zWp d zi_84 none 48 [l0, l1, l2] [] h Q else if x0 = 3 then zWp d zi_84 none 66 [l0, l1, l2] [] h Q else if x0 = 4 then zWp d zi_84 none 66 [l0, l1, l2] [] h Q else if x0 = 5 then zWp d zi_84 none 57 [l0, l1, l2] [] h Q else if x0 = 6 then zWp d zi_84 none 66 [l0, l1, l2] [] h Q else if x0 = 7 then zWp d zi_84 none 66 [l0, l1, l2] [] h Q else zWp d zi_84 none 76 [l0, l1, l2] [] h Q) ∧
    (∀ (d : Nat) (l0 : Nat) (l1 : Value) (l2 : Value)  (h : zMm) (Q : Option Value → zMm → Prop), zWp d zi_84 none 48 [.ref l0, l1, l2] [] h Q = zWp d zi_84 none 49 [.ref l0, l1, l2] [.ref l0] h Q) ∧
    (∀ (d : Nat) (l0 : Value) (l1 : Value) (l2 : Value) (x0 : Nat) (I : Nat → Nat → Int32) (L : Nat → Nat → Int64) (P : Nat → Nat → Option Nat) (Q : Option Value → zMm → Prop), zSH[x0]? = some (.inl 9) → zWp d zi_84 none 49 [l0, l1, l2] [.ref x0] (zSH, I, L, P) Q = zWp d zi_84 none 52 [l0, l1, l2] [va_rf (P x0 0)] (zSH, I, L, P) Q) ∧
    (∀ (d : Nat) (l0 : Value) (l1 : Int32) (l2 : Value) (x0 : Nat) (h : zMm) (Q : Option Value → zMm → Prop), zWp d zi_84 none 52 [l0, .int l1, l2] [.ref x0] h Q = zWp d zi_84 none 53 [l0, .int l1, l2] [.int l1, .ref x0] h Q) ∧
    (∀ (d : Nat) (l0 : Value) (l1 : Value) (l2 : Value) (x1 : Int32) (x0 : Nat) (I : Nat → Nat → Int32) (L : Nat → Nat → Int64) (P : Nat → Nat → Option Nat) (Q : Option Value → zMm → Prop), zSH[x0]? = some (.inl 8) → zWp d zi_84 none 53 [l0, l1, l2] [.int x1, .ref x0] (zSH, I, L, P) Q = zWM d 59 [.ref x0, .int x1] (zSH, I, L, P) (fun r h1 => zWp d zi_84 none 56 [l0, l1, l2] (r.toList ++ []) h1 Q)) ∧
    (∀ (d : Nat) (l0 : Value) (l1 : Value) (l2 : Value) (x0 : Int32) (h : zMm) (Q : Option Value → zMm → Prop), x0 = 0 ∨ x0 = 1 → zWp d zi_84 none 56 [l0, l1, l2] [.int x0] h Q = Q (some (.int x0)) h) ∧
    (∀ (d : Nat) (l0 : Nat) (l1 : Value) (l2 : Value)  (h : zMm) (Q : Option Value → zMm → Prop), zWp d zi_84 none 57 [.ref l0, l1, l2] [] h Q = zWp d zi_84 none 58 [.ref l0, l1, l2] [.ref l0] h Q) ∧
    (∀ (d : Nat) (l0 : Value) (l1 : Value) (l2 : Value) (x0 : Nat) (I : Nat → Nat → Int32) (L : Nat → Nat → Int64) (P : Nat → Nat → Option Nat) (Q : Option Value → zMm → Prop), zSH[x0]? = some (.inl 9) → zWp d zi_84 none 58 [l0, l1, l2] [.ref x0] (zSH, I, L, P) Q = zWp d zi_84 none 61 [l0, l1, l2] [va_rf (P x0 2)] (zSH, I, L, P) Q) ∧
    (∀ (d : Nat) (l0 : Value) (l1 : Int32) (l2 : Value) (x0 : Nat) (h : zMm) (Q : Option Value → zMm → Prop), zWp d zi_84 none 61 [l0, .int l1, l2] [.ref x0] h Q = zWp d zi_84 none 62 [l0, .int l1, l2] [.int l1, .ref x0] h Q) ∧
    (∀ (d : Nat) (l0 : Value) (l1 : Value) (l2 : Value) (x1 : Int32) (x0 : Nat) (I : Nat → Nat → Int32) (L : Nat → Nat → Int64) (P : Nat → Nat → Option Nat) (Q : Option Value → zMm → Prop), zSH[x0]? = some (.inl 3) → zWp d zi_84 none 62 [l0, l1, l2] [.int x1, .ref x0] (zSH, I, L, P) Q = zWM d 22 [.ref x0, .int x1] (zSH, I, L, P) (fun r h1 => zWp d zi_84 none 65 [l0, l1, l2] (r.toList ++ []) h1 Q)) ∧
    (∀ (d : Nat) (l0 : Value) (l1 : Value) (l2 : Value) (x0 : Int32) (h : zMm) (Q : Option Value → zMm → Prop), x0 = 0 ∨ x0 = 1 → zWp d zi_84 none 65 [l0, l1, l2] [.int x0] h Q = Q (some (.int x0)) h) ∧
    (∀ (d : Nat) (l0 : Value) (l1 : Int32) (l2 : Value)  (h : zMm) (Q : Option Value → zMm → Prop), zWp d zi_84 none 66 [l0, .int l1, l2] [] h Q = zWp d zi_84 none 67 [l0, .int l1, l2] [.int l1] h Q) ∧
    (∀ (d : Nat) (l0 : Value) (l1 : Value) (l2 : Value) (x0 : Int32) (h : zMm) (Q : Option Value → zMm → Prop), zWp d zi_84 none 67 [l0, l1, l2] [.int x0] h Q = if x0 = 0 then zWp d zi_84 none 70 [l0, l1, l2] [] h Q else zWp d zi_84 none 74 [l0, l1, l2] [] h Q) ∧
    (∀ (d : Nat) (l0 : Value) (l1 : Value) (l2 : Value)  (h : zMm) (Q : Option Value → zMm → Prop), zWp d zi_84 none 70 [l0, l1, l2] [] h Q = zWp d zi_84 none 71 [l0, l1, l2] [.int 1] h Q) ∧
    (∀ (d : Nat) (l0 : Value) (l1 : Value) (l2 : Value) (x0 : Int32) (h : zMm) (Q : Option Value → zMm → Prop), zWp d zi_84 none 71 [l0, l1, l2] [.int x0] h Q = zWp d zi_84 none 75 [l0, l1, l2] [.int x0] h Q) ∧
    (∀ (d : Nat) (l0 : Value) (l1 : Value) (l2 : Value)  (h : zMm) (Q : Option Value → zMm → Prop), zWp d zi_84 none 74 [l0, l1, l2] [] h Q = zWp d zi_84 none 75 [l0, l1, l2] [.int 0] h Q) ∧
    (∀ (d : Nat) (l0 : Value) (l1 : Value) (l2 : Value) (x0 : Int32) (h : zMm) (Q : Option Value → zMm → Prop), x0 = 0 ∨ x0 = 1 → zWp d zi_84 none 75 [l0, l1, l2] [.int x0] h Q = Q (some (.int x0)) h) ∧
    (∀ (d : Nat) (l0 : Value) (l1 : Value) (l2 : Value)  (h : zMm) (Q : Option Value → zMm → Prop), zWp d zi_84 none 76 [l0, l1, l2] [] h Q = zWp d zi_84 none 77 [l0, l1, l2] [.int 0] h Q) ∧
    (∀ (d : Nat) (l0 : Value) (l1 : Value) (l2 : Value) (x0 : Int32) (h : zMm) (Q : Option Value → zMm → Prop), x0 = 0 ∨ x0 = 1 → zWp d zi_84 none 77 [l0, l1, l2] [.int x0] h Q = Q (some (.int x0)) h) :=
  ⟨(fun d l0 l1 l2  h Q => zr_iload_n rfl rfl),
   (fun d l0 l1 l2 x0 h Q => by
      by_cases e0 : x0 = 0
      · subst e0; rw [if_pos rfl]; exact zr_tabI rfl (by decide) rfl (by decide)
      rw [if_neg e0]
      have n0 : ¬ x0.toInt = 0 := fun z => e0 (Int32.toInt_inj.mp z)
      by_cases e1 : x0 = 1
      · subst e1; rw [if_pos rfl]; exact zr_tabI rfl (by decide) rfl (by decide)
      rw [if_neg e1]
      have n1 : ¬ x0.toInt = 1 := fun z => e1 (Int32.toInt_inj.mp z)
      by_cases e2 : x0 = 2
      · subst e2; rw [if_pos rfl]; exact zr_tabI rfl (by decide) rfl (by decide)
      rw [if_neg e2]
      have n2 : ¬ x0.toInt = 2 := fun z => e2 (Int32.toInt_inj.mp z)
      by_cases e3 : x0 = 3
      · subst e3; rw [if_pos rfl]; exact zr_tabI rfl (by decide) rfl (by decide)
      rw [if_neg e3]
      have n3 : ¬ x0.toInt = 3 := fun z => e3 (Int32.toInt_inj.mp z)
      by_cases e4 : x0 = 4
      · subst e4; rw [if_pos rfl]; exact zr_tabI rfl (by decide) rfl (by decide)
      rw [if_neg e4]
      have n4 : ¬ x0.toInt = 4 := fun z => e4 (Int32.toInt_inj.mp z)
      by_cases e5 : x0 = 5
      · subst e5; rw [if_pos rfl]; exact zr_tabI rfl (by decide) rfl (by decide)
      rw [if_neg e5]
      have n5 : ¬ x0.toInt = 5 := fun z => e5 (Int32.toInt_inj.mp z)
      by_cases e6 : x0 = 6
      · subst e6; rw [if_pos rfl]; exact zr_tabI rfl (by decide) rfl (by decide)
      rw [if_neg e6]
      have n6 : ¬ x0.toInt = 6 := fun z => e6 (Int32.toInt_inj.mp z)
      by_cases e7 : x0 = 7
      · subst e7; rw [if_pos rfl]; exact zr_tabI rfl (by decide) rfl (by decide)
      rw [if_neg e7]
      have n7 : ¬ x0.toInt = 7 := fun z => e7 (Int32.toInt_inj.mp z)
      exact zr_tabD rfl (by omega) (by decide)),
   (fun d l0 l1 l2  h Q => zr_aload_n rfl rfl),
   (fun d l0 l1 l2 x0 I L P Q p0 => zr_getQ rfl lf_9_10 (fun _ _ _ => rfl) p0),
   (fun d l0 l1 l2 x0 h Q => zr_iload_n rfl rfl),
   (fun d l0 l1 l2 x1 x0 I L P Q p0 => zr_vir (as := [.int x1]) (rest := []) rfl lm_9_161 m_59 kd_59 rfl (Nat.le_of_ble_eq_true rfl) p0),
   (fun d l0 l1 l2 x0 h Q p0 => zr_zret rfl rfl p0),
   (fun d l0 l1 l2  h Q => zr_aload_n rfl rfl),
   (fun d l0 l1 l2 x0 I L P Q p0 => zr_getQ rfl lf_9_22 (fun _ _ _ => rfl) p0),
   (fun d l0 l1 l2 x0 h Q => zr_iload_n rfl rfl),
   (fun d l0 l1 l2 x1 x0 I L P Q p0 => zr_vir (as := [.int x1]) (rest := []) rfl lm_9_167 m_22 kd_22 rfl (Nat.le_of_ble_eq_true rfl) p0),
   (fun d l0 l1 l2 x0 h Q p0 => zr_zret rfl rfl p0),
   (fun d l0 l1 l2  h Q => zr_iload_n rfl rfl),
   (fun d l0 l1 l2 x0 h Q => zr_if_ne rfl (by decide)),
   (fun d l0 l1 l2  h Q => zr_iconst rfl (by decide)),
   (fun d l0 l1 l2 x0 h Q => zr_goto rfl (by decide)),
   (fun d l0 l1 l2  h Q => zr_iconst rfl (by decide)),
   (fun d l0 l1 l2 x0 h Q p0 => zr_zret rfl rfl p0),
   (fun d l0 l1 l2  h Q => zr_iconst rfl (by decide)),
   (fun d l0 l1 l2 x0 h Q p0 => zr_zret rfl rfl p0)⟩
theorem E_X9_isFit : ∀ (d : Nat) (a0 : Nat) (a1 : Int32) (a2 : Int32) (a3 : Int32) (h : zMm) (Q : Option Value → zMm → Prop), zWM (d + 1) 85 [.ref a0, .int a1, .int a2, .int a3] h Q = zWp d zi_85 none 0 [.ref a0, .int a1, .int a2, .int a3] [] h Q := fun d a0 a1 a2 a3 h Q => zW_M m_85 (Nat.le_of_ble_eq_true rfl) rfl
set_option maxRecDepth 100000 in
theorem R_X9_isFit :
    (∀ (d : Nat) (l0 : Value) (l1 : Value) (l2 : Int32) (l3 : Value)  (h : zMm) (Q : Option Value → zMm → Prop), zWp d zi_85 none 0 [l0, l1, .int l2, l3] [] h Q = zWp d zi_85 none 1 [l0, l1, .int l2, l3] [.int l2] h Q) ∧
    (∀ (d : Nat) (l0 : Value) (l1 : Value) (l2 : Value) (l3 : Value) (x0 : Int32) (h : zMm) (Q : Option Value → zMm → Prop), zWp d zi_85 none 1 [l0, l1, l2, l3] [.int x0] h Q = if x0 = 0 then zWp d zi_85 none 48 [l0, l1, l2, l3] [] h Q else if x0 = 1 then zWp d zi_85 none 48 [l0, l1, l2, l3] [] h Q else if x0 = 2 then zWp d zi_85 none 65 [l0, l1, l2, l3] [] h Q else if x0 = 3 then zWp d zi_85 none 88 [l0, l1, l2, l3] [] h Q else if x0 = 4 then zWp d zi_85 none 88 [l0, l1, l2, l3] [] h Q else if x0 = 5 then zWp d zi_85 none 106 [l0, l1, l2, l3] [] h Q else if x0 = 6 then zWp d zi_85 none 122 [l0, l1, l2, l3] [] h Q else if x0 = 7 then zWp d zi_85 none 140 [l0, l1, l2, l3] [] h Q else zWp d zi_85 none 156 [l0, l1, l2, l3] [] h Q) ∧
    (∀ (d : Nat) (l0 : Value) (l1 : Value) (l2 : Value) (l3 : Int32)  (h : zMm) (Q : Option Value → zMm → Prop), zWp d zi_85 none 48 [l0, l1, l2, .int l3] [] h Q = zWp d zi_85 none 49 [l0, l1, l2, .int l3] [.int l3] h Q) ∧
    (∀ (d : Nat) (l0 : Value) (l1 : Value) (l2 : Value) (l3 : Value) (x0 : Int32) (h : zMm) (Q : Option Value → zMm → Prop), zWp d zi_85 none 49 [l0, l1, l2, l3] [.int x0] h Q = zWp d zi_85 none 51 [l0, l1, l2, l3] [.int (-4), .int x0] h Q) ∧
    (∀ (d : Nat) (l0 : Value) (l1 : Value) (l2 : Value) (l3 : Value) (x1 : Int32) (x0 : Int32) (h : zMm) (Q : Option Value → zMm → Prop), zWp d zi_85 none 51 [l0, l1, l2, l3] [.int x1, .int x0] h Q = if x0 < x1 then zWp d zi_85 none 63 [l0, l1, l2, l3] [] h Q else zWp d zi_85 none 54 [l0, l1, l2, l3] [] h Q) ∧
    (∀ (d : Nat) (l0 : Value) (l1 : Value) (l2 : Value) (l3 : Int32)  (h : zMm) (Q : Option Value → zMm → Prop), zWp d zi_85 none 54 [l0, l1, l2, .int l3] [] h Q = zWp d zi_85 none 55 [l0, l1, l2, .int l3] [.int l3] h Q) ∧
    (∀ (d : Nat) (l0 : Value) (l1 : Value) (l2 : Value) (l3 : Value) (x0 : Int32) (h : zMm) (Q : Option Value → zMm → Prop), zWp d zi_85 none 55 [l0, l1, l2, l3] [.int x0] h Q = zWp d zi_85 none 56 [l0, l1, l2, l3] [.int 4, .int x0] h Q) ∧
    (∀ (d : Nat) (l0 : Value) (l1 : Value) (l2 : Value) (l3 : Value) (x1 : Int32) (x0 : Int32) (h : zMm) (Q : Option Value → zMm → Prop), zWp d zi_85 none 56 [l0, l1, l2, l3] [.int x1, .int x0] h Q = if x1 < x0 then zWp d zi_85 none 63 [l0, l1, l2, l3] [] h Q else zWp d zi_85 none 59 [l0, l1, l2, l3] [] h Q) ∧
    (∀ (d : Nat) (l0 : Value) (l1 : Value) (l2 : Value) (l3 : Value)  (h : zMm) (Q : Option Value → zMm → Prop), zWp d zi_85 none 59 [l0, l1, l2, l3] [] h Q = zWp d zi_85 none 60 [l0, l1, l2, l3] [.int 1] h Q) ∧
    (∀ (d : Nat) (l0 : Value) (l1 : Value) (l2 : Value) (l3 : Value) (x0 : Int32) (h : zMm) (Q : Option Value → zMm → Prop), zWp d zi_85 none 60 [l0, l1, l2, l3] [.int x0] h Q = zWp d zi_85 none 64 [l0, l1, l2, l3] [.int x0] h Q) ∧
    (∀ (d : Nat) (l0 : Value) (l1 : Value) (l2 : Value) (l3 : Value)  (h : zMm) (Q : Option Value → zMm → Prop), zWp d zi_85 none 63 [l0, l1, l2, l3] [] h Q = zWp d zi_85 none 64 [l0, l1, l2, l3] [.int 0] h Q) ∧
    (∀ (d : Nat) (l0 : Value) (l1 : Value) (l2 : Value) (l3 : Value) (x0 : Int32) (h : zMm) (Q : Option Value → zMm → Prop), x0 = 0 ∨ x0 = 1 → zWp d zi_85 none 64 [l0, l1, l2, l3] [.int x0] h Q = Q (some (.int x0)) h) ∧
    (∀ (d : Nat) (l0 : Value) (l1 : Value) (l2 : Value) (l3 : Int32)  (h : zMm) (Q : Option Value → zMm → Prop), zWp d zi_85 none 65 [l0, l1, l2, .int l3] [] h Q = zWp d zi_85 none 66 [l0, l1, l2, .int l3] [.int l3] h Q) ∧
    (∀ (d : Nat) (l0 : Value) (l1 : Value) (l2 : Value) (l3 : Value) (x0 : Int32) (h : zMm) (Q : Option Value → zMm → Prop), zWp d zi_85 none 66 [l0, l1, l2, l3] [.int x0] h Q = if x0 < 0 then zWp d zi_85 none 86 [l0, l1, l2, l3] [] h Q else zWp d zi_85 none 69 [l0, l1, l2, l3] [] h Q) ∧
    (∀ (d : Nat) (l0 : Value) (l1 : Value) (l2 : Value) (l3 : Int32)  (h : zMm) (Q : Option Value → zMm → Prop), zWp d zi_85 none 69 [l0, l1, l2, .int l3] [] h Q = zWp d zi_85 none 70 [l0, l1, l2, .int l3] [.int l3] h Q) ∧
    (∀ (d : Nat) (l0 : Nat) (l1 : Value) (l2 : Value) (l3 : Value) (x0 : Int32) (h : zMm) (Q : Option Value → zMm → Prop), zWp d zi_85 none 70 [.ref l0, l1, l2, l3] [.int x0] h Q = zWp d zi_85 none 71 [.ref l0, l1, l2, l3] [.ref l0, .int x0] h Q) ∧
    (∀ (d : Nat) (l0 : Value) (l1 : Value) (l2 : Value) (l3 : Value) (x1 : Nat) (x0 : Int32) (I : Nat → Nat → Int32) (L : Nat → Nat → Int64) (P : Nat → Nat → Option Nat) (Q : Option Value → zMm → Prop), zSH[x1]? = some (.inl 9) → zWp d zi_85 none 71 [l0, l1, l2, l3] [.ref x1, .int x0] (zSH, I, L, P) Q = zWp d zi_85 none 74 [l0, l1, l2, l3] [va_rf (P x1 0), .int x0] (zSH, I, L, P) Q) ∧
    (∀ (d : Nat) (l0 : Value) (l1 : Value) (l2 : Value) (l3 : Value) (x1 : Nat) (x0 : Int32) (I : Nat → Nat → Int32) (L : Nat → Nat → Int64) (P : Nat → Nat → Option Nat) (Q : Option Value → zMm → Prop), zSH[x1]? = some (.inl 8) → zWp d zi_85 none 74 [l0, l1, l2, l3] [.ref x1, .int x0] (zSH, I, L, P) Q = zWp d zi_85 none 77 [l0, l1, l2, l3] [va_rf (P x1 0), .int x0] (zSH, I, L, P) Q) ∧
    (∀ (d : Nat) (l0 : Value) (l1 : Int32) (l2 : Value) (l3 : Value) (x1 : Nat) (x0 : Int32) (h : zMm) (Q : Option Value → zMm → Prop), zWp d zi_85 none 77 [l0, .int l1, l2, l3] [.ref x1, .int x0] h Q = zWp d zi_85 none 78 [l0, .int l1, l2, l3] [.int l1, .ref x1, .int x0] h Q) ∧
    (∀ (d : Nat) (l0 : Value) (l1 : Value) (l2 : Value) (l3 : Value) (x2 : Int32) (x1 : Nat) (x0 : Int32) (I : Nat → Nat → Int32) (L : Nat → Nat → Int64) (P : Nat → Nat → Option Nat) (Q : Option Value → zMm → Prop), zAk zSH x1 = some .int → zWp d zi_85 none 78 [l0, l1, l2, l3] [.int x2, .ref x1, .int x0] (zSH, I, L, P) Q = (vp_in x2 (zAn zSH x1) ∧ zWp d zi_85 none 79 [l0, l1, l2, l3] [.int (I x1 x2.toNatClampNeg), .int x0] (zSH, I, L, P) Q)) ∧
    (∀ (d : Nat) (l0 : Value) (l1 : Value) (l2 : Value) (l3 : Value) (x1 : Int32) (x0 : Int32) (h : zMm) (Q : Option Value → zMm → Prop), zWp d zi_85 none 79 [l0, l1, l2, l3] [.int x1, .int x0] h Q = if x1 < x0 then zWp d zi_85 none 86 [l0, l1, l2, l3] [] h Q else zWp d zi_85 none 82 [l0, l1, l2, l3] [] h Q) ∧
    (∀ (d : Nat) (l0 : Value) (l1 : Value) (l2 : Value) (l3 : Value)  (h : zMm) (Q : Option Value → zMm → Prop), zWp d zi_85 none 82 [l0, l1, l2, l3] [] h Q = zWp d zi_85 none 83 [l0, l1, l2, l3] [.int 1] h Q) ∧
    (∀ (d : Nat) (l0 : Value) (l1 : Value) (l2 : Value) (l3 : Value) (x0 : Int32) (h : zMm) (Q : Option Value → zMm → Prop), zWp d zi_85 none 83 [l0, l1, l2, l3] [.int x0] h Q = zWp d zi_85 none 87 [l0, l1, l2, l3] [.int x0] h Q) ∧
    (∀ (d : Nat) (l0 : Value) (l1 : Value) (l2 : Value) (l3 : Value)  (h : zMm) (Q : Option Value → zMm → Prop), zWp d zi_85 none 86 [l0, l1, l2, l3] [] h Q = zWp d zi_85 none 87 [l0, l1, l2, l3] [.int 0] h Q) ∧
    (∀ (d : Nat) (l0 : Value) (l1 : Value) (l2 : Value) (l3 : Value) (x0 : Int32) (h : zMm) (Q : Option Value → zMm → Prop), x0 = 0 ∨ x0 = 1 → zWp d zi_85 none 87 [l0, l1, l2, l3] [.int x0] h Q = Q (some (.int x0)) h) ∧
    (∀ (d : Nat) (l0 : Value) (l1 : Value) (l2 : Value) (l3 : Int32)  (h : zMm) (Q : Option Value → zMm → Prop), zWp d zi_85 none 88 [l0, l1, l2, .int l3] [] h Q = zWp d zi_85 none 89 [l0, l1, l2, .int l3] [.int l3] h Q) ∧
    (∀ (d : Nat) (l0 : Value) (l1 : Value) (l2 : Value) (l3 : Value) (x0 : Int32) (h : zMm) (Q : Option Value → zMm → Prop), zWp d zi_85 none 89 [l0, l1, l2, l3] [.int x0] h Q = zWp d zi_85 none 91 [l0, l1, l2, l3] [.int (-9), .int x0] h Q) ∧
    (∀ (d : Nat) (l0 : Value) (l1 : Value) (l2 : Value) (l3 : Value) (x1 : Int32) (x0 : Int32) (h : zMm) (Q : Option Value → zMm → Prop), zWp d zi_85 none 91 [l0, l1, l2, l3] [.int x1, .int x0] h Q = if x0 < x1 then zWp d zi_85 none 104 [l0, l1, l2, l3] [] h Q else zWp d zi_85 none 94 [l0, l1, l2, l3] [] h Q) ∧
    (∀ (d : Nat) (l0 : Value) (l1 : Value) (l2 : Value) (l3 : Int32)  (h : zMm) (Q : Option Value → zMm → Prop), zWp d zi_85 none 94 [l0, l1, l2, .int l3] [] h Q = zWp d zi_85 none 95 [l0, l1, l2, .int l3] [.int l3] h Q) ∧
    (∀ (d : Nat) (l0 : Value) (l1 : Value) (l2 : Value) (l3 : Value) (x0 : Int32) (h : zMm) (Q : Option Value → zMm → Prop), zWp d zi_85 none 95 [l0, l1, l2, l3] [.int x0] h Q = zWp d zi_85 none 97 [l0, l1, l2, l3] [.int 9, .int x0] h Q) ∧
    (∀ (d : Nat) (l0 : Value) (l1 : Value) (l2 : Value) (l3 : Value) (x1 : Int32) (x0 : Int32) (h : zMm) (Q : Option Value → zMm → Prop), zWp d zi_85 none 97 [l0, l1, l2, l3] [.int x1, .int x0] h Q = if x1 < x0 then zWp d zi_85 none 104 [l0, l1, l2, l3] [] h Q else zWp d zi_85 none 100 [l0, l1, l2, l3] [] h Q) ∧
    (∀ (d : Nat) (l0 : Value) (l1 : Value) (l2 : Value) (l3 : Value)  (h : zMm) (Q : Option Value → zMm → Prop), zWp d zi_85 none 100 [l0, l1, l2, l3] [] h Q = zWp d zi_85 none 101 [l0, l1, l2, l3] [.int 1] h Q) ∧
    (∀ (d : Nat) (l0 : Value) (l1 : Value) (l2 : Value) (l3 : Value) (x0 : Int32) (h : zMm) (Q : Option Value → zMm → Prop), zWp d zi_85 none 101 [l0, l1, l2, l3] [.int x0] h Q = zWp d zi_85 none 105 [l0, l1, l2, l3] [.int x0] h Q) ∧
    (∀ (d : Nat) (l0 : Value) (l1 : Value) (l2 : Value) (l3 : Value)  (h : zMm) (Q : Option Value → zMm → Prop), zWp d zi_85 none 104 [l0, l1, l2, l3] [] h Q = zWp d zi_85 none 105 [l0, l1, l2, l3] [.int 0] h Q) ∧
    (∀ (d : Nat) (l0 : Value) (l1 : Value) (l2 : Value) (l3 : Value) (x0 : Int32) (h : zMm) (Q : Option Value → zMm → Prop), x0 = 0 ∨ x0 = 1 → zWp d zi_85 none 105 [l0, l1, l2, l3] [.int x0] h Q = Q (some (.int x0)) h) ∧
    (∀ (d : Nat) (l0 : Value) (l1 : Value) (l2 : Value) (l3 : Int32)  (h : zMm) (Q : Option Value → zMm → Prop), zWp d zi_85 none 106 [l0, l1, l2, .int l3] [] h Q = zWp d zi_85 none 107 [l0, l1, l2, .int l3] [.int l3] h Q) ∧
    (∀ (d : Nat) (l0 : Value) (l1 : Value) (l2 : Value) (l3 : Value) (x0 : Int32) (h : zMm) (Q : Option Value → zMm → Prop), zWp d zi_85 none 107 [l0, l1, l2, l3] [.int x0] h Q = if x0 < 0 then zWp d zi_85 none 120 [l0, l1, l2, l3] [] h Q else zWp d zi_85 none 110 [l0, l1, l2, l3] [] h Q) ∧
    (∀ (d : Nat) (l0 : Value) (l1 : Value) (l2 : Value) (l3 : Int32)  (h : zMm) (Q : Option Value → zMm → Prop), zWp d zi_85 none 110 [l0, l1, l2, .int l3] [] h Q = zWp d zi_85 none 111 [l0, l1, l2, .int l3] [.int l3] h Q) ∧
    (∀ (d : Nat) (l0 : Value) (l1 : Value) (l2 : Value) (l3 : Value) (x0 : Int32) (h : zMm) (Q : Option Value → zMm → Prop), zWp d zi_85 none 111 [l0, l1, l2, l3] [.int x0] h Q = zWp d zi_85 none 113 [l0, l1, l2, l3] [.int 9, .int x0] h Q) ∧
    (∀ (d : Nat) (l0 : Value) (l1 : Value) (l2 : Value) (l3 : Value) (x1 : Int32) (x0 : Int32) (h : zMm) (Q : Option Value → zMm → Prop), zWp d zi_85 none 113 [l0, l1, l2, l3] [.int x1, .int x0] h Q = if x1 < x0 then zWp d zi_85 none 120 [l0, l1, l2, l3] [] h Q else zWp d zi_85 none 116 [l0, l1, l2, l3] [] h Q) ∧
    (∀ (d : Nat) (l0 : Value) (l1 : Value) (l2 : Value) (l3 : Value)  (h : zMm) (Q : Option Value → zMm → Prop), zWp d zi_85 none 116 [l0, l1, l2, l3] [] h Q = zWp d zi_85 none 117 [l0, l1, l2, l3] [.int 1] h Q) ∧
    (∀ (d : Nat) (l0 : Value) (l1 : Value) (l2 : Value) (l3 : Value) (x0 : Int32) (h : zMm) (Q : Option Value → zMm → Prop), zWp d zi_85 none 117 [l0, l1, l2, l3] [.int x0] h Q = zWp d zi_85 none 121 [l0, l1, l2, l3] [.int x0] h Q) ∧
    (∀ (d : Nat) (l0 : Value) (l1 : Value) (l2 : Value) (l3 : Value)  (h : zMm) (Q : Option Value → zMm → Prop), zWp d zi_85 none 120 [l0, l1, l2, l3] [] h Q = zWp d zi_85 none 121 [l0, l1, l2, l3] [.int 0] h Q) ∧
    (∀ (d : Nat) (l0 : Value) (l1 : Value) (l2 : Value) (l3 : Value) (x0 : Int32) (h : zMm) (Q : Option Value → zMm → Prop), x0 = 0 ∨ x0 = 1 → zWp d zi_85 none 121 [l0, l1, l2, l3] [.int x0] h Q = Q (some (.int x0)) h) ∧
    (∀ (d : Nat) (l0 : Value) (l1 : Value) (l2 : Value) (l3 : Int32)  (h : zMm) (Q : Option Value → zMm → Prop), zWp d zi_85 none 122 [l0, l1, l2, .int l3] [] h Q = zWp d zi_85 none 123 [l0, l1, l2, .int l3] [.int l3] h Q) ∧
    (∀ (d : Nat) (l0 : Value) (l1 : Value) (l2 : Value) (l3 : Value) (x0 : Int32) (h : zMm) (Q : Option Value → zMm → Prop), zWp d zi_85 none 123 [l0, l1, l2, l3] [.int x0] h Q = zWp d zi_85 none 124 [l0, l1, l2, l3] [.int 1, .int x0] h Q) ∧
    (∀ (d : Nat) (l0 : Value) (l1 : Value) (l2 : Value) (l3 : Value) (x1 : Int32) (x0 : Int32) (h : zMm) (Q : Option Value → zMm → Prop), zWp d zi_85 none 124 [l0, l1, l2, l3] [.int x1, .int x0] h Q = if x0 < x1 then zWp d zi_85 none 138 [l0, l1, l2, l3] [] h Q else zWp d zi_85 none 127 [l0, l1, l2, l3] [] h Q) ∧
    (∀ (d : Nat) (l0 : Value) (l1 : Value) (l2 : Value) (l3 : Int32)  (h : zMm) (Q : Option Value → zMm → Prop), zWp d zi_85 none 127 [l0, l1, l2, .int l3] [] h Q = zWp d zi_85 none 128 [l0, l1, l2, .int l3] [.int l3] h Q) ∧
    (∀ (d : Nat) (l0 : Value) (l1 : Value) (l2 : Value) (l3 : Value) (x0 : Int32) (h : zMm) (Q : Option Value → zMm → Prop), zWp d zi_85 none 128 [l0, l1, l2, l3] [.int x0] h Q = zWp d zi_85 none 131 [l0, l1, l2, l3] [.int 999, .int x0] h Q) ∧
    (∀ (d : Nat) (l0 : Value) (l1 : Value) (l2 : Value) (l3 : Value) (x1 : Int32) (x0 : Int32) (h : zMm) (Q : Option Value → zMm → Prop), zWp d zi_85 none 131 [l0, l1, l2, l3] [.int x1, .int x0] h Q = if x1 < x0 then zWp d zi_85 none 138 [l0, l1, l2, l3] [] h Q else zWp d zi_85 none 134 [l0, l1, l2, l3] [] h Q) ∧
    (∀ (d : Nat) (l0 : Value) (l1 : Value) (l2 : Value) (l3 : Value)  (h : zMm) (Q : Option Value → zMm → Prop), zWp d zi_85 none 134 [l0, l1, l2, l3] [] h Q = zWp d zi_85 none 135 [l0, l1, l2, l3] [.int 1] h Q) ∧
    (∀ (d : Nat) (l0 : Value) (l1 : Value) (l2 : Value) (l3 : Value) (x0 : Int32) (h : zMm) (Q : Option Value → zMm → Prop), zWp d zi_85 none 135 [l0, l1, l2, l3] [.int x0] h Q = zWp d zi_85 none 139 [l0, l1, l2, l3] [.int x0] h Q) ∧
    (∀ (d : Nat) (l0 : Value) (l1 : Value) (l2 : Value) (l3 : Value)  (h : zMm) (Q : Option Value → zMm → Prop), zWp d zi_85 none 138 [l0, l1, l2, l3] [] h Q = zWp d zi_85 none 139 [l0, l1, l2, l3] [.int 0] h Q) ∧
    (∀ (d : Nat) (l0 : Value) (l1 : Value) (l2 : Value) (l3 : Value) (x0 : Int32) (h : zMm) (Q : Option Value → zMm → Prop), x0 = 0 ∨ x0 = 1 → zWp d zi_85 none 139 [l0, l1, l2, l3] [.int x0] h Q = Q (some (.int x0)) h) ∧
    (∀ (d : Nat) (l0 : Value) (l1 : Value) (l2 : Value) (l3 : Int32)  (h : zMm) (Q : Option Value → zMm → Prop), zWp d zi_85 none 140 [l0, l1, l2, .int l3] [] h Q = zWp d zi_85 none 141 [l0, l1, l2, .int l3] [.int l3] h Q) ∧
    (∀ (d : Nat) (l0 : Value) (l1 : Value) (l2 : Value) (l3 : Value) (x0 : Int32) (h : zMm) (Q : Option Value → zMm → Prop), zWp d zi_85 none 141 [l0, l1, l2, l3] [.int x0] h Q = if x0 < 0 then zWp d zi_85 none 154 [l0, l1, l2, l3] [] h Q else zWp d zi_85 none 144 [l0, l1, l2, l3] [] h Q) ∧
    (∀ (d : Nat) (l0 : Value) (l1 : Value) (l2 : Value) (l3 : Int32)  (h : zMm) (Q : Option Value → zMm → Prop), zWp d zi_85 none 144 [l0, l1, l2, .int l3] [] h Q = zWp d zi_85 none 145 [l0, l1, l2, .int l3] [.int l3] h Q) ∧
    (∀ (d : Nat) (l0 : Value) (l1 : Value) (l2 : Value) (l3 : Value) (x0 : Int32) (h : zMm) (Q : Option Value → zMm → Prop), zWp d zi_85 none 145 [l0, l1, l2, l3] [.int x0] h Q = zWp d zi_85 none 147 [l0, l1, l2, l3] [.int 12, .int x0] h Q) ∧
    (∀ (d : Nat) (l0 : Value) (l1 : Value) (l2 : Value) (l3 : Value) (x1 : Int32) (x0 : Int32) (h : zMm) (Q : Option Value → zMm → Prop), zWp d zi_85 none 147 [l0, l1, l2, l3] [.int x1, .int x0] h Q = if x1 < x0 then zWp d zi_85 none 154 [l0, l1, l2, l3] [] h Q else zWp d zi_85 none 150 [l0, l1, l2, l3] [] h Q) ∧
    (∀ (d : Nat) (l0 : Value) (l1 : Value) (l2 : Value) (l3 : Value)  (h : zMm) (Q : Option Value → zMm → Prop), zWp d zi_85 none 150 [l0, l1, l2, l3] [] h Q = zWp d zi_85 none 151 [l0, l1, l2, l3] [.int 1] h Q) ∧
    (∀ (d : Nat) (l0 : Value) (l1 : Value) (l2 : Value) (l3 : Value) (x0 : Int32) (h : zMm) (Q : Option Value → zMm → Prop), zWp d zi_85 none 151 [l0, l1, l2, l3] [.int x0] h Q = zWp d zi_85 none 155 [l0, l1, l2, l3] [.int x0] h Q) ∧
    (∀ (d : Nat) (l0 : Value) (l1 : Value) (l2 : Value) (l3 : Value)  (h : zMm) (Q : Option Value → zMm → Prop), zWp d zi_85 none 154 [l0, l1, l2, l3] [] h Q = zWp d zi_85 none 155 [l0, l1, l2, l3] [.int 0] h Q) ∧
    (∀ (d : Nat) (l0 : Value) (l1 : Value) (l2 : Value) (l3 : Value) (x0 : Int32) (h : zMm) (Q : Option Value → zMm → Prop), x0 = 0 ∨ x0 = 1 → zWp d zi_85 none 155 [l0, l1, l2, l3] [.int x0] h Q = Q (some (.int x0)) h) ∧
    (∀ (d : Nat) (l0 : Value) (l1 : Value) (l2 : Value) (l3 : Value)  (h : zMm) (Q : Option Value → zMm → Prop), zWp d zi_85 none 156 [l0, l1, l2, l3] [] h Q = zWp d zi_85 none 157 [l0, l1, l2, l3] [.int 0] h Q) ∧
    (∀ (d : Nat) (l0 : Value) (l1 : Value) (l2 : Value) (l3 : Value) (x0 : Int32) (h : zMm) (Q : Option Value → zMm → Prop), x0 = 0 ∨ x0 = 1 → zWp d zi_85 none 157 [l0, l1, l2, l3] [.int x0] h Q = Q (some (.int x0)) h) :=
  ⟨(fun d l0 l1 l2 l3  h Q => zr_iload_n rfl rfl),
   (fun d l0 l1 l2 l3 x0 h Q => by
      by_cases e0 : x0 = 0
      · subst e0; rw [if_pos rfl]; exact zr_tabI rfl (by decide) rfl (by decide)
      rw [if_neg e0]
      have n0 : ¬ x0.toInt = 0 := fun z => e0 (Int32.toInt_inj.mp z)
      by_cases e1 : x0 = 1
      · subst e1; rw [if_pos rfl]; exact zr_tabI rfl (by decide) rfl (by decide)
      rw [if_neg e1]
      have n1 : ¬ x0.toInt = 1 := fun z => e1 (Int32.toInt_inj.mp z)
      by_cases e2 : x0 = 2
      · subst e2; rw [if_pos rfl]; exact zr_tabI rfl (by decide) rfl (by decide)
      rw [if_neg e2]
      have n2 : ¬ x0.toInt = 2 := fun z => e2 (Int32.toInt_inj.mp z)
      by_cases e3 : x0 = 3
      · subst e3; rw [if_pos rfl]; exact zr_tabI rfl (by decide) rfl (by decide)
      rw [if_neg e3]
      have n3 : ¬ x0.toInt = 3 := fun z => e3 (Int32.toInt_inj.mp z)
      by_cases e4 : x0 = 4
      · subst e4; rw [if_pos rfl]; exact zr_tabI rfl (by decide) rfl (by decide)
      rw [if_neg e4]
      have n4 : ¬ x0.toInt = 4 := fun z => e4 (Int32.toInt_inj.mp z)
      by_cases e5 : x0 = 5
      · subst e5; rw [if_pos rfl]; exact zr_tabI rfl (by decide) rfl (by decide)
      rw [if_neg e5]
      have n5 : ¬ x0.toInt = 5 := fun z => e5 (Int32.toInt_inj.mp z)
      by_cases e6 : x0 = 6
      · subst e6; rw [if_pos rfl]; exact zr_tabI rfl (by decide) rfl (by decide)
      rw [if_neg e6]
      have n6 : ¬ x0.toInt = 6 := fun z => e6 (Int32.toInt_inj.mp z)
      by_cases e7 : x0 = 7
      · subst e7; rw [if_pos rfl]; exact zr_tabI rfl (by decide) rfl (by decide)
      rw [if_neg e7]
      have n7 : ¬ x0.toInt = 7 := fun z => e7 (Int32.toInt_inj.mp z)
      exact zr_tabD rfl (by omega) (by decide)),
   (fun d l0 l1 l2 l3  h Q => zr_iload_n rfl rfl),
   (fun d l0 l1 l2 l3 x0 h Q => zr_bipush rfl (by decide)),
   (fun d l0 l1 l2 l3 x1 x0 h Q => zr_ic_lt rfl (by decide)),
   (fun d l0 l1 l2 l3  h Q => zr_iload_n rfl rfl),
   (fun d l0 l1 l2 l3 x0 h Q => zr_iconst rfl (by decide)),
   (fun d l0 l1 l2 l3 x1 x0 h Q => zr_ic_gt rfl (by decide)),
   (fun d l0 l1 l2 l3  h Q => zr_iconst rfl (by decide)),
   (fun d l0 l1 l2 l3 x0 h Q => zr_goto rfl (by decide)),
   (fun d l0 l1 l2 l3  h Q => zr_iconst rfl (by decide)),
   (fun d l0 l1 l2 l3 x0 h Q p0 => zr_zret rfl rfl p0),
   (fun d l0 l1 l2 l3  h Q => zr_iload_n rfl rfl),
   (fun d l0 l1 l2 l3 x0 h Q => zr_if_lt rfl (by decide)),
   (fun d l0 l1 l2 l3  h Q => zr_iload_n rfl rfl),
   (fun d l0 l1 l2 l3 x0 h Q => zr_aload_n rfl rfl),
   (fun d l0 l1 l2 l3 x1 x0 I L P Q p0 => zr_getQ rfl lf_9_10 (fun _ _ _ => rfl) p0),
   (fun d l0 l1 l2 l3 x1 x0 I L P Q p0 => zr_getQ rfl lf_9_109 (fun _ _ _ => rfl) p0),
   (fun d l0 l1 l2 l3 x1 x0 h Q => zr_iload_n rfl rfl),
   (fun d l0 l1 l2 l3 x2 x1 x0 I L P Q p0 => zr_ald rfl p0),
   (fun d l0 l1 l2 l3 x1 x0 h Q => zr_ic_gt rfl (by decide)),
   (fun d l0 l1 l2 l3  h Q => zr_iconst rfl (by decide)),
   (fun d l0 l1 l2 l3 x0 h Q => zr_goto rfl (by decide)),
   (fun d l0 l1 l2 l3  h Q => zr_iconst rfl (by decide)),
   (fun d l0 l1 l2 l3 x0 h Q p0 => zr_zret rfl rfl p0),
   (fun d l0 l1 l2 l3  h Q => zr_iload_n rfl rfl),
   (fun d l0 l1 l2 l3 x0 h Q => zr_bipush rfl (by decide)),
   (fun d l0 l1 l2 l3 x1 x0 h Q => zr_ic_lt rfl (by decide)),
   (fun d l0 l1 l2 l3  h Q => zr_iload_n rfl rfl),
   (fun d l0 l1 l2 l3 x0 h Q => zr_bipush rfl (by decide)),
   (fun d l0 l1 l2 l3 x1 x0 h Q => zr_ic_gt rfl (by decide)),
   (fun d l0 l1 l2 l3  h Q => zr_iconst rfl (by decide)),
   (fun d l0 l1 l2 l3 x0 h Q => zr_goto rfl (by decide)),
   (fun d l0 l1 l2 l3  h Q => zr_iconst rfl (by decide)),
   (fun d l0 l1 l2 l3 x0 h Q p0 => zr_zret rfl rfl p0),
   (fun d l0 l1 l2 l3  h Q => zr_iload_n rfl rfl),
   (fun d l0 l1 l2 l3 x0 h Q => zr_if_lt rfl (by decide)),
   (fun d l0 l1 l2 l3  h Q => zr_iload_n rfl rfl),
   (fun d l0 l1 l2 l3 x0 h Q => zr_bipush rfl (by decide)),
   (fun d l0 l1 l2 l3 x1 x0 h Q => zr_ic_gt rfl (by decide)),
   (fun d l0 l1 l2 l3  h Q => zr_iconst rfl (by decide)),
   (fun d l0 l1 l2 l3 x0 h Q => zr_goto rfl (by decide)),
   (fun d l0 l1 l2 l3  h Q => zr_iconst rfl (by decide)),
   (fun d l0 l1 l2 l3 x0 h Q p0 => zr_zret rfl rfl p0),
   (fun d l0 l1 l2 l3  h Q => zr_iload_n rfl rfl),
   (fun d l0 l1 l2 l3 x0 h Q => zr_iconst rfl (by decide)),
   (fun d l0 l1 l2 l3 x1 x0 h Q => zr_ic_lt rfl (by decide)),
   (fun d l0 l1 l2 l3  h Q => zr_iload_n rfl rfl),
   (fun d l0 l1 l2 l3 x0 h Q => zr_sipush rfl (by decide)),
   (fun d l0 l1 l2 l3 x1 x0 h Q => zr_ic_gt rfl (by decide)),
   (fun d l0 l1 l2 l3  h Q => zr_iconst rfl (by decide)),
   (fun d l0 l1 l2 l3 x0 h Q => zr_goto rfl (by decide)),
   (fun d l0 l1 l2 l3  h Q => zr_iconst rfl (by decide)),
   (fun d l0 l1 l2 l3 x0 h Q p0 => zr_zret rfl rfl p0),
   (fun d l0 l1 l2 l3  h Q => zr_iload_n rfl rfl),
   (fun d l0 l1 l2 l3 x0 h Q => zr_if_lt rfl (by decide)),
   (fun d l0 l1 l2 l3  h Q => zr_iload_n rfl rfl),
   (fun d l0 l1 l2 l3 x0 h Q => zr_bipush rfl (by decide)),
   (fun d l0 l1 l2 l3 x1 x0 h Q => zr_ic_gt rfl (by decide)),
   (fun d l0 l1 l2 l3  h Q => zr_iconst rfl (by decide)),
   (fun d l0 l1 l2 l3 x0 h Q => zr_goto rfl (by decide)),
   (fun d l0 l1 l2 l3  h Q => zr_iconst rfl (by decide)),
   (fun d l0 l1 l2 l3 x0 h Q p0 => zr_zret rfl rfl p0),
   (fun d l0 l1 l2 l3  h Q => zr_iconst rfl (by decide)),
   (fun d l0 l1 l2 l3 x0 h Q p0 => zr_zret rfl rfl p0)⟩
theorem E_X9_told : ∀ (d : Nat) (a0 : Nat) (a1 : Int32) (a2 : Int32) (h : zMm) (Q : Option Value → zMm → Prop), zWM (d + 1) 86 [.ref a0, .int a1, .int a2] h Q = zWp d zi_86 none 0 [.ref a0, .int a1, .int a2] [] h Q := fun d a0 a1 a2 h Q => zW_M m_86 (Nat.le_of_ble_eq_true rfl) rfl
set_option maxRecDepth 100000 in
theorem R_X9_told :
    (∀ (d : Nat) (l0 : Value) (l1 : Value) (l2 : Int32)  (h : zMm) (Q : Option Value → zMm → Prop), zWp d zi_86 none 0 [l0, l1, .int l2] [] h Q = zWp d zi_86 none 1 [l0, l1, .int l2] [.int l2] h Q) ∧
    (∀ (d : Nat) (l0 : Value) (l1 : Value) (l2 : Value) (x0 : Int32) (h : zMm) (Q : Option Value → zMm → Prop), zWp d zi_86 none 1 [l0, l1, l2] [.int x0] h Q = if x0 = 0 then zWp d zi_86 none 44 [l0, l1, l2] [] h Q else if x0 = 1 then zWp d zi_86 none 56 [l0, l1, l2] [] h Q else if x0 = 2 then zWp d zi_86 none 68 [l0, l1, l2] [] h Q else if x0 = 3 then zWp d zi_86 none 78 [l0, l1, l2] [] h Q else if x0 = 4 then zWp d zi_86 none 83 [l0, l1, l2] [] h Q else if x0 = 5 then zWp d zi_86 none 88 [l0, l1, l2] [] h Q else if x0 = 6 then zWp d zi_86 none 98 [l0, l1, l2] [] h Q else zWp d zi_86 none 106 [l0, l1, l2] [] h Q) ∧
    (∀ (d : Nat) (l0 : Nat) (l1 : Value) (l2 : Value)  (h : zMm) (Q : Option Value → zMm → Prop), zWp d zi_86 none 44 [.ref l0, l1, l2] [] h Q = zWp d zi_86 none 45 [.ref l0, l1, l2] [.ref l0] h Q) ∧
    (∀ (d : Nat) (l0 : Value) (l1 : Value) (l2 : Value) (x0 : Nat) (I : Nat → Nat → Int32) (L : Nat → Nat → Int64) (P : Nat → Nat → Option Nat) (Q : Option Value → zMm → Prop), zSH[x0]? = some (.inl 9) → zWp d zi_86 none 45 [l0, l1, l2] [.ref x0] (zSH, I, L, P) Q = zWp d zi_86 none 48 [l0, l1, l2] [va_rf (P x0 0)] (zSH, I, L, P) Q) ∧
    (∀ (d : Nat) (l0 : Value) (l1 : Value) (l2 : Value) (x0 : Nat) (I : Nat → Nat → Int32) (L : Nat → Nat → Int64) (P : Nat → Nat → Option Nat) (Q : Option Value → zMm → Prop), zSH[x0]? = some (.inl 8) → zWp d zi_86 none 48 [l0, l1, l2] [.ref x0] (zSH, I, L, P) Q = zWp d zi_86 none 51 [l0, l1, l2] [va_rf (P x0 2)] (zSH, I, L, P) Q) ∧
    (∀ (d : Nat) (l0 : Value) (l1 : Value) (l2 : Value) (x0 : Nat) (h : zMm) (Q : Option Value → zMm → Prop), zWp d zi_86 none 51 [l0, l1, l2] [.ref x0] h Q = zWp d zi_86 none 52 [l0, l1, l2] [.int 0, .ref x0] h Q) ∧
    (∀ (d : Nat) (l0 : Value) (l1 : Value) (l2 : Value) (x1 : Int32) (x0 : Nat) (I : Nat → Nat → Int32) (L : Nat → Nat → Int64) (P : Nat → Nat → Option Nat) (Q : Option Value → zMm → Prop), zAk zSH x0 = some (.array .int) → zWp d zi_86 none 52 [l0, l1, l2] [.int x1, .ref x0] (zSH, I, L, P) Q = (vp_in x1 (zAn zSH x0) ∧ zWp d zi_86 none 53 [l0, l1, l2] [va_rf (P x0 x1.toNatClampNeg)] (zSH, I, L, P) Q)) ∧
    (∀ (d : Nat) (l0 : Value) (l1 : Int32) (l2 : Value) (x0 : Nat) (h : zMm) (Q : Option Value → zMm → Prop), zWp d zi_86 none 53 [l0, .int l1, l2] [.ref x0] h Q = zWp d zi_86 none 54 [l0, .int l1, l2] [.int l1, .ref x0] h Q) ∧
    (∀ (d : Nat) (l0 : Value) (l1 : Value) (l2 : Value) (x1 : Int32) (x0 : Nat) (I : Nat → Nat → Int32) (L : Nat → Nat → Int64) (P : Nat → Nat → Option Nat) (Q : Option Value → zMm → Prop), zAk zSH x0 = some .int → zWp d zi_86 none 54 [l0, l1, l2] [.int x1, .ref x0] (zSH, I, L, P) Q = (vp_in x1 (zAn zSH x0) ∧ zWp d zi_86 none 55 [l0, l1, l2] [.int (I x0 x1.toNatClampNeg)] (zSH, I, L, P) Q)) ∧
    (∀ (d : Nat) (l0 : Value) (l1 : Value) (l2 : Value) (x0 : Int32) (h : zMm) (Q : Option Value → zMm → Prop), zWp d zi_86 none 55 [l0, l1, l2] [.int x0] h Q = Q (some (.int x0)) h) ∧
    (∀ (d : Nat) (l0 : Nat) (l1 : Value) (l2 : Value)  (h : zMm) (Q : Option Value → zMm → Prop), zWp d zi_86 none 56 [.ref l0, l1, l2] [] h Q = zWp d zi_86 none 57 [.ref l0, l1, l2] [.ref l0] h Q) ∧
    (∀ (d : Nat) (l0 : Value) (l1 : Value) (l2 : Value) (x0 : Nat) (I : Nat → Nat → Int32) (L : Nat → Nat → Int64) (P : Nat → Nat → Option Nat) (Q : Option Value → zMm → Prop), zSH[x0]? = some (.inl 9) → zWp d zi_86 none 57 [l0, l1, l2] [.ref x0] (zSH, I, L, P) Q = zWp d zi_86 none 60 [l0, l1, l2] [va_rf (P x0 0)] (zSH, I, L, P) Q) ∧
    (∀ (d : Nat) (l0 : Value) (l1 : Value) (l2 : Value) (x0 : Nat) (I : Nat → Nat → Int32) (L : Nat → Nat → Int64) (P : Nat → Nat → Option Nat) (Q : Option Value → zMm → Prop), zSH[x0]? = some (.inl 8) → zWp d zi_86 none 60 [l0, l1, l2] [.ref x0] (zSH, I, L, P) Q = zWp d zi_86 none 63 [l0, l1, l2] [va_rf (P x0 2)] (zSH, I, L, P) Q) ∧
    (∀ (d : Nat) (l0 : Value) (l1 : Value) (l2 : Value) (x0 : Nat) (h : zMm) (Q : Option Value → zMm → Prop), zWp d zi_86 none 63 [l0, l1, l2] [.ref x0] h Q = zWp d zi_86 none 64 [l0, l1, l2] [.int 1, .ref x0] h Q) ∧
    (∀ (d : Nat) (l0 : Value) (l1 : Value) (l2 : Value) (x1 : Int32) (x0 : Nat) (I : Nat → Nat → Int32) (L : Nat → Nat → Int64) (P : Nat → Nat → Option Nat) (Q : Option Value → zMm → Prop), zAk zSH x0 = some (.array .int) → zWp d zi_86 none 64 [l0, l1, l2] [.int x1, .ref x0] (zSH, I, L, P) Q = (vp_in x1 (zAn zSH x0) ∧ zWp d zi_86 none 65 [l0, l1, l2] [va_rf (P x0 x1.toNatClampNeg)] (zSH, I, L, P) Q)) ∧
    (∀ (d : Nat) (l0 : Value) (l1 : Int32) (l2 : Value) (x0 : Nat) (h : zMm) (Q : Option Value → zMm → Prop), zWp d zi_86 none 65 [l0, .int l1, l2] [.ref x0] h Q = zWp d zi_86 none 66 [l0, .int l1, l2] [.int l1, .ref x0] h Q) ∧
    (∀ (d : Nat) (l0 : Value) (l1 : Value) (l2 : Value) (x1 : Int32) (x0 : Nat) (I : Nat → Nat → Int32) (L : Nat → Nat → Int64) (P : Nat → Nat → Option Nat) (Q : Option Value → zMm → Prop), zAk zSH x0 = some .int → zWp d zi_86 none 66 [l0, l1, l2] [.int x1, .ref x0] (zSH, I, L, P) Q = (vp_in x1 (zAn zSH x0) ∧ zWp d zi_86 none 67 [l0, l1, l2] [.int (I x0 x1.toNatClampNeg)] (zSH, I, L, P) Q)) ∧
    (∀ (d : Nat) (l0 : Value) (l1 : Value) (l2 : Value) (x0 : Int32) (h : zMm) (Q : Option Value → zMm → Prop), zWp d zi_86 none 67 [l0, l1, l2] [.int x0] h Q = Q (some (.int x0)) h) ∧
    (∀ (d : Nat) (l0 : Nat) (l1 : Value) (l2 : Value)  (h : zMm) (Q : Option Value → zMm → Prop), zWp d zi_86 none 68 [.ref l0, l1, l2] [] h Q = zWp d zi_86 none 69 [.ref l0, l1, l2] [.ref l0] h Q) ∧
    (∀ (d : Nat) (l0 : Value) (l1 : Value) (l2 : Value) (x0 : Nat) (I : Nat → Nat → Int32) (L : Nat → Nat → Int64) (P : Nat → Nat → Option Nat) (Q : Option Value → zMm → Prop), zSH[x0]? = some (.inl 9) → zWp d zi_86 none 69 [l0, l1, l2] [.ref x0] (zSH, I, L, P) Q = zWp d zi_86 none 72 [l0, l1, l2] [va_rf (P x0 0)] (zSH, I, L, P) Q) ∧
    (∀ (d : Nat) (l0 : Value) (l1 : Value) (l2 : Value) (x0 : Nat) (I : Nat → Nat → Int32) (L : Nat → Nat → Int64) (P : Nat → Nat → Option Nat) (Q : Option Value → zMm → Prop), zSH[x0]? = some (.inl 8) → zWp d zi_86 none 72 [l0, l1, l2] [.ref x0] (zSH, I, L, P) Q = zWp d zi_86 none 75 [l0, l1, l2] [va_rf (P x0 1)] (zSH, I, L, P) Q) ∧
    (∀ (d : Nat) (l0 : Value) (l1 : Int32) (l2 : Value) (x0 : Nat) (h : zMm) (Q : Option Value → zMm → Prop), zWp d zi_86 none 75 [l0, .int l1, l2] [.ref x0] h Q = zWp d zi_86 none 76 [l0, .int l1, l2] [.int l1, .ref x0] h Q) ∧
    (∀ (d : Nat) (l0 : Value) (l1 : Value) (l2 : Value) (x1 : Int32) (x0 : Nat) (I : Nat → Nat → Int32) (L : Nat → Nat → Int64) (P : Nat → Nat → Option Nat) (Q : Option Value → zMm → Prop), zAk zSH x0 = some .int → zWp d zi_86 none 76 [l0, l1, l2] [.int x1, .ref x0] (zSH, I, L, P) Q = (vp_in x1 (zAn zSH x0) ∧ zWp d zi_86 none 77 [l0, l1, l2] [.int (I x0 x1.toNatClampNeg)] (zSH, I, L, P) Q)) ∧
    (∀ (d : Nat) (l0 : Value) (l1 : Value) (l2 : Value) (x0 : Int32) (h : zMm) (Q : Option Value → zMm → Prop), zWp d zi_86 none 77 [l0, l1, l2] [.int x0] h Q = Q (some (.int x0)) h) ∧
    (∀ (d : Nat) (l0 : Nat) (l1 : Value) (l2 : Value)  (h : zMm) (Q : Option Value → zMm → Prop), zWp d zi_86 none 78 [.ref l0, l1, l2] [] h Q = zWp d zi_86 none 79 [.ref l0, l1, l2] [.ref l0] h Q) ∧
    (∀ (d : Nat) (l0 : Value) (l1 : Value) (l2 : Value) (x0 : Nat) (I : Nat → Nat → Int32) (L : Nat → Nat → Int64) (P : Nat → Nat → Option Nat) (Q : Option Value → zMm → Prop), zSH[x0]? = some (.inl 9) → zWp d zi_86 none 79 [l0, l1, l2] [.ref x0] (zSH, I, L, P) Q = zWp d zi_86 none 82 [l0, l1, l2] [.int (I x0 14)] (zSH, I, L, P) Q) ∧
    (∀ (d : Nat) (l0 : Value) (l1 : Value) (l2 : Value) (x0 : Int32) (h : zMm) (Q : Option Value → zMm → Prop), zWp d zi_86 none 82 [l0, l1, l2] [.int x0] h Q = Q (some (.int x0)) h) ∧
    (∀ (d : Nat) (l0 : Nat) (l1 : Value) (l2 : Value)  (h : zMm) (Q : Option Value → zMm → Prop), zWp d zi_86 none 83 [.ref l0, l1, l2] [] h Q = zWp d zi_86 none 84 [.ref l0, l1, l2] [.ref l0] h Q) ∧
    (∀ (d : Nat) (l0 : Value) (l1 : Value) (l2 : Value) (x0 : Nat) (I : Nat → Nat → Int32) (L : Nat → Nat → Int64) (P : Nat → Nat → Option Nat) (Q : Option Value → zMm → Prop), zSH[x0]? = some (.inl 9) → zWp d zi_86 none 84 [l0, l1, l2] [.ref x0] (zSH, I, L, P) Q = zWp d zi_86 none 87 [l0, l1, l2] [.int (I x0 15)] (zSH, I, L, P) Q) ∧
    (∀ (d : Nat) (l0 : Value) (l1 : Value) (l2 : Value) (x0 : Int32) (h : zMm) (Q : Option Value → zMm → Prop), zWp d zi_86 none 87 [l0, l1, l2] [.int x0] h Q = Q (some (.int x0)) h) ∧
    (∀ (d : Nat) (l0 : Nat) (l1 : Value) (l2 : Value)  (h : zMm) (Q : Option Value → zMm → Prop), zWp d zi_86 none 88 [.ref l0, l1, l2] [] h Q = zWp d zi_86 none 89 [.ref l0, l1, l2] [.ref l0] h Q) ∧
    (∀ (d : Nat) (l0 : Value) (l1 : Value) (l2 : Value) (x0 : Nat) (I : Nat → Nat → Int32) (L : Nat → Nat → Int64) (P : Nat → Nat → Option Nat) (Q : Option Value → zMm → Prop), zSH[x0]? = some (.inl 9) → zWp d zi_86 none 89 [l0, l1, l2] [.ref x0] (zSH, I, L, P) Q = zWp d zi_86 none 92 [l0, l1, l2] [va_rf (P x0 2)] (zSH, I, L, P) Q) ∧
    (∀ (d : Nat) (l0 : Value) (l1 : Value) (l2 : Value) (x0 : Nat) (I : Nat → Nat → Int32) (L : Nat → Nat → Int64) (P : Nat → Nat → Option Nat) (Q : Option Value → zMm → Prop), zSH[x0]? = some (.inl 3) → zWp d zi_86 none 92 [l0, l1, l2] [.ref x0] (zSH, I, L, P) Q = zWp d zi_86 none 95 [l0, l1, l2] [va_rf (P x0 2)] (zSH, I, L, P) Q) ∧
    (∀ (d : Nat) (l0 : Value) (l1 : Int32) (l2 : Value) (x0 : Nat) (h : zMm) (Q : Option Value → zMm → Prop), zWp d zi_86 none 95 [l0, .int l1, l2] [.ref x0] h Q = zWp d zi_86 none 96 [l0, .int l1, l2] [.int l1, .ref x0] h Q) ∧
    (∀ (d : Nat) (l0 : Value) (l1 : Value) (l2 : Value) (x1 : Int32) (x0 : Nat) (I : Nat → Nat → Int32) (L : Nat → Nat → Int64) (P : Nat → Nat → Option Nat) (Q : Option Value → zMm → Prop), zAk zSH x0 = some .int → zWp d zi_86 none 96 [l0, l1, l2] [.int x1, .ref x0] (zSH, I, L, P) Q = (vp_in x1 (zAn zSH x0) ∧ zWp d zi_86 none 97 [l0, l1, l2] [.int (I x0 x1.toNatClampNeg)] (zSH, I, L, P) Q)) ∧
    (∀ (d : Nat) (l0 : Value) (l1 : Value) (l2 : Value) (x0 : Int32) (h : zMm) (Q : Option Value → zMm → Prop), zWp d zi_86 none 97 [l0, l1, l2] [.int x0] h Q = Q (some (.int x0)) h) ∧
    (∀ (d : Nat) (l0 : Nat) (l1 : Value) (l2 : Value)  (h : zMm) (Q : Option Value → zMm → Prop), zWp d zi_86 none 98 [.ref l0, l1, l2] [] h Q = zWp d zi_86 none 99 [.ref l0, l1, l2] [.ref l0] h Q) ∧
    (∀ (d : Nat) (l0 : Value) (l1 : Value) (l2 : Value) (x0 : Nat) (I : Nat → Nat → Int32) (L : Nat → Nat → Int64) (P : Nat → Nat → Option Nat) (Q : Option Value → zMm → Prop), zSH[x0]? = some (.inl 9) → zWp d zi_86 none 99 [l0, l1, l2] [.ref x0] (zSH, I, L, P) Q = zWp d zi_86 none 102 [l0, l1, l2] [va_rf (P x0 2)] (zSH, I, L, P) Q) ∧
    (∀ (d : Nat) (l0 : Value) (l1 : Value) (l2 : Value) (x0 : Nat) (I : Nat → Nat → Int32) (L : Nat → Nat → Int64) (P : Nat → Nat → Option Nat) (Q : Option Value → zMm → Prop), zSH[x0]? = some (.inl 3) → zWp d zi_86 none 102 [l0, l1, l2] [.ref x0] (zSH, I, L, P) Q = zWp d zi_86 none 105 [l0, l1, l2] [.int (I x0 4)] (zSH, I, L, P) Q) ∧
    (∀ (d : Nat) (l0 : Value) (l1 : Value) (l2 : Value) (x0 : Int32) (h : zMm) (Q : Option Value → zMm → Prop), zWp d zi_86 none 105 [l0, l1, l2] [.int x0] h Q = Q (some (.int x0)) h) ∧
    (∀ (d : Nat) (l0 : Nat) (l1 : Value) (l2 : Value)  (h : zMm) (Q : Option Value → zMm → Prop), zWp d zi_86 none 106 [.ref l0, l1, l2] [] h Q = zWp d zi_86 none 107 [.ref l0, l1, l2] [.ref l0] h Q) ∧
    (∀ (d : Nat) (l0 : Value) (l1 : Value) (l2 : Value) (x0 : Nat) (I : Nat → Nat → Int32) (L : Nat → Nat → Int64) (P : Nat → Nat → Option Nat) (Q : Option Value → zMm → Prop), zSH[x0]? = some (.inl 9) → zWp d zi_86 none 107 [l0, l1, l2] [.ref x0] (zSH, I, L, P) Q = zWp d zi_86 none 110 [l0, l1, l2] [.int (I x0 16)] (zSH, I, L, P) Q) ∧
    (∀ (d : Nat) (l0 : Value) (l1 : Value) (l2 : Value) (x0 : Int32) (h : zMm) (Q : Option Value → zMm → Prop), zWp d zi_86 none 110 [l0, l1, l2] [.int x0] h Q = Q (some (.int x0)) h) :=
  ⟨(fun d l0 l1 l2  h Q => zr_iload_n rfl rfl),
   (fun d l0 l1 l2 x0 h Q => by
      by_cases e0 : x0 = 0
      · subst e0; rw [if_pos rfl]; exact zr_tabI rfl (by decide) rfl (by decide)
      rw [if_neg e0]
      have n0 : ¬ x0.toInt = 0 := fun z => e0 (Int32.toInt_inj.mp z)
      by_cases e1 : x0 = 1
      · subst e1; rw [if_pos rfl]; exact zr_tabI rfl (by decide) rfl (by decide)
      rw [if_neg e1]
      have n1 : ¬ x0.toInt = 1 := fun z => e1 (Int32.toInt_inj.mp z)
      by_cases e2 : x0 = 2
      · subst e2; rw [if_pos rfl]; exact zr_tabI rfl (by decide) rfl (by decide)
      rw [if_neg e2]
      have n2 : ¬ x0.toInt = 2 := fun z => e2 (Int32.toInt_inj.mp z)
      by_cases e3 : x0 = 3
      · subst e3; rw [if_pos rfl]; exact zr_tabI rfl (by decide) rfl (by decide)
      rw [if_neg e3]
      have n3 : ¬ x0.toInt = 3 := fun z => e3 (Int32.toInt_inj.mp z)
      by_cases e4 : x0 = 4
      · subst e4; rw [if_pos rfl]; exact zr_tabI rfl (by decide) rfl (by decide)
      rw [if_neg e4]
      have n4 : ¬ x0.toInt = 4 := fun z => e4 (Int32.toInt_inj.mp z)
      by_cases e5 : x0 = 5
      · subst e5; rw [if_pos rfl]; exact zr_tabI rfl (by decide) rfl (by decide)
      rw [if_neg e5]
      have n5 : ¬ x0.toInt = 5 := fun z => e5 (Int32.toInt_inj.mp z)
      by_cases e6 : x0 = 6
      · subst e6; rw [if_pos rfl]; exact zr_tabI rfl (by decide) rfl (by decide)
      rw [if_neg e6]
      have n6 : ¬ x0.toInt = 6 := fun z => e6 (Int32.toInt_inj.mp z)
      exact zr_tabD rfl (by omega) (by decide)),
   (fun d l0 l1 l2  h Q => zr_aload_n rfl rfl),
   (fun d l0 l1 l2 x0 I L P Q p0 => zr_getQ rfl lf_9_10 (fun _ _ _ => rfl) p0),
   (fun d l0 l1 l2 x0 I L P Q p0 => zr_getQ rfl lf_9_175 (fun _ _ _ => rfl) p0),
   (fun d l0 l1 l2 x0 h Q => zr_iconst rfl (by decide)),
   (fun d l0 l1 l2 x1 x0 I L P Q p0 => zr_qldA rfl p0),
   (fun d l0 l1 l2 x0 h Q => zr_iload_n rfl rfl),
   (fun d l0 l1 l2 x1 x0 I L P Q p0 => zr_ald rfl p0),
   (fun d l0 l1 l2 x0 h Q => zr_iret rfl rfl),
   (fun d l0 l1 l2  h Q => zr_aload_n rfl rfl),
   (fun d l0 l1 l2 x0 I L P Q p0 => zr_getQ rfl lf_9_10 (fun _ _ _ => rfl) p0),
   (fun d l0 l1 l2 x0 I L P Q p0 => zr_getQ rfl lf_9_175 (fun _ _ _ => rfl) p0),
   (fun d l0 l1 l2 x0 h Q => zr_iconst rfl (by decide)),
   (fun d l0 l1 l2 x1 x0 I L P Q p0 => zr_qldA rfl p0),
   (fun d l0 l1 l2 x0 h Q => zr_iload_n rfl rfl),
   (fun d l0 l1 l2 x1 x0 I L P Q p0 => zr_ald rfl p0),
   (fun d l0 l1 l2 x0 h Q => zr_iret rfl rfl),
   (fun d l0 l1 l2  h Q => zr_aload_n rfl rfl),
   (fun d l0 l1 l2 x0 I L P Q p0 => zr_getQ rfl lf_9_10 (fun _ _ _ => rfl) p0),
   (fun d l0 l1 l2 x0 I L P Q p0 => zr_getQ rfl lf_9_113 (fun _ _ _ => rfl) p0),
   (fun d l0 l1 l2 x0 h Q => zr_iload_n rfl rfl),
   (fun d l0 l1 l2 x1 x0 I L P Q p0 => zr_ald rfl p0),
   (fun d l0 l1 l2 x0 h Q => zr_iret rfl rfl),
   (fun d l0 l1 l2  h Q => zr_aload_n rfl rfl),
   (fun d l0 l1 l2 x0 I L P Q p0 => zr_getI rfl lf_9_182 (fun _ _ _ => rfl) p0),
   (fun d l0 l1 l2 x0 h Q => zr_iret rfl rfl),
   (fun d l0 l1 l2  h Q => zr_aload_n rfl rfl),
   (fun d l0 l1 l2 x0 I L P Q p0 => zr_getI rfl lf_9_185 (fun _ _ _ => rfl) p0),
   (fun d l0 l1 l2 x0 h Q => zr_iret rfl rfl),
   (fun d l0 l1 l2  h Q => zr_aload_n rfl rfl),
   (fun d l0 l1 l2 x0 I L P Q p0 => zr_getQ rfl lf_9_22 (fun _ _ _ => rfl) p0),
   (fun d l0 l1 l2 x0 I L P Q p0 => zr_getQ rfl lf_9_197 (fun _ _ _ => rfl) p0),
   (fun d l0 l1 l2 x0 h Q => zr_iload_n rfl rfl),
   (fun d l0 l1 l2 x1 x0 I L P Q p0 => zr_ald rfl p0),
   (fun d l0 l1 l2 x0 h Q => zr_iret rfl rfl),
   (fun d l0 l1 l2  h Q => zr_aload_n rfl rfl),
   (fun d l0 l1 l2 x0 I L P Q p0 => zr_getQ rfl lf_9_22 (fun _ _ _ => rfl) p0),
   (fun d l0 l1 l2 x0 I L P Q p0 => zr_getI rfl lf_9_200 (fun _ _ _ => rfl) p0),
   (fun d l0 l1 l2 x0 h Q => zr_iret rfl rfl),
   (fun d l0 l1 l2  h Q => zr_aload_n rfl rfl),
   (fun d l0 l1 l2 x0 I L P Q p0 => zr_getI rfl lf_9_83 (fun _ _ _ => rfl) p0),
   (fun d l0 l1 l2 x0 h Q => zr_iret rfl rfl)⟩
theorem E_X9_lay : ∀ (d : Nat) (a0 : Nat) (a1 : Int32) (a2 : Int32) (a3 : Int32) (h : zMm) (Q : Option Value → zMm → Prop), zWM (d + 1) 87 [.ref a0, .int a1, .int a2, .int a3] h Q = zWp d zi_87 none 0 [.ref a0, .int a1, .int a2, .int a3] [] h Q := fun d a0 a1 a2 a3 h Q => zW_M m_87 (Nat.le_of_ble_eq_true rfl) rfl
set_option maxRecDepth 100000 in
theorem R_X9_lay :
    (∀ (d : Nat) (l0 : Nat) (l1 : Value) (l2 : Value) (l3 : Value)  (h : zMm) (Q : Option Value → zMm → Prop), zWp d zi_87 none 0 [.ref l0, l1, l2, l3] [] h Q = zWp d zi_87 none 1 [.ref l0, l1, l2, l3] [.ref l0] h Q) ∧
    (∀ (d : Nat) (l0 : Value) (l1 : Value) (l2 : Value) (l3 : Value) (x0 : Nat) (I : Nat → Nat → Int32) (L : Nat → Nat → Int64) (P : Nat → Nat → Option Nat) (Q : Option Value → zMm → Prop), zSH[x0]? = some (.inl 9) → zWp d zi_87 none 1 [l0, l1, l2, l3] [.ref x0] (zSH, I, L, P) Q = zWp d zi_87 none 4 [l0, l1, l2, l3] [va_rf (P x0 4)] (zSH, I, L, P) Q) ∧
    (∀ (d : Nat) (l0 : Value) (l1 : Value) (l2 : Value) (l3 : Value) (x0 : Nat) (h : zMm) (Q : Option Value → zMm → Prop), zWp d zi_87 none 4 [l0, l1, l2, l3] [.ref x0] h Q = zWp d zi_87 none 5 [l0, l1, l2, l3] [.int 0, .ref x0] h Q) ∧
    (∀ (d : Nat) (l0 : Value) (l1 : Value) (l2 : Value) (l3 : Value) (x1 : Int32) (x0 : Nat) (I : Nat → Nat → Int32) (L : Nat → Nat → Int64) (P : Nat → Nat → Option Nat) (Q : Option Value → zMm → Prop), zSH[x0]? = some (.inl 2) → x1 = 0 ∨ x1 = 1 → zWp d zi_87 none 5 [l0, l1, l2, l3] [.int x1, .ref x0] (zSH, I, L, P) Q = zWp d zi_87 none 8 [l0, l1, l2, l3] [] (zSH, zw I x0 (upd (I x0) 6 x1), L, P) Q) ∧
    (∀ (d : Nat) (l0 : Value) (l1 : Value) (l2 : Int32) (l3 : Value)  (h : zMm) (Q : Option Value → zMm → Prop), zWp d zi_87 none 8 [l0, l1, .int l2, l3] [] h Q = zWp d zi_87 none 9 [l0, l1, .int l2, l3] [.int l2] h Q) ∧
    (∀ (d : Nat) (l0 : Value) (l1 : Value) (l2 : Value) (l3 : Value) (x0 : Int32) (h : zMm) (Q : Option Value → zMm → Prop), zWp d zi_87 none 9 [l0, l1, l2, l3] [.int x0] h Q = if x0 = 0 then zWp d zi_87 none 52 [l0, l1, l2, l3] [] h Q else if x0 = 1 then zWp d zi_87 none 65 [l0, l1, l2, l3] [] h Q else if x0 = 2 then zWp d zi_87 none 78 [l0, l1, l2, l3] [] h Q else if x0 = 3 then zWp d zi_87 none 103 [l0, l1, l2, l3] [] h Q else if x0 = 4 then zWp d zi_87 none 111 [l0, l1, l2, l3] [] h Q else if x0 = 5 then zWp d zi_87 none 119 [l0, l1, l2, l3] [] h Q else if x0 = 6 then zWp d zi_87 none 132 [l0, l1, l2, l3] [] h Q else zWp d zi_87 none 143 [l0, l1, l2, l3] [] h Q) ∧
    (∀ (d : Nat) (l0 : Nat) (l1 : Value) (l2 : Value) (l3 : Value)  (h : zMm) (Q : Option Value → zMm → Prop), zWp d zi_87 none 52 [.ref l0, l1, l2, l3] [] h Q = zWp d zi_87 none 53 [.ref l0, l1, l2, l3] [.ref l0] h Q) ∧
    (∀ (d : Nat) (l0 : Value) (l1 : Value) (l2 : Value) (l3 : Value) (x0 : Nat) (I : Nat → Nat → Int32) (L : Nat → Nat → Int64) (P : Nat → Nat → Option Nat) (Q : Option Value → zMm → Prop), zSH[x0]? = some (.inl 9) → zWp d zi_87 none 53 [l0, l1, l2, l3] [.ref x0] (zSH, I, L, P) Q = zWp d zi_87 none 56 [l0, l1, l2, l3] [va_rf (P x0 0)] (zSH, I, L, P) Q) ∧
    (∀ (d : Nat) (l0 : Value) (l1 : Int32) (l2 : Value) (l3 : Value) (x0 : Nat) (h : zMm) (Q : Option Value → zMm → Prop), zWp d zi_87 none 56 [l0, .int l1, l2, l3] [.ref x0] h Q = zWp d zi_87 none 57 [l0, .int l1, l2, l3] [.int l1, .ref x0] h Q) ∧
    (∀ (d : Nat) (l0 : Value) (l1 : Value) (l2 : Value) (l3 : Value) (x1 : Int32) (x0 : Nat) (h : zMm) (Q : Option Value → zMm → Prop), zWp d zi_87 none 57 [l0, l1, l2, l3] [.int x1, .ref x0] h Q = zWp d zi_87 none 58 [l0, l1, l2, l3] [.int 0, .int x1, .ref x0] h Q) ∧
    (∀ (d : Nat) (l0 : Value) (l1 : Value) (l2 : Value) (l3 : Int32) (x2 : Int32) (x1 : Int32) (x0 : Nat) (h : zMm) (Q : Option Value → zMm → Prop), zWp d zi_87 none 58 [l0, l1, l2, .int l3] [.int x2, .int x1, .ref x0] h Q = zWp d zi_87 none 59 [l0, l1, l2, .int l3] [.int l3, .int x2, .int x1, .ref x0] h Q) ∧
    (∀ (d : Nat) (l0 : Value) (l1 : Value) (l2 : Value) (l3 : Value) (x3 : Int32) (x2 : Int32) (x1 : Int32) (x0 : Nat) (I : Nat → Nat → Int32) (L : Nat → Nat → Int64) (P : Nat → Nat → Option Nat) (Q : Option Value → zMm → Prop), zSH[x0]? = some (.inl 8) → zWp d zi_87 none 59 [l0, l1, l2, l3] [.int x3, .int x2, .int x1, .ref x0] (zSH, I, L, P) Q = zWM d 62 [.ref x0, .int x1, .int x2, .int x3] (zSH, I, L, P) (fun r h1 => zWp d zi_87 none 62 [l0, l1, l2, l3] (r.toList ++ []) h1 Q)) ∧
    (∀ (d : Nat) (l0 : Value) (l1 : Value) (l2 : Value) (l3 : Value)  (h : zMm) (Q : Option Value → zMm → Prop), zWp d zi_87 none 62 [l0, l1, l2, l3] [] h Q = zWp d zi_87 none 148 [l0, l1, l2, l3] [] h Q) ∧
    (∀ (d : Nat) (l0 : Nat) (l1 : Value) (l2 : Value) (l3 : Value)  (h : zMm) (Q : Option Value → zMm → Prop), zWp d zi_87 none 65 [.ref l0, l1, l2, l3] [] h Q = zWp d zi_87 none 66 [.ref l0, l1, l2, l3] [.ref l0] h Q) ∧
    (∀ (d : Nat) (l0 : Value) (l1 : Value) (l2 : Value) (l3 : Value) (x0 : Nat) (I : Nat → Nat → Int32) (L : Nat → Nat → Int64) (P : Nat → Nat → Option Nat) (Q : Option Value → zMm → Prop), zSH[x0]? = some (.inl 9) → zWp d zi_87 none 66 [l0, l1, l2, l3] [.ref x0] (zSH, I, L, P) Q = zWp d zi_87 none 69 [l0, l1, l2, l3] [va_rf (P x0 0)] (zSH, I, L, P) Q) ∧
    (∀ (d : Nat) (l0 : Value) (l1 : Int32) (l2 : Value) (l3 : Value) (x0 : Nat) (h : zMm) (Q : Option Value → zMm → Prop), zWp d zi_87 none 69 [l0, .int l1, l2, l3] [.ref x0] h Q = zWp d zi_87 none 70 [l0, .int l1, l2, l3] [.int l1, .ref x0] h Q) ∧
    (∀ (d : Nat) (l0 : Value) (l1 : Value) (l2 : Value) (l3 : Value) (x1 : Int32) (x0 : Nat) (h : zMm) (Q : Option Value → zMm → Prop), zWp d zi_87 none 70 [l0, l1, l2, l3] [.int x1, .ref x0] h Q = zWp d zi_87 none 71 [l0, l1, l2, l3] [.int 1, .int x1, .ref x0] h Q) ∧
    (∀ (d : Nat) (l0 : Value) (l1 : Value) (l2 : Value) (l3 : Int32) (x2 : Int32) (x1 : Int32) (x0 : Nat) (h : zMm) (Q : Option Value → zMm → Prop), zWp d zi_87 none 71 [l0, l1, l2, .int l3] [.int x2, .int x1, .ref x0] h Q = zWp d zi_87 none 72 [l0, l1, l2, .int l3] [.int l3, .int x2, .int x1, .ref x0] h Q) ∧
    (∀ (d : Nat) (l0 : Value) (l1 : Value) (l2 : Value) (l3 : Value) (x3 : Int32) (x2 : Int32) (x1 : Int32) (x0 : Nat) (I : Nat → Nat → Int32) (L : Nat → Nat → Int64) (P : Nat → Nat → Option Nat) (Q : Option Value → zMm → Prop), zSH[x0]? = some (.inl 8) → zWp d zi_87 none 72 [l0, l1, l2, l3] [.int x3, .int x2, .int x1, .ref x0] (zSH, I, L, P) Q = zWM d 62 [.ref x0, .int x1, .int x2, .int x3] (zSH, I, L, P) (fun r h1 => zWp d zi_87 none 75 [l0, l1, l2, l3] (r.toList ++ []) h1 Q)) ∧
    (∀ (d : Nat) (l0 : Value) (l1 : Value) (l2 : Value) (l3 : Value)  (h : zMm) (Q : Option Value → zMm → Prop), zWp d zi_87 none 75 [l0, l1, l2, l3] [] h Q = zWp d zi_87 none 148 [l0, l1, l2, l3] [] h Q) ∧
    (∀ (d : Nat) (l0 : Nat) (l1 : Value) (l2 : Value) (l3 : Value)  (h : zMm) (Q : Option Value → zMm → Prop), zWp d zi_87 none 78 [.ref l0, l1, l2, l3] [] h Q = zWp d zi_87 none 79 [.ref l0, l1, l2, l3] [.ref l0] h Q) ∧
    (∀ (d : Nat) (l0 : Value) (l1 : Value) (l2 : Value) (l3 : Value) (x0 : Nat) (I : Nat → Nat → Int32) (L : Nat → Nat → Int64) (P : Nat → Nat → Option Nat) (Q : Option Value → zMm → Prop), zSH[x0]? = some (.inl 9) → zWp d zi_87 none 79 [l0, l1, l2, l3] [.ref x0] (zSH, I, L, P) Q = zWp d zi_87 none 82 [l0, l1, l2, l3] [va_rf (P x0 0)] (zSH, I, L, P) Q) ∧
    (∀ (d : Nat) (l0 : Value) (l1 : Value) (l2 : Value) (l3 : Value) (x0 : Nat) (I : Nat → Nat → Int32) (L : Nat → Nat → Int64) (P : Nat → Nat → Option Nat) (Q : Option Value → zMm → Prop), zSH[x0]? = some (.inl 8) → zWp d zi_87 none 82 [l0, l1, l2, l3] [.ref x0] (zSH, I, L, P) Q = zWp d zi_87 none 85 [l0, l1, l2, l3] [va_rf (P x0 1)] (zSH, I, L, P) Q) ∧
    (∀ (d : Nat) (l0 : Value) (l1 : Int32) (l2 : Value) (l3 : Value) (x0 : Nat) (h : zMm) (Q : Option Value → zMm → Prop), zWp d zi_87 none 85 [l0, .int l1, l2, l3] [.ref x0] h Q = zWp d zi_87 none 86 [l0, .int l1, l2, l3] [.int l1, .ref x0] h Q) ∧
    (∀ (d : Nat) (l0 : Value) (l1 : Value) (l2 : Value) (l3 : Int32) (x1 : Int32) (x0 : Nat) (h : zMm) (Q : Option Value → zMm → Prop), zWp d zi_87 none 86 [l0, l1, l2, .int l3] [.int x1, .ref x0] h Q = zWp d zi_87 none 87 [l0, l1, l2, .int l3] [.int l3, .int x1, .ref x0] h Q) ∧
    (∀ (d : Nat) (l0 : Nat) (l1 : Value) (l2 : Value) (l3 : Value) (x2 : Int32) (x1 : Int32) (x0 : Nat) (h : zMm) (Q : Option Value → zMm → Prop), zWp d zi_87 none 87 [.ref l0, l1, l2, l3] [.int x2, .int x1, .ref x0] h Q = zWp d zi_87 none 88 [.ref l0, l1, l2, l3] [.ref l0, .int x2, .int x1, .ref x0] h Q) ∧
    (∀ (d : Nat) (l0 : Value) (l1 : Value) (l2 : Value) (l3 : Value) (x3 : Nat) (x2 : Int32) (x1 : Int32) (x0 : Nat) (I : Nat → Nat → Int32) (L : Nat → Nat → Int64) (P : Nat → Nat → Option Nat) (Q : Option Value → zMm → Prop), zSH[x3]? = some (.inl 9) → zWp d zi_87 none 88 [l0, l1, l2, l3] [.ref x3, .int x2, .int x1, .ref x0] (zSH, I, L, P) Q = zWp d zi_87 none 91 [l0, l1, l2, l3] [va_rf (P x3 0), .int x2, .int x1, .ref x0] (zSH, I, L, P) Q) ∧
    (∀ (d : Nat) (l0 : Value) (l1 : Value) (l2 : Value) (l3 : Value) (x3 : Nat) (x2 : Int32) (x1 : Int32) (x0 : Nat) (I : Nat → Nat → Int32) (L : Nat → Nat → Int64) (P : Nat → Nat → Option Nat) (Q : Option Value → zMm → Prop), zSH[x3]? = some (.inl 8) → zWp d zi_87 none 91 [l0, l1, l2, l3] [.ref x3, .int x2, .int x1, .ref x0] (zSH, I, L, P) Q = zWp d zi_87 none 94 [l0, l1, l2, l3] [va_rf (P x3 0), .int x2, .int x1, .ref x0] (zSH, I, L, P) Q) ∧
    (∀ (d : Nat) (l0 : Value) (l1 : Int32) (l2 : Value) (l3 : Value) (x3 : Nat) (x2 : Int32) (x1 : Int32) (x0 : Nat) (h : zMm) (Q : Option Value → zMm → Prop), zWp d zi_87 none 94 [l0, .int l1, l2, l3] [.ref x3, .int x2, .int x1, .ref x0] h Q = zWp d zi_87 none 95 [l0, .int l1, l2, l3] [.int l1, .ref x3, .int x2, .int x1, .ref x0] h Q) ∧
    (∀ (d : Nat) (l0 : Value) (l1 : Value) (l2 : Value) (l3 : Value) (x4 : Int32) (x3 : Nat) (x2 : Int32) (x1 : Int32) (x0 : Nat) (I : Nat → Nat → Int32) (L : Nat → Nat → Int64) (P : Nat → Nat → Option Nat) (Q : Option Value → zMm → Prop), zAk zSH x3 = some .int → zWp d zi_87 none 95 [l0, l1, l2, l3] [.int x4, .ref x3, .int x2, .int x1, .ref x0] (zSH, I, L, P) Q = (vp_in x4 (zAn zSH x3) ∧ zWp d zi_87 none 96 [l0, l1, l2, l3] [.int (I x3 x4.toNatClampNeg), .int x2, .int x1, .ref x0] (zSH, I, L, P) Q)) ∧
    (∀ (d : Nat) (l0 : Value) (l1 : Value) (l2 : Value) (l3 : Value) (x3 : Int32) (x2 : Int32) (x1 : Int32) (x0 : Nat) (h : zMm) (Q : Option Value → zMm → Prop), zWp d zi_87 none 96 [l0, l1, l2, l3] [.int x3, .int x2, .int x1, .ref x0] h Q = zWp d zi_87 none 99 [l0, l1, l2, l3] [.int (if x3 < x2 then x3 else x2), .int x1, .ref x0] h Q) ∧
    (∀ (d : Nat) (l0 : Value) (l1 : Value) (l2 : Value) (l3 : Value) (x2 : Int32) (x1 : Int32) (x0 : Nat) (I : Nat → Nat → Int32) (L : Nat → Nat → Int64) (P : Nat → Nat → Option Nat) (Q : Option Value → zMm → Prop), zAk zSH x0 = some .int → zWp d zi_87 none 99 [l0, l1, l2, l3] [.int x2, .int x1, .ref x0] (zSH, I, L, P) Q = (vp_in x1 (zAn zSH x0) ∧ zWp d zi_87 none 100 [l0, l1, l2, l3] [] (zSH, zw I x0 (upd (I x0) x1.toNatClampNeg x2), L, P) Q)) ∧
    (∀ (d : Nat) (l0 : Value) (l1 : Value) (l2 : Value) (l3 : Value)  (h : zMm) (Q : Option Value → zMm → Prop), zWp d zi_87 none 100 [l0, l1, l2, l3] [] h Q = zWp d zi_87 none 148 [l0, l1, l2, l3] [] h Q) ∧
    (∀ (d : Nat) (l0 : Nat) (l1 : Value) (l2 : Value) (l3 : Value)  (h : zMm) (Q : Option Value → zMm → Prop), zWp d zi_87 none 103 [.ref l0, l1, l2, l3] [] h Q = zWp d zi_87 none 104 [.ref l0, l1, l2, l3] [.ref l0] h Q) ∧
    (∀ (d : Nat) (l0 : Value) (l1 : Value) (l2 : Value) (l3 : Int32) (x0 : Nat) (h : zMm) (Q : Option Value → zMm → Prop), zWp d zi_87 none 104 [l0, l1, l2, .int l3] [.ref x0] h Q = zWp d zi_87 none 105 [l0, l1, l2, .int l3] [.int l3, .ref x0] h Q) ∧
    (∀ (d : Nat) (l0 : Value) (l1 : Value) (l2 : Value) (l3 : Value) (x1 : Int32) (x0 : Nat) (I : Nat → Nat → Int32) (L : Nat → Nat → Int64) (P : Nat → Nat → Option Nat) (Q : Option Value → zMm → Prop), zSH[x0]? = some (.inl 9) → zWp d zi_87 none 105 [l0, l1, l2, l3] [.int x1, .ref x0] (zSH, I, L, P) Q = zWp d zi_87 none 108 [l0, l1, l2, l3] [] (zSH, zw I x0 (upd (I x0) 14 x1), L, P) Q) ∧
    (∀ (d : Nat) (l0 : Value) (l1 : Value) (l2 : Value) (l3 : Value)  (h : zMm) (Q : Option Value → zMm → Prop), zWp d zi_87 none 108 [l0, l1, l2, l3] [] h Q = zWp d zi_87 none 148 [l0, l1, l2, l3] [] h Q) ∧
    (∀ (d : Nat) (l0 : Nat) (l1 : Value) (l2 : Value) (l3 : Value)  (h : zMm) (Q : Option Value → zMm → Prop), zWp d zi_87 none 111 [.ref l0, l1, l2, l3] [] h Q = zWp d zi_87 none 112 [.ref l0, l1, l2, l3] [.ref l0] h Q) ∧
    (∀ (d : Nat) (l0 : Value) (l1 : Value) (l2 : Value) (l3 : Int32) (x0 : Nat) (h : zMm) (Q : Option Value → zMm → Prop), zWp d zi_87 none 112 [l0, l1, l2, .int l3] [.ref x0] h Q = zWp d zi_87 none 113 [l0, l1, l2, .int l3] [.int l3, .ref x0] h Q) ∧
    (∀ (d : Nat) (l0 : Value) (l1 : Value) (l2 : Value) (l3 : Value) (x1 : Int32) (x0 : Nat) (I : Nat → Nat → Int32) (L : Nat → Nat → Int64) (P : Nat → Nat → Option Nat) (Q : Option Value → zMm → Prop), zSH[x0]? = some (.inl 9) → zWp d zi_87 none 113 [l0, l1, l2, l3] [.int x1, .ref x0] (zSH, I, L, P) Q = zWp d zi_87 none 116 [l0, l1, l2, l3] [] (zSH, zw I x0 (upd (I x0) 15 x1), L, P) Q) ∧
    (∀ (d : Nat) (l0 : Value) (l1 : Value) (l2 : Value) (l3 : Value)  (h : zMm) (Q : Option Value → zMm → Prop), zWp d zi_87 none 116 [l0, l1, l2, l3] [] h Q = zWp d zi_87 none 148 [l0, l1, l2, l3] [] h Q) ∧
    (∀ (d : Nat) (l0 : Nat) (l1 : Value) (l2 : Value) (l3 : Value)  (h : zMm) (Q : Option Value → zMm → Prop), zWp d zi_87 none 119 [.ref l0, l1, l2, l3] [] h Q = zWp d zi_87 none 120 [.ref l0, l1, l2, l3] [.ref l0] h Q) ∧
    (∀ (d : Nat) (l0 : Value) (l1 : Value) (l2 : Value) (l3 : Value) (x0 : Nat) (I : Nat → Nat → Int32) (L : Nat → Nat → Int64) (P : Nat → Nat → Option Nat) (Q : Option Value → zMm → Prop), zSH[x0]? = some (.inl 9) → zWp d zi_87 none 120 [l0, l1, l2, l3] [.ref x0] (zSH, I, L, P) Q = zWp d zi_87 none 123 [l0, l1, l2, l3] [va_rf (P x0 2)] (zSH, I, L, P) Q) ∧
    (∀ (d : Nat) (l0 : Value) (l1 : Value) (l2 : Value) (l3 : Value) (x0 : Nat) (I : Nat → Nat → Int32) (L : Nat → Nat → Int64) (P : Nat → Nat → Option Nat) (Q : Option Value → zMm → Prop), zSH[x0]? = some (.inl 3) → zWp d zi_87 none 123 [l0, l1, l2, l3] [.ref x0] (zSH, I, L, P) Q = zWp d zi_87 none 126 [l0, l1, l2, l3] [va_rf (P x0 2)] (zSH, I, L, P) Q) ∧
    (∀ (d : Nat) (l0 : Value) (l1 : Int32) (l2 : Value) (l3 : Value) (x0 : Nat) (h : zMm) (Q : Option Value → zMm → Prop), zWp d zi_87 none 126 [l0, .int l1, l2, l3] [.ref x0] h Q = zWp d zi_87 none 127 [l0, .int l1, l2, l3] [.int l1, .ref x0] h Q) ∧
    (∀ (d : Nat) (l0 : Value) (l1 : Value) (l2 : Value) (l3 : Int32) (x1 : Int32) (x0 : Nat) (h : zMm) (Q : Option Value → zMm → Prop), zWp d zi_87 none 127 [l0, l1, l2, .int l3] [.int x1, .ref x0] h Q = zWp d zi_87 none 128 [l0, l1, l2, .int l3] [.int l3, .int x1, .ref x0] h Q) ∧
    (∀ (d : Nat) (l0 : Value) (l1 : Value) (l2 : Value) (l3 : Value) (x2 : Int32) (x1 : Int32) (x0 : Nat) (I : Nat → Nat → Int32) (L : Nat → Nat → Int64) (P : Nat → Nat → Option Nat) (Q : Option Value → zMm → Prop), zAk zSH x0 = some .int → zWp d zi_87 none 128 [l0, l1, l2, l3] [.int x2, .int x1, .ref x0] (zSH, I, L, P) Q = (vp_in x1 (zAn zSH x0) ∧ zWp d zi_87 none 129 [l0, l1, l2, l3] [] (zSH, zw I x0 (upd (I x0) x1.toNatClampNeg x2), L, P) Q)) ∧
    (∀ (d : Nat) (l0 : Value) (l1 : Value) (l2 : Value) (l3 : Value)  (h : zMm) (Q : Option Value → zMm → Prop), zWp d zi_87 none 129 [l0, l1, l2, l3] [] h Q = zWp d zi_87 none 148 [l0, l1, l2, l3] [] h Q) ∧
    (∀ (d : Nat) (l0 : Nat) (l1 : Value) (l2 : Value) (l3 : Value)  (h : zMm) (Q : Option Value → zMm → Prop), zWp d zi_87 none 132 [.ref l0, l1, l2, l3] [] h Q = zWp d zi_87 none 133 [.ref l0, l1, l2, l3] [.ref l0] h Q) ∧
    (∀ (d : Nat) (l0 : Value) (l1 : Value) (l2 : Value) (l3 : Value) (x0 : Nat) (I : Nat → Nat → Int32) (L : Nat → Nat → Int64) (P : Nat → Nat → Option Nat) (Q : Option Value → zMm → Prop), zSH[x0]? = some (.inl 9) → zWp d zi_87 none 133 [l0, l1, l2, l3] [.ref x0] (zSH, I, L, P) Q = zWp d zi_87 none 136 [l0, l1, l2, l3] [va_rf (P x0 2)] (zSH, I, L, P) Q) ∧
    (∀ (d : Nat) (l0 : Value) (l1 : Value) (l2 : Value) (l3 : Int32) (x0 : Nat) (h : zMm) (Q : Option Value → zMm → Prop), zWp d zi_87 none 136 [l0, l1, l2, .int l3] [.ref x0] h Q = zWp d zi_87 none 137 [l0, l1, l2, .int l3] [.int l3, .ref x0] h Q) ∧
    (∀ (d : Nat) (l0 : Value) (l1 : Value) (l2 : Value) (l3 : Value) (x1 : Int32) (x0 : Nat) (I : Nat → Nat → Int32) (L : Nat → Nat → Int64) (P : Nat → Nat → Option Nat) (Q : Option Value → zMm → Prop), zSH[x0]? = some (.inl 3) → zWp d zi_87 none 137 [l0, l1, l2, l3] [.int x1, .ref x0] (zSH, I, L, P) Q = zWp d zi_87 none 140 [l0, l1, l2, l3] [] (zSH, zw I x0 (upd (I x0) 4 x1), L, P) Q) ∧
    (∀ (d : Nat) (l0 : Value) (l1 : Value) (l2 : Value) (l3 : Value)  (h : zMm) (Q : Option Value → zMm → Prop), zWp d zi_87 none 140 [l0, l1, l2, l3] [] h Q = zWp d zi_87 none 148 [l0, l1, l2, l3] [] h Q) ∧
    (∀ (d : Nat) (l0 : Nat) (l1 : Value) (l2 : Value) (l3 : Value)  (h : zMm) (Q : Option Value → zMm → Prop), zWp d zi_87 none 143 [.ref l0, l1, l2, l3] [] h Q = zWp d zi_87 none 144 [.ref l0, l1, l2, l3] [.ref l0] h Q) ∧
    (∀ (d : Nat) (l0 : Value) (l1 : Value) (l2 : Value) (l3 : Int32) (x0 : Nat) (h : zMm) (Q : Option Value → zMm → Prop), zWp d zi_87 none 144 [l0, l1, l2, .int l3] [.ref x0] h Q = zWp d zi_87 none 145 [l0, l1, l2, .int l3] [.int l3, .ref x0] h Q) ∧
    (∀ (d : Nat) (l0 : Value) (l1 : Value) (l2 : Value) (l3 : Value) (x1 : Int32) (x0 : Nat) (I : Nat → Nat → Int32) (L : Nat → Nat → Int64) (P : Nat → Nat → Option Nat) (Q : Option Value → zMm → Prop), zSH[x0]? = some (.inl 9) → zWp d zi_87 none 145 [l0, l1, l2, l3] [.int x1, .ref x0] (zSH, I, L, P) Q = zWp d zi_87 none 148 [l0, l1, l2, l3] [] (zSH, zw I x0 (upd (I x0) 16 x1), L, P) Q) ∧
    (∀ (d : Nat) (l0 : Value) (l1 : Value) (l2 : Value) (l3 : Value)  (h : zMm) (Q : Option Value → zMm → Prop), zWp d zi_87 none 148 [l0, l1, l2, l3] [] h Q = Q none h) :=
  ⟨(fun d l0 l1 l2 l3  h Q => zr_aload_n rfl rfl),
   (fun d l0 l1 l2 l3 x0 I L P Q p0 => zr_getQ rfl lf_9_36 (fun _ _ _ => rfl) p0),
   (fun d l0 l1 l2 l3 x0 h Q => zr_iconst rfl (by decide)),
   (fun d l0 l1 l2 l3 x1 x0 I L P Q p0 p1 => zr_putZ rfl lf_9_105 (by decide) rfl p0 p1),
   (fun d l0 l1 l2 l3  h Q => zr_iload_n rfl rfl),
   (fun d l0 l1 l2 l3 x0 h Q => by
      by_cases e0 : x0 = 0
      · subst e0; rw [if_pos rfl]; exact zr_tabI rfl (by decide) rfl (by decide)
      rw [if_neg e0]
      have n0 : ¬ x0.toInt = 0 := fun z => e0 (Int32.toInt_inj.mp z)
      by_cases e1 : x0 = 1
      · subst e1; rw [if_pos rfl]; exact zr_tabI rfl (by decide) rfl (by decide)
      rw [if_neg e1]
      have n1 : ¬ x0.toInt = 1 := fun z => e1 (Int32.toInt_inj.mp z)
      by_cases e2 : x0 = 2
      · subst e2; rw [if_pos rfl]; exact zr_tabI rfl (by decide) rfl (by decide)
      rw [if_neg e2]
      have n2 : ¬ x0.toInt = 2 := fun z => e2 (Int32.toInt_inj.mp z)
      by_cases e3 : x0 = 3
      · subst e3; rw [if_pos rfl]; exact zr_tabI rfl (by decide) rfl (by decide)
      rw [if_neg e3]
      have n3 : ¬ x0.toInt = 3 := fun z => e3 (Int32.toInt_inj.mp z)
      by_cases e4 : x0 = 4
      · subst e4; rw [if_pos rfl]; exact zr_tabI rfl (by decide) rfl (by decide)
      rw [if_neg e4]
      have n4 : ¬ x0.toInt = 4 := fun z => e4 (Int32.toInt_inj.mp z)
      by_cases e5 : x0 = 5
      · subst e5; rw [if_pos rfl]; exact zr_tabI rfl (by decide) rfl (by decide)
      rw [if_neg e5]
      have n5 : ¬ x0.toInt = 5 := fun z => e5 (Int32.toInt_inj.mp z)
      by_cases e6 : x0 = 6
      · subst e6; rw [if_pos rfl]; exact zr_tabI rfl (by decide) rfl (by decide)
      rw [if_neg e6]
      have n6 : ¬ x0.toInt = 6 := fun z => e6 (Int32.toInt_inj.mp z)
      exact zr_tabD rfl (by omega) (by decide)),
   (fun d l0 l1 l2 l3  h Q => zr_aload_n rfl rfl),
   (fun d l0 l1 l2 l3 x0 I L P Q p0 => zr_getQ rfl lf_9_10 (fun _ _ _ => rfl) p0),
   (fun d l0 l1 l2 l3 x0 h Q => zr_iload_n rfl rfl),
   (fun d l0 l1 l2 l3 x1 x0 h Q => zr_iconst rfl (by decide)),
   (fun d l0 l1 l2 l3 x2 x1 x0 h Q => zr_iload_n rfl rfl),
   (fun d l0 l1 l2 l3 x3 x2 x1 x0 I L P Q p0 => zr_vir (as := [.int x3, .int x2, .int x1]) (rest := []) rfl lm_9_221 m_62 kd_62 rfl (Nat.le_of_ble_eq_true rfl) p0),
   (fun d l0 l1 l2 l3  h Q => zr_goto rfl (by decide)),
   (fun d l0 l1 l2 l3  h Q => zr_aload_n rfl rfl),
   (fun d l0 l1 l2 l3 x0 I L P Q p0 => zr_getQ rfl lf_9_10 (fun _ _ _ => rfl) p0),
   (fun d l0 l1 l2 l3 x0 h Q => zr_iload_n rfl rfl),
   (fun d l0 l1 l2 l3 x1 x0 h Q => zr_iconst rfl (by decide)),
   (fun d l0 l1 l2 l3 x2 x1 x0 h Q => zr_iload_n rfl rfl),
   (fun d l0 l1 l2 l3 x3 x2 x1 x0 I L P Q p0 => zr_vir (as := [.int x3, .int x2, .int x1]) (rest := []) rfl lm_9_221 m_62 kd_62 rfl (Nat.le_of_ble_eq_true rfl) p0),
   (fun d l0 l1 l2 l3  h Q => zr_goto rfl (by decide)),
   (fun d l0 l1 l2 l3  h Q => zr_aload_n rfl rfl),
   (fun d l0 l1 l2 l3 x0 I L P Q p0 => zr_getQ rfl lf_9_10 (fun _ _ _ => rfl) p0),
   (fun d l0 l1 l2 l3 x0 I L P Q p0 => zr_getQ rfl lf_9_113 (fun _ _ _ => rfl) p0),
   (fun d l0 l1 l2 l3 x0 h Q => zr_iload_n rfl rfl),
   (fun d l0 l1 l2 l3 x1 x0 h Q => zr_iload_n rfl rfl),
   (fun d l0 l1 l2 l3 x2 x1 x0 h Q => zr_aload_n rfl rfl),
   (fun d l0 l1 l2 l3 x3 x2 x1 x0 I L P Q p0 => zr_getQ rfl lf_9_10 (fun _ _ _ => rfl) p0),
   (fun d l0 l1 l2 l3 x3 x2 x1 x0 I L P Q p0 => zr_getQ rfl lf_9_109 (fun _ _ _ => rfl) p0),
   (fun d l0 l1 l2 l3 x3 x2 x1 x0 h Q => zr_iload_n rfl rfl),
   (fun d l0 l1 l2 l3 x4 x3 x2 x1 x0 I L P Q p0 => zr_ald rfl p0),
   (fun d l0 l1 l2 l3 x3 x2 x1 x0 h Q => zr_min rfl lm_9_115 (Nat.le_of_ble_eq_true rfl)),
   (fun d l0 l1 l2 l3 x2 x1 x0 I L P Q p0 => zr_ast rfl p0),
   (fun d l0 l1 l2 l3  h Q => zr_goto rfl (by decide)),
   (fun d l0 l1 l2 l3  h Q => zr_aload_n rfl rfl),
   (fun d l0 l1 l2 l3 x0 h Q => zr_iload_n rfl rfl),
   (fun d l0 l1 l2 l3 x1 x0 I L P Q p0 => zr_putI rfl lf_9_182 (by decide) rfl p0),
   (fun d l0 l1 l2 l3  h Q => zr_goto rfl (by decide)),
   (fun d l0 l1 l2 l3  h Q => zr_aload_n rfl rfl),
   (fun d l0 l1 l2 l3 x0 h Q => zr_iload_n rfl rfl),
   (fun d l0 l1 l2 l3 x1 x0 I L P Q p0 => zr_putI rfl lf_9_185 (by decide) rfl p0),
   (fun d l0 l1 l2 l3  h Q => zr_goto rfl (by decide)),
   (fun d l0 l1 l2 l3  h Q => zr_aload_n rfl rfl),
   (fun d l0 l1 l2 l3 x0 I L P Q p0 => zr_getQ rfl lf_9_22 (fun _ _ _ => rfl) p0),
   (fun d l0 l1 l2 l3 x0 I L P Q p0 => zr_getQ rfl lf_9_197 (fun _ _ _ => rfl) p0),
   (fun d l0 l1 l2 l3 x0 h Q => zr_iload_n rfl rfl),
   (fun d l0 l1 l2 l3 x1 x0 h Q => zr_iload_n rfl rfl),
   (fun d l0 l1 l2 l3 x2 x1 x0 I L P Q p0 => zr_ast rfl p0),
   (fun d l0 l1 l2 l3  h Q => zr_goto rfl (by decide)),
   (fun d l0 l1 l2 l3  h Q => zr_aload_n rfl rfl),
   (fun d l0 l1 l2 l3 x0 I L P Q p0 => zr_getQ rfl lf_9_22 (fun _ _ _ => rfl) p0),
   (fun d l0 l1 l2 l3 x0 h Q => zr_iload_n rfl rfl),
   (fun d l0 l1 l2 l3 x1 x0 I L P Q p0 => zr_putI rfl lf_9_200 (by decide) rfl p0),
   (fun d l0 l1 l2 l3  h Q => zr_goto rfl (by decide)),
   (fun d l0 l1 l2 l3  h Q => zr_aload_n rfl rfl),
   (fun d l0 l1 l2 l3 x0 h Q => zr_iload_n rfl rfl),
   (fun d l0 l1 l2 l3 x1 x0 I L P Q p0 => zr_putI rfl lf_9_83 (by decide) rfl p0),
   (fun d l0 l1 l2 l3  h Q => zr_vret rfl rfl)⟩
theorem E_X9_falls : ∀ (d : Nat) (a0 : Nat) (a1 : Int32) (h : zMm) (Q : Option Value → zMm → Prop), zWM (d + 1) 88 [.ref a0, .int a1] h Q = zWp d zi_88 none 0 [.ref a0, .int a1, .retAddr 0] [] h Q := fun d a0 a1 h Q => zW_M m_88 (Nat.le_of_ble_eq_true rfl) rfl
set_option maxRecDepth 100000 in
theorem R_X9_falls :
    (∀ (d : Nat) (l0 : Value) (l1 : Int32) (l2 : Value)  (h : zMm) (Q : Option Value → zMm → Prop), zWp d zi_88 none 0 [l0, .int l1, l2] [] h Q = zWp d zi_88 none 1 [l0, .int l1, l2] [.int l1] h Q) ∧
    (∀ (d : Nat) (l0 : Value) (l1 : Value) (l2 : Value) (x0 : Int32) (h : zMm) (Q : Option Value → zMm → Prop), zWp d zi_88 none 1 [l0, l1, l2] [.int x0] h Q = if x0 < 0 then zWp d zi_88 none 9 [l0, l1, l2] [] h Q else zWp d zi_88 none 4 [l0, l1, l2] [] h Q) ∧
    (∀ (d : Nat) (l0 : Value) (l1 : Int32) (l2 : Value)  (h : zMm) (Q : Option Value → zMm → Prop), zWp d zi_88 none 4 [l0, .int l1, l2] [] h Q = zWp d zi_88 none 5 [l0, .int l1, l2] [.int l1] h Q) ∧
    (∀ (d : Nat) (l0 : Value) (l1 : Value) (l2 : Value) (x0 : Int32) (h : zMm) (Q : Option Value → zMm → Prop), zWp d zi_88 none 5 [l0, l1, l2] [.int x0] h Q = zWp d zi_88 none 6 [l0, l1, l2] [.int 1, .int x0] h Q) ∧
    (∀ (d : Nat) (l0 : Value) (l1 : Value) (l2 : Value) (x1 : Int32) (x0 : Int32) (h : zMm) (Q : Option Value → zMm → Prop), zWp d zi_88 none 6 [l0, l1, l2] [.int x1, .int x0] h Q = if x0 ≤ x1 then zWp d zi_88 none 11 [l0, l1, l2] [] h Q else zWp d zi_88 none 9 [l0, l1, l2] [] h Q) ∧
    (∀ (d : Nat) (l0 : Value) (l1 : Value) (l2 : Value)  (h : zMm) (Q : Option Value → zMm → Prop), zWp d zi_88 none 9 [l0, l1, l2] [] h Q = zWp d zi_88 none 10 [l0, l1, l2] [.int (-1)] h Q) ∧
    (∀ (d : Nat) (l0 : Value) (l1 : Value) (l2 : Value) (x0 : Int32) (h : zMm) (Q : Option Value → zMm → Prop), zWp d zi_88 none 10 [l0, l1, l2] [.int x0] h Q = Q (some (.int x0)) h) ∧
    (∀ (d : Nat) (l0 : Nat) (l1 : Value) (l2 : Value)  (h : zMm) (Q : Option Value → zMm → Prop), zWp d zi_88 none 11 [.ref l0, l1, l2] [] h Q = zWp d zi_88 none 12 [.ref l0, l1, l2] [.ref l0] h Q) ∧
    (∀ (d : Nat) (l0 : Value) (l1 : Value) (l2 : Value) (x0 : Nat) (I : Nat → Nat → Int32) (L : Nat → Nat → Int64) (P : Nat → Nat → Option Nat) (Q : Option Value → zMm → Prop), zSH[x0]? = some (.inl 9) → zWp d zi_88 none 12 [l0, l1, l2] [.ref x0] (zSH, I, L, P) Q = zWp d zi_88 none 15 [l0, l1, l2] [va_rf (P x0 0)] (zSH, I, L, P) Q) ∧
    (∀ (d : Nat) (l0 : Nat) (l1 : Value) (l2 : Value) (x0 : Nat) (h : zMm) (Q : Option Value → zMm → Prop), zWp d zi_88 none 15 [.ref l0, l1, l2] [.ref x0] h Q = zWp d zi_88 none 16 [.ref l0, l1, l2] [.ref l0, .ref x0] h Q) ∧
    (∀ (d : Nat) (l0 : Value) (l1 : Value) (l2 : Value) (x1 : Nat) (x0 : Nat) (I : Nat → Nat → Int32) (L : Nat → Nat → Int64) (P : Nat → Nat → Option Nat) (Q : Option Value → zMm → Prop), zSH[x1]? = some (.inl 9) → zWp d zi_88 none 16 [l0, l1, l2] [.ref x1, .ref x0] (zSH, I, L, P) Q = zWp d zi_88 none 19 [l0, l1, l2] [.int (I x1 14), .ref x0] (zSH, I, L, P) Q) ∧
    (∀ (d : Nat) (l0 : Nat) (l1 : Value) (l2 : Value) (x1 : Int32) (x0 : Nat) (h : zMm) (Q : Option Value → zMm → Prop), zWp d zi_88 none 19 [.ref l0, l1, l2] [.int x1, .ref x0] h Q = zWp d zi_88 none 20 [.ref l0, l1, l2] [.ref l0, .int x1, .ref x0] h Q) ∧
    (∀ (d : Nat) (l0 : Value) (l1 : Value) (l2 : Value) (x2 : Nat) (x1 : Int32) (x0 : Nat) (I : Nat → Nat → Int32) (L : Nat → Nat → Int64) (P : Nat → Nat → Option Nat) (Q : Option Value → zMm → Prop), zSH[x2]? = some (.inl 9) → zWp d zi_88 none 20 [l0, l1, l2] [.ref x2, .int x1, .ref x0] (zSH, I, L, P) Q = zWp d zi_88 none 23 [l0, l1, l2] [.int (I x2 15), .int x1, .ref x0] (zSH, I, L, P) Q) ∧
    (∀ (d : Nat) (l0 : Value) (l1 : Value) (l2 : Value) (x2 : Int32) (x1 : Int32) (x0 : Nat) (I : Nat → Nat → Int32) (L : Nat → Nat → Int64) (P : Nat → Nat → Option Nat) (Q : Option Value → zMm → Prop), zSH[x0]? = some (.inl 8) → zWp d zi_88 none 23 [l0, l1, l2] [.int x2, .int x1, .ref x0] (zSH, I, L, P) Q = zWM d 69 [.ref x0, .int x1, .int x2] (zSH, I, L, P) (fun r h1 => zWp d zi_88 none 26 [l0, l1, l2] (r.toList ++ []) h1 Q)) ∧
    (∀ (d : Nat) (l0 : Value) (l1 : Int32) (l2 : Value) (x0 : Int32) (h : zMm) (Q : Option Value → zMm → Prop), zWp d zi_88 none 26 [l0, .int l1, l2] [.int x0] h Q = zWp d zi_88 none 27 [l0, .int l1, .int x0] [] h Q) ∧
    (∀ (d : Nat) (l0 : Value) (l1 : Value) (l2 : Int32)  (h : zMm) (Q : Option Value → zMm → Prop), zWp d zi_88 none 27 [l0, l1, .int l2] [] h Q = zWp d zi_88 none 28 [l0, l1, .int l2] [.int l2] h Q) ∧
    (∀ (d : Nat) (l0 : Value) (l1 : Value) (l2 : Value) (x0 : Int32) (h : zMm) (Q : Option Value → zMm → Prop), zWp d zi_88 none 28 [l0, l1, l2] [.int x0] h Q = zWp d zi_88 none 30 [l0, l1, l2] [.int (-2), .int x0] h Q) ∧
    (∀ (d : Nat) (l0 : Value) (l1 : Value) (l2 : Value) (x1 : Int32) (x0 : Int32) (h : zMm) (Q : Option Value → zMm → Prop), zWp d zi_88 none 30 [l0, l1, l2] [.int x1, .int x0] h Q = if x0 = x1 then zWp d zi_88 none 37 [l0, l1, l2] [] h Q else zWp d zi_88 none 33 [l0, l1, l2] [] h Q) ∧
    (∀ (d : Nat) (l0 : Value) (l1 : Int32) (l2 : Value)  (h : zMm) (Q : Option Value → zMm → Prop), zWp d zi_88 none 33 [l0, .int l1, l2] [] h Q = zWp d zi_88 none 34 [l0, .int l1, l2] [.int l1] h Q) ∧
    (∀ (d : Nat) (l0 : Value) (l1 : Value) (l2 : Value) (x0 : Int32) (h : zMm) (Q : Option Value → zMm → Prop), zWp d zi_88 none 34 [l0, l1, l2] [.int x0] h Q = if x0 = 0 then zWp d zi_88 none 37 [l0, l1, l2] [] h Q else zWp d zi_88 none 41 [l0, l1, l2] [] h Q) ∧
    (∀ (d : Nat) (l0 : Value) (l1 : Value) (l2 : Int32)  (h : zMm) (Q : Option Value → zMm → Prop), zWp d zi_88 none 37 [l0, l1, .int l2] [] h Q = zWp d zi_88 none 38 [l0, l1, .int l2] [.int l2] h Q) ∧
    (∀ (d : Nat) (l0 : Value) (l1 : Value) (l2 : Value) (x0 : Int32) (h : zMm) (Q : Option Value → zMm → Prop), zWp d zi_88 none 38 [l0, l1, l2] [.int x0] h Q = zWp d zi_88 none 57 [l0, l1, l2] [.int x0] h Q) ∧
    (∀ (d : Nat) (l0 : Nat) (l1 : Value) (l2 : Value)  (h : zMm) (Q : Option Value → zMm → Prop), zWp d zi_88 none 41 [.ref l0, l1, l2] [] h Q = zWp d zi_88 none 42 [.ref l0, l1, l2] [.ref l0] h Q) ∧
    (∀ (d : Nat) (l0 : Value) (l1 : Value) (l2 : Value) (x0 : Nat) (I : Nat → Nat → Int32) (L : Nat → Nat → Int64) (P : Nat → Nat → Option Nat) (Q : Option Value → zMm → Prop), zSH[x0]? = some (.inl 9) → zWp d zi_88 none 42 [l0, l1, l2] [.ref x0] (zSH, I, L, P) Q = zWp d zi_88 none 45 [l0, l1, l2] [va_rf (P x0 0)] (zSH, I, L, P) Q) ∧
    (∀ (d : Nat) (l0 : Value) (l1 : Value) (l2 : Int32) (x0 : Nat) (h : zMm) (Q : Option Value → zMm → Prop), zWp d zi_88 none 45 [l0, l1, .int l2] [.ref x0] h Q = zWp d zi_88 none 46 [l0, l1, .int l2] [.int l2, .ref x0] h Q) ∧
    (∀ (d : Nat) (l0 : Nat) (l1 : Value) (l2 : Value) (x1 : Int32) (x0 : Nat) (h : zMm) (Q : Option Value → zMm → Prop), zWp d zi_88 none 46 [.ref l0, l1, l2] [.int x1, .ref x0] h Q = zWp d zi_88 none 47 [.ref l0, l1, l2] [.ref l0, .int x1, .ref x0] h Q) ∧
    (∀ (d : Nat) (l0 : Value) (l1 : Value) (l2 : Value) (x2 : Nat) (x1 : Int32) (x0 : Nat) (I : Nat → Nat → Int32) (L : Nat → Nat → Int64) (P : Nat → Nat → Option Nat) (Q : Option Value → zMm → Prop), zSH[x2]? = some (.inl 9) → zWp d zi_88 none 47 [l0, l1, l2] [.ref x2, .int x1, .ref x0] (zSH, I, L, P) Q = zWp d zi_88 none 50 [l0, l1, l2] [.int (I x2 14), .int x1, .ref x0] (zSH, I, L, P) Q) ∧
    (∀ (d : Nat) (l0 : Nat) (l1 : Value) (l2 : Value) (x2 : Int32) (x1 : Int32) (x0 : Nat) (h : zMm) (Q : Option Value → zMm → Prop), zWp d zi_88 none 50 [.ref l0, l1, l2] [.int x2, .int x1, .ref x0] h Q = zWp d zi_88 none 51 [.ref l0, l1, l2] [.ref l0, .int x2, .int x1, .ref x0] h Q) ∧
    (∀ (d : Nat) (l0 : Value) (l1 : Value) (l2 : Value) (x3 : Nat) (x2 : Int32) (x1 : Int32) (x0 : Nat) (I : Nat → Nat → Int32) (L : Nat → Nat → Int64) (P : Nat → Nat → Option Nat) (Q : Option Value → zMm → Prop), zSH[x3]? = some (.inl 9) → zWp d zi_88 none 51 [l0, l1, l2] [.ref x3, .int x2, .int x1, .ref x0] (zSH, I, L, P) Q = zWp d zi_88 none 54 [l0, l1, l2] [.int (I x3 15), .int x2, .int x1, .ref x0] (zSH, I, L, P) Q) ∧
    (∀ (d : Nat) (l0 : Value) (l1 : Value) (l2 : Value) (x3 : Int32) (x2 : Int32) (x1 : Int32) (x0 : Nat) (I : Nat → Nat → Int32) (L : Nat → Nat → Int64) (P : Nat → Nat → Option Nat) (Q : Option Value → zMm → Prop), zSH[x0]? = some (.inl 8) → zWp d zi_88 none 54 [l0, l1, l2] [.int x3, .int x2, .int x1, .ref x0] (zSH, I, L, P) Q = zWM d 70 [.ref x0, .int x1, .int x2, .int x3] (zSH, I, L, P) (fun r h1 => zWp d zi_88 none 57 [l0, l1, l2] (r.toList ++ []) h1 Q)) ∧
    (∀ (d : Nat) (l0 : Value) (l1 : Value) (l2 : Value) (x0 : Int32) (h : zMm) (Q : Option Value → zMm → Prop), zWp d zi_88 none 57 [l0, l1, l2] [.int x0] h Q = Q (some (.int x0)) h) :=
  ⟨(fun d l0 l1 l2  h Q => zr_iload_n rfl rfl),
   (fun d l0 l1 l2 x0 h Q => zr_if_lt rfl (by decide)),
   (fun d l0 l1 l2  h Q => zr_iload_n rfl rfl),
   (fun d l0 l1 l2 x0 h Q => zr_iconst rfl (by decide)),
   (fun d l0 l1 l2 x1 x0 h Q => zr_ic_le rfl (by decide)),
   (fun d l0 l1 l2  h Q => zr_iconst rfl (by decide)),
   (fun d l0 l1 l2 x0 h Q => zr_iret rfl rfl),
   (fun d l0 l1 l2  h Q => zr_aload_n rfl rfl),
   (fun d l0 l1 l2 x0 I L P Q p0 => zr_getQ rfl lf_9_10 (fun _ _ _ => rfl) p0),
   (fun d l0 l1 l2 x0 h Q => zr_aload_n rfl rfl),
   (fun d l0 l1 l2 x1 x0 I L P Q p0 => zr_getI rfl lf_9_182 (fun _ _ _ => rfl) p0),
   (fun d l0 l1 l2 x1 x0 h Q => zr_aload_n rfl rfl),
   (fun d l0 l1 l2 x2 x1 x0 I L P Q p0 => zr_getI rfl lf_9_185 (fun _ _ _ => rfl) p0),
   (fun d l0 l1 l2 x2 x1 x0 I L P Q p0 => zr_vir (as := [.int x2, .int x1]) (rest := []) rfl lm_9_224 m_69 kd_69 rfl (Nat.le_of_ble_eq_true rfl) p0),
   (fun d l0 l1 l2 x0 h Q => zr_istore_n (n := 2) rfl (Nat.le_of_ble_eq_true rfl) rfl),
   (fun d l0 l1 l2  h Q => zr_iload_n rfl rfl),
   (fun d l0 l1 l2 x0 h Q => zr_bipush rfl (by decide)),
   (fun d l0 l1 l2 x1 x0 h Q => zr_ic_eq rfl (by decide)),
   (fun d l0 l1 l2  h Q => zr_iload_n rfl rfl),
   (fun d l0 l1 l2 x0 h Q => zr_if_ne rfl (by decide)),
   (fun d l0 l1 l2  h Q => zr_iload_n rfl rfl),
   (fun d l0 l1 l2 x0 h Q => zr_goto rfl (by decide)),
   (fun d l0 l1 l2  h Q => zr_aload_n rfl rfl),
   (fun d l0 l1 l2 x0 I L P Q p0 => zr_getQ rfl lf_9_10 (fun _ _ _ => rfl) p0),
   (fun d l0 l1 l2 x0 h Q => zr_iload_n rfl rfl),
   (fun d l0 l1 l2 x1 x0 h Q => zr_aload_n rfl rfl),
   (fun d l0 l1 l2 x2 x1 x0 I L P Q p0 => zr_getI rfl lf_9_182 (fun _ _ _ => rfl) p0),
   (fun d l0 l1 l2 x2 x1 x0 h Q => zr_aload_n rfl rfl),
   (fun d l0 l1 l2 x3 x2 x1 x0 I L P Q p0 => zr_getI rfl lf_9_185 (fun _ _ _ => rfl) p0),
   (fun d l0 l1 l2 x3 x2 x1 x0 I L P Q p0 => zr_vir (as := [.int x3, .int x2, .int x1]) (rest := []) rfl lm_9_227 m_70 kd_70 rfl (Nat.le_of_ble_eq_true rfl) p0),
   (fun d l0 l1 l2 x0 h Q => zr_iret rfl rfl)⟩
theorem E_X9_topples : ∀ (d : Nat) (a0 : Nat) (a1 : Int32) (h : zMm) (Q : Option Value → zMm → Prop), zWM (d + 1) 89 [.ref a0, .int a1] h Q = zWp d zi_89 none 0 [.ref a0, .int a1, .retAddr 0, .retAddr 0, .retAddr 0, .retAddr 0] [] h Q := fun d a0 a1 h Q => zW_M m_89 (Nat.le_of_ble_eq_true rfl) rfl
set_option maxRecDepth 100000 in
theorem R_X9_topples :
    (∀ (d : Nat) (l0 : Value) (l1 : Int32) (l2 : Value) (l3 : Value) (l4 : Value) (l5 : Value)  (h : zMm) (Q : Option Value → zMm → Prop), zWp d zi_89 none 0 [l0, .int l1, l2, l3, l4, l5] [] h Q = zWp d zi_89 none 1 [l0, .int l1, l2, l3, l4, l5] [.int l1] h Q) ∧
    (∀ (d : Nat) (l0 : Value) (l1 : Value) (l2 : Value) (l3 : Value) (l4 : Value) (l5 : Value) (x0 : Int32) (h : zMm) (Q : Option Value → zMm → Prop), zWp d zi_89 none 1 [l0, l1, l2, l3, l4, l5] [.int x0] h Q = if x0 < 0 then zWp d zi_89 none 9 [l0, l1, l2, l3, l4, l5] [] h Q else zWp d zi_89 none 4 [l0, l1, l2, l3, l4, l5] [] h Q) ∧
    (∀ (d : Nat) (l0 : Value) (l1 : Int32) (l2 : Value) (l3 : Value) (l4 : Value) (l5 : Value)  (h : zMm) (Q : Option Value → zMm → Prop), zWp d zi_89 none 4 [l0, .int l1, l2, l3, l4, l5] [] h Q = zWp d zi_89 none 5 [l0, .int l1, l2, l3, l4, l5] [.int l1] h Q) ∧
    (∀ (d : Nat) (l0 : Value) (l1 : Value) (l2 : Value) (l3 : Value) (l4 : Value) (l5 : Value) (x0 : Int32) (h : zMm) (Q : Option Value → zMm → Prop), zWp d zi_89 none 5 [l0, l1, l2, l3, l4, l5] [.int x0] h Q = zWp d zi_89 none 6 [l0, l1, l2, l3, l4, l5] [.int 3, .int x0] h Q) ∧
    (∀ (d : Nat) (l0 : Value) (l1 : Value) (l2 : Value) (l3 : Value) (l4 : Value) (l5 : Value) (x1 : Int32) (x0 : Int32) (h : zMm) (Q : Option Value → zMm → Prop), zWp d zi_89 none 6 [l0, l1, l2, l3, l4, l5] [.int x1, .int x0] h Q = if x0 ≤ x1 then zWp d zi_89 none 11 [l0, l1, l2, l3, l4, l5] [] h Q else zWp d zi_89 none 9 [l0, l1, l2, l3, l4, l5] [] h Q) ∧
    (∀ (d : Nat) (l0 : Value) (l1 : Value) (l2 : Value) (l3 : Value) (l4 : Value) (l5 : Value)  (h : zMm) (Q : Option Value → zMm → Prop), zWp d zi_89 none 9 [l0, l1, l2, l3, l4, l5] [] h Q = zWp d zi_89 none 10 [l0, l1, l2, l3, l4, l5] [.int (-1)] h Q) ∧
    (∀ (d : Nat) (l0 : Value) (l1 : Value) (l2 : Value) (l3 : Value) (l4 : Value) (l5 : Value) (x0 : Int32) (h : zMm) (Q : Option Value → zMm → Prop), zWp d zi_89 none 10 [l0, l1, l2, l3, l4, l5] [.int x0] h Q = Q (some (.int x0)) h) ∧
    (∀ (d : Nat) (l0 : Value) (l1 : Int32) (l2 : Value) (l3 : Value) (l4 : Value) (l5 : Value)  (h : zMm) (Q : Option Value → zMm → Prop), zWp d zi_89 none 11 [l0, .int l1, l2, l3, l4, l5] [] h Q = zWp d zi_89 none 12 [l0, .int l1, l2, l3, l4, l5] [.int l1] h Q) ∧
    (∀ (d : Nat) (l0 : Value) (l1 : Value) (l2 : Value) (l3 : Value) (l4 : Value) (l5 : Value) (x0 : Int32) (h : zMm) (Q : Option Value → zMm → Prop), zWp d zi_89 none 12 [l0, l1, l2, l3, l4, l5] [.int x0] h Q = zWp d zi_89 none 13 [l0, l1, l2, l3, l4, l5] [.int 2, .int x0] h Q) ∧
    (∀ (d : Nat) (l0 : Value) (l1 : Value) (l2 : Value) (l3 : Value) (l4 : Value) (l5 : Value) (x1 : Int32) (x0 : Int32) (h : zMm) (Q : Option Value → zMm → Prop), zWp d zi_89 none 13 [l0, l1, l2, l3, l4, l5] [.int x1, .int x0] h Q = if x1 ≤ x0 then zWp d zi_89 none 20 [l0, l1, l2, l3, l4, l5] [] h Q else zWp d zi_89 none 16 [l0, l1, l2, l3, l4, l5] [] h Q) ∧
    (∀ (d : Nat) (l0 : Value) (l1 : Value) (l2 : Value) (l3 : Value) (l4 : Value) (l5 : Value)  (h : zMm) (Q : Option Value → zMm → Prop), zWp d zi_89 none 16 [l0, l1, l2, l3, l4, l5] [] h Q = zWp d zi_89 none 17 [l0, l1, l2, l3, l4, l5] [.int 1] h Q) ∧
    (∀ (d : Nat) (l0 : Value) (l1 : Value) (l2 : Value) (l3 : Value) (l4 : Value) (l5 : Value) (x0 : Int32) (h : zMm) (Q : Option Value → zMm → Prop), zWp d zi_89 none 17 [l0, l1, l2, l3, l4, l5] [.int x0] h Q = zWp d zi_89 none 21 [l0, l1, l2, l3, l4, l5] [.int x0] h Q) ∧
    (∀ (d : Nat) (l0 : Value) (l1 : Value) (l2 : Value) (l3 : Value) (l4 : Value) (l5 : Value)  (h : zMm) (Q : Option Value → zMm → Prop), zWp d zi_89 none 20 [l0, l1, l2, l3, l4, l5] [] h Q = zWp d zi_89 none 21 [l0, l1, l2, l3, l4, l5] [.int (-1)] h Q) ∧
    (∀ (d : Nat) (l0 : Value) (l1 : Int32) (l2 : Value) (l3 : Value) (l4 : Value) (l5 : Value) (x0 : Int32) (h : zMm) (Q : Option Value → zMm → Prop), zWp d zi_89 none 21 [l0, .int l1, l2, l3, l4, l5] [.int x0] h Q = zWp d zi_89 none 22 [l0, .int l1, .int x0, l3, l4, l5] [] h Q) ∧
    (∀ (d : Nat) (l0 : Value) (l1 : Value) (l2 : Value) (l3 : Value) (l4 : Value) (l5 : Value)  (h : zMm) (Q : Option Value → zMm → Prop), zWp d zi_89 none 22 [l0, l1, l2, l3, l4, l5] [] h Q = zWp d zi_89 none 23 [l0, l1, l2, l3, l4, l5] [.int 0] h Q) ∧
    (∀ (d : Nat) (l0 : Value) (l1 : Value) (l2 : Int32) (l3 : Value) (l4 : Value) (l5 : Value) (x0 : Int32) (h : zMm) (Q : Option Value → zMm → Prop), zWp d zi_89 none 23 [l0, l1, .int l2, l3, l4, l5] [.int x0] h Q = zWp d zi_89 none 24 [l0, l1, .int l2, .int x0, l4, l5] [] h Q) ∧
    (∀ (d : Nat) (l0 : Value) (l1 : Value) (l2 : Value) (l3 : Value) (l4 : Value) (l5 : Value) (x0 : Int32) (h : zMm) (Q : Option Value → zMm → Prop), zWp d zi_89 none 25 [l0, l1, l2, l3, l4, l5] [.int x0] h Q = zWp d zi_89 none 27 [l0, l1, l2, l3, l4, l5] [.int 99, .int x0] h Q) ∧
    (∀ (d : Nat) (l0 : Value) (l1 : Value) (l2 : Value) (l3 : Value) (l4 : Value) (l5 : Value) (x1 : Int32) (x0 : Int32) (h : zMm) (Q : Option Value → zMm → Prop), zWp d zi_89 none 27 [l0, l1, l2, l3, l4, l5] [.int x1, .int x0] h Q = if x1 < x0 then zWp d zi_89 none 81 [l0, l1, l2, l3, l4, l5] [] h Q else zWp d zi_89 none 30 [l0, l1, l2, l3, l4, l5] [] h Q) ∧
    (∀ (d : Nat) (l0 : Value) (l1 : Value) (l2 : Int32) (l3 : Value) (l4 : Value) (l5 : Value)  (h : zMm) (Q : Option Value → zMm → Prop), zWp d zi_89 none 30 [l0, l1, .int l2, l3, l4, l5] [] h Q = zWp d zi_89 none 31 [l0, l1, .int l2, l3, l4, l5] [.int l2] h Q) ∧
    (∀ (d : Nat) (l0 : Value) (l1 : Value) (l2 : Value) (l3 : Int32) (l4 : Value) (l5 : Value) (x0 : Int32) (h : zMm) (Q : Option Value → zMm → Prop), zWp d zi_89 none 31 [l0, l1, l2, .int l3, l4, l5] [.int x0] h Q = zWp d zi_89 none 32 [l0, l1, l2, .int l3, l4, l5] [.int l3, .int x0] h Q) ∧
    (∀ (d : Nat) (l0 : Value) (l1 : Value) (l2 : Value) (l3 : Value) (l4 : Value) (l5 : Value) (x1 : Int32) (x0 : Int32) (h : zMm) (Q : Option Value → zMm → Prop), zWp d zi_89 none 32 [l0, l1, l2, l3, l4, l5] [.int x1, .int x0] h Q = zWp d zi_89 none 33 [l0, l1, l2, l3, l4, l5] [.int (x0 * x1)] h Q) ∧
    (∀ (d : Nat) (l0 : Value) (l1 : Value) (l2 : Value) (l3 : Int32) (l4 : Value) (l5 : Value) (x0 : Int32) (h : zMm) (Q : Option Value → zMm → Prop), zWp d zi_89 none 33 [l0, l1, l2, .int l3, l4, l5] [.int x0] h Q = zWp d zi_89 none 35 [l0, l1, l2, .int l3, .int x0, l5] [] h Q) ∧
    (∀ (d : Nat) (l0 : Value) (l1 : Int32) (l2 : Value) (l3 : Value) (l4 : Value) (l5 : Value)  (h : zMm) (Q : Option Value → zMm → Prop), zWp d zi_89 none 35 [l0, .int l1, l2, l3, l4, l5] [] h Q = zWp d zi_89 none 36 [l0, .int l1, l2, l3, l4, l5] [.int l1] h Q) ∧
    (∀ (d : Nat) (l0 : Value) (l1 : Value) (l2 : Value) (l3 : Value) (l4 : Value) (l5 : Value) (x0 : Int32) (h : zMm) (Q : Option Value → zMm → Prop), zWp d zi_89 none 36 [l0, l1, l2, l3, l4, l5] [.int x0] h Q = zWp d zi_89 none 37 [l0, l1, l2, l3, l4, l5] [.int 2, .int x0] h Q) ∧
    (∀ (d : Nat) (l0 : Value) (l1 : Value) (l2 : Value) (l3 : Value) (l4 : Value) (l5 : Value) (x1 : Int32) (x0 : Int32) (h : zMm) (Q : Option Value → zMm → Prop), zWp d zi_89 none 37 [l0, l1, l2, l3, l4, l5] [.int x1, .int x0] h Q = (¬ x1 = 0 ∧ zWp d zi_89 none 38 [l0, l1, l2, l3, l4, l5] [.int (x0 - x0 / x1 * x1)] h Q)) ∧
    (∀ (d : Nat) (l0 : Value) (l1 : Value) (l2 : Value) (l3 : Value) (l4 : Value) (l5 : Value) (x0 : Int32) (h : zMm) (Q : Option Value → zMm → Prop), zWp d zi_89 none 38 [l0, l1, l2, l3, l4, l5] [.int x0] h Q = if x0 = 0 then zWp d zi_89 none 41 [l0, l1, l2, l3, l4, l5] [] h Q else zWp d zi_89 none 54 [l0, l1, l2, l3, l4, l5] [] h Q) ∧
    (∀ (d : Nat) (l0 : Nat) (l1 : Value) (l2 : Value) (l3 : Value) (l4 : Value) (l5 : Value)  (h : zMm) (Q : Option Value → zMm → Prop), zWp d zi_89 none 41 [.ref l0, l1, l2, l3, l4, l5] [] h Q = zWp d zi_89 none 42 [.ref l0, l1, l2, l3, l4, l5] [.ref l0] h Q) ∧
    (∀ (d : Nat) (l0 : Value) (l1 : Value) (l2 : Value) (l3 : Value) (l4 : Value) (l5 : Value) (x0 : Nat) (I : Nat → Nat → Int32) (L : Nat → Nat → Int64) (P : Nat → Nat → Option Nat) (Q : Option Value → zMm → Prop), zSH[x0]? = some (.inl 9) → zWp d zi_89 none 42 [l0, l1, l2, l3, l4, l5] [.ref x0] (zSH, I, L, P) Q = zWp d zi_89 none 45 [l0, l1, l2, l3, l4, l5] [va_rf (P x0 0)] (zSH, I, L, P) Q) ∧
    (∀ (d : Nat) (l0 : Value) (l1 : Value) (l2 : Value) (l3 : Value) (l4 : Int32) (l5 : Value) (x0 : Nat) (h : zMm) (Q : Option Value → zMm → Prop), zWp d zi_89 none 45 [l0, l1, l2, l3, .int l4, l5] [.ref x0] h Q = zWp d zi_89 none 47 [l0, l1, l2, l3, .int l4, l5] [.int l4, .ref x0] h Q) ∧
    (∀ (d : Nat) (l0 : Value) (l1 : Value) (l2 : Value) (l3 : Value) (l4 : Value) (l5 : Value) (x1 : Int32) (x0 : Nat) (h : zMm) (Q : Option Value → zMm → Prop), zWp d zi_89 none 47 [l0, l1, l2, l3, l4, l5] [.int x1, .ref x0] h Q = zWp d zi_89 none 48 [l0, l1, l2, l3, l4, l5] [.int 0, .int x1, .ref x0] h Q) ∧
    (∀ (d : Nat) (l0 : Value) (l1 : Value) (l2 : Value) (l3 : Value) (l4 : Value) (l5 : Value) (x2 : Int32) (x1 : Int32) (x0 : Nat) (I : Nat → Nat → Int32) (L : Nat → Nat → Int64) (P : Nat → Nat → Option Nat) (Q : Option Value → zMm → Prop), zSH[x0]? = some (.inl 8) → zWp d zi_89 none 48 [l0, l1, l2, l3, l4, l5] [.int x2, .int x1, .ref x0] (zSH, I, L, P) Q = zWM d 69 [.ref x0, .int x1, .int x2] (zSH, I, L, P) (fun r h1 => zWp d zi_89 none 51 [l0, l1, l2, l3, l4, l5] (r.toList ++ []) h1 Q)) ∧
    (∀ (d : Nat) (l0 : Value) (l1 : Value) (l2 : Value) (l3 : Value) (l4 : Value) (l5 : Value) (x0 : Int32) (h : zMm) (Q : Option Value → zMm → Prop), zWp d zi_89 none 51 [l0, l1, l2, l3, l4, l5] [.int x0] h Q = zWp d zi_89 none 64 [l0, l1, l2, l3, l4, l5] [.int x0] h Q) ∧
    (∀ (d : Nat) (l0 : Nat) (l1 : Value) (l2 : Value) (l3 : Value) (l4 : Value) (l5 : Value)  (h : zMm) (Q : Option Value → zMm → Prop), zWp d zi_89 none 54 [.ref l0, l1, l2, l3, l4, l5] [] h Q = zWp d zi_89 none 55 [.ref l0, l1, l2, l3, l4, l5] [.ref l0] h Q) ∧
    (∀ (d : Nat) (l0 : Value) (l1 : Value) (l2 : Value) (l3 : Value) (l4 : Value) (l5 : Value) (x0 : Nat) (I : Nat → Nat → Int32) (L : Nat → Nat → Int64) (P : Nat → Nat → Option Nat) (Q : Option Value → zMm → Prop), zSH[x0]? = some (.inl 9) → zWp d zi_89 none 55 [l0, l1, l2, l3, l4, l5] [.ref x0] (zSH, I, L, P) Q = zWp d zi_89 none 58 [l0, l1, l2, l3, l4, l5] [va_rf (P x0 0)] (zSH, I, L, P) Q) ∧
    (∀ (d : Nat) (l0 : Value) (l1 : Value) (l2 : Value) (l3 : Value) (l4 : Value) (l5 : Value) (x0 : Nat) (h : zMm) (Q : Option Value → zMm → Prop), zWp d zi_89 none 58 [l0, l1, l2, l3, l4, l5] [.ref x0] h Q = zWp d zi_89 none 59 [l0, l1, l2, l3, l4, l5] [.int 0, .ref x0] h Q) ∧
    (∀ (d : Nat) (l0 : Value) (l1 : Value) (l2 : Value) (l3 : Value) (l4 : Int32) (l5 : Value) (x1 : Int32) (x0 : Nat) (h : zMm) (Q : Option Value → zMm → Prop), zWp d zi_89 none 59 [l0, l1, l2, l3, .int l4, l5] [.int x1, .ref x0] h Q = zWp d zi_89 none 61 [l0, l1, l2, l3, .int l4, l5] [.int l4, .int x1, .ref x0] h Q) ∧
    (∀ (d : Nat) (l0 : Value) (l1 : Value) (l2 : Value) (l3 : Value) (l4 : Value) (l5 : Value) (x2 : Int32) (x1 : Int32) (x0 : Nat) (I : Nat → Nat → Int32) (L : Nat → Nat → Int64) (P : Nat → Nat → Option Nat) (Q : Option Value → zMm → Prop), zSH[x0]? = some (.inl 8) → zWp d zi_89 none 61 [l0, l1, l2, l3, l4, l5] [.int x2, .int x1, .ref x0] (zSH, I, L, P) Q = zWM d 69 [.ref x0, .int x1, .int x2] (zSH, I, L, P) (fun r h1 => zWp d zi_89 none 64 [l0, l1, l2, l3, l4, l5] (r.toList ++ []) h1 Q)) ∧
    (∀ (d : Nat) (l0 : Value) (l1 : Value) (l2 : Value) (l3 : Value) (l4 : Int32) (l5 : Value) (x0 : Int32) (h : zMm) (Q : Option Value → zMm → Prop), zWp d zi_89 none 64 [l0, l1, l2, l3, .int l4, l5] [.int x0] h Q = zWp d zi_89 none 66 [l0, l1, l2, l3, .int l4, .int x0] [] h Q) ∧
    (∀ (d : Nat) (l0 : Value) (l1 : Value) (l2 : Value) (l3 : Value) (l4 : Value) (l5 : Int32)  (h : zMm) (Q : Option Value → zMm → Prop), zWp d zi_89 none 66 [l0, l1, l2, l3, l4, .int l5] [] h Q = zWp d zi_89 none 68 [l0, l1, l2, l3, l4, .int l5] [.int l5] h Q) ∧
    (∀ (d : Nat) (l0 : Value) (l1 : Value) (l2 : Value) (l3 : Value) (l4 : Value) (l5 : Value) (x0 : Int32) (h : zMm) (Q : Option Value → zMm → Prop), zWp d zi_89 none 68 [l0, l1, l2, l3, l4, l5] [.int x0] h Q = zWp d zi_89 none 70 [l0, l1, l2, l3, l4, l5] [.int (-2), .int x0] h Q) ∧
    (∀ (d : Nat) (l0 : Value) (l1 : Value) (l2 : Value) (l3 : Value) (l4 : Value) (l5 : Value) (x1 : Int32) (x0 : Int32) (h : zMm) (Q : Option Value → zMm → Prop), zWp d zi_89 none 70 [l0, l1, l2, l3, l4, l5] [.int x1, .int x0] h Q = if x0 = x1 then zWp d zi_89 none 75 [l0, l1, l2, l3, l4, l5] [] h Q else zWp d zi_89 none 73 [l0, l1, l2, l3, l4, l5] [] h Q) ∧
    (∀ (d : Nat) (l0 : Value) (l1 : Value) (l2 : Value) (l3 : Int32) (l4 : Value) (l5 : Value)  (h : zMm) (Q : Option Value → zMm → Prop), zWp d zi_89 none 73 [l0, l1, l2, .int l3, l4, l5] [] h Q = zWp d zi_89 none 74 [l0, l1, l2, .int l3, l4, l5] [.int l3] h Q) ∧
    (∀ (d : Nat) (l0 : Value) (l1 : Value) (l2 : Value) (l3 : Value) (l4 : Value) (l5 : Value) (x0 : Int32) (h : zMm) (Q : Option Value → zMm → Prop), zWp d zi_89 none 74 [l0, l1, l2, l3, l4, l5] [.int x0] h Q = Q (some (.int x0)) h) ∧
    (∀ (d : Nat) (l0 : Value) (l1 : Value) (l2 : Int32) (l3 : Int32) (l4 : Value) (l5 : Value)  (h : zMm) (Q : Option Value → zMm → Prop), zWp d zi_89 none 75 [l0, l1, .int l2, .int l3, l4, l5] [] h Q = zWp d zi_89 none 78 [l0, l1, .int l2, .int (l3 + 1), l4, l5] [] h Q) ∧
    (∀ (d : Nat) (l0 : Value) (l1 : Value) (l2 : Value) (l3 : Value) (l4 : Value) (l5 : Value)  (h : zMm) (Q : Option Value → zMm → Prop), zWp d zi_89 none 78 [l0, l1, l2, l3, l4, l5] [] h Q = zWp d zi_89 none 24 [l0, l1, l2, l3, l4, l5] [] h Q) ∧
    (∀ (d : Nat) (l0 : Value) (l1 : Value) (l2 : Value) (l3 : Value) (l4 : Value) (l5 : Value)  (h : zMm) (Q : Option Value → zMm → Prop), zWp d zi_89 none 81 [l0, l1, l2, l3, l4, l5] [] h Q = zWp d zi_89 none 83 [l0, l1, l2, l3, l4, l5] [.int (-2)] h Q) ∧
    (∀ (d : Nat) (l0 : Value) (l1 : Value) (l2 : Value) (l3 : Value) (l4 : Value) (l5 : Value) (x0 : Int32) (h : zMm) (Q : Option Value → zMm → Prop), zWp d zi_89 none 83 [l0, l1, l2, l3, l4, l5] [.int x0] h Q = Q (some (.int x0)) h) :=
  ⟨(fun d l0 l1 l2 l3 l4 l5  h Q => zr_iload_n rfl rfl),
   (fun d l0 l1 l2 l3 l4 l5 x0 h Q => zr_if_lt rfl (by decide)),
   (fun d l0 l1 l2 l3 l4 l5  h Q => zr_iload_n rfl rfl),
   (fun d l0 l1 l2 l3 l4 l5 x0 h Q => zr_iconst rfl (by decide)),
   (fun d l0 l1 l2 l3 l4 l5 x1 x0 h Q => zr_ic_le rfl (by decide)),
   (fun d l0 l1 l2 l3 l4 l5  h Q => zr_iconst rfl (by decide)),
   (fun d l0 l1 l2 l3 l4 l5 x0 h Q => zr_iret rfl rfl),
   (fun d l0 l1 l2 l3 l4 l5  h Q => zr_iload_n rfl rfl),
   (fun d l0 l1 l2 l3 l4 l5 x0 h Q => zr_iconst rfl (by decide)),
   (fun d l0 l1 l2 l3 l4 l5 x1 x0 h Q => zr_ic_ge rfl (by decide)),
   (fun d l0 l1 l2 l3 l4 l5  h Q => zr_iconst rfl (by decide)),
   (fun d l0 l1 l2 l3 l4 l5 x0 h Q => zr_goto rfl (by decide)),
   (fun d l0 l1 l2 l3 l4 l5  h Q => zr_iconst rfl (by decide)),
   (fun d l0 l1 l2 l3 l4 l5 x0 h Q => zr_istore_n (n := 2) rfl (Nat.le_of_ble_eq_true rfl) rfl),
   (fun d l0 l1 l2 l3 l4 l5  h Q => zr_iconst rfl (by decide)),
   (fun d l0 l1 l2 l3 l4 l5 x0 h Q => zr_istore_n (n := 3) rfl (Nat.le_of_ble_eq_true rfl) rfl),
   (fun d l0 l1 l2 l3 l4 l5 x0 h Q => zr_bipush rfl (by decide)),
   (fun d l0 l1 l2 l3 l4 l5 x1 x0 h Q => zr_ic_gt rfl (by decide)),
   (fun d l0 l1 l2 l3 l4 l5  h Q => zr_iload_n rfl rfl),
   (fun d l0 l1 l2 l3 l4 l5 x0 h Q => zr_iload_n rfl rfl),
   (fun d l0 l1 l2 l3 l4 l5 x1 x0 h Q => zr_imul rfl),
   (fun d l0 l1 l2 l3 l4 l5 x0 h Q => zr_istore (n := 4) rfl (Nat.le_of_ble_eq_true rfl) rfl),
   (fun d l0 l1 l2 l3 l4 l5  h Q => zr_iload_n rfl rfl),
   (fun d l0 l1 l2 l3 l4 l5 x0 h Q => zr_iconst rfl (by decide)),
   (fun d l0 l1 l2 l3 l4 l5 x1 x0 h Q => zr_irem rfl),
   (fun d l0 l1 l2 l3 l4 l5 x0 h Q => zr_if_ne rfl (by decide)),
   (fun d l0 l1 l2 l3 l4 l5  h Q => zr_aload_n rfl rfl),
   (fun d l0 l1 l2 l3 l4 l5 x0 I L P Q p0 => zr_getQ rfl lf_9_10 (fun _ _ _ => rfl) p0),
   (fun d l0 l1 l2 l3 l4 l5 x0 h Q => zr_iload rfl rfl),
   (fun d l0 l1 l2 l3 l4 l5 x1 x0 h Q => zr_iconst rfl (by decide)),
   (fun d l0 l1 l2 l3 l4 l5 x2 x1 x0 I L P Q p0 => zr_vir (as := [.int x2, .int x1]) (rest := []) rfl lm_9_224 m_69 kd_69 rfl (Nat.le_of_ble_eq_true rfl) p0),
   (fun d l0 l1 l2 l3 l4 l5 x0 h Q => zr_goto rfl (by decide)),
   (fun d l0 l1 l2 l3 l4 l5  h Q => zr_aload_n rfl rfl),
   (fun d l0 l1 l2 l3 l4 l5 x0 I L P Q p0 => zr_getQ rfl lf_9_10 (fun _ _ _ => rfl) p0),
   (fun d l0 l1 l2 l3 l4 l5 x0 h Q => zr_iconst rfl (by decide)),
   (fun d l0 l1 l2 l3 l4 l5 x1 x0 h Q => zr_iload rfl rfl),
   (fun d l0 l1 l2 l3 l4 l5 x2 x1 x0 I L P Q p0 => zr_vir (as := [.int x2, .int x1]) (rest := []) rfl lm_9_224 m_69 kd_69 rfl (Nat.le_of_ble_eq_true rfl) p0),
   (fun d l0 l1 l2 l3 l4 l5 x0 h Q => zr_istore (n := 5) rfl (Nat.le_of_ble_eq_true rfl) rfl),
   (fun d l0 l1 l2 l3 l4 l5  h Q => zr_iload rfl rfl),
   (fun d l0 l1 l2 l3 l4 l5 x0 h Q => zr_bipush rfl (by decide)),
   (fun d l0 l1 l2 l3 l4 l5 x1 x0 h Q => zr_ic_eq rfl (by decide)),
   (fun d l0 l1 l2 l3 l4 l5  h Q => zr_iload_n rfl rfl),
   (fun d l0 l1 l2 l3 l4 l5 x0 h Q => zr_iret rfl rfl),
   (fun d l0 l1 l2 l3 l4 l5  h Q => zr_iinc (n := 3) (kc := 1) rfl rfl (Nat.le_of_ble_eq_true rfl) rfl (by decide)),
   (fun d l0 l1 l2 l3 l4 l5  h Q => zr_goto rfl (by decide)),
   (fun d l0 l1 l2 l3 l4 l5  h Q => zr_bipush rfl (by decide)),
   (fun d l0 l1 l2 l3 l4 l5 x0 h Q => zr_iret rfl rfl)⟩
theorem H_X9_topples_24 : ∀ (d : Nat) (l0 : Value) (l1 : Value) (l2 : Value) (l3 : Int32) (l4 : Value) (l5 : Value)  (h : zMm) (Q : Option Value → zMm → Prop), zWp d zi_89 none 24 [l0, l1, l2, .int l3, l4, l5] [] h Q = zWp d zi_89 none 25 [l0, l1, l2, .int l3, l4, l5] [.int l3] h Q := fun d l0 l1 l2 l3 l4 l5  h Q => zr_iload_n rfl rfl
theorem E_X9_broad : ∀ (d : Nat) (a0 : Nat) (a1 : Int32) (h : zMm) (Q : Option Value → zMm → Prop), zWM (d + 1) 90 [.ref a0, .int a1] h Q = zWp d zi_90 none 0 [.ref a0, .int a1, .retAddr 0, .retAddr 0] [] h Q := fun d a0 a1 h Q => zW_M m_90 (Nat.le_of_ble_eq_true rfl) rfl
set_option maxRecDepth 100000 in
theorem R_X9_broad :
    (∀ (d : Nat) (l0 : Nat) (l1 : Value) (l2 : Value) (l3 : Value)  (h : zMm) (Q : Option Value → zMm → Prop), zWp d zi_90 none 0 [.ref l0, l1, l2, l3] [] h Q = zWp d zi_90 none 1 [.ref l0, l1, l2, l3] [.ref l0] h Q) ∧
    (∀ (d : Nat) (l0 : Value) (l1 : Value) (l2 : Value) (l3 : Value) (x0 : Nat) (I : Nat → Nat → Int32) (L : Nat → Nat → Int64) (P : Nat → Nat → Option Nat) (Q : Option Value → zMm → Prop), zSH[x0]? = some (.inl 9) → zWp d zi_90 none 1 [l0, l1, l2, l3] [.ref x0] (zSH, I, L, P) Q = zWp d zi_90 none 4 [l0, l1, l2, l3] [va_rf (P x0 0)] (zSH, I, L, P) Q) ∧
    (∀ (d : Nat) (l0 : Value) (l1 : Int32) (l2 : Value) (l3 : Value) (x0 : Nat) (h : zMm) (Q : Option Value → zMm → Prop), zWp d zi_90 none 4 [l0, .int l1, l2, l3] [.ref x0] h Q = zWp d zi_90 none 5 [l0, .int l1, l2, l3] [.int l1, .ref x0] h Q) ∧
    (∀ (d : Nat) (l0 : Value) (l1 : Value) (l2 : Value) (l3 : Value) (x1 : Int32) (x0 : Nat) (I : Nat → Nat → Int32) (L : Nat → Nat → Int64) (P : Nat → Nat → Option Nat) (Q : Option Value → zMm → Prop), zSH[x0]? = some (.inl 8) → zWp d zi_90 none 5 [l0, l1, l2, l3] [.int x1, .ref x0] (zSH, I, L, P) Q = zWM d 59 [.ref x0, .int x1] (zSH, I, L, P) (fun r h1 => zWp d zi_90 none 8 [l0, l1, l2, l3] (r.toList ++ []) h1 Q)) ∧
    (∀ (d : Nat) (l0 : Value) (l1 : Value) (l2 : Value) (l3 : Value) (x0 : Int32) (h : zMm) (Q : Option Value → zMm → Prop), zWp d zi_90 none 8 [l0, l1, l2, l3] [.int x0] h Q = if x0 = 0 then zWp d zi_90 none 11 [l0, l1, l2, l3] [] h Q else zWp d zi_90 none 13 [l0, l1, l2, l3] [] h Q) ∧
    (∀ (d : Nat) (l0 : Value) (l1 : Value) (l2 : Value) (l3 : Value)  (h : zMm) (Q : Option Value → zMm → Prop), zWp d zi_90 none 11 [l0, l1, l2, l3] [] h Q = zWp d zi_90 none 12 [l0, l1, l2, l3] [.int (-1)] h Q) ∧
    (∀ (d : Nat) (l0 : Value) (l1 : Value) (l2 : Value) (l3 : Value) (x0 : Int32) (h : zMm) (Q : Option Value → zMm → Prop), zWp d zi_90 none 12 [l0, l1, l2, l3] [.int x0] h Q = Q (some (.int x0)) h) ∧
    (∀ (d : Nat) (l0 : Nat) (l1 : Value) (l2 : Value) (l3 : Value)  (h : zMm) (Q : Option Value → zMm → Prop), zWp d zi_90 none 13 [.ref l0, l1, l2, l3] [] h Q = zWp d zi_90 none 14 [.ref l0, l1, l2, l3] [.ref l0] h Q) ∧
    (∀ (d : Nat) (l0 : Value) (l1 : Value) (l2 : Value) (l3 : Value) (x0 : Nat) (I : Nat → Nat → Int32) (L : Nat → Nat → Int64) (P : Nat → Nat → Option Nat) (Q : Option Value → zMm → Prop), zSH[x0]? = some (.inl 9) → zWp d zi_90 none 14 [l0, l1, l2, l3] [.ref x0] (zSH, I, L, P) Q = zWp d zi_90 none 17 [l0, l1, l2, l3] [va_rf (P x0 0)] (zSH, I, L, P) Q) ∧
    (∀ (d : Nat) (l0 : Value) (l1 : Int32) (l2 : Value) (l3 : Value) (x0 : Nat) (h : zMm) (Q : Option Value → zMm → Prop), zWp d zi_90 none 17 [l0, .int l1, l2, l3] [.ref x0] h Q = zWp d zi_90 none 18 [l0, .int l1, l2, l3] [.int l1, .ref x0] h Q) ∧
    (∀ (d : Nat) (l0 : Nat) (l1 : Value) (l2 : Value) (l3 : Value) (x1 : Int32) (x0 : Nat) (h : zMm) (Q : Option Value → zMm → Prop), zWp d zi_90 none 18 [.ref l0, l1, l2, l3] [.int x1, .ref x0] h Q = zWp d zi_90 none 19 [.ref l0, l1, l2, l3] [.ref l0, .int x1, .ref x0] h Q) ∧
    (∀ (d : Nat) (l0 : Value) (l1 : Value) (l2 : Value) (l3 : Value) (x2 : Nat) (x1 : Int32) (x0 : Nat) (I : Nat → Nat → Int32) (L : Nat → Nat → Int64) (P : Nat → Nat → Option Nat) (Q : Option Value → zMm → Prop), zSH[x2]? = some (.inl 9) → zWp d zi_90 none 19 [l0, l1, l2, l3] [.ref x2, .int x1, .ref x0] (zSH, I, L, P) Q = zWp d zi_90 none 22 [l0, l1, l2, l3] [.int (I x2 14), .int x1, .ref x0] (zSH, I, L, P) Q) ∧
    (∀ (d : Nat) (l0 : Nat) (l1 : Value) (l2 : Value) (l3 : Value) (x2 : Int32) (x1 : Int32) (x0 : Nat) (h : zMm) (Q : Option Value → zMm → Prop), zWp d zi_90 none 22 [.ref l0, l1, l2, l3] [.int x2, .int x1, .ref x0] h Q = zWp d zi_90 none 23 [.ref l0, l1, l2, l3] [.ref l0, .int x2, .int x1, .ref x0] h Q) ∧
    (∀ (d : Nat) (l0 : Value) (l1 : Value) (l2 : Value) (l3 : Value) (x3 : Nat) (x2 : Int32) (x1 : Int32) (x0 : Nat) (I : Nat → Nat → Int32) (L : Nat → Nat → Int64) (P : Nat → Nat → Option Nat) (Q : Option Value → zMm → Prop), zSH[x3]? = some (.inl 9) → zWp d zi_90 none 23 [l0, l1, l2, l3] [.ref x3, .int x2, .int x1, .ref x0] (zSH, I, L, P) Q = zWp d zi_90 none 26 [l0, l1, l2, l3] [.int (I x3 15), .int x2, .int x1, .ref x0] (zSH, I, L, P) Q) ∧
    (∀ (d : Nat) (l0 : Value) (l1 : Value) (l2 : Value) (l3 : Value) (x3 : Int32) (x2 : Int32) (x1 : Int32) (x0 : Nat) (I : Nat → Nat → Int32) (L : Nat → Nat → Int64) (P : Nat → Nat → Option Nat) (Q : Option Value → zMm → Prop), zSH[x0]? = some (.inl 8) → zWp d zi_90 none 26 [l0, l1, l2, l3] [.int x3, .int x2, .int x1, .ref x0] (zSH, I, L, P) Q = zWM d 66 [.ref x0, .int x1, .int x2, .int x3] (zSH, I, L, P) (fun r h1 => zWp d zi_90 none 29 [l0, l1, l2, l3] (r.toList ++ []) h1 Q)) ∧
    (∀ (d : Nat) (l0 : Value) (l1 : Int32) (l2 : Value) (l3 : Value) (x0 : Int32) (h : zMm) (Q : Option Value → zMm → Prop), zWp d zi_90 none 29 [l0, .int l1, l2, l3] [.int x0] h Q = zWp d zi_90 none 30 [l0, .int l1, .int x0, l3] [] h Q) ∧
    (∀ (d : Nat) (l0 : Value) (l1 : Value) (l2 : Value) (l3 : Value)  (h : zMm) (Q : Option Value → zMm → Prop), zWp d zi_90 none 30 [l0, l1, l2, l3] [] h Q = zWp d zi_90 none 31 [l0, l1, l2, l3] [.int 1] h Q) ∧
    (∀ (d : Nat) (l0 : Value) (l1 : Value) (l2 : Int32) (l3 : Value) (x0 : Int32) (h : zMm) (Q : Option Value → zMm → Prop), zWp d zi_90 none 31 [l0, l1, .int l2, l3] [.int x0] h Q = zWp d zi_90 none 32 [l0, l1, .int l2, .int x0] [] h Q) ∧
    (∀ (d : Nat) (l0 : Value) (l1 : Value) (l2 : Value) (l3 : Value) (x0 : Int32) (h : zMm) (Q : Option Value → zMm → Prop), zWp d zi_90 none 33 [l0, l1, l2, l3] [.int x0] h Q = zWp d zi_90 none 35 [l0, l1, l2, l3] [.int 9, .int x0] h Q) ∧
    (∀ (d : Nat) (l0 : Value) (l1 : Value) (l2 : Value) (l3 : Value) (x1 : Int32) (x0 : Int32) (h : zMm) (Q : Option Value → zMm → Prop), zWp d zi_90 none 35 [l0, l1, l2, l3] [.int x1, .int x0] h Q = if x1 < x0 then zWp d zi_90 none 59 [l0, l1, l2, l3] [] h Q else zWp d zi_90 none 38 [l0, l1, l2, l3] [] h Q) ∧
    (∀ (d : Nat) (l0 : Value) (l1 : Value) (l2 : Int32) (l3 : Value)  (h : zMm) (Q : Option Value → zMm → Prop), zWp d zi_90 none 38 [l0, l1, .int l2, l3] [] h Q = zWp d zi_90 none 39 [l0, l1, .int l2, l3] [.int l2] h Q) ∧
    (∀ (d : Nat) (l0 : Nat) (l1 : Value) (l2 : Value) (l3 : Value) (x0 : Int32) (h : zMm) (Q : Option Value → zMm → Prop), zWp d zi_90 none 39 [.ref l0, l1, l2, l3] [.int x0] h Q = zWp d zi_90 none 40 [.ref l0, l1, l2, l3] [.ref l0, .int x0] h Q) ∧
    (∀ (d : Nat) (l0 : Value) (l1 : Value) (l2 : Value) (l3 : Value) (x1 : Nat) (x0 : Int32) (I : Nat → Nat → Int32) (L : Nat → Nat → Int64) (P : Nat → Nat → Option Nat) (Q : Option Value → zMm → Prop), zSH[x1]? = some (.inl 9) → zWp d zi_90 none 40 [l0, l1, l2, l3] [.ref x1, .int x0] (zSH, I, L, P) Q = zWp d zi_90 none 43 [l0, l1, l2, l3] [va_rf (P x1 0), .int x0] (zSH, I, L, P) Q) ∧
    (∀ (d : Nat) (l0 : Value) (l1 : Int32) (l2 : Value) (l3 : Value) (x1 : Nat) (x0 : Int32) (h : zMm) (Q : Option Value → zMm → Prop), zWp d zi_90 none 43 [l0, .int l1, l2, l3] [.ref x1, .int x0] h Q = zWp d zi_90 none 44 [l0, .int l1, l2, l3] [.int l1, .ref x1, .int x0] h Q) ∧
    (∀ (d : Nat) (l0 : Value) (l1 : Value) (l2 : Value) (l3 : Int32) (x2 : Int32) (x1 : Nat) (x0 : Int32) (h : zMm) (Q : Option Value → zMm → Prop), zWp d zi_90 none 44 [l0, l1, l2, .int l3] [.int x2, .ref x1, .int x0] h Q = zWp d zi_90 none 45 [l0, l1, l2, .int l3] [.int l3, .int x2, .ref x1, .int x0] h Q) ∧
    (∀ (d : Nat) (l0 : Value) (l1 : Value) (l2 : Value) (l3 : Value) (x3 : Int32) (x2 : Int32) (x1 : Nat) (x0 : Int32) (I : Nat → Nat → Int32) (L : Nat → Nat → Int64) (P : Nat → Nat → Option Nat) (Q : Option Value → zMm → Prop), zSH[x1]? = some (.inl 8) → zWp d zi_90 none 45 [l0, l1, l2, l3] [.int x3, .int x2, .ref x1, .int x0] (zSH, I, L, P) Q = zWM d 67 [.ref x1, .int x2, .int x3] (zSH, I, L, P) (fun r h1 => zWp d zi_90 none 48 [l0, l1, l2, l3] (r.toList ++ [.int x0]) h1 Q)) ∧
    (∀ (d : Nat) (l0 : Value) (l1 : Value) (l2 : Value) (l3 : Value) (x1 : Int32) (x0 : Int32) (h : zMm) (Q : Option Value → zMm → Prop), zWp d zi_90 none 48 [l0, l1, l2, l3] [.int x1, .int x0] h Q = if x1 < x0 then zWp d zi_90 none 53 [l0, l1, l2, l3] [] h Q else zWp d zi_90 none 51 [l0, l1, l2, l3] [] h Q) ∧
    (∀ (d : Nat) (l0 : Value) (l1 : Value) (l2 : Value) (l3 : Int32)  (h : zMm) (Q : Option Value → zMm → Prop), zWp d zi_90 none 51 [l0, l1, l2, .int l3] [] h Q = zWp d zi_90 none 52 [l0, l1, l2, .int l3] [.int l3] h Q) ∧
    (∀ (d : Nat) (l0 : Value) (l1 : Value) (l2 : Value) (l3 : Value) (x0 : Int32) (h : zMm) (Q : Option Value → zMm → Prop), zWp d zi_90 none 52 [l0, l1, l2, l3] [.int x0] h Q = Q (some (.int x0)) h) ∧
    (∀ (d : Nat) (l0 : Value) (l1 : Value) (l2 : Int32) (l3 : Int32)  (h : zMm) (Q : Option Value → zMm → Prop), zWp d zi_90 none 53 [l0, l1, .int l2, .int l3] [] h Q = zWp d zi_90 none 56 [l0, l1, .int l2, .int (l3 + 1)] [] h Q) ∧
    (∀ (d : Nat) (l0 : Value) (l1 : Value) (l2 : Value) (l3 : Value)  (h : zMm) (Q : Option Value → zMm → Prop), zWp d zi_90 none 56 [l0, l1, l2, l3] [] h Q = zWp d zi_90 none 32 [l0, l1, l2, l3] [] h Q) ∧
    (∀ (d : Nat) (l0 : Value) (l1 : Value) (l2 : Value) (l3 : Value)  (h : zMm) (Q : Option Value → zMm → Prop), zWp d zi_90 none 59 [l0, l1, l2, l3] [] h Q = zWp d zi_90 none 61 [l0, l1, l2, l3] [.int (-2)] h Q) ∧
    (∀ (d : Nat) (l0 : Value) (l1 : Value) (l2 : Value) (l3 : Value) (x0 : Int32) (h : zMm) (Q : Option Value → zMm → Prop), zWp d zi_90 none 61 [l0, l1, l2, l3] [.int x0] h Q = Q (some (.int x0)) h) :=
  ⟨(fun d l0 l1 l2 l3  h Q => zr_aload_n rfl rfl),
   (fun d l0 l1 l2 l3 x0 I L P Q p0 => zr_getQ rfl lf_9_10 (fun _ _ _ => rfl) p0),
   (fun d l0 l1 l2 l3 x0 h Q => zr_iload_n rfl rfl),
   (fun d l0 l1 l2 l3 x1 x0 I L P Q p0 => zr_vir (as := [.int x1]) (rest := []) rfl lm_9_161 m_59 kd_59 rfl (Nat.le_of_ble_eq_true rfl) p0),
   (fun d l0 l1 l2 l3 x0 h Q => zr_if_ne rfl (by decide)),
   (fun d l0 l1 l2 l3  h Q => zr_iconst rfl (by decide)),
   (fun d l0 l1 l2 l3 x0 h Q => zr_iret rfl rfl),
   (fun d l0 l1 l2 l3  h Q => zr_aload_n rfl rfl),
   (fun d l0 l1 l2 l3 x0 I L P Q p0 => zr_getQ rfl lf_9_10 (fun _ _ _ => rfl) p0),
   (fun d l0 l1 l2 l3 x0 h Q => zr_iload_n rfl rfl),
   (fun d l0 l1 l2 l3 x1 x0 h Q => zr_aload_n rfl rfl),
   (fun d l0 l1 l2 l3 x2 x1 x0 I L P Q p0 => zr_getI rfl lf_9_182 (fun _ _ _ => rfl) p0),
   (fun d l0 l1 l2 l3 x2 x1 x0 h Q => zr_aload_n rfl rfl),
   (fun d l0 l1 l2 l3 x3 x2 x1 x0 I L P Q p0 => zr_getI rfl lf_9_185 (fun _ _ _ => rfl) p0),
   (fun d l0 l1 l2 l3 x3 x2 x1 x0 I L P Q p0 => zr_vir (as := [.int x3, .int x2, .int x1]) (rest := []) rfl lm_9_231 m_66 kd_66 rfl (Nat.le_of_ble_eq_true rfl) p0),
   (fun d l0 l1 l2 l3 x0 h Q => zr_istore_n (n := 2) rfl (Nat.le_of_ble_eq_true rfl) rfl),
   (fun d l0 l1 l2 l3  h Q => zr_iconst rfl (by decide)),
   (fun d l0 l1 l2 l3 x0 h Q => zr_istore_n (n := 3) rfl (Nat.le_of_ble_eq_true rfl) rfl),
   (fun d l0 l1 l2 l3 x0 h Q => zr_bipush rfl (by decide)),
   (fun d l0 l1 l2 l3 x1 x0 h Q => zr_ic_gt rfl (by decide)),
   (fun d l0 l1 l2 l3  h Q => zr_iload_n rfl rfl),
   (fun d l0 l1 l2 l3 x0 h Q => zr_aload_n rfl rfl),
   (fun d l0 l1 l2 l3 x1 x0 I L P Q p0 => zr_getQ rfl lf_9_10 (fun _ _ _ => rfl) p0),
   (fun d l0 l1 l2 l3 x1 x0 h Q => zr_iload_n rfl rfl),
   (fun d l0 l1 l2 l3 x2 x1 x0 h Q => zr_iload_n rfl rfl),
   (fun d l0 l1 l2 l3 x3 x2 x1 x0 I L P Q p0 => zr_vir (as := [.int x3, .int x2]) (rest := [.int x0]) rfl lm_9_234 m_67 kd_67 rfl (Nat.le_of_ble_eq_true rfl) p0),
   (fun d l0 l1 l2 l3 x1 x0 h Q => zr_ic_gt rfl (by decide)),
   (fun d l0 l1 l2 l3  h Q => zr_iload_n rfl rfl),
   (fun d l0 l1 l2 l3 x0 h Q => zr_iret rfl rfl),
   (fun d l0 l1 l2 l3  h Q => zr_iinc (n := 3) (kc := 1) rfl rfl (Nat.le_of_ble_eq_true rfl) rfl (by decide)),
   (fun d l0 l1 l2 l3  h Q => zr_goto rfl (by decide)),
   (fun d l0 l1 l2 l3  h Q => zr_bipush rfl (by decide)),
   (fun d l0 l1 l2 l3 x0 h Q => zr_iret rfl rfl)⟩
theorem H_X9_broad_32 : ∀ (d : Nat) (l0 : Value) (l1 : Value) (l2 : Value) (l3 : Int32)  (h : zMm) (Q : Option Value → zMm → Prop), zWp d zi_90 none 32 [l0, l1, l2, .int l3] [] h Q = zWp d zi_90 none 33 [l0, l1, l2, .int l3] [.int l3] h Q := fun d l0 l1 l2 l3  h Q => zr_iload_n rfl rfl
theorem E_X9_straight : ∀ (d : Nat) (a0 : Nat) (a1 : Int32) (a2 : Int32) (h : zMm) (Q : Option Value → zMm → Prop), zWM (d + 1) 91 [.ref a0, .int a1, .int a2] h Q = zWp d zi_91 none 0 [.ref a0, .int a1, .int a2, .retAddr 0, .retAddr 0, .retAddr 0, .retAddr 0, .retAddr 0] [] h Q := fun d a0 a1 a2 h Q => zW_M m_91 (Nat.le_of_ble_eq_true rfl) rfl
set_option maxRecDepth 100000 in
theorem R_X9_straight :
    (∀ (d : Nat) (l0 : Value) (l1 : Int32) (l2 : Value) (l3 : Value) (l4 : Value) (l5 : Value) (l6 : Value) (l7 : Value)  (h : zMm) (Q : Option Value → zMm → Prop), zWp d zi_91 none 0 [l0, .int l1, l2, l3, l4, l5, l6, l7] [] h Q = zWp d zi_91 none 1 [l0, .int l1, l2, l3, l4, l5, l6, l7] [.int l1] h Q) ∧
    (∀ (d : Nat) (l0 : Value) (l1 : Value) (l2 : Value) (l3 : Value) (l4 : Value) (l5 : Value) (l6 : Value) (l7 : Value) (x0 : Int32) (h : zMm) (Q : Option Value → zMm → Prop), zWp d zi_91 none 1 [l0, l1, l2, l3, l4, l5, l6, l7] [.int x0] h Q = zWp d zi_91 none 2 [l0, l1, l2, l3, l4, l5, l6, l7] [.int 1, .int x0] h Q) ∧
    (∀ (d : Nat) (l0 : Value) (l1 : Value) (l2 : Value) (l3 : Value) (l4 : Value) (l5 : Value) (l6 : Value) (l7 : Value) (x1 : Int32) (x0 : Int32) (h : zMm) (Q : Option Value → zMm → Prop), zWp d zi_91 none 2 [l0, l1, l2, l3, l4, l5, l6, l7] [.int x1, .int x0] h Q = if x0 < x1 then zWp d zi_91 none 20 [l0, l1, l2, l3, l4, l5, l6, l7] [] h Q else zWp d zi_91 none 5 [l0, l1, l2, l3, l4, l5, l6, l7] [] h Q) ∧
    (∀ (d : Nat) (l0 : Value) (l1 : Int32) (l2 : Value) (l3 : Value) (l4 : Value) (l5 : Value) (l6 : Value) (l7 : Value)  (h : zMm) (Q : Option Value → zMm → Prop), zWp d zi_91 none 5 [l0, .int l1, l2, l3, l4, l5, l6, l7] [] h Q = zWp d zi_91 none 6 [l0, .int l1, l2, l3, l4, l5, l6, l7] [.int l1] h Q) ∧
    (∀ (d : Nat) (l0 : Value) (l1 : Value) (l2 : Value) (l3 : Value) (l4 : Value) (l5 : Value) (l6 : Value) (l7 : Value) (x0 : Int32) (h : zMm) (Q : Option Value → zMm → Prop), zWp d zi_91 none 6 [l0, l1, l2, l3, l4, l5, l6, l7] [.int x0] h Q = zWp d zi_91 none 8 [l0, l1, l2, l3, l4, l5, l6, l7] [.int 9, .int x0] h Q) ∧
    (∀ (d : Nat) (l0 : Value) (l1 : Value) (l2 : Value) (l3 : Value) (l4 : Value) (l5 : Value) (l6 : Value) (l7 : Value) (x1 : Int32) (x0 : Int32) (h : zMm) (Q : Option Value → zMm → Prop), zWp d zi_91 none 8 [l0, l1, l2, l3, l4, l5, l6, l7] [.int x1, .int x0] h Q = if x1 < x0 then zWp d zi_91 none 20 [l0, l1, l2, l3, l4, l5, l6, l7] [] h Q else zWp d zi_91 none 11 [l0, l1, l2, l3, l4, l5, l6, l7] [] h Q) ∧
    (∀ (d : Nat) (l0 : Value) (l1 : Value) (l2 : Int32) (l3 : Value) (l4 : Value) (l5 : Value) (l6 : Value) (l7 : Value)  (h : zMm) (Q : Option Value → zMm → Prop), zWp d zi_91 none 11 [l0, l1, .int l2, l3, l4, l5, l6, l7] [] h Q = zWp d zi_91 none 12 [l0, l1, .int l2, l3, l4, l5, l6, l7] [.int l2] h Q) ∧
    (∀ (d : Nat) (l0 : Value) (l1 : Value) (l2 : Value) (l3 : Value) (l4 : Value) (l5 : Value) (l6 : Value) (l7 : Value) (x0 : Int32) (h : zMm) (Q : Option Value → zMm → Prop), zWp d zi_91 none 12 [l0, l1, l2, l3, l4, l5, l6, l7] [.int x0] h Q = if x0 < 0 then zWp d zi_91 none 20 [l0, l1, l2, l3, l4, l5, l6, l7] [] h Q else zWp d zi_91 none 15 [l0, l1, l2, l3, l4, l5, l6, l7] [] h Q) ∧
    (∀ (d : Nat) (l0 : Value) (l1 : Value) (l2 : Int32) (l3 : Value) (l4 : Value) (l5 : Value) (l6 : Value) (l7 : Value)  (h : zMm) (Q : Option Value → zMm → Prop), zWp d zi_91 none 15 [l0, l1, .int l2, l3, l4, l5, l6, l7] [] h Q = zWp d zi_91 none 16 [l0, l1, .int l2, l3, l4, l5, l6, l7] [.int l2] h Q) ∧
    (∀ (d : Nat) (l0 : Value) (l1 : Value) (l2 : Value) (l3 : Value) (l4 : Value) (l5 : Value) (l6 : Value) (l7 : Value) (x0 : Int32) (h : zMm) (Q : Option Value → zMm → Prop), zWp d zi_91 none 16 [l0, l1, l2, l3, l4, l5, l6, l7] [.int x0] h Q = zWp d zi_91 none 17 [l0, l1, l2, l3, l4, l5, l6, l7] [.int 1, .int x0] h Q) ∧
    (∀ (d : Nat) (l0 : Value) (l1 : Value) (l2 : Value) (l3 : Value) (l4 : Value) (l5 : Value) (l6 : Value) (l7 : Value) (x1 : Int32) (x0 : Int32) (h : zMm) (Q : Option Value → zMm → Prop), zWp d zi_91 none 17 [l0, l1, l2, l3, l4, l5, l6, l7] [.int x1, .int x0] h Q = if x0 ≤ x1 then zWp d zi_91 none 22 [l0, l1, l2, l3, l4, l5, l6, l7] [] h Q else zWp d zi_91 none 20 [l0, l1, l2, l3, l4, l5, l6, l7] [] h Q) ∧
    (∀ (d : Nat) (l0 : Value) (l1 : Value) (l2 : Value) (l3 : Value) (l4 : Value) (l5 : Value) (l6 : Value) (l7 : Value)  (h : zMm) (Q : Option Value → zMm → Prop), zWp d zi_91 none 20 [l0, l1, l2, l3, l4, l5, l6, l7] [] h Q = zWp d zi_91 none 21 [l0, l1, l2, l3, l4, l5, l6, l7] [.int (-1)] h Q) ∧
    (∀ (d : Nat) (l0 : Value) (l1 : Value) (l2 : Value) (l3 : Value) (l4 : Value) (l5 : Value) (l6 : Value) (l7 : Value) (x0 : Int32) (h : zMm) (Q : Option Value → zMm → Prop), zWp d zi_91 none 21 [l0, l1, l2, l3, l4, l5, l6, l7] [.int x0] h Q = Q (some (.int x0)) h) ∧
    (∀ (d : Nat) (l0 : Nat) (l1 : Value) (l2 : Value) (l3 : Value) (l4 : Value) (l5 : Value) (l6 : Value) (l7 : Value)  (h : zMm) (Q : Option Value → zMm → Prop), zWp d zi_91 none 22 [.ref l0, l1, l2, l3, l4, l5, l6, l7] [] h Q = zWp d zi_91 none 23 [.ref l0, l1, l2, l3, l4, l5, l6, l7] [.ref l0] h Q) ∧
    (∀ (d : Nat) (l0 : Value) (l1 : Value) (l2 : Value) (l3 : Value) (l4 : Value) (l5 : Value) (l6 : Value) (l7 : Value) (x0 : Nat) (I : Nat → Nat → Int32) (L : Nat → Nat → Int64) (P : Nat → Nat → Option Nat) (Q : Option Value → zMm → Prop), zSH[x0]? = some (.inl 9) → zWp d zi_91 none 23 [l0, l1, l2, l3, l4, l5, l6, l7] [.ref x0] (zSH, I, L, P) Q = zWp d zi_91 none 26 [l0, l1, l2, l3, l4, l5, l6, l7] [va_rf (P x0 0)] (zSH, I, L, P) Q) ∧
    (∀ (d : Nat) (l0 : Value) (l1 : Value) (l2 : Value) (l3 : Value) (l4 : Value) (l5 : Value) (l6 : Value) (l7 : Value) (x0 : Nat) (I : Nat → Nat → Int32) (L : Nat → Nat → Int64) (P : Nat → Nat → Option Nat) (Q : Option Value → zMm → Prop), zSH[x0]? = some (.inl 8) → zWp d zi_91 none 26 [l0, l1, l2, l3, l4, l5, l6, l7] [.ref x0] (zSH, I, L, P) Q = zWp d zi_91 none 29 [l0, l1, l2, l3, l4, l5, l6, l7] [.int (I x0 6)] (zSH, I, L, P) Q) ∧
    (∀ (d : Nat) (l0 : Value) (l1 : Value) (l2 : Value) (l3 : Value) (l4 : Value) (l5 : Value) (l6 : Value) (l7 : Value) (x0 : Int32) (h : zMm) (Q : Option Value → zMm → Prop), zWp d zi_91 none 29 [l0, l1, l2, l3, l4, l5, l6, l7] [.int x0] h Q = zWp d zi_91 none 31 [l0, l1, l2, l3, l4, l5, l6, l7] [.int 24, .int x0] h Q) ∧
    (∀ (d : Nat) (l0 : Value) (l1 : Value) (l2 : Value) (l3 : Value) (l4 : Value) (l5 : Value) (l6 : Value) (l7 : Value) (x1 : Int32) (x0 : Int32) (h : zMm) (Q : Option Value → zMm → Prop), zWp d zi_91 none 31 [l0, l1, l2, l3, l4, l5, l6, l7] [.int x1, .int x0] h Q = if x0 < x1 then zWp d zi_91 none 37 [l0, l1, l2, l3, l4, l5, l6, l7] [] h Q else zWp d zi_91 none 34 [l0, l1, l2, l3, l4, l5, l6, l7] [] h Q) ∧
    (∀ (d : Nat) (l0 : Value) (l1 : Value) (l2 : Value) (l3 : Value) (l4 : Value) (l5 : Value) (l6 : Value) (l7 : Value)  (h : zMm) (Q : Option Value → zMm → Prop), zWp d zi_91 none 34 [l0, l1, l2, l3, l4, l5, l6, l7] [] h Q = zWp d zi_91 none 36 [l0, l1, l2, l3, l4, l5, l6, l7] [.int (-3)] h Q) ∧
    (∀ (d : Nat) (l0 : Value) (l1 : Value) (l2 : Value) (l3 : Value) (l4 : Value) (l5 : Value) (l6 : Value) (l7 : Value) (x0 : Int32) (h : zMm) (Q : Option Value → zMm → Prop), zWp d zi_91 none 36 [l0, l1, l2, l3, l4, l5, l6, l7] [.int x0] h Q = Q (some (.int x0)) h) ∧
    (∀ (d : Nat) (l0 : Nat) (l1 : Value) (l2 : Value) (l3 : Value) (l4 : Value) (l5 : Value) (l6 : Value) (l7 : Value)  (h : zMm) (Q : Option Value → zMm → Prop), zWp d zi_91 none 37 [.ref l0, l1, l2, l3, l4, l5, l6, l7] [] h Q = zWp d zi_91 none 38 [.ref l0, l1, l2, l3, l4, l5, l6, l7] [.ref l0] h Q) ∧
    (∀ (d : Nat) (l0 : Value) (l1 : Value) (l2 : Value) (l3 : Value) (l4 : Value) (l5 : Value) (l6 : Value) (l7 : Value) (x0 : Nat) (I : Nat → Nat → Int32) (L : Nat → Nat → Int64) (P : Nat → Nat → Option Nat) (Q : Option Value → zMm → Prop), zSH[x0]? = some (.inl 9) → zWp d zi_91 none 38 [l0, l1, l2, l3, l4, l5, l6, l7] [.ref x0] (zSH, I, L, P) Q = zWp d zi_91 none 41 [l0, l1, l2, l3, l4, l5, l6, l7] [va_rf (P x0 0)] (zSH, I, L, P) Q) ∧
    (∀ (d : Nat) (l0 : Value) (l1 : Value) (l2 : Value) (l3 : Value) (l4 : Value) (l5 : Value) (l6 : Value) (l7 : Value) (x0 : Nat) (I : Nat → Nat → Int32) (L : Nat → Nat → Int64) (P : Nat → Nat → Option Nat) (Q : Option Value → zMm → Prop), zSH[x0]? = some (.inl 8) → zWp d zi_91 none 41 [l0, l1, l2, l3, l4, l5, l6, l7] [.ref x0] (zSH, I, L, P) Q = zWp d zi_91 none 44 [l0, l1, l2, l3, l4, l5, l6, l7] [.int (I x0 6)] (zSH, I, L, P) Q) ∧
    (∀ (d : Nat) (l0 : Value) (l1 : Value) (l2 : Value) (l3 : Value) (l4 : Value) (l5 : Value) (l6 : Value) (l7 : Value) (x0 : Int32) (h : zMm) (Q : Option Value → zMm → Prop), zWp d zi_91 none 44 [l0, l1, l2, l3, l4, l5, l6, l7] [.int x0] h Q = if x0 = 0 then zWp d zi_91 none 47 [l0, l1, l2, l3, l4, l5, l6, l7] [] h Q else zWp d zi_91 none 50 [l0, l1, l2, l3, l4, l5, l6, l7] [] h Q) ∧
    (∀ (d : Nat) (l0 : Value) (l1 : Value) (l2 : Value) (l3 : Value) (l4 : Value) (l5 : Value) (l6 : Value) (l7 : Value)  (h : zMm) (Q : Option Value → zMm → Prop), zWp d zi_91 none 47 [l0, l1, l2, l3, l4, l5, l6, l7] [] h Q = zWp d zi_91 none 49 [l0, l1, l2, l3, l4, l5, l6, l7] [.int (-5)] h Q) ∧
    (∀ (d : Nat) (l0 : Value) (l1 : Value) (l2 : Value) (l3 : Value) (l4 : Value) (l5 : Value) (l6 : Value) (l7 : Value) (x0 : Int32) (h : zMm) (Q : Option Value → zMm → Prop), zWp d zi_91 none 49 [l0, l1, l2, l3, l4, l5, l6, l7] [.int x0] h Q = Q (some (.int x0)) h) ∧
    (∀ (d : Nat) (l0 : Value) (l1 : Value) (l2 : Value) (l3 : Value) (l4 : Value) (l5 : Value) (l6 : Value) (l7 : Value)  (h : zMm) (Q : Option Value → zMm → Prop), zWp d zi_91 none 50 [l0, l1, l2, l3, l4, l5, l6, l7] [] h Q = zWp d zi_91 none 51 [l0, l1, l2, l3, l4, l5, l6, l7] [.int 0] h Q) ∧
    (∀ (d : Nat) (l0 : Value) (l1 : Value) (l2 : Int32) (l3 : Value) (l4 : Value) (l5 : Value) (l6 : Value) (l7 : Value) (x0 : Int32) (h : zMm) (Q : Option Value → zMm → Prop), zWp d zi_91 none 51 [l0, l1, .int l2, l3, l4, l5, l6, l7] [.int x0] h Q = zWp d zi_91 none 52 [l0, l1, .int l2, .int x0, l4, l5, l6, l7] [] h Q) ∧
    (∀ (d : Nat) (l0 : Value) (l1 : Value) (l2 : Value) (l3 : Value) (l4 : Value) (l5 : Value) (l6 : Value) (l7 : Value)  (h : zMm) (Q : Option Value → zMm → Prop), zWp d zi_91 none 52 [l0, l1, l2, l3, l4, l5, l6, l7] [] h Q = zWp d zi_91 none 53 [l0, l1, l2, l3, l4, l5, l6, l7] [.int (-1)] h Q) ∧
    (∀ (d : Nat) (l0 : Value) (l1 : Value) (l2 : Value) (l3 : Int32) (l4 : Value) (l5 : Value) (l6 : Value) (l7 : Value) (x0 : Int32) (h : zMm) (Q : Option Value → zMm → Prop), zWp d zi_91 none 53 [l0, l1, l2, .int l3, l4, l5, l6, l7] [.int x0] h Q = zWp d zi_91 none 55 [l0, l1, l2, .int l3, .int x0, l5, l6, l7] [] h Q) ∧
    (∀ (d : Nat) (l0 : Value) (l1 : Value) (l2 : Value) (l3 : Value) (l4 : Value) (l5 : Value) (l6 : Value) (l7 : Value)  (h : zMm) (Q : Option Value → zMm → Prop), zWp d zi_91 none 55 [l0, l1, l2, l3, l4, l5, l6, l7] [] h Q = zWp d zi_91 none 57 [l0, l1, l2, l3, l4, l5, l6, l7] [.int (-4)] h Q) ∧
    (∀ (d : Nat) (l0 : Value) (l1 : Value) (l2 : Value) (l3 : Value) (l4 : Int32) (l5 : Value) (l6 : Value) (l7 : Value) (x0 : Int32) (h : zMm) (Q : Option Value → zMm → Prop), zWp d zi_91 none 57 [l0, l1, l2, l3, .int l4, l5, l6, l7] [.int x0] h Q = zWp d zi_91 none 59 [l0, l1, l2, l3, .int l4, .int x0, l6, l7] [] h Q) ∧
    (∀ (d : Nat) (l0 : Value) (l1 : Value) (l2 : Value) (l3 : Value) (l4 : Value) (l5 : Value) (l6 : Value) (l7 : Value) (x0 : Int32) (h : zMm) (Q : Option Value → zMm → Prop), zWp d zi_91 none 61 [l0, l1, l2, l3, l4, l5, l6, l7] [.int x0] h Q = zWp d zi_91 none 62 [l0, l1, l2, l3, l4, l5, l6, l7] [.int 4, .int x0] h Q) ∧
    (∀ (d : Nat) (l0 : Value) (l1 : Value) (l2 : Value) (l3 : Value) (l4 : Value) (l5 : Value) (l6 : Value) (l7 : Value) (x1 : Int32) (x0 : Int32) (h : zMm) (Q : Option Value → zMm → Prop), zWp d zi_91 none 62 [l0, l1, l2, l3, l4, l5, l6, l7] [.int x1, .int x0] h Q = if x1 < x0 then zWp d zi_91 none 158 [l0, l1, l2, l3, l4, l5, l6, l7] [] h Q else zWp d zi_91 none 65 [l0, l1, l2, l3, l4, l5, l6, l7] [] h Q) ∧
    (∀ (d : Nat) (l0 : Value) (l1 : Value) (l2 : Value) (l3 : Value) (l4 : Value) (l5 : Value) (l6 : Value) (l7 : Value)  (h : zMm) (Q : Option Value → zMm → Prop), zWp d zi_91 none 65 [l0, l1, l2, l3, l4, l5, l6, l7] [] h Q = zWp d zi_91 none 67 [l0, l1, l2, l3, l4, l5, l6, l7] [.int (-4)] h Q) ∧
    (∀ (d : Nat) (l0 : Value) (l1 : Value) (l2 : Value) (l3 : Value) (l4 : Value) (l5 : Int32) (l6 : Value) (l7 : Value) (x0 : Int32) (h : zMm) (Q : Option Value → zMm → Prop), zWp d zi_91 none 67 [l0, l1, l2, l3, l4, .int l5, l6, l7] [.int x0] h Q = zWp d zi_91 none 69 [l0, l1, l2, l3, l4, .int l5, .int x0, l7] [] h Q) ∧
    (∀ (d : Nat) (l0 : Value) (l1 : Value) (l2 : Value) (l3 : Value) (l4 : Value) (l5 : Value) (l6 : Value) (l7 : Value) (x0 : Int32) (h : zMm) (Q : Option Value → zMm → Prop), zWp d zi_91 none 71 [l0, l1, l2, l3, l4, l5, l6, l7] [.int x0] h Q = zWp d zi_91 none 72 [l0, l1, l2, l3, l4, l5, l6, l7] [.int 4, .int x0] h Q) ∧
    (∀ (d : Nat) (l0 : Value) (l1 : Value) (l2 : Value) (l3 : Value) (l4 : Value) (l5 : Value) (l6 : Value) (l7 : Value) (x1 : Int32) (x0 : Int32) (h : zMm) (Q : Option Value → zMm → Prop), zWp d zi_91 none 72 [l0, l1, l2, l3, l4, l5, l6, l7] [.int x1, .int x0] h Q = if x1 < x0 then zWp d zi_91 none 152 [l0, l1, l2, l3, l4, l5, l6, l7] [] h Q else zWp d zi_91 none 75 [l0, l1, l2, l3, l4, l5, l6, l7] [] h Q) ∧
    (∀ (d : Nat) (l0 : Nat) (l1 : Value) (l2 : Value) (l3 : Value) (l4 : Value) (l5 : Value) (l6 : Value) (l7 : Value)  (h : zMm) (Q : Option Value → zMm → Prop), zWp d zi_91 none 75 [.ref l0, l1, l2, l3, l4, l5, l6, l7] [] h Q = zWp d zi_91 none 76 [.ref l0, l1, l2, l3, l4, l5, l6, l7] [.ref l0] h Q) ∧
    (∀ (d : Nat) (l0 : Value) (l1 : Value) (l2 : Value) (l3 : Value) (l4 : Value) (l5 : Value) (l6 : Value) (l7 : Value) (x0 : Nat) (I : Nat → Nat → Int32) (L : Nat → Nat → Int64) (P : Nat → Nat → Option Nat) (Q : Option Value → zMm → Prop), zSH[x0]? = some (.inl 9) → zWp d zi_91 none 76 [l0, l1, l2, l3, l4, l5, l6, l7] [.ref x0] (zSH, I, L, P) Q = zWp d zi_91 none 79 [l0, l1, l2, l3, l4, l5, l6, l7] [va_rf (P x0 1)] (zSH, I, L, P) Q) ∧
    (∀ (d : Nat) (l0 : Nat) (l1 : Value) (l2 : Value) (l3 : Value) (l4 : Value) (l5 : Value) (l6 : Value) (l7 : Value) (x0 : Nat) (h : zMm) (Q : Option Value → zMm → Prop), zWp d zi_91 none 79 [.ref l0, l1, l2, l3, l4, l5, l6, l7] [.ref x0] h Q = zWp d zi_91 none 80 [.ref l0, l1, l2, l3, l4, l5, l6, l7] [.ref l0, .ref x0] h Q) ∧
    (∀ (d : Nat) (l0 : Value) (l1 : Value) (l2 : Value) (l3 : Value) (l4 : Value) (l5 : Value) (l6 : Value) (l7 : Value) (x1 : Nat) (x0 : Nat) (I : Nat → Nat → Int32) (L : Nat → Nat → Int64) (P : Nat → Nat → Option Nat) (Q : Option Value → zMm → Prop), zSH[x1]? = some (.inl 9) → zWp d zi_91 none 80 [l0, l1, l2, l3, l4, l5, l6, l7] [.ref x1, .ref x0] (zSH, I, L, P) Q = zWp d zi_91 none 83 [l0, l1, l2, l3, l4, l5, l6, l7] [va_rf (P x1 0), .ref x0] (zSH, I, L, P) Q) ∧
    (∀ (d : Nat) (l0 : Value) (l1 : Value) (l2 : Value) (l3 : Value) (l4 : Value) (l5 : Value) (l6 : Value) (l7 : Value) (x1 : Nat) (x0 : Nat) (I : Nat → Nat → Int32) (L : Nat → Nat → Int64) (P : Nat → Nat → Option Nat) (Q : Option Value → zMm → Prop), zSH[x0]? = some (.inl 8) → zWp d zi_91 none 83 [l0, l1, l2, l3, l4, l5, l6, l7] [.ref x1, .ref x0] (zSH, I, L, P) Q = zWM d 63 [.ref x0, .ref x1] (zSH, I, L, P) (fun r h1 => zWp d zi_91 none 86 [l0, l1, l2, l3, l4, l5, l6, l7] (r.toList ++ []) h1 Q)) ∧
    (∀ (d : Nat) (l0 : Nat) (l1 : Value) (l2 : Value) (l3 : Value) (l4 : Value) (l5 : Value) (l6 : Value) (l7 : Value)  (h : zMm) (Q : Option Value → zMm → Prop), zWp d zi_91 none 86 [.ref l0, l1, l2, l3, l4, l5, l6, l7] [] h Q = zWp d zi_91 none 87 [.ref l0, l1, l2, l3, l4, l5, l6, l7] [.ref l0] h Q) ∧
    (∀ (d : Nat) (l0 : Value) (l1 : Value) (l2 : Value) (l3 : Value) (l4 : Value) (l5 : Value) (l6 : Value) (l7 : Value) (x0 : Nat) (I : Nat → Nat → Int32) (L : Nat → Nat → Int64) (P : Nat → Nat → Option Nat) (Q : Option Value → zMm → Prop), zSH[x0]? = some (.inl 9) → zWp d zi_91 none 87 [l0, l1, l2, l3, l4, l5, l6, l7] [.ref x0] (zSH, I, L, P) Q = zWp d zi_91 none 90 [l0, l1, l2, l3, l4, l5, l6, l7] [va_rf (P x0 1)] (zSH, I, L, P) Q) ∧
    (∀ (d : Nat) (l0 : Value) (l1 : Int32) (l2 : Value) (l3 : Value) (l4 : Value) (l5 : Value) (l6 : Value) (l7 : Value) (x0 : Nat) (h : zMm) (Q : Option Value → zMm → Prop), zWp d zi_91 none 90 [l0, .int l1, l2, l3, l4, l5, l6, l7] [.ref x0] h Q = zWp d zi_91 none 91 [l0, .int l1, l2, l3, l4, l5, l6, l7] [.int l1, .ref x0] h Q) ∧
    (∀ (d : Nat) (l0 : Value) (l1 : Value) (l2 : Value) (l3 : Value) (l4 : Value) (l5 : Value) (l6 : Value) (l7 : Value) (x1 : Int32) (x0 : Nat) (h : zMm) (Q : Option Value → zMm → Prop), zWp d zi_91 none 91 [l0, l1, l2, l3, l4, l5, l6, l7] [.int x1, .ref x0] h Q = zWp d zi_91 none 92 [l0, l1, l2, l3, l4, l5, l6, l7] [.int 0, .int x1, .ref x0] h Q) ∧
    (∀ (d : Nat) (l0 : Value) (l1 : Value) (l2 : Value) (l3 : Value) (l4 : Value) (l5 : Int32) (l6 : Value) (l7 : Value) (x2 : Int32) (x1 : Int32) (x0 : Nat) (h : zMm) (Q : Option Value → zMm → Prop), zWp d zi_91 none 92 [l0, l1, l2, l3, l4, .int l5, l6, l7] [.int x2, .int x1, .ref x0] h Q = zWp d zi_91 none 94 [l0, l1, l2, l3, l4, .int l5, l6, l7] [.int l5, .int x2, .int x1, .ref x0] h Q) ∧
    (∀ (d : Nat) (l0 : Value) (l1 : Value) (l2 : Value) (l3 : Value) (l4 : Value) (l5 : Value) (l6 : Int32) (l7 : Value) (x3 : Int32) (x2 : Int32) (x1 : Int32) (x0 : Nat) (h : zMm) (Q : Option Value → zMm → Prop), zWp d zi_91 none 94 [l0, l1, l2, l3, l4, l5, .int l6, l7] [.int x3, .int x2, .int x1, .ref x0] h Q = zWp d zi_91 none 96 [l0, l1, l2, l3, l4, l5, .int l6, l7] [.int l6, .int x3, .int x2, .int x1, .ref x0] h Q) ∧
    (∀ (d : Nat) (l0 : Value) (l1 : Value) (l2 : Value) (l3 : Value) (l4 : Value) (l5 : Value) (l6 : Value) (l7 : Value) (x4 : Int32) (x3 : Int32) (x2 : Int32) (x1 : Int32) (x0 : Nat) (I : Nat → Nat → Int32) (L : Nat → Nat → Int64) (P : Nat → Nat → Option Nat) (Q : Option Value → zMm → Prop), zSH[x0]? = some (.inl 8) → zWp d zi_91 none 96 [l0, l1, l2, l3, l4, l5, l6, l7] [.int x4, .int x3, .int x2, .int x1, .ref x0] (zSH, I, L, P) Q = zWM d 60 [.ref x0, .int x1, .int x2, .int x3, .int x4] (zSH, I, L, P) (fun r h1 => zWp d zi_91 none 99 [l0, l1, l2, l3, l4, l5, l6, l7] (r.toList ++ []) h1 Q)) ∧
    (∀ (d : Nat) (l0 : Nat) (l1 : Value) (l2 : Value) (l3 : Value) (l4 : Value) (l5 : Value) (l6 : Value) (l7 : Value)  (h : zMm) (Q : Option Value → zMm → Prop), zWp d zi_91 none 99 [.ref l0, l1, l2, l3, l4, l5, l6, l7] [] h Q = zWp d zi_91 none 100 [.ref l0, l1, l2, l3, l4, l5, l6, l7] [.ref l0] h Q) ∧
    (∀ (d : Nat) (l0 : Value) (l1 : Value) (l2 : Value) (l3 : Value) (l4 : Value) (l5 : Value) (l6 : Value) (l7 : Value) (x0 : Nat) (I : Nat → Nat → Int32) (L : Nat → Nat → Int64) (P : Nat → Nat → Option Nat) (Q : Option Value → zMm → Prop), zSH[x0]? = some (.inl 9) → zWp d zi_91 none 100 [l0, l1, l2, l3, l4, l5, l6, l7] [.ref x0] (zSH, I, L, P) Q = zWp d zi_91 none 103 [l0, l1, l2, l3, l4, l5, l6, l7] [va_rf (P x0 1)] (zSH, I, L, P) Q) ∧
    (∀ (d : Nat) (l0 : Value) (l1 : Value) (l2 : Value) (l3 : Value) (l4 : Value) (l5 : Value) (l6 : Value) (l7 : Value) (x0 : Nat) (h : zMm) (Q : Option Value → zMm → Prop), zWp d zi_91 none 103 [l0, l1, l2, l3, l4, l5, l6, l7] [.ref x0] h Q = zWp d zi_91 none 104 [l0, l1, l2, l3, l4, l5, l6, l7] [.int 0, .ref x0] h Q) ∧
    (∀ (d : Nat) (l0 : Nat) (l1 : Value) (l2 : Value) (l3 : Value) (l4 : Value) (l5 : Value) (l6 : Value) (l7 : Value) (x1 : Int32) (x0 : Nat) (h : zMm) (Q : Option Value → zMm → Prop), zWp d zi_91 none 104 [.ref l0, l1, l2, l3, l4, l5, l6, l7] [.int x1, .ref x0] h Q = zWp d zi_91 none 105 [.ref l0, l1, l2, l3, l4, l5, l6, l7] [.ref l0, .int x1, .ref x0] h Q) ∧
    (∀ (d : Nat) (l0 : Value) (l1 : Value) (l2 : Value) (l3 : Value) (l4 : Value) (l5 : Value) (l6 : Value) (l7 : Value) (x2 : Nat) (x1 : Int32) (x0 : Nat) (I : Nat → Nat → Int32) (L : Nat → Nat → Int64) (P : Nat → Nat → Option Nat) (Q : Option Value → zMm → Prop), zSH[x2]? = some (.inl 9) → zWp d zi_91 none 105 [l0, l1, l2, l3, l4, l5, l6, l7] [.ref x2, .int x1, .ref x0] (zSH, I, L, P) Q = zWp d zi_91 none 108 [l0, l1, l2, l3, l4, l5, l6, l7] [.int (I x2 14), .int x1, .ref x0] (zSH, I, L, P) Q) ∧
    (∀ (d : Nat) (l0 : Nat) (l1 : Value) (l2 : Value) (l3 : Value) (l4 : Value) (l5 : Value) (l6 : Value) (l7 : Value) (x2 : Int32) (x1 : Int32) (x0 : Nat) (h : zMm) (Q : Option Value → zMm → Prop), zWp d zi_91 none 108 [.ref l0, l1, l2, l3, l4, l5, l6, l7] [.int x2, .int x1, .ref x0] h Q = zWp d zi_91 none 109 [.ref l0, l1, l2, l3, l4, l5, l6, l7] [.ref l0, .int x2, .int x1, .ref x0] h Q) ∧
    (∀ (d : Nat) (l0 : Value) (l1 : Value) (l2 : Value) (l3 : Value) (l4 : Value) (l5 : Value) (l6 : Value) (l7 : Value) (x3 : Nat) (x2 : Int32) (x1 : Int32) (x0 : Nat) (I : Nat → Nat → Int32) (L : Nat → Nat → Int64) (P : Nat → Nat → Option Nat) (Q : Option Value → zMm → Prop), zSH[x3]? = some (.inl 9) → zWp d zi_91 none 109 [l0, l1, l2, l3, l4, l5, l6, l7] [.ref x3, .int x2, .int x1, .ref x0] (zSH, I, L, P) Q = zWp d zi_91 none 112 [l0, l1, l2, l3, l4, l5, l6, l7] [.int (I x3 15), .int x2, .int x1, .ref x0] (zSH, I, L, P) Q) ∧
    (∀ (d : Nat) (l0 : Value) (l1 : Value) (l2 : Value) (l3 : Value) (l4 : Value) (l5 : Value) (l6 : Value) (l7 : Value) (x3 : Int32) (x2 : Int32) (x1 : Int32) (x0 : Nat) (I : Nat → Nat → Int32) (L : Nat → Nat → Int64) (P : Nat → Nat → Option Nat) (Q : Option Value → zMm → Prop), zSH[x0]? = some (.inl 8) → zWp d zi_91 none 112 [l0, l1, l2, l3, l4, l5, l6, l7] [.int x3, .int x2, .int x1, .ref x0] (zSH, I, L, P) Q = zWM d 66 [.ref x0, .int x1, .int x2, .int x3] (zSH, I, L, P) (fun r h1 => zWp d zi_91 none 115 [l0, l1, l2, l3, l4, l5, l6, l7] (r.toList ++ []) h1 Q)) ∧
    (∀ (d : Nat) (l0 : Value) (l1 : Value) (l2 : Value) (l3 : Value) (l4 : Value) (l5 : Value) (l6 : Int32) (l7 : Value) (x0 : Int32) (h : zMm) (Q : Option Value → zMm → Prop), zWp d zi_91 none 115 [l0, l1, l2, l3, l4, l5, .int l6, l7] [.int x0] h Q = zWp d zi_91 none 117 [l0, l1, l2, l3, l4, l5, .int l6, .int x0] [] h Q) ∧
    (∀ (d : Nat) (l0 : Value) (l1 : Value) (l2 : Value) (l3 : Value) (l4 : Int32) (l5 : Value) (l6 : Value) (l7 : Value)  (h : zMm) (Q : Option Value → zMm → Prop), zWp d zi_91 none 117 [l0, l1, l2, l3, .int l4, l5, l6, l7] [] h Q = zWp d zi_91 none 119 [l0, l1, l2, l3, .int l4, l5, l6, l7] [.int l4] h Q) ∧
    (∀ (d : Nat) (l0 : Value) (l1 : Value) (l2 : Value) (l3 : Value) (l4 : Value) (l5 : Value) (l6 : Value) (l7 : Value) (x0 : Int32) (h : zMm) (Q : Option Value → zMm → Prop), zWp d zi_91 none 119 [l0, l1, l2, l3, l4, l5, l6, l7] [.int x0] h Q = if x0 < 0 then zWp d zi_91 none 129 [l0, l1, l2, l3, l4, l5, l6, l7] [] h Q else zWp d zi_91 none 122 [l0, l1, l2, l3, l4, l5, l6, l7] [] h Q) ∧
    (∀ (d : Nat) (l0 : Value) (l1 : Value) (l2 : Value) (l3 : Value) (l4 : Value) (l5 : Value) (l6 : Value) (l7 : Int32)  (h : zMm) (Q : Option Value → zMm → Prop), zWp d zi_91 none 122 [l0, l1, l2, l3, l4, l5, l6, .int l7] [] h Q = zWp d zi_91 none 124 [l0, l1, l2, l3, l4, l5, l6, .int l7] [.int l7] h Q) ∧
    (∀ (d : Nat) (l0 : Value) (l1 : Value) (l2 : Value) (l3 : Value) (l4 : Int32) (l5 : Value) (l6 : Value) (l7 : Value) (x0 : Int32) (h : zMm) (Q : Option Value → zMm → Prop), zWp d zi_91 none 124 [l0, l1, l2, l3, .int l4, l5, l6, l7] [.int x0] h Q = zWp d zi_91 none 126 [l0, l1, l2, l3, .int l4, l5, l6, l7] [.int l4, .int x0] h Q) ∧
    (∀ (d : Nat) (l0 : Value) (l1 : Value) (l2 : Value) (l3 : Value) (l4 : Value) (l5 : Value) (l6 : Value) (l7 : Value) (x1 : Int32) (x0 : Int32) (h : zMm) (Q : Option Value → zMm → Prop), zWp d zi_91 none 126 [l0, l1, l2, l3, l4, l5, l6, l7] [.int x1, .int x0] h Q = if x1 ≤ x0 then zWp d zi_91 none 146 [l0, l1, l2, l3, l4, l5, l6, l7] [] h Q else zWp d zi_91 none 129 [l0, l1, l2, l3, l4, l5, l6, l7] [] h Q) ∧
    (∀ (d : Nat) (l0 : Value) (l1 : Value) (l2 : Value) (l3 : Value) (l4 : Value) (l5 : Value) (l6 : Value) (l7 : Int32)  (h : zMm) (Q : Option Value → zMm → Prop), zWp d zi_91 none 129 [l0, l1, l2, l3, l4, l5, l6, .int l7] [] h Q = zWp d zi_91 none 131 [l0, l1, l2, l3, l4, l5, l6, .int l7] [.int l7] h Q) ∧
    (∀ (d : Nat) (l0 : Value) (l1 : Value) (l2 : Value) (l3 : Int32) (l4 : Value) (l5 : Value) (l6 : Value) (l7 : Value) (x0 : Int32) (h : zMm) (Q : Option Value → zMm → Prop), zWp d zi_91 none 131 [l0, l1, l2, .int l3, l4, l5, l6, l7] [.int x0] h Q = zWp d zi_91 none 133 [l0, l1, l2, .int l3, .int x0, l5, l6, l7] [] h Q) ∧
    (∀ (d : Nat) (l0 : Value) (l1 : Value) (l2 : Value) (l3 : Value) (l4 : Value) (l5 : Value) (l6 : Value) (l7 : Value)  (h : zMm) (Q : Option Value → zMm → Prop), zWp d zi_91 none 133 [l0, l1, l2, l3, l4, l5, l6, l7] [] h Q = zWp d zi_91 none 135 [l0, l1, l2, l3, l4, l5, l6, l7] [.int 10] h Q) ∧
    (∀ (d : Nat) (l0 : Value) (l1 : Value) (l2 : Value) (l3 : Value) (l4 : Value) (l5 : Int32) (l6 : Value) (l7 : Value) (x0 : Int32) (h : zMm) (Q : Option Value → zMm → Prop), zWp d zi_91 none 135 [l0, l1, l2, l3, l4, .int l5, l6, l7] [.int x0] h Q = zWp d zi_91 none 137 [l0, l1, l2, l3, l4, .int l5, l6, l7] [.int l5, .int x0] h Q) ∧
    (∀ (d : Nat) (l0 : Value) (l1 : Value) (l2 : Value) (l3 : Value) (l4 : Value) (l5 : Value) (l6 : Value) (l7 : Value) (x1 : Int32) (x0 : Int32) (h : zMm) (Q : Option Value → zMm → Prop), zWp d zi_91 none 137 [l0, l1, l2, l3, l4, l5, l6, l7] [.int x1, .int x0] h Q = zWp d zi_91 none 138 [l0, l1, l2, l3, l4, l5, l6, l7] [.int 4, .int x1, .int x0] h Q) ∧
    (∀ (d : Nat) (l0 : Value) (l1 : Value) (l2 : Value) (l3 : Value) (l4 : Value) (l5 : Value) (l6 : Value) (l7 : Value) (x2 : Int32) (x1 : Int32) (x0 : Int32) (h : zMm) (Q : Option Value → zMm → Prop), zWp d zi_91 none 138 [l0, l1, l2, l3, l4, l5, l6, l7] [.int x2, .int x1, .int x0] h Q = zWp d zi_91 none 139 [l0, l1, l2, l3, l4, l5, l6, l7] [.int (x1 + x2), .int x0] h Q) ∧
    (∀ (d : Nat) (l0 : Value) (l1 : Value) (l2 : Value) (l3 : Value) (l4 : Value) (l5 : Value) (l6 : Value) (l7 : Value) (x1 : Int32) (x0 : Int32) (h : zMm) (Q : Option Value → zMm → Prop), zWp d zi_91 none 139 [l0, l1, l2, l3, l4, l5, l6, l7] [.int x1, .int x0] h Q = zWp d zi_91 none 140 [l0, l1, l2, l3, l4, l5, l6, l7] [.int (x0 * x1)] h Q) ∧
    (∀ (d : Nat) (l0 : Value) (l1 : Value) (l2 : Value) (l3 : Value) (l4 : Value) (l5 : Value) (l6 : Int32) (l7 : Value) (x0 : Int32) (h : zMm) (Q : Option Value → zMm → Prop), zWp d zi_91 none 140 [l0, l1, l2, l3, l4, l5, .int l6, l7] [.int x0] h Q = zWp d zi_91 none 142 [l0, l1, l2, l3, l4, l5, .int l6, l7] [.int l6, .int x0] h Q) ∧
    (∀ (d : Nat) (l0 : Value) (l1 : Value) (l2 : Value) (l3 : Value) (l4 : Value) (l5 : Value) (l6 : Value) (l7 : Value) (x1 : Int32) (x0 : Int32) (h : zMm) (Q : Option Value → zMm → Prop), zWp d zi_91 none 142 [l0, l1, l2, l3, l4, l5, l6, l7] [.int x1, .int x0] h Q = zWp d zi_91 none 143 [l0, l1, l2, l3, l4, l5, l6, l7] [.int (x0 + x1)] h Q) ∧
    (∀ (d : Nat) (l0 : Value) (l1 : Value) (l2 : Value) (l3 : Value) (l4 : Value) (l5 : Value) (l6 : Value) (l7 : Value) (x0 : Int32) (h : zMm) (Q : Option Value → zMm → Prop), zWp d zi_91 none 143 [l0, l1, l2, l3, l4, l5, l6, l7] [.int x0] h Q = zWp d zi_91 none 144 [l0, l1, l2, l3, l4, l5, l6, l7] [.int 4, .int x0] h Q) ∧
    (∀ (d : Nat) (l0 : Value) (l1 : Value) (l2 : Value) (l3 : Value) (l4 : Value) (l5 : Value) (l6 : Value) (l7 : Value) (x1 : Int32) (x0 : Int32) (h : zMm) (Q : Option Value → zMm → Prop), zWp d zi_91 none 144 [l0, l1, l2, l3, l4, l5, l6, l7] [.int x1, .int x0] h Q = zWp d zi_91 none 145 [l0, l1, l2, l3, l4, l5, l6, l7] [.int (x0 + x1)] h Q) ∧
    (∀ (d : Nat) (l0 : Value) (l1 : Value) (l2 : Int32) (l3 : Value) (l4 : Value) (l5 : Value) (l6 : Value) (l7 : Value) (x0 : Int32) (h : zMm) (Q : Option Value → zMm → Prop), zWp d zi_91 none 145 [l0, l1, .int l2, l3, l4, l5, l6, l7] [.int x0] h Q = zWp d zi_91 none 146 [l0, l1, .int l2, .int x0, l4, l5, l6, l7] [] h Q) ∧
    (∀ (d : Nat) (l0 : Value) (l1 : Value) (l2 : Value) (l3 : Value) (l4 : Value) (l5 : Int32) (l6 : Int32) (l7 : Value)  (h : zMm) (Q : Option Value → zMm → Prop), zWp d zi_91 none 146 [l0, l1, l2, l3, l4, .int l5, .int l6, l7] [] h Q = zWp d zi_91 none 149 [l0, l1, l2, l3, l4, .int l5, .int (l6 + 1), l7] [] h Q) ∧
    (∀ (d : Nat) (l0 : Value) (l1 : Value) (l2 : Value) (l3 : Value) (l4 : Value) (l5 : Value) (l6 : Value) (l7 : Value)  (h : zMm) (Q : Option Value → zMm → Prop), zWp d zi_91 none 149 [l0, l1, l2, l3, l4, l5, l6, l7] [] h Q = zWp d zi_91 none 69 [l0, l1, l2, l3, l4, l5, l6, l7] [] h Q) ∧
    (∀ (d : Nat) (l0 : Value) (l1 : Value) (l2 : Value) (l3 : Value) (l4 : Int32) (l5 : Int32) (l6 : Value) (l7 : Value)  (h : zMm) (Q : Option Value → zMm → Prop), zWp d zi_91 none 152 [l0, l1, l2, l3, .int l4, .int l5, l6, l7] [] h Q = zWp d zi_91 none 155 [l0, l1, l2, l3, .int l4, .int (l5 + 1), l6, l7] [] h Q) ∧
    (∀ (d : Nat) (l0 : Value) (l1 : Value) (l2 : Value) (l3 : Value) (l4 : Value) (l5 : Value) (l6 : Value) (l7 : Value)  (h : zMm) (Q : Option Value → zMm → Prop), zWp d zi_91 none 155 [l0, l1, l2, l3, l4, l5, l6, l7] [] h Q = zWp d zi_91 none 59 [l0, l1, l2, l3, l4, l5, l6, l7] [] h Q) ∧
    (∀ (d : Nat) (l0 : Value) (l1 : Value) (l2 : Int32) (l3 : Value) (l4 : Value) (l5 : Value) (l6 : Value) (l7 : Value)  (h : zMm) (Q : Option Value → zMm → Prop), zWp d zi_91 none 158 [l0, l1, .int l2, l3, l4, l5, l6, l7] [] h Q = zWp d zi_91 none 159 [l0, l1, .int l2, l3, l4, l5, l6, l7] [.int l2] h Q) ∧
    (∀ (d : Nat) (l0 : Value) (l1 : Value) (l2 : Value) (l3 : Value) (l4 : Value) (l5 : Value) (l6 : Value) (l7 : Value) (x0 : Int32) (h : zMm) (Q : Option Value → zMm → Prop), zWp d zi_91 none 159 [l0, l1, l2, l3, l4, l5, l6, l7] [.int x0] h Q = if x0 = 0 then zWp d zi_91 none 162 [l0, l1, l2, l3, l4, l5, l6, l7] [] h Q else zWp d zi_91 none 166 [l0, l1, l2, l3, l4, l5, l6, l7] [] h Q) ∧
    (∀ (d : Nat) (l0 : Value) (l1 : Value) (l2 : Value) (l3 : Int32) (l4 : Value) (l5 : Value) (l6 : Value) (l7 : Value)  (h : zMm) (Q : Option Value → zMm → Prop), zWp d zi_91 none 162 [l0, l1, l2, .int l3, l4, l5, l6, l7] [] h Q = zWp d zi_91 none 163 [l0, l1, l2, .int l3, l4, l5, l6, l7] [.int l3] h Q) ∧
    (∀ (d : Nat) (l0 : Value) (l1 : Value) (l2 : Value) (l3 : Value) (l4 : Value) (l5 : Value) (l6 : Value) (l7 : Value) (x0 : Int32) (h : zMm) (Q : Option Value → zMm → Prop), zWp d zi_91 none 163 [l0, l1, l2, l3, l4, l5, l6, l7] [.int x0] h Q = zWp d zi_91 none 168 [l0, l1, l2, l3, l4, l5, l6, l7] [.int x0] h Q) ∧
    (∀ (d : Nat) (l0 : Value) (l1 : Value) (l2 : Value) (l3 : Value) (l4 : Int32) (l5 : Value) (l6 : Value) (l7 : Value)  (h : zMm) (Q : Option Value → zMm → Prop), zWp d zi_91 none 166 [l0, l1, l2, l3, .int l4, l5, l6, l7] [] h Q = zWp d zi_91 none 168 [l0, l1, l2, l3, .int l4, l5, l6, l7] [.int l4] h Q) ∧
    (∀ (d : Nat) (l0 : Value) (l1 : Value) (l2 : Value) (l3 : Value) (l4 : Value) (l5 : Value) (l6 : Value) (l7 : Value) (x0 : Int32) (h : zMm) (Q : Option Value → zMm → Prop), zWp d zi_91 none 168 [l0, l1, l2, l3, l4, l5, l6, l7] [.int x0] h Q = Q (some (.int x0)) h) :=
  ⟨(fun d l0 l1 l2 l3 l4 l5 l6 l7  h Q => zr_iload_n rfl rfl),
   (fun d l0 l1 l2 l3 l4 l5 l6 l7 x0 h Q => zr_iconst rfl (by decide)),
   (fun d l0 l1 l2 l3 l4 l5 l6 l7 x1 x0 h Q => zr_ic_lt rfl (by decide)),
   (fun d l0 l1 l2 l3 l4 l5 l6 l7  h Q => zr_iload_n rfl rfl),
   (fun d l0 l1 l2 l3 l4 l5 l6 l7 x0 h Q => zr_bipush rfl (by decide)),
   (fun d l0 l1 l2 l3 l4 l5 l6 l7 x1 x0 h Q => zr_ic_gt rfl (by decide)),
   (fun d l0 l1 l2 l3 l4 l5 l6 l7  h Q => zr_iload_n rfl rfl),
   (fun d l0 l1 l2 l3 l4 l5 l6 l7 x0 h Q => zr_if_lt rfl (by decide)),
   (fun d l0 l1 l2 l3 l4 l5 l6 l7  h Q => zr_iload_n rfl rfl),
   (fun d l0 l1 l2 l3 l4 l5 l6 l7 x0 h Q => zr_iconst rfl (by decide)),
   (fun d l0 l1 l2 l3 l4 l5 l6 l7 x1 x0 h Q => zr_ic_le rfl (by decide)),
   (fun d l0 l1 l2 l3 l4 l5 l6 l7  h Q => zr_iconst rfl (by decide)),
   (fun d l0 l1 l2 l3 l4 l5 l6 l7 x0 h Q => zr_iret rfl rfl),
   (fun d l0 l1 l2 l3 l4 l5 l6 l7  h Q => zr_aload_n rfl rfl),
   (fun d l0 l1 l2 l3 l4 l5 l6 l7 x0 I L P Q p0 => zr_getQ rfl lf_9_10 (fun _ _ _ => rfl) p0),
   (fun d l0 l1 l2 l3 l4 l5 l6 l7 x0 I L P Q p0 => zr_getI rfl lf_9_92 (fun _ _ _ => rfl) p0),
   (fun d l0 l1 l2 l3 l4 l5 l6 l7 x0 h Q => zr_bipush rfl (by decide)),
   (fun d l0 l1 l2 l3 l4 l5 l6 l7 x1 x0 h Q => zr_ic_lt rfl (by decide)),
   (fun d l0 l1 l2 l3 l4 l5 l6 l7  h Q => zr_bipush rfl (by decide)),
   (fun d l0 l1 l2 l3 l4 l5 l6 l7 x0 h Q => zr_iret rfl rfl),
   (fun d l0 l1 l2 l3 l4 l5 l6 l7  h Q => zr_aload_n rfl rfl),
   (fun d l0 l1 l2 l3 l4 l5 l6 l7 x0 I L P Q p0 => zr_getQ rfl lf_9_10 (fun _ _ _ => rfl) p0),
   (fun d l0 l1 l2 l3 l4 l5 l6 l7 x0 I L P Q p0 => zr_getI rfl lf_9_92 (fun _ _ _ => rfl) p0),
   (fun d l0 l1 l2 l3 l4 l5 l6 l7 x0 h Q => zr_if_ne rfl (by decide)),
   (fun d l0 l1 l2 l3 l4 l5 l6 l7  h Q => zr_bipush rfl (by decide)),
   (fun d l0 l1 l2 l3 l4 l5 l6 l7 x0 h Q => zr_iret rfl rfl),
   (fun d l0 l1 l2 l3 l4 l5 l6 l7  h Q => zr_iconst rfl (by decide)),
   (fun d l0 l1 l2 l3 l4 l5 l6 l7 x0 h Q => zr_istore_n (n := 3) rfl (Nat.le_of_ble_eq_true rfl) rfl),
   (fun d l0 l1 l2 l3 l4 l5 l6 l7  h Q => zr_iconst rfl (by decide)),
   (fun d l0 l1 l2 l3 l4 l5 l6 l7 x0 h Q => zr_istore (n := 4) rfl (Nat.le_of_ble_eq_true rfl) rfl),
   (fun d l0 l1 l2 l3 l4 l5 l6 l7  h Q => zr_bipush rfl (by decide)),
   (fun d l0 l1 l2 l3 l4 l5 l6 l7 x0 h Q => zr_istore (n := 5) rfl (Nat.le_of_ble_eq_true rfl) rfl),
   (fun d l0 l1 l2 l3 l4 l5 l6 l7 x0 h Q => zr_iconst rfl (by decide)),
   (fun d l0 l1 l2 l3 l4 l5 l6 l7 x1 x0 h Q => zr_ic_gt rfl (by decide)),
   (fun d l0 l1 l2 l3 l4 l5 l6 l7  h Q => zr_bipush rfl (by decide)),
   (fun d l0 l1 l2 l3 l4 l5 l6 l7 x0 h Q => zr_istore (n := 6) rfl (Nat.le_of_ble_eq_true rfl) rfl),
   (fun d l0 l1 l2 l3 l4 l5 l6 l7 x0 h Q => zr_iconst rfl (by decide)),
   (fun d l0 l1 l2 l3 l4 l5 l6 l7 x1 x0 h Q => zr_ic_gt rfl (by decide)),
   (fun d l0 l1 l2 l3 l4 l5 l6 l7  h Q => zr_aload_n rfl rfl),
   (fun d l0 l1 l2 l3 l4 l5 l6 l7 x0 I L P Q p0 => zr_getQ rfl lf_9_16 (fun _ _ _ => rfl) p0),
   (fun d l0 l1 l2 l3 l4 l5 l6 l7 x0 h Q => zr_aload_n rfl rfl),
   (fun d l0 l1 l2 l3 l4 l5 l6 l7 x1 x0 I L P Q p0 => zr_getQ rfl lf_9_10 (fun _ _ _ => rfl) p0),
   (fun d l0 l1 l2 l3 l4 l5 l6 l7 x1 x0 I L P Q p0 => zr_vir (as := [.ref x1]) (rest := []) rfl lm_9_237 m_63 kd_63 rfl (Nat.le_of_ble_eq_true rfl) p0),
   (fun d l0 l1 l2 l3 l4 l5 l6 l7  h Q => zr_aload_n rfl rfl),
   (fun d l0 l1 l2 l3 l4 l5 l6 l7 x0 I L P Q p0 => zr_getQ rfl lf_9_16 (fun _ _ _ => rfl) p0),
   (fun d l0 l1 l2 l3 l4 l5 l6 l7 x0 h Q => zr_iload_n rfl rfl),
   (fun d l0 l1 l2 l3 l4 l5 l6 l7 x1 x0 h Q => zr_iconst rfl (by decide)),
   (fun d l0 l1 l2 l3 l4 l5 l6 l7 x2 x1 x0 h Q => zr_iload rfl rfl),
   (fun d l0 l1 l2 l3 l4 l5 l6 l7 x3 x2 x1 x0 h Q => zr_iload rfl rfl),
   (fun d l0 l1 l2 l3 l4 l5 l6 l7 x4 x3 x2 x1 x0 I L P Q p0 => zr_vir (as := [.int x4, .int x3, .int x2, .int x1]) (rest := []) rfl lm_9_101 m_60 kd_60 rfl (Nat.le_of_ble_eq_true rfl) p0),
   (fun d l0 l1 l2 l3 l4 l5 l6 l7  h Q => zr_aload_n rfl rfl),
   (fun d l0 l1 l2 l3 l4 l5 l6 l7 x0 I L P Q p0 => zr_getQ rfl lf_9_16 (fun _ _ _ => rfl) p0),
   (fun d l0 l1 l2 l3 l4 l5 l6 l7 x0 h Q => zr_iconst rfl (by decide)),
   (fun d l0 l1 l2 l3 l4 l5 l6 l7 x1 x0 h Q => zr_aload_n rfl rfl),
   (fun d l0 l1 l2 l3 l4 l5 l6 l7 x2 x1 x0 I L P Q p0 => zr_getI rfl lf_9_182 (fun _ _ _ => rfl) p0),
   (fun d l0 l1 l2 l3 l4 l5 l6 l7 x2 x1 x0 h Q => zr_aload_n rfl rfl),
   (fun d l0 l1 l2 l3 l4 l5 l6 l7 x3 x2 x1 x0 I L P Q p0 => zr_getI rfl lf_9_185 (fun _ _ _ => rfl) p0),
   (fun d l0 l1 l2 l3 l4 l5 l6 l7 x3 x2 x1 x0 I L P Q p0 => zr_vir (as := [.int x3, .int x2, .int x1]) (rest := []) rfl lm_9_231 m_66 kd_66 rfl (Nat.le_of_ble_eq_true rfl) p0),
   (fun d l0 l1 l2 l3 l4 l5 l6 l7 x0 h Q => zr_istore (n := 7) rfl (Nat.le_of_ble_eq_true rfl) rfl),
   (fun d l0 l1 l2 l3 l4 l5 l6 l7  h Q => zr_iload rfl rfl),
   (fun d l0 l1 l2 l3 l4 l5 l6 l7 x0 h Q => zr_if_lt rfl (by decide)),
   (fun d l0 l1 l2 l3 l4 l5 l6 l7  h Q => zr_iload rfl rfl),
   (fun d l0 l1 l2 l3 l4 l5 l6 l7 x0 h Q => zr_iload rfl rfl),
   (fun d l0 l1 l2 l3 l4 l5 l6 l7 x1 x0 h Q => zr_ic_ge rfl (by decide)),
   (fun d l0 l1 l2 l3 l4 l5 l6 l7  h Q => zr_iload rfl rfl),
   (fun d l0 l1 l2 l3 l4 l5 l6 l7 x0 h Q => zr_istore (n := 4) rfl (Nat.le_of_ble_eq_true rfl) rfl),
   (fun d l0 l1 l2 l3 l4 l5 l6 l7  h Q => zr_bipush rfl (by decide)),
   (fun d l0 l1 l2 l3 l4 l5 l6 l7 x0 h Q => zr_iload rfl rfl),
   (fun d l0 l1 l2 l3 l4 l5 l6 l7 x1 x0 h Q => zr_iconst rfl (by decide)),
   (fun d l0 l1 l2 l3 l4 l5 l6 l7 x2 x1 x0 h Q => zr_iadd rfl),
   (fun d l0 l1 l2 l3 l4 l5 l6 l7 x1 x0 h Q => zr_imul rfl),
   (fun d l0 l1 l2 l3 l4 l5 l6 l7 x0 h Q => zr_iload rfl rfl),
   (fun d l0 l1 l2 l3 l4 l5 l6 l7 x1 x0 h Q => zr_iadd rfl),
   (fun d l0 l1 l2 l3 l4 l5 l6 l7 x0 h Q => zr_iconst rfl (by decide)),
   (fun d l0 l1 l2 l3 l4 l5 l6 l7 x1 x0 h Q => zr_iadd rfl),
   (fun d l0 l1 l2 l3 l4 l5 l6 l7 x0 h Q => zr_istore_n (n := 3) rfl (Nat.le_of_ble_eq_true rfl) rfl),
   (fun d l0 l1 l2 l3 l4 l5 l6 l7  h Q => zr_iinc (n := 6) (kc := 1) rfl rfl (Nat.le_of_ble_eq_true rfl) rfl (by decide)),
   (fun d l0 l1 l2 l3 l4 l5 l6 l7  h Q => zr_goto rfl (by decide)),
   (fun d l0 l1 l2 l3 l4 l5 l6 l7  h Q => zr_iinc (n := 5) (kc := 1) rfl rfl (Nat.le_of_ble_eq_true rfl) rfl (by decide)),
   (fun d l0 l1 l2 l3 l4 l5 l6 l7  h Q => zr_goto rfl (by decide)),
   (fun d l0 l1 l2 l3 l4 l5 l6 l7  h Q => zr_iload_n rfl rfl),
   (fun d l0 l1 l2 l3 l4 l5 l6 l7 x0 h Q => zr_if_ne rfl (by decide)),
   (fun d l0 l1 l2 l3 l4 l5 l6 l7  h Q => zr_iload_n rfl rfl),
   (fun d l0 l1 l2 l3 l4 l5 l6 l7 x0 h Q => zr_goto rfl (by decide)),
   (fun d l0 l1 l2 l3 l4 l5 l6 l7  h Q => zr_iload rfl rfl),
   (fun d l0 l1 l2 l3 l4 l5 l6 l7 x0 h Q => zr_iret rfl rfl)⟩
theorem H_X9_straight_59 : ∀ (d : Nat) (l0 : Value) (l1 : Value) (l2 : Value) (l3 : Value) (l4 : Value) (l5 : Int32) (l6 : Value) (l7 : Value)  (h : zMm) (Q : Option Value → zMm → Prop), zWp d zi_91 none 59 [l0, l1, l2, l3, l4, .int l5, l6, l7] [] h Q = zWp d zi_91 none 61 [l0, l1, l2, l3, l4, .int l5, l6, l7] [.int l5] h Q := fun d l0 l1 l2 l3 l4 l5 l6 l7  h Q => zr_iload rfl rfl
theorem H_X9_straight_69 : ∀ (d : Nat) (l0 : Value) (l1 : Value) (l2 : Value) (l3 : Value) (l4 : Value) (l5 : Value) (l6 : Int32) (l7 : Value)  (h : zMm) (Q : Option Value → zMm → Prop), zWp d zi_91 none 69 [l0, l1, l2, l3, l4, l5, .int l6, l7] [] h Q = zWp d zi_91 none 71 [l0, l1, l2, l3, l4, l5, .int l6, l7] [.int l6] h Q := fun d l0 l1 l2 l3 l4 l5 l6 l7  h Q => zr_iload rfl rfl
theorem E_X9_without : ∀ (d : Nat) (a0 : Nat) (h : zMm) (Q : Option Value → zMm → Prop), zWM (d + 1) 92 [.ref a0] h Q = zWp d zi_92 none 0 [.ref a0, .retAddr 0, .retAddr 0] [] h Q := fun d a0 h Q => zW_M m_92 (Nat.le_of_ble_eq_true rfl) rfl
set_option maxRecDepth 100000 in
theorem R_X9_without :
    (∀ (d : Nat) (l0 : Value) (l1 : Value) (l2 : Value)  (h : zMm) (Q : Option Value → zMm → Prop), zWp d zi_92 none 0 [l0, l1, l2] [] h Q = zWp d zi_92 none 1 [l0, l1, l2] [.int 0] h Q) ∧
    (∀ (d : Nat) (l0 : Nat) (l1 : Value) (l2 : Value) (x0 : Int32) (h : zMm) (Q : Option Value → zMm → Prop), zWp d zi_92 none 1 [.ref l0, l1, l2] [.int x0] h Q = zWp d zi_92 none 2 [.ref l0, .int x0, l2] [] h Q) ∧
    (∀ (d : Nat) (l0 : Value) (l1 : Value) (l2 : Value)  (h : zMm) (Q : Option Value → zMm → Prop), zWp d zi_92 none 2 [l0, l1, l2] [] h Q = zWp d zi_92 none 3 [l0, l1, l2] [.int 0] h Q) ∧
    (∀ (d : Nat) (l0 : Value) (l1 : Int32) (l2 : Value) (x0 : Int32) (h : zMm) (Q : Option Value → zMm → Prop), zWp d zi_92 none 3 [l0, .int l1, l2] [.int x0] h Q = zWp d zi_92 none 4 [l0, .int l1, .int x0] [] h Q) ∧
    (∀ (d : Nat) (l0 : Nat) (l1 : Value) (l2 : Value) (x0 : Int32) (h : zMm) (Q : Option Value → zMm → Prop), zWp d zi_92 none 5 [.ref l0, l1, l2] [.int x0] h Q = zWp d zi_92 none 6 [.ref l0, l1, l2] [.ref l0, .int x0] h Q) ∧
    (∀ (d : Nat) (l0 : Value) (l1 : Value) (l2 : Value) (x1 : Nat) (x0 : Int32) (I : Nat → Nat → Int32) (L : Nat → Nat → Int64) (P : Nat → Nat → Option Nat) (Q : Option Value → zMm → Prop), zSH[x1]? = some (.inl 9) → zWp d zi_92 none 6 [l0, l1, l2] [.ref x1, .int x0] (zSH, I, L, P) Q = zWp d zi_92 none 9 [l0, l1, l2] [va_rf (P x1 0), .int x0] (zSH, I, L, P) Q) ∧
    (∀ (d : Nat) (l0 : Value) (l1 : Value) (l2 : Value) (x1 : Nat) (x0 : Int32) (I : Nat → Nat → Int32) (L : Nat → Nat → Int64) (P : Nat → Nat → Option Nat) (Q : Option Value → zMm → Prop), zSH[x1]? = some (.inl 8) → zWp d zi_92 none 9 [l0, l1, l2] [.ref x1, .int x0] (zSH, I, L, P) Q = zWp d zi_92 none 12 [l0, l1, l2] [.int (I x1 6), .int x0] (zSH, I, L, P) Q) ∧
    (∀ (d : Nat) (l0 : Value) (l1 : Value) (l2 : Value) (x1 : Int32) (x0 : Int32) (h : zMm) (Q : Option Value → zMm → Prop), zWp d zi_92 none 12 [l0, l1, l2] [.int x1, .int x0] h Q = if x1 ≤ x0 then zWp d zi_92 none 91 [l0, l1, l2] [] h Q else zWp d zi_92 none 15 [l0, l1, l2] [] h Q) ∧
    (∀ (d : Nat) (l0 : Nat) (l1 : Value) (l2 : Value)  (h : zMm) (Q : Option Value → zMm → Prop), zWp d zi_92 none 15 [.ref l0, l1, l2] [] h Q = zWp d zi_92 none 16 [.ref l0, l1, l2] [.ref l0] h Q) ∧
    (∀ (d : Nat) (l0 : Value) (l1 : Value) (l2 : Value) (x0 : Nat) (I : Nat → Nat → Int32) (L : Nat → Nat → Int64) (P : Nat → Nat → Option Nat) (Q : Option Value → zMm → Prop), zSH[x0]? = some (.inl 9) → zWp d zi_92 none 16 [l0, l1, l2] [.ref x0] (zSH, I, L, P) Q = zWp d zi_92 none 19 [l0, l1, l2] [va_rf (P x0 0)] (zSH, I, L, P) Q) ∧
    (∀ (d : Nat) (l0 : Value) (l1 : Value) (l2 : Value) (x0 : Nat) (I : Nat → Nat → Int32) (L : Nat → Nat → Int64) (P : Nat → Nat → Option Nat) (Q : Option Value → zMm → Prop), zSH[x0]? = some (.inl 8) → zWp d zi_92 none 19 [l0, l1, l2] [.ref x0] (zSH, I, L, P) Q = zWp d zi_92 none 22 [l0, l1, l2] [va_rf (P x0 0)] (zSH, I, L, P) Q) ∧
    (∀ (d : Nat) (l0 : Value) (l1 : Value) (l2 : Int32) (x0 : Nat) (h : zMm) (Q : Option Value → zMm → Prop), zWp d zi_92 none 22 [l0, l1, .int l2] [.ref x0] h Q = zWp d zi_92 none 23 [l0, l1, .int l2] [.int l2, .ref x0] h Q) ∧
    (∀ (d : Nat) (l0 : Value) (l1 : Value) (l2 : Value) (x1 : Int32) (x0 : Nat) (I : Nat → Nat → Int32) (L : Nat → Nat → Int64) (P : Nat → Nat → Option Nat) (Q : Option Value → zMm → Prop), zAk zSH x0 = some .int → zWp d zi_92 none 23 [l0, l1, l2] [.int x1, .ref x0] (zSH, I, L, P) Q = (vp_in x1 (zAn zSH x0) ∧ zWp d zi_92 none 24 [l0, l1, l2] [.int (I x0 x1.toNatClampNeg)] (zSH, I, L, P) Q)) ∧
    (∀ (d : Nat) (l0 : Value) (l1 : Value) (l2 : Value) (x0 : Int32) (h : zMm) (Q : Option Value → zMm → Prop), zWp d zi_92 none 24 [l0, l1, l2] [.int x0] h Q = zWp d zi_92 none 25 [l0, l1, l2] [.int 2, .int x0] h Q) ∧
    (∀ (d : Nat) (l0 : Value) (l1 : Value) (l2 : Value) (x1 : Int32) (x0 : Int32) (h : zMm) (Q : Option Value → zMm → Prop), zWp d zi_92 none 25 [l0, l1, l2] [.int x1, .int x0] h Q = if x0 < x1 then zWp d zi_92 none 85 [l0, l1, l2] [] h Q else zWp d zi_92 none 28 [l0, l1, l2] [] h Q) ∧
    (∀ (d : Nat) (l0 : Nat) (l1 : Value) (l2 : Value)  (h : zMm) (Q : Option Value → zMm → Prop), zWp d zi_92 none 28 [.ref l0, l1, l2] [] h Q = zWp d zi_92 none 29 [.ref l0, l1, l2] [.ref l0] h Q) ∧
    (∀ (d : Nat) (l0 : Value) (l1 : Value) (l2 : Value) (x0 : Nat) (I : Nat → Nat → Int32) (L : Nat → Nat → Int64) (P : Nat → Nat → Option Nat) (Q : Option Value → zMm → Prop), zSH[x0]? = some (.inl 9) → zWp d zi_92 none 29 [l0, l1, l2] [.ref x0] (zSH, I, L, P) Q = zWp d zi_92 none 32 [l0, l1, l2] [va_rf (P x0 1)] (zSH, I, L, P) Q) ∧
    (∀ (d : Nat) (l0 : Nat) (l1 : Value) (l2 : Value) (x0 : Nat) (h : zMm) (Q : Option Value → zMm → Prop), zWp d zi_92 none 32 [.ref l0, l1, l2] [.ref x0] h Q = zWp d zi_92 none 33 [.ref l0, l1, l2] [.ref l0, .ref x0] h Q) ∧
    (∀ (d : Nat) (l0 : Value) (l1 : Value) (l2 : Value) (x1 : Nat) (x0 : Nat) (I : Nat → Nat → Int32) (L : Nat → Nat → Int64) (P : Nat → Nat → Option Nat) (Q : Option Value → zMm → Prop), zSH[x1]? = some (.inl 9) → zWp d zi_92 none 33 [l0, l1, l2] [.ref x1, .ref x0] (zSH, I, L, P) Q = zWp d zi_92 none 36 [l0, l1, l2] [va_rf (P x1 0), .ref x0] (zSH, I, L, P) Q) ∧
    (∀ (d : Nat) (l0 : Value) (l1 : Value) (l2 : Value) (x1 : Nat) (x0 : Nat) (I : Nat → Nat → Int32) (L : Nat → Nat → Int64) (P : Nat → Nat → Option Nat) (Q : Option Value → zMm → Prop), zSH[x0]? = some (.inl 8) → zWp d zi_92 none 36 [l0, l1, l2] [.ref x1, .ref x0] (zSH, I, L, P) Q = zWM d 63 [.ref x0, .ref x1] (zSH, I, L, P) (fun r h1 => zWp d zi_92 none 39 [l0, l1, l2] (r.toList ++ []) h1 Q)) ∧
    (∀ (d : Nat) (l0 : Nat) (l1 : Value) (l2 : Value)  (h : zMm) (Q : Option Value → zMm → Prop), zWp d zi_92 none 39 [.ref l0, l1, l2] [] h Q = zWp d zi_92 none 40 [.ref l0, l1, l2] [.ref l0] h Q) ∧
    (∀ (d : Nat) (l0 : Value) (l1 : Value) (l2 : Value) (x0 : Nat) (I : Nat → Nat → Int32) (L : Nat → Nat → Int64) (P : Nat → Nat → Option Nat) (Q : Option Value → zMm → Prop), zSH[x0]? = some (.inl 9) → zWp d zi_92 none 40 [l0, l1, l2] [.ref x0] (zSH, I, L, P) Q = zWp d zi_92 none 43 [l0, l1, l2] [va_rf (P x0 1)] (zSH, I, L, P) Q) ∧
    (∀ (d : Nat) (l0 : Value) (l1 : Value) (l2 : Value) (x0 : Nat) (I : Nat → Nat → Int32) (L : Nat → Nat → Int64) (P : Nat → Nat → Option Nat) (Q : Option Value → zMm → Prop), zSH[x0]? = some (.inl 8) → zWp d zi_92 none 43 [l0, l1, l2] [.ref x0] (zSH, I, L, P) Q = zWp d zi_92 none 46 [l0, l1, l2] [va_rf (P x0 0)] (zSH, I, L, P) Q) ∧
    (∀ (d : Nat) (l0 : Value) (l1 : Value) (l2 : Int32) (x0 : Nat) (h : zMm) (Q : Option Value → zMm → Prop), zWp d zi_92 none 46 [l0, l1, .int l2] [.ref x0] h Q = zWp d zi_92 none 47 [l0, l1, .int l2] [.int l2, .ref x0] h Q) ∧
    (∀ (d : Nat) (l0 : Value) (l1 : Value) (l2 : Value) (x1 : Int32) (x0 : Nat) (h : zMm) (Q : Option Value → zMm → Prop), zWp d zi_92 none 47 [l0, l1, l2] [.int x1, .ref x0] h Q = zWp d zi_92 none 48 [l0, l1, l2] [.int x1, .ref x0, .int x1, .ref x0] h Q) ∧
    (∀ (d : Nat) (l0 : Value) (l1 : Value) (l2 : Value) (x3 : Int32) (x2 : Nat) (x1 : Int32) (x0 : Nat) (I : Nat → Nat → Int32) (L : Nat → Nat → Int64) (P : Nat → Nat → Option Nat) (Q : Option Value → zMm → Prop), zAk zSH x2 = some .int → zWp d zi_92 none 48 [l0, l1, l2] [.int x3, .ref x2, .int x1, .ref x0] (zSH, I, L, P) Q = (vp_in x3 (zAn zSH x2) ∧ zWp d zi_92 none 49 [l0, l1, l2] [.int (I x2 x3.toNatClampNeg), .int x1, .ref x0] (zSH, I, L, P) Q)) ∧
    (∀ (d : Nat) (l0 : Value) (l1 : Value) (l2 : Value) (x2 : Int32) (x1 : Int32) (x0 : Nat) (h : zMm) (Q : Option Value → zMm → Prop), zWp d zi_92 none 49 [l0, l1, l2] [.int x2, .int x1, .ref x0] h Q = zWp d zi_92 none 50 [l0, l1, l2] [.int 1, .int x2, .int x1, .ref x0] h Q) ∧
    (∀ (d : Nat) (l0 : Value) (l1 : Value) (l2 : Value) (x3 : Int32) (x2 : Int32) (x1 : Int32) (x0 : Nat) (h : zMm) (Q : Option Value → zMm → Prop), zWp d zi_92 none 50 [l0, l1, l2] [.int x3, .int x2, .int x1, .ref x0] h Q = zWp d zi_92 none 51 [l0, l1, l2] [.int (x2 - x3), .int x1, .ref x0] h Q) ∧
    (∀ (d : Nat) (l0 : Value) (l1 : Value) (l2 : Value) (x2 : Int32) (x1 : Int32) (x0 : Nat) (I : Nat → Nat → Int32) (L : Nat → Nat → Int64) (P : Nat → Nat → Option Nat) (Q : Option Value → zMm → Prop), zAk zSH x0 = some .int → zWp d zi_92 none 51 [l0, l1, l2] [.int x2, .int x1, .ref x0] (zSH, I, L, P) Q = (vp_in x1 (zAn zSH x0) ∧ zWp d zi_92 none 52 [l0, l1, l2] [] (zSH, zw I x0 (upd (I x0) x1.toNatClampNeg x2), L, P) Q)) ∧
    (∀ (d : Nat) (l0 : Nat) (l1 : Value) (l2 : Value)  (h : zMm) (Q : Option Value → zMm → Prop), zWp d zi_92 none 52 [.ref l0, l1, l2] [] h Q = zWp d zi_92 none 53 [.ref l0, l1, l2] [.ref l0] h Q) ∧
    (∀ (d : Nat) (l0 : Value) (l1 : Value) (l2 : Value) (x0 : Nat) (I : Nat → Nat → Int32) (L : Nat → Nat → Int64) (P : Nat → Nat → Option Nat) (Q : Option Value → zMm → Prop), zSH[x0]? = some (.inl 9) → zWp d zi_92 none 53 [l0, l1, l2] [.ref x0] (zSH, I, L, P) Q = zWp d zi_92 none 56 [l0, l1, l2] [va_rf (P x0 1)] (zSH, I, L, P) Q) ∧
    (∀ (d : Nat) (l0 : Value) (l1 : Value) (l2 : Value) (x0 : Nat) (I : Nat → Nat → Int32) (L : Nat → Nat → Int64) (P : Nat → Nat → Option Nat) (Q : Option Value → zMm → Prop), zSH[x0]? = some (.inl 8) → zWp d zi_92 none 56 [l0, l1, l2] [.ref x0] (zSH, I, L, P) Q = zWM d 64 [.ref x0] (zSH, I, L, P) (fun r h1 => zWp d zi_92 none 59 [l0, l1, l2] (r.toList ++ []) h1 Q)) ∧
    (∀ (d : Nat) (l0 : Nat) (l1 : Value) (l2 : Value)  (h : zMm) (Q : Option Value → zMm → Prop), zWp d zi_92 none 59 [.ref l0, l1, l2] [] h Q = zWp d zi_92 none 60 [.ref l0, l1, l2] [.ref l0] h Q) ∧
    (∀ (d : Nat) (l0 : Value) (l1 : Value) (l2 : Value) (x0 : Nat) (I : Nat → Nat → Int32) (L : Nat → Nat → Int64) (P : Nat → Nat → Option Nat) (Q : Option Value → zMm → Prop), zSH[x0]? = some (.inl 9) → zWp d zi_92 none 60 [l0, l1, l2] [.ref x0] (zSH, I, L, P) Q = zWp d zi_92 none 63 [l0, l1, l2] [va_rf (P x0 1)] (zSH, I, L, P) Q) ∧
    (∀ (d : Nat) (l0 : Nat) (l1 : Value) (l2 : Value) (x0 : Nat) (h : zMm) (Q : Option Value → zMm → Prop), zWp d zi_92 none 63 [.ref l0, l1, l2] [.ref x0] h Q = zWp d zi_92 none 64 [.ref l0, l1, l2] [.ref l0, .ref x0] h Q) ∧
    (∀ (d : Nat) (l0 : Value) (l1 : Value) (l2 : Value) (x1 : Nat) (x0 : Nat) (I : Nat → Nat → Int32) (L : Nat → Nat → Int64) (P : Nat → Nat → Option Nat) (Q : Option Value → zMm → Prop), zSH[x1]? = some (.inl 9) → zWp d zi_92 none 64 [l0, l1, l2] [.ref x1, .ref x0] (zSH, I, L, P) Q = zWp d zi_92 none 67 [l0, l1, l2] [.int (I x1 14), .ref x0] (zSH, I, L, P) Q) ∧
    (∀ (d : Nat) (l0 : Nat) (l1 : Value) (l2 : Value) (x1 : Int32) (x0 : Nat) (h : zMm) (Q : Option Value → zMm → Prop), zWp d zi_92 none 67 [.ref l0, l1, l2] [.int x1, .ref x0] h Q = zWp d zi_92 none 68 [.ref l0, l1, l2] [.ref l0, .int x1, .ref x0] h Q) ∧
    (∀ (d : Nat) (l0 : Value) (l1 : Value) (l2 : Value) (x2 : Nat) (x1 : Int32) (x0 : Nat) (I : Nat → Nat → Int32) (L : Nat → Nat → Int64) (P : Nat → Nat → Option Nat) (Q : Option Value → zMm → Prop), zSH[x2]? = some (.inl 9) → zWp d zi_92 none 68 [l0, l1, l2] [.ref x2, .int x1, .ref x0] (zSH, I, L, P) Q = zWp d zi_92 none 71 [l0, l1, l2] [.int (I x2 15), .int x1, .ref x0] (zSH, I, L, P) Q) ∧
    (∀ (d : Nat) (l0 : Value) (l1 : Value) (l2 : Value) (x2 : Int32) (x1 : Int32) (x0 : Nat) (I : Nat → Nat → Int32) (L : Nat → Nat → Int64) (P : Nat → Nat → Option Nat) (Q : Option Value → zMm → Prop), zSH[x0]? = some (.inl 8) → zWp d zi_92 none 71 [l0, l1, l2] [.int x2, .int x1, .ref x0] (zSH, I, L, P) Q = zWM d 69 [.ref x0, .int x1, .int x2] (zSH, I, L, P) (fun r h1 => zWp d zi_92 none 74 [l0, l1, l2] (r.toList ++ []) h1 Q)) ∧
    (∀ (d : Nat) (l0 : Value) (l1 : Value) (l2 : Value) (x0 : Int32) (h : zMm) (Q : Option Value → zMm → Prop), zWp d zi_92 none 74 [l0, l1, l2] [.int x0] h Q = zWp d zi_92 none 76 [l0, l1, l2] [.int (-2), .int x0] h Q) ∧
    (∀ (d : Nat) (l0 : Value) (l1 : Value) (l2 : Value) (x1 : Int32) (x0 : Int32) (h : zMm) (Q : Option Value → zMm → Prop), zWp d zi_92 none 76 [l0, l1, l2] [.int x1, .int x0] h Q = if x0 = x1 then zWp d zi_92 none 79 [l0, l1, l2] [] h Q else zWp d zi_92 none 85 [l0, l1, l2] [] h Q) ∧
    (∀ (d : Nat) (l0 : Value) (l1 : Int32) (l2 : Value)  (h : zMm) (Q : Option Value → zMm → Prop), zWp d zi_92 none 79 [l0, .int l1, l2] [] h Q = zWp d zi_92 none 80 [l0, .int l1, l2] [.int l1] h Q) ∧
    (∀ (d : Nat) (l0 : Value) (l1 : Value) (l2 : Value) (x0 : Int32) (h : zMm) (Q : Option Value → zMm → Prop), zWp d zi_92 none 80 [l0, l1, l2] [.int x0] h Q = zWp d zi_92 none 81 [l0, l1, l2] [.int 1, .int x0] h Q) ∧
    (∀ (d : Nat) (l0 : Value) (l1 : Value) (l2 : Int32) (x1 : Int32) (x0 : Int32) (h : zMm) (Q : Option Value → zMm → Prop), zWp d zi_92 none 81 [l0, l1, .int l2] [.int x1, .int x0] h Q = zWp d zi_92 none 82 [l0, l1, .int l2] [.int l2, .int x1, .int x0] h Q) ∧
    (∀ (d : Nat) (l0 : Value) (l1 : Value) (l2 : Value) (x2 : Int32) (x1 : Int32) (x0 : Int32) (h : zMm) (Q : Option Value → zMm → Prop), zWp d zi_92 none 82 [l0, l1, l2] [.int x2, .int x1, .int x0] h Q = zWp d zi_92 none 83 [l0, l1, l2] [.int (x1 <<< (x2 &&& 31)), .int x0] h Q) ∧
    (∀ (d : Nat) (l0 : Value) (l1 : Value) (l2 : Value) (x1 : Int32) (x0 : Int32) (h : zMm) (Q : Option Value → zMm → Prop), zWp d zi_92 none 83 [l0, l1, l2] [.int x1, .int x0] h Q = zWp d zi_92 none 84 [l0, l1, l2] [.int (x0 ||| x1)] h Q) ∧
    (∀ (d : Nat) (l0 : Nat) (l1 : Value) (l2 : Value) (x0 : Int32) (h : zMm) (Q : Option Value → zMm → Prop), zWp d zi_92 none 84 [.ref l0, l1, l2] [.int x0] h Q = zWp d zi_92 none 85 [.ref l0, .int x0, l2] [] h Q) ∧
    (∀ (d : Nat) (l0 : Value) (l1 : Int32) (l2 : Int32)  (h : zMm) (Q : Option Value → zMm → Prop), zWp d zi_92 none 85 [l0, .int l1, .int l2] [] h Q = zWp d zi_92 none 88 [l0, .int l1, .int (l2 + 1)] [] h Q) ∧
    (∀ (d : Nat) (l0 : Value) (l1 : Value) (l2 : Value)  (h : zMm) (Q : Option Value → zMm → Prop), zWp d zi_92 none 88 [l0, l1, l2] [] h Q = zWp d zi_92 none 4 [l0, l1, l2] [] h Q) ∧
    (∀ (d : Nat) (l0 : Value) (l1 : Int32) (l2 : Value)  (h : zMm) (Q : Option Value → zMm → Prop), zWp d zi_92 none 91 [l0, .int l1, l2] [] h Q = zWp d zi_92 none 92 [l0, .int l1, l2] [.int l1] h Q) ∧
    (∀ (d : Nat) (l0 : Value) (l1 : Value) (l2 : Value) (x0 : Int32) (h : zMm) (Q : Option Value → zMm → Prop), zWp d zi_92 none 92 [l0, l1, l2] [.int x0] h Q = Q (some (.int x0)) h) :=
  ⟨(fun d l0 l1 l2  h Q => zr_iconst rfl (by decide)),
   (fun d l0 l1 l2 x0 h Q => zr_istore_n (n := 1) rfl (Nat.le_of_ble_eq_true rfl) rfl),
   (fun d l0 l1 l2  h Q => zr_iconst rfl (by decide)),
   (fun d l0 l1 l2 x0 h Q => zr_istore_n (n := 2) rfl (Nat.le_of_ble_eq_true rfl) rfl),
   (fun d l0 l1 l2 x0 h Q => zr_aload_n rfl rfl),
   (fun d l0 l1 l2 x1 x0 I L P Q p0 => zr_getQ rfl lf_9_10 (fun _ _ _ => rfl) p0),
   (fun d l0 l1 l2 x1 x0 I L P Q p0 => zr_getI rfl lf_9_92 (fun _ _ _ => rfl) p0),
   (fun d l0 l1 l2 x1 x0 h Q => zr_ic_ge rfl (by decide)),
   (fun d l0 l1 l2  h Q => zr_aload_n rfl rfl),
   (fun d l0 l1 l2 x0 I L P Q p0 => zr_getQ rfl lf_9_10 (fun _ _ _ => rfl) p0),
   (fun d l0 l1 l2 x0 I L P Q p0 => zr_getQ rfl lf_9_109 (fun _ _ _ => rfl) p0),
   (fun d l0 l1 l2 x0 h Q => zr_iload_n rfl rfl),
   (fun d l0 l1 l2 x1 x0 I L P Q p0 => zr_ald rfl p0),
   (fun d l0 l1 l2 x0 h Q => zr_iconst rfl (by decide)),
   (fun d l0 l1 l2 x1 x0 h Q => zr_ic_lt rfl (by decide)),
   (fun d l0 l1 l2  h Q => zr_aload_n rfl rfl),
   (fun d l0 l1 l2 x0 I L P Q p0 => zr_getQ rfl lf_9_16 (fun _ _ _ => rfl) p0),
   (fun d l0 l1 l2 x0 h Q => zr_aload_n rfl rfl),
   (fun d l0 l1 l2 x1 x0 I L P Q p0 => zr_getQ rfl lf_9_10 (fun _ _ _ => rfl) p0),
   (fun d l0 l1 l2 x1 x0 I L P Q p0 => zr_vir (as := [.ref x1]) (rest := []) rfl lm_9_237 m_63 kd_63 rfl (Nat.le_of_ble_eq_true rfl) p0),
   (fun d l0 l1 l2  h Q => zr_aload_n rfl rfl),
   (fun d l0 l1 l2 x0 I L P Q p0 => zr_getQ rfl lf_9_16 (fun _ _ _ => rfl) p0),
   (fun d l0 l1 l2 x0 I L P Q p0 => zr_getQ rfl lf_9_109 (fun _ _ _ => rfl) p0),
   (fun d l0 l1 l2 x0 h Q => zr_iload_n rfl rfl),
   (fun d l0 l1 l2 x1 x0 h Q => zr_dup2 rfl rfl rfl),
   (fun d l0 l1 l2 x3 x2 x1 x0 I L P Q p0 => zr_ald rfl p0),
   (fun d l0 l1 l2 x2 x1 x0 h Q => zr_iconst rfl (by decide)),
   (fun d l0 l1 l2 x3 x2 x1 x0 h Q => zr_isub rfl),
   (fun d l0 l1 l2 x2 x1 x0 I L P Q p0 => zr_ast rfl p0),
   (fun d l0 l1 l2  h Q => zr_aload_n rfl rfl),
   (fun d l0 l1 l2 x0 I L P Q p0 => zr_getQ rfl lf_9_16 (fun _ _ _ => rfl) p0),
   (fun d l0 l1 l2 x0 I L P Q p0 => zr_vir (as := []) (rest := []) rfl lm_9_241 m_64 kd_64 rfl (Nat.le_of_ble_eq_true rfl) p0),
   (fun d l0 l1 l2  h Q => zr_aload_n rfl rfl),
   (fun d l0 l1 l2 x0 I L P Q p0 => zr_getQ rfl lf_9_16 (fun _ _ _ => rfl) p0),
   (fun d l0 l1 l2 x0 h Q => zr_aload_n rfl rfl),
   (fun d l0 l1 l2 x1 x0 I L P Q p0 => zr_getI rfl lf_9_182 (fun _ _ _ => rfl) p0),
   (fun d l0 l1 l2 x1 x0 h Q => zr_aload_n rfl rfl),
   (fun d l0 l1 l2 x2 x1 x0 I L P Q p0 => zr_getI rfl lf_9_185 (fun _ _ _ => rfl) p0),
   (fun d l0 l1 l2 x2 x1 x0 I L P Q p0 => zr_vir (as := [.int x2, .int x1]) (rest := []) rfl lm_9_224 m_69 kd_69 rfl (Nat.le_of_ble_eq_true rfl) p0),
   (fun d l0 l1 l2 x0 h Q => zr_bipush rfl (by decide)),
   (fun d l0 l1 l2 x1 x0 h Q => zr_ic_ne rfl (by decide)),
   (fun d l0 l1 l2  h Q => zr_iload_n rfl rfl),
   (fun d l0 l1 l2 x0 h Q => zr_iconst rfl (by decide)),
   (fun d l0 l1 l2 x1 x0 h Q => zr_iload_n rfl rfl),
   (fun d l0 l1 l2 x2 x1 x0 h Q => zr_ishl rfl),
   (fun d l0 l1 l2 x1 x0 h Q => zr_ior rfl),
   (fun d l0 l1 l2 x0 h Q => zr_istore_n (n := 1) rfl (Nat.le_of_ble_eq_true rfl) rfl),
   (fun d l0 l1 l2  h Q => zr_iinc (n := 2) (kc := 1) rfl rfl (Nat.le_of_ble_eq_true rfl) rfl (by decide)),
   (fun d l0 l1 l2  h Q => zr_goto rfl (by decide)),
   (fun d l0 l1 l2  h Q => zr_iload_n rfl rfl),
   (fun d l0 l1 l2 x0 h Q => zr_iret rfl rfl)⟩
theorem H_X9_without_4 : ∀ (d : Nat) (l0 : Value) (l1 : Value) (l2 : Int32)  (h : zMm) (Q : Option Value → zMm → Prop), zWp d zi_92 none 4 [l0, l1, .int l2] [] h Q = zWp d zi_92 none 5 [l0, l1, .int l2] [.int l2] h Q := fun d l0 l1 l2  h Q => zr_iload_n rfl rfl
theorem E_X9_highest : ∀ (d : Nat) (a0 : Nat) (h : zMm) (Q : Option Value → zMm → Prop), zWM (d + 1) 93 [.ref a0] h Q = zWp d zi_93 none 0 [.ref a0, .retAddr 0, .retAddr 0] [] h Q := fun d a0 h Q => zW_M m_93 (Nat.le_of_ble_eq_true rfl) rfl
set_option maxRecDepth 100000 in
theorem R_X9_highest :
    (∀ (d : Nat) (l0 : Nat) (l1 : Value) (l2 : Value)  (h : zMm) (Q : Option Value → zMm → Prop), zWp d zi_93 none 0 [.ref l0, l1, l2] [] h Q = zWp d zi_93 none 1 [.ref l0, l1, l2] [.ref l0] h Q) ∧
    (∀ (d : Nat) (l0 : Value) (l1 : Value) (l2 : Value) (x0 : Nat) (I : Nat → Nat → Int32) (L : Nat → Nat → Int64) (P : Nat → Nat → Option Nat) (Q : Option Value → zMm → Prop), zSH[x0]? = some (.inl 9) → zWp d zi_93 none 1 [l0, l1, l2] [.ref x0] (zSH, I, L, P) Q = zWp d zi_93 none 4 [l0, l1, l2] [va_rf (P x0 0)] (zSH, I, L, P) Q) ∧
    (∀ (d : Nat) (l0 : Nat) (l1 : Value) (l2 : Value) (x0 : Nat) (h : zMm) (Q : Option Value → zMm → Prop), zWp d zi_93 none 4 [.ref l0, l1, l2] [.ref x0] h Q = zWp d zi_93 none 5 [.ref l0, l1, l2] [.ref l0, .ref x0] h Q) ∧
    (∀ (d : Nat) (l0 : Value) (l1 : Value) (l2 : Value) (x1 : Nat) (x0 : Nat) (I : Nat → Nat → Int32) (L : Nat → Nat → Int64) (P : Nat → Nat → Option Nat) (Q : Option Value → zMm → Prop), zSH[x1]? = some (.inl 9) → zWp d zi_93 none 5 [l0, l1, l2] [.ref x1, .ref x0] (zSH, I, L, P) Q = zWp d zi_93 none 8 [l0, l1, l2] [.int (I x1 14), .ref x0] (zSH, I, L, P) Q) ∧
    (∀ (d : Nat) (l0 : Nat) (l1 : Value) (l2 : Value) (x1 : Int32) (x0 : Nat) (h : zMm) (Q : Option Value → zMm → Prop), zWp d zi_93 none 8 [.ref l0, l1, l2] [.int x1, .ref x0] h Q = zWp d zi_93 none 9 [.ref l0, l1, l2] [.ref l0, .int x1, .ref x0] h Q) ∧
    (∀ (d : Nat) (l0 : Value) (l1 : Value) (l2 : Value) (x2 : Nat) (x1 : Int32) (x0 : Nat) (I : Nat → Nat → Int32) (L : Nat → Nat → Int64) (P : Nat → Nat → Option Nat) (Q : Option Value → zMm → Prop), zSH[x2]? = some (.inl 9) → zWp d zi_93 none 9 [l0, l1, l2] [.ref x2, .int x1, .ref x0] (zSH, I, L, P) Q = zWp d zi_93 none 12 [l0, l1, l2] [.int (I x2 15), .int x1, .ref x0] (zSH, I, L, P) Q) ∧
    (∀ (d : Nat) (l0 : Value) (l1 : Value) (l2 : Value) (x2 : Int32) (x1 : Int32) (x0 : Nat) (I : Nat → Nat → Int32) (L : Nat → Nat → Int64) (P : Nat → Nat → Option Nat) (Q : Option Value → zMm → Prop), zSH[x0]? = some (.inl 8) → zWp d zi_93 none 12 [l0, l1, l2] [.int x2, .int x1, .ref x0] (zSH, I, L, P) Q = zWM d 69 [.ref x0, .int x1, .int x2] (zSH, I, L, P) (fun r h1 => zWp d zi_93 none 15 [l0, l1, l2] (r.toList ++ []) h1 Q)) ∧
    (∀ (d : Nat) (l0 : Value) (l1 : Value) (l2 : Value) (x0 : Int32) (h : zMm) (Q : Option Value → zMm → Prop), zWp d zi_93 none 15 [l0, l1, l2] [.int x0] h Q = zWp d zi_93 none 17 [l0, l1, l2] [.int (-2), .int x0] h Q) ∧
    (∀ (d : Nat) (l0 : Value) (l1 : Value) (l2 : Value) (x1 : Int32) (x0 : Int32) (h : zMm) (Q : Option Value → zMm → Prop), zWp d zi_93 none 17 [l0, l1, l2] [.int x1, .int x0] h Q = if x0 = x1 then zWp d zi_93 none 22 [l0, l1, l2] [] h Q else zWp d zi_93 none 20 [l0, l1, l2] [] h Q) ∧
    (∀ (d : Nat) (l0 : Value) (l1 : Value) (l2 : Value)  (h : zMm) (Q : Option Value → zMm → Prop), zWp d zi_93 none 20 [l0, l1, l2] [] h Q = zWp d zi_93 none 21 [l0, l1, l2] [.int 0] h Q) ∧
    (∀ (d : Nat) (l0 : Value) (l1 : Value) (l2 : Value) (x0 : Int32) (h : zMm) (Q : Option Value → zMm → Prop), zWp d zi_93 none 21 [l0, l1, l2] [.int x0] h Q = Q (some (.int x0)) h) ∧
    (∀ (d : Nat) (l0 : Nat) (l1 : Value) (l2 : Value)  (h : zMm) (Q : Option Value → zMm → Prop), zWp d zi_93 none 22 [.ref l0, l1, l2] [] h Q = zWp d zi_93 none 23 [.ref l0, l1, l2] [.ref l0] h Q) ∧
    (∀ (d : Nat) (l0 : Value) (l1 : Value) (l2 : Value) (x0 : Nat) (I : Nat → Nat → Int32) (L : Nat → Nat → Int64) (P : Nat → Nat → Option Nat) (Q : Option Value → zMm → Prop), zSH[x0]? = some (.inl 9) → zWp d zi_93 none 23 [l0, l1, l2] [.ref x0] (zSH, I, L, P) Q = zWp d zi_93 none 26 [l0, l1, l2] [va_rf (P x0 5)] (zSH, I, L, P) Q) ∧
    (∀ (d : Nat) (l0 : Value) (l1 : Value) (l2 : Value) (x0 : Nat) (I : Nat → Nat → Int32) (L : Nat → Nat → Int64) (P : Nat → Nat → Option Nat) (Q : Option Value → zMm → Prop), zSH[x0]? = some (.inl 7) → zWp d zi_93 none 26 [l0, l1, l2] [.ref x0] (zSH, I, L, P) Q = zWp d zi_93 none 29 [l0, l1, l2] [.int (I x0 0)] (zSH, I, L, P) Q) ∧
    (∀ (d : Nat) (l0 : Nat) (l1 : Value) (l2 : Value) (x0 : Int32) (h : zMm) (Q : Option Value → zMm → Prop), zWp d zi_93 none 29 [.ref l0, l1, l2] [.int x0] h Q = zWp d zi_93 none 30 [.ref l0, l1, l2] [.ref l0, .int x0] h Q) ∧
    (∀ (d : Nat) (l0 : Value) (l1 : Value) (l2 : Value) (x1 : Nat) (x0 : Int32) (I : Nat → Nat → Int32) (L : Nat → Nat → Int64) (P : Nat → Nat → Option Nat) (Q : Option Value → zMm → Prop), zSH[x1]? = some (.inl 9) → zWp d zi_93 none 30 [l0, l1, l2] [.ref x1, .int x0] (zSH, I, L, P) Q = zWp d zi_93 none 33 [l0, l1, l2] [va_rf (P x1 5), .int x0] (zSH, I, L, P) Q) ∧
    (∀ (d : Nat) (l0 : Value) (l1 : Value) (l2 : Value) (x1 : Nat) (x0 : Int32) (I : Nat → Nat → Int32) (L : Nat → Nat → Int64) (P : Nat → Nat → Option Nat) (Q : Option Value → zMm → Prop), zSH[x1]? = some (.inl 7) → zWp d zi_93 none 33 [l0, l1, l2] [.ref x1, .int x0] (zSH, I, L, P) Q = zWp d zi_93 none 36 [l0, l1, l2] [.int (I x1 1), .int x0] (zSH, I, L, P) Q) ∧
    (∀ (d : Nat) (l0 : Value) (l1 : Value) (l2 : Value) (x1 : Int32) (x0 : Int32) (h : zMm) (Q : Option Value → zMm → Prop), zWp d zi_93 none 36 [l0, l1, l2] [.int x1, .int x0] h Q = zWp d zi_93 none 37 [l0, l1, l2] [.int (x0 + x1)] h Q) ∧
    (∀ (d : Nat) (l0 : Value) (l1 : Value) (l2 : Value) (x0 : Int32) (h : zMm) (Q : Option Value → zMm → Prop), zWp d zi_93 none 37 [l0, l1, l2] [.int x0] h Q = zWp d zi_93 none 38 [l0, l1, l2] [.int 3, .int x0] h Q) ∧
    (∀ (d : Nat) (l0 : Value) (l1 : Value) (l2 : Value) (x1 : Int32) (x0 : Int32) (h : zMm) (Q : Option Value → zMm → Prop), zWp d zi_93 none 38 [l0, l1, l2] [.int x1, .int x0] h Q = (¬ x1 = 0 ∧ zWp d zi_93 none 39 [l0, l1, l2] [.int (x0 / x1)] h Q)) ∧
    (∀ (d : Nat) (l0 : Nat) (l1 : Value) (l2 : Value) (x0 : Int32) (h : zMm) (Q : Option Value → zMm → Prop), zWp d zi_93 none 39 [.ref l0, l1, l2] [.int x0] h Q = zWp d zi_93 none 40 [.ref l0, .int x0, l2] [] h Q) ∧
    (∀ (d : Nat) (l0 : Nat) (l1 : Value) (l2 : Value)  (h : zMm) (Q : Option Value → zMm → Prop), zWp d zi_93 none 40 [.ref l0, l1, l2] [] h Q = zWp d zi_93 none 41 [.ref l0, l1, l2] [.ref l0] h Q) ∧
    (∀ (d : Nat) (l0 : Value) (l1 : Value) (l2 : Value) (x0 : Nat) (I : Nat → Nat → Int32) (L : Nat → Nat → Int64) (P : Nat → Nat → Option Nat) (Q : Option Value → zMm → Prop), zSH[x0]? = some (.inl 9) → zWp d zi_93 none 41 [l0, l1, l2] [.ref x0] (zSH, I, L, P) Q = zWp d zi_93 none 44 [l0, l1, l2] [va_rf (P x0 1)] (zSH, I, L, P) Q) ∧
    (∀ (d : Nat) (l0 : Nat) (l1 : Value) (l2 : Value) (x0 : Nat) (h : zMm) (Q : Option Value → zMm → Prop), zWp d zi_93 none 44 [.ref l0, l1, l2] [.ref x0] h Q = zWp d zi_93 none 45 [.ref l0, l1, l2] [.ref l0, .ref x0] h Q) ∧
    (∀ (d : Nat) (l0 : Value) (l1 : Value) (l2 : Value) (x1 : Nat) (x0 : Nat) (I : Nat → Nat → Int32) (L : Nat → Nat → Int64) (P : Nat → Nat → Option Nat) (Q : Option Value → zMm → Prop), zSH[x1]? = some (.inl 9) → zWp d zi_93 none 45 [l0, l1, l2] [.ref x1, .ref x0] (zSH, I, L, P) Q = zWp d zi_93 none 48 [l0, l1, l2] [va_rf (P x1 0), .ref x0] (zSH, I, L, P) Q) ∧
    (∀ (d : Nat) (l0 : Value) (l1 : Value) (l2 : Value) (x1 : Nat) (x0 : Nat) (I : Nat → Nat → Int32) (L : Nat → Nat → Int64) (P : Nat → Nat → Option Nat) (Q : Option Value → zMm → Prop), zSH[x0]? = some (.inl 8) → zWp d zi_93 none 48 [l0, l1, l2] [.ref x1, .ref x0] (zSH, I, L, P) Q = zWM d 63 [.ref x0, .ref x1] (zSH, I, L, P) (fun r h1 => zWp d zi_93 none 51 [l0, l1, l2] (r.toList ++ []) h1 Q)) ∧
    (∀ (d : Nat) (l0 : Value) (l1 : Value) (l2 : Value)  (h : zMm) (Q : Option Value → zMm → Prop), zWp d zi_93 none 51 [l0, l1, l2] [] h Q = zWp d zi_93 none 52 [l0, l1, l2] [.int 0] h Q) ∧
    (∀ (d : Nat) (l0 : Value) (l1 : Int32) (l2 : Value) (x0 : Int32) (h : zMm) (Q : Option Value → zMm → Prop), zWp d zi_93 none 52 [l0, .int l1, l2] [.int x0] h Q = zWp d zi_93 none 53 [l0, .int l1, .int x0] [] h Q) ∧
    (∀ (d : Nat) (l0 : Value) (l1 : Int32) (l2 : Value) (x0 : Int32) (h : zMm) (Q : Option Value → zMm → Prop), zWp d zi_93 none 54 [l0, .int l1, l2] [.int x0] h Q = zWp d zi_93 none 55 [l0, .int l1, l2] [.int l1, .int x0] h Q) ∧
    (∀ (d : Nat) (l0 : Value) (l1 : Value) (l2 : Value) (x1 : Int32) (x0 : Int32) (h : zMm) (Q : Option Value → zMm → Prop), zWp d zi_93 none 55 [l0, l1, l2] [.int x1, .int x0] h Q = if x1 ≤ x0 then zWp d zi_93 none 110 [l0, l1, l2] [] h Q else zWp d zi_93 none 58 [l0, l1, l2] [] h Q) ∧
    (∀ (d : Nat) (l0 : Nat) (l1 : Value) (l2 : Value)  (h : zMm) (Q : Option Value → zMm → Prop), zWp d zi_93 none 58 [.ref l0, l1, l2] [] h Q = zWp d zi_93 none 59 [.ref l0, l1, l2] [.ref l0] h Q) ∧
    (∀ (d : Nat) (l0 : Value) (l1 : Value) (l2 : Value) (x0 : Nat) (I : Nat → Nat → Int32) (L : Nat → Nat → Int64) (P : Nat → Nat → Option Nat) (Q : Option Value → zMm → Prop), zSH[x0]? = some (.inl 9) → zWp d zi_93 none 59 [l0, l1, l2] [.ref x0] (zSH, I, L, P) Q = zWp d zi_93 none 62 [l0, l1, l2] [va_rf (P x0 1)] (zSH, I, L, P) Q) ∧
    (∀ (d : Nat) (l0 : Value) (l1 : Value) (l2 : Value) (x0 : Nat) (I : Nat → Nat → Int32) (L : Nat → Nat → Int64) (P : Nat → Nat → Option Nat) (Q : Option Value → zMm → Prop), zSH[x0]? = some (.inl 8) → zWp d zi_93 none 62 [l0, l1, l2] [.ref x0] (zSH, I, L, P) Q = zWp d zi_93 none 65 [l0, l1, l2] [.int (I x0 6)] (zSH, I, L, P) Q) ∧
    (∀ (d : Nat) (l0 : Value) (l1 : Value) (l2 : Value) (x0 : Int32) (h : zMm) (Q : Option Value → zMm → Prop), zWp d zi_93 none 65 [l0, l1, l2] [.int x0] h Q = zWp d zi_93 none 67 [l0, l1, l2] [.int 24, .int x0] h Q) ∧
    (∀ (d : Nat) (l0 : Value) (l1 : Value) (l2 : Value) (x1 : Int32) (x0 : Int32) (h : zMm) (Q : Option Value → zMm → Prop), zWp d zi_93 none 67 [l0, l1, l2] [.int x1, .int x0] h Q = if x1 ≤ x0 then zWp d zi_93 none 110 [l0, l1, l2] [] h Q else zWp d zi_93 none 70 [l0, l1, l2] [] h Q) ∧
    (∀ (d : Nat) (l0 : Nat) (l1 : Value) (l2 : Value)  (h : zMm) (Q : Option Value → zMm → Prop), zWp d zi_93 none 70 [.ref l0, l1, l2] [] h Q = zWp d zi_93 none 71 [.ref l0, l1, l2] [.ref l0] h Q) ∧
    (∀ (d : Nat) (l0 : Value) (l1 : Value) (l2 : Value) (x0 : Nat) (I : Nat → Nat → Int32) (L : Nat → Nat → Int64) (P : Nat → Nat → Option Nat) (Q : Option Value → zMm → Prop), zSH[x0]? = some (.inl 9) → zWp d zi_93 none 71 [l0, l1, l2] [.ref x0] (zSH, I, L, P) Q = zWp d zi_93 none 74 [l0, l1, l2] [va_rf (P x0 1)] (zSH, I, L, P) Q) ∧
    (∀ (d : Nat) (l0 : Value) (l1 : Value) (l2 : Value) (x0 : Nat) (h : zMm) (Q : Option Value → zMm → Prop), zWp d zi_93 none 74 [l0, l1, l2] [.ref x0] h Q = zWp d zi_93 none 75 [l0, l1, l2] [.int 3, .ref x0] h Q) ∧
    (∀ (d : Nat) (l0 : Value) (l1 : Value) (l2 : Value) (x1 : Int32) (x0 : Nat) (h : zMm) (Q : Option Value → zMm → Prop), zWp d zi_93 none 75 [l0, l1, l2] [.int x1, .ref x0] h Q = zWp d zi_93 none 76 [l0, l1, l2] [.int 0, .int x1, .ref x0] h Q) ∧
    (∀ (d : Nat) (l0 : Value) (l1 : Value) (l2 : Value) (x2 : Int32) (x1 : Int32) (x0 : Nat) (h : zMm) (Q : Option Value → zMm → Prop), zWp d zi_93 none 76 [l0, l1, l2] [.int x2, .int x1, .ref x0] h Q = zWp d zi_93 none 77 [l0, l1, l2] [.int 0, .int x2, .int x1, .ref x0] h Q) ∧
    (∀ (d : Nat) (l0 : Value) (l1 : Value) (l2 : Value) (x3 : Int32) (x2 : Int32) (x1 : Int32) (x0 : Nat) (h : zMm) (Q : Option Value → zMm → Prop), zWp d zi_93 none 77 [l0, l1, l2] [.int x3, .int x2, .int x1, .ref x0] h Q = zWp d zi_93 none 78 [l0, l1, l2] [.int 0, .int x3, .int x2, .int x1, .ref x0] h Q) ∧
    (∀ (d : Nat) (l0 : Value) (l1 : Value) (l2 : Value) (x4 : Int32) (x3 : Int32) (x2 : Int32) (x1 : Int32) (x0 : Nat) (I : Nat → Nat → Int32) (L : Nat → Nat → Int64) (P : Nat → Nat → Option Nat) (Q : Option Value → zMm → Prop), zSH[x0]? = some (.inl 8) → zWp d zi_93 none 78 [l0, l1, l2] [.int x4, .int x3, .int x2, .int x1, .ref x0] (zSH, I, L, P) Q = zWM d 60 [.ref x0, .int x1, .int x2, .int x3, .int x4] (zSH, I, L, P) (fun r h1 => zWp d zi_93 none 81 [l0, l1, l2] (r.toList ++ []) h1 Q)) ∧
    (∀ (d : Nat) (l0 : Nat) (l1 : Value) (l2 : Value)  (h : zMm) (Q : Option Value → zMm → Prop), zWp d zi_93 none 81 [.ref l0, l1, l2] [] h Q = zWp d zi_93 none 82 [.ref l0, l1, l2] [.ref l0] h Q) ∧
    (∀ (d : Nat) (l0 : Value) (l1 : Value) (l2 : Value) (x0 : Nat) (I : Nat → Nat → Int32) (L : Nat → Nat → Int64) (P : Nat → Nat → Option Nat) (Q : Option Value → zMm → Prop), zSH[x0]? = some (.inl 9) → zWp d zi_93 none 82 [l0, l1, l2] [.ref x0] (zSH, I, L, P) Q = zWp d zi_93 none 85 [l0, l1, l2] [va_rf (P x0 1)] (zSH, I, L, P) Q) ∧
    (∀ (d : Nat) (l0 : Nat) (l1 : Value) (l2 : Value) (x0 : Nat) (h : zMm) (Q : Option Value → zMm → Prop), zWp d zi_93 none 85 [.ref l0, l1, l2] [.ref x0] h Q = zWp d zi_93 none 86 [.ref l0, l1, l2] [.ref l0, .ref x0] h Q) ∧
    (∀ (d : Nat) (l0 : Value) (l1 : Value) (l2 : Value) (x1 : Nat) (x0 : Nat) (I : Nat → Nat → Int32) (L : Nat → Nat → Int64) (P : Nat → Nat → Option Nat) (Q : Option Value → zMm → Prop), zSH[x1]? = some (.inl 9) → zWp d zi_93 none 86 [l0, l1, l2] [.ref x1, .ref x0] (zSH, I, L, P) Q = zWp d zi_93 none 89 [l0, l1, l2] [.int (I x1 14), .ref x0] (zSH, I, L, P) Q) ∧
    (∀ (d : Nat) (l0 : Nat) (l1 : Value) (l2 : Value) (x1 : Int32) (x0 : Nat) (h : zMm) (Q : Option Value → zMm → Prop), zWp d zi_93 none 89 [.ref l0, l1, l2] [.int x1, .ref x0] h Q = zWp d zi_93 none 90 [.ref l0, l1, l2] [.ref l0, .int x1, .ref x0] h Q) ∧
    (∀ (d : Nat) (l0 : Value) (l1 : Value) (l2 : Value) (x2 : Nat) (x1 : Int32) (x0 : Nat) (I : Nat → Nat → Int32) (L : Nat → Nat → Int64) (P : Nat → Nat → Option Nat) (Q : Option Value → zMm → Prop), zSH[x2]? = some (.inl 9) → zWp d zi_93 none 90 [l0, l1, l2] [.ref x2, .int x1, .ref x0] (zSH, I, L, P) Q = zWp d zi_93 none 93 [l0, l1, l2] [.int (I x2 15), .int x1, .ref x0] (zSH, I, L, P) Q) ∧
    (∀ (d : Nat) (l0 : Value) (l1 : Value) (l2 : Value) (x2 : Int32) (x1 : Int32) (x0 : Nat) (I : Nat → Nat → Int32) (L : Nat → Nat → Int64) (P : Nat → Nat → Option Nat) (Q : Option Value → zMm → Prop), zSH[x0]? = some (.inl 8) → zWp d zi_93 none 93 [l0, l1, l2] [.int x2, .int x1, .ref x0] (zSH, I, L, P) Q = zWM d 69 [.ref x0, .int x1, .int x2] (zSH, I, L, P) (fun r h1 => zWp d zi_93 none 96 [l0, l1, l2] (r.toList ++ []) h1 Q)) ∧
    (∀ (d : Nat) (l0 : Value) (l1 : Value) (l2 : Value) (x0 : Int32) (h : zMm) (Q : Option Value → zMm → Prop), zWp d zi_93 none 96 [l0, l1, l2] [.int x0] h Q = zWp d zi_93 none 98 [l0, l1, l2] [.int (-2), .int x0] h Q) ∧
    (∀ (d : Nat) (l0 : Value) (l1 : Value) (l2 : Value) (x1 : Int32) (x0 : Int32) (h : zMm) (Q : Option Value → zMm → Prop), zWp d zi_93 none 98 [l0, l1, l2] [.int x1, .int x0] h Q = if x0 = x1 then zWp d zi_93 none 104 [l0, l1, l2] [] h Q else zWp d zi_93 none 101 [l0, l1, l2] [] h Q) ∧
    (∀ (d : Nat) (l0 : Value) (l1 : Value) (l2 : Value)  (h : zMm) (Q : Option Value → zMm → Prop), zWp d zi_93 none 101 [l0, l1, l2] [] h Q = zWp d zi_93 none 110 [l0, l1, l2] [] h Q) ∧
    (∀ (d : Nat) (l0 : Value) (l1 : Int32) (l2 : Int32)  (h : zMm) (Q : Option Value → zMm → Prop), zWp d zi_93 none 104 [l0, .int l1, .int l2] [] h Q = zWp d zi_93 none 107 [l0, .int l1, .int (l2 + 1)] [] h Q) ∧
    (∀ (d : Nat) (l0 : Value) (l1 : Value) (l2 : Value)  (h : zMm) (Q : Option Value → zMm → Prop), zWp d zi_93 none 107 [l0, l1, l2] [] h Q = zWp d zi_93 none 53 [l0, l1, l2] [] h Q) ∧
    (∀ (d : Nat) (l0 : Value) (l1 : Value) (l2 : Int32)  (h : zMm) (Q : Option Value → zMm → Prop), zWp d zi_93 none 110 [l0, l1, .int l2] [] h Q = zWp d zi_93 none 111 [l0, l1, .int l2] [.int l2] h Q) ∧
    (∀ (d : Nat) (l0 : Value) (l1 : Value) (l2 : Value) (x0 : Int32) (h : zMm) (Q : Option Value → zMm → Prop), zWp d zi_93 none 111 [l0, l1, l2] [.int x0] h Q = Q (some (.int x0)) h) :=
  ⟨(fun d l0 l1 l2  h Q => zr_aload_n rfl rfl),
   (fun d l0 l1 l2 x0 I L P Q p0 => zr_getQ rfl lf_9_10 (fun _ _ _ => rfl) p0),
   (fun d l0 l1 l2 x0 h Q => zr_aload_n rfl rfl),
   (fun d l0 l1 l2 x1 x0 I L P Q p0 => zr_getI rfl lf_9_182 (fun _ _ _ => rfl) p0),
   (fun d l0 l1 l2 x1 x0 h Q => zr_aload_n rfl rfl),
   (fun d l0 l1 l2 x2 x1 x0 I L P Q p0 => zr_getI rfl lf_9_185 (fun _ _ _ => rfl) p0),
   (fun d l0 l1 l2 x2 x1 x0 I L P Q p0 => zr_vir (as := [.int x2, .int x1]) (rest := []) rfl lm_9_224 m_69 kd_69 rfl (Nat.le_of_ble_eq_true rfl) p0),
   (fun d l0 l1 l2 x0 h Q => zr_bipush rfl (by decide)),
   (fun d l0 l1 l2 x1 x0 h Q => zr_ic_eq rfl (by decide)),
   (fun d l0 l1 l2  h Q => zr_iconst rfl (by decide)),
   (fun d l0 l1 l2 x0 h Q => zr_iret rfl rfl),
   (fun d l0 l1 l2  h Q => zr_aload_n rfl rfl),
   (fun d l0 l1 l2 x0 I L P Q p0 => zr_getQ rfl lf_9_43 (fun _ _ _ => rfl) p0),
   (fun d l0 l1 l2 x0 I L P Q p0 => zr_getI rfl lf_9_95 (fun _ _ _ => rfl) p0),
   (fun d l0 l1 l2 x0 h Q => zr_aload_n rfl rfl),
   (fun d l0 l1 l2 x1 x0 I L P Q p0 => zr_getQ rfl lf_9_43 (fun _ _ _ => rfl) p0),
   (fun d l0 l1 l2 x1 x0 I L P Q p0 => zr_getI rfl lf_9_98 (fun _ _ _ => rfl) p0),
   (fun d l0 l1 l2 x1 x0 h Q => zr_iadd rfl),
   (fun d l0 l1 l2 x0 h Q => zr_iconst rfl (by decide)),
   (fun d l0 l1 l2 x1 x0 h Q => zr_idiv rfl),
   (fun d l0 l1 l2 x0 h Q => zr_istore_n (n := 1) rfl (Nat.le_of_ble_eq_true rfl) rfl),
   (fun d l0 l1 l2  h Q => zr_aload_n rfl rfl),
   (fun d l0 l1 l2 x0 I L P Q p0 => zr_getQ rfl lf_9_16 (fun _ _ _ => rfl) p0),
   (fun d l0 l1 l2 x0 h Q => zr_aload_n rfl rfl),
   (fun d l0 l1 l2 x1 x0 I L P Q p0 => zr_getQ rfl lf_9_10 (fun _ _ _ => rfl) p0),
   (fun d l0 l1 l2 x1 x0 I L P Q p0 => zr_vir (as := [.ref x1]) (rest := []) rfl lm_9_237 m_63 kd_63 rfl (Nat.le_of_ble_eq_true rfl) p0),
   (fun d l0 l1 l2  h Q => zr_iconst rfl (by decide)),
   (fun d l0 l1 l2 x0 h Q => zr_istore_n (n := 2) rfl (Nat.le_of_ble_eq_true rfl) rfl),
   (fun d l0 l1 l2 x0 h Q => zr_iload_n rfl rfl),
   (fun d l0 l1 l2 x1 x0 h Q => zr_ic_ge rfl (by decide)),
   (fun d l0 l1 l2  h Q => zr_aload_n rfl rfl),
   (fun d l0 l1 l2 x0 I L P Q p0 => zr_getQ rfl lf_9_16 (fun _ _ _ => rfl) p0),
   (fun d l0 l1 l2 x0 I L P Q p0 => zr_getI rfl lf_9_92 (fun _ _ _ => rfl) p0),
   (fun d l0 l1 l2 x0 h Q => zr_bipush rfl (by decide)),
   (fun d l0 l1 l2 x1 x0 h Q => zr_ic_ge rfl (by decide)),
   (fun d l0 l1 l2  h Q => zr_aload_n rfl rfl),
   (fun d l0 l1 l2 x0 I L P Q p0 => zr_getQ rfl lf_9_16 (fun _ _ _ => rfl) p0),
   (fun d l0 l1 l2 x0 h Q => zr_iconst rfl (by decide)),
   (fun d l0 l1 l2 x1 x0 h Q => zr_iconst rfl (by decide)),
   (fun d l0 l1 l2 x2 x1 x0 h Q => zr_iconst rfl (by decide)),
   (fun d l0 l1 l2 x3 x2 x1 x0 h Q => zr_iconst rfl (by decide)),
   (fun d l0 l1 l2 x4 x3 x2 x1 x0 I L P Q p0 => zr_vir (as := [.int x4, .int x3, .int x2, .int x1]) (rest := []) rfl lm_9_101 m_60 kd_60 rfl (Nat.le_of_ble_eq_true rfl) p0),
   (fun d l0 l1 l2  h Q => zr_aload_n rfl rfl),
   (fun d l0 l1 l2 x0 I L P Q p0 => zr_getQ rfl lf_9_16 (fun _ _ _ => rfl) p0),
   (fun d l0 l1 l2 x0 h Q => zr_aload_n rfl rfl),
   (fun d l0 l1 l2 x1 x0 I L P Q p0 => zr_getI rfl lf_9_182 (fun _ _ _ => rfl) p0),
   (fun d l0 l1 l2 x1 x0 h Q => zr_aload_n rfl rfl),
   (fun d l0 l1 l2 x2 x1 x0 I L P Q p0 => zr_getI rfl lf_9_185 (fun _ _ _ => rfl) p0),
   (fun d l0 l1 l2 x2 x1 x0 I L P Q p0 => zr_vir (as := [.int x2, .int x1]) (rest := []) rfl lm_9_224 m_69 kd_69 rfl (Nat.le_of_ble_eq_true rfl) p0),
   (fun d l0 l1 l2 x0 h Q => zr_bipush rfl (by decide)),
   (fun d l0 l1 l2 x1 x0 h Q => zr_ic_eq rfl (by decide)),
   (fun d l0 l1 l2  h Q => zr_goto rfl (by decide)),
   (fun d l0 l1 l2  h Q => zr_iinc (n := 2) (kc := 1) rfl rfl (Nat.le_of_ble_eq_true rfl) rfl (by decide)),
   (fun d l0 l1 l2  h Q => zr_goto rfl (by decide)),
   (fun d l0 l1 l2  h Q => zr_iload_n rfl rfl),
   (fun d l0 l1 l2 x0 h Q => zr_iret rfl rfl)⟩
theorem H_X9_highest_53 : ∀ (d : Nat) (l0 : Value) (l1 : Value) (l2 : Int32)  (h : zMm) (Q : Option Value → zMm → Prop), zWp d zi_93 none 53 [l0, l1, .int l2] [] h Q = zWp d zi_93 none 54 [l0, l1, .int l2] [.int l2] h Q := fun d l0 l1 l2  h Q => zr_iload_n rfl rfl
theorem E_X9_fuel : ∀ (d : Nat) (a0 : Nat) (a1 : Int32) (a2 : Int32) (h : zMm) (Q : Option Value → zMm → Prop), zWM (d + 1) 94 [.ref a0, .int a1, .int a2] h Q = zWp d zi_94 none 0 [.ref a0, .int a1, .int a2] [] h Q := fun d a0 a1 a2 h Q => zW_M m_94 (Nat.le_of_ble_eq_true rfl) rfl
set_option maxRecDepth 100000 in
theorem R_X9_fuel :
    (∀ (d : Nat) (l0 : Nat) (l1 : Value) (l2 : Value)  (h : zMm) (Q : Option Value → zMm → Prop), zWp d zi_94 none 0 [.ref l0, l1, l2] [] h Q = zWp d zi_94 none 1 [.ref l0, l1, l2] [.ref l0] h Q) ∧
    (∀ (d : Nat) (l0 : Value) (l1 : Value) (l2 : Value) (x0 : Nat) (I : Nat → Nat → Int32) (L : Nat → Nat → Int64) (P : Nat → Nat → Option Nat) (Q : Option Value → zMm → Prop), zSH[x0]? = some (.inl 9) → zWp d zi_94 none 1 [l0, l1, l2] [.ref x0] (zSH, I, L, P) Q = zWp d zi_94 none 4 [l0, l1, l2] [va_rf (P x0 0)] (zSH, I, L, P) Q) ∧
    (∀ (d : Nat) (l0 : Value) (l1 : Int32) (l2 : Value) (x0 : Nat) (h : zMm) (Q : Option Value → zMm → Prop), zWp d zi_94 none 4 [l0, .int l1, l2] [.ref x0] h Q = zWp d zi_94 none 5 [l0, .int l1, l2] [.int l1, .ref x0] h Q) ∧
    (∀ (d : Nat) (l0 : Value) (l1 : Value) (l2 : Value) (x1 : Int32) (x0 : Nat) (I : Nat → Nat → Int32) (L : Nat → Nat → Int64) (P : Nat → Nat → Option Nat) (Q : Option Value → zMm → Prop), zSH[x0]? = some (.inl 8) → zWp d zi_94 none 5 [l0, l1, l2] [.int x1, .ref x0] (zSH, I, L, P) Q = zWM d 59 [.ref x0, .int x1] (zSH, I, L, P) (fun r h1 => zWp d zi_94 none 8 [l0, l1, l2] (r.toList ++ []) h1 Q)) ∧
    (∀ (d : Nat) (l0 : Value) (l1 : Value) (l2 : Value) (x0 : Int32) (h : zMm) (Q : Option Value → zMm → Prop), zWp d zi_94 none 8 [l0, l1, l2] [.int x0] h Q = if x0 = 0 then zWp d zi_94 none 18 [l0, l1, l2] [] h Q else zWp d zi_94 none 11 [l0, l1, l2] [] h Q) ∧
    (∀ (d : Nat) (l0 : Value) (l1 : Value) (l2 : Int32)  (h : zMm) (Q : Option Value → zMm → Prop), zWp d zi_94 none 11 [l0, l1, .int l2] [] h Q = zWp d zi_94 none 12 [l0, l1, .int l2] [.int l2] h Q) ∧
    (∀ (d : Nat) (l0 : Value) (l1 : Value) (l2 : Value) (x0 : Int32) (h : zMm) (Q : Option Value → zMm → Prop), zWp d zi_94 none 12 [l0, l1, l2] [.int x0] h Q = zWM d 13 [.int x0] h (fun r h1 => zWp d zi_94 none 15 [l0, l1, l2] (r.toList ++ []) h1 Q)) ∧
    (∀ (d : Nat) (l0 : Value) (l1 : Value) (l2 : Value) (x0 : Int32) (h : zMm) (Q : Option Value → zMm → Prop), zWp d zi_94 none 15 [l0, l1, l2] [.int x0] h Q = if x0 = 0 then zWp d zi_94 none 18 [l0, l1, l2] [] h Q else zWp d zi_94 none 20 [l0, l1, l2] [] h Q) ∧
    (∀ (d : Nat) (l0 : Value) (l1 : Value) (l2 : Value)  (h : zMm) (Q : Option Value → zMm → Prop), zWp d zi_94 none 18 [l0, l1, l2] [] h Q = zWp d zi_94 none 19 [l0, l1, l2] [.int (-1)] h Q) ∧
    (∀ (d : Nat) (l0 : Value) (l1 : Value) (l2 : Value) (x0 : Int32) (h : zMm) (Q : Option Value → zMm → Prop), zWp d zi_94 none 19 [l0, l1, l2] [.int x0] h Q = Q (some (.int x0)) h) ∧
    (∀ (d : Nat) (l0 : Nat) (l1 : Value) (l2 : Value)  (h : zMm) (Q : Option Value → zMm → Prop), zWp d zi_94 none 20 [.ref l0, l1, l2] [] h Q = zWp d zi_94 none 21 [.ref l0, l1, l2] [.ref l0] h Q) ∧
    (∀ (d : Nat) (l0 : Value) (l1 : Value) (l2 : Value) (x0 : Nat) (I : Nat → Nat → Int32) (L : Nat → Nat → Int64) (P : Nat → Nat → Option Nat) (Q : Option Value → zMm → Prop), zSH[x0]? = some (.inl 9) → zWp d zi_94 none 21 [l0, l1, l2] [.ref x0] (zSH, I, L, P) Q = zWM d 99 [.ref x0] (zSH, I, L, P) (fun r h1 => zWp d zi_94 none 24 [l0, l1, l2] (r.toList ++ []) h1 Q)) ∧
    (∀ (d : Nat) (l0 : Value) (l1 : Value) (l2 : Int32) (x0 : Nat) (h : zMm) (Q : Option Value → zMm → Prop), zWp d zi_94 none 24 [l0, l1, .int l2] [.ref x0] h Q = zWp d zi_94 none 25 [l0, l1, .int l2] [.int l2, .ref x0] h Q) ∧
    (∀ (d : Nat) (l0 : Value) (l1 : Int32) (l2 : Value) (x1 : Int32) (x0 : Nat) (h : zMm) (Q : Option Value → zMm → Prop), zWp d zi_94 none 25 [l0, .int l1, l2] [.int x1, .ref x0] h Q = zWp d zi_94 none 26 [l0, .int l1, l2] [.int l1, .int x1, .ref x0] h Q) ∧
    (∀ (d : Nat) (l0 : Value) (l1 : Value) (l2 : Value) (x2 : Int32) (x1 : Int32) (x0 : Nat) (I : Nat → Nat → Int32) (L : Nat → Nat → Int64) (P : Nat → Nat → Option Nat) (Q : Option Value → zMm → Prop), zSH[x0]? = some (.inl 2) → zWp d zi_94 none 26 [l0, l1, l2] [.int x2, .int x1, .ref x0] (zSH, I, L, P) Q = zWM d 19 [.ref x0, .int x1, .int x2] (zSH, I, L, P) (fun r h1 => zWp d zi_94 none 29 [l0, l1, l2] (r.toList ++ []) h1 Q)) ∧
    (∀ (d : Nat) (l0 : Value) (l1 : Value) (l2 : Value) (x0 : Int32) (h : zMm) (Q : Option Value → zMm → Prop), zWp d zi_94 none 29 [l0, l1, l2] [.int x0] h Q = Q (some (.int x0)) h) :=
  ⟨(fun d l0 l1 l2  h Q => zr_aload_n rfl rfl),
   (fun d l0 l1 l2 x0 I L P Q p0 => zr_getQ rfl lf_9_10 (fun _ _ _ => rfl) p0),
   (fun d l0 l1 l2 x0 h Q => zr_iload_n rfl rfl),
   (fun d l0 l1 l2 x1 x0 I L P Q p0 => zr_vir (as := [.int x1]) (rest := []) rfl lm_9_161 m_59 kd_59 rfl (Nat.le_of_ble_eq_true rfl) p0),
   (fun d l0 l1 l2 x0 h Q => zr_if_eq rfl (by decide)),
   (fun d l0 l1 l2  h Q => zr_iload_n rfl rfl),
   (fun d l0 l1 l2 x0 h Q => zr_sta (as := [.int x0]) (rest := []) rfl lm_9_244 (by decide) m_13 kd_13 rfl (Nat.le_of_ble_eq_true rfl)),
   (fun d l0 l1 l2 x0 h Q => zr_if_ne rfl (by decide)),
   (fun d l0 l1 l2  h Q => zr_iconst rfl (by decide)),
   (fun d l0 l1 l2 x0 h Q => zr_iret rfl rfl),
   (fun d l0 l1 l2  h Q => zr_aload_n rfl rfl),
   (fun d l0 l1 l2 x0 I L P Q p0 => zr_vir (as := []) (rest := []) rfl lm_9_247 m_99 kd_99 rfl (Nat.le_of_ble_eq_true rfl) p0),
   (fun d l0 l1 l2 x0 h Q => zr_iload_n rfl rfl),
   (fun d l0 l1 l2 x1 x0 h Q => zr_iload_n rfl rfl),
   (fun d l0 l1 l2 x2 x1 x0 I L P Q p0 => zr_vir (as := [.int x2, .int x1]) (rest := []) rfl lm_9_251 m_19 kd_19 rfl (Nat.le_of_ble_eq_true rfl) p0),
   (fun d l0 l1 l2 x0 h Q => zr_iret rfl rfl)⟩
theorem E_X9_burns : ∀ (d : Nat) (a0 : Nat) (a1 : Int32) (h : zMm) (Q : Option Value → zMm → Prop), zWM (d + 1) 95 [.ref a0, .int a1] h Q = zWp d zi_95 none 0 [.ref a0, .int a1, .retAddr 0] [] h Q := fun d a0 a1 h Q => zW_M m_95 (Nat.le_of_ble_eq_true rfl) rfl
set_option maxRecDepth 100000 in
theorem R_X9_burns :
    (∀ (d : Nat) (l0 : Value) (l1 : Int32) (l2 : Value)  (h : zMm) (Q : Option Value → zMm → Prop), zWp d zi_95 none 0 [l0, .int l1, l2] [] h Q = zWp d zi_95 none 1 [l0, .int l1, l2] [.int l1] h Q) ∧
    (∀ (d : Nat) (l0 : Value) (l1 : Value) (l2 : Value) (x0 : Int32) (h : zMm) (Q : Option Value → zMm → Prop), zWp d zi_95 none 1 [l0, l1, l2] [.int x0] h Q = if x0 < 0 then zWp d zi_95 none 9 [l0, l1, l2] [] h Q else zWp d zi_95 none 4 [l0, l1, l2] [] h Q) ∧
    (∀ (d : Nat) (l0 : Value) (l1 : Int32) (l2 : Value)  (h : zMm) (Q : Option Value → zMm → Prop), zWp d zi_95 none 4 [l0, .int l1, l2] [] h Q = zWp d zi_95 none 5 [l0, .int l1, l2] [.int l1] h Q) ∧
    (∀ (d : Nat) (l0 : Value) (l1 : Value) (l2 : Value) (x0 : Int32) (h : zMm) (Q : Option Value → zMm → Prop), zWp d zi_95 none 5 [l0, l1, l2] [.int x0] h Q = zWp d zi_95 none 6 [l0, l1, l2] [.int 3, .int x0] h Q) ∧
    (∀ (d : Nat) (l0 : Value) (l1 : Value) (l2 : Value) (x1 : Int32) (x0 : Int32) (h : zMm) (Q : Option Value → zMm → Prop), zWp d zi_95 none 6 [l0, l1, l2] [.int x1, .int x0] h Q = if x0 ≤ x1 then zWp d zi_95 none 11 [l0, l1, l2] [] h Q else zWp d zi_95 none 9 [l0, l1, l2] [] h Q) ∧
    (∀ (d : Nat) (l0 : Value) (l1 : Value) (l2 : Value)  (h : zMm) (Q : Option Value → zMm → Prop), zWp d zi_95 none 9 [l0, l1, l2] [] h Q = zWp d zi_95 none 10 [l0, l1, l2] [.int (-1)] h Q) ∧
    (∀ (d : Nat) (l0 : Value) (l1 : Value) (l2 : Value) (x0 : Int32) (h : zMm) (Q : Option Value → zMm → Prop), zWp d zi_95 none 10 [l0, l1, l2] [.int x0] h Q = Q (some (.int x0)) h) ∧
    (∀ (d : Nat) (l0 : Nat) (l1 : Value) (l2 : Value)  (h : zMm) (Q : Option Value → zMm → Prop), zWp d zi_95 none 11 [.ref l0, l1, l2] [] h Q = zWp d zi_95 none 12 [.ref l0, l1, l2] [.ref l0] h Q) ∧
    (∀ (d : Nat) (l0 : Value) (l1 : Value) (l2 : Value) (x0 : Nat) (I : Nat → Nat → Int32) (L : Nat → Nat → Int64) (P : Nat → Nat → Option Nat) (Q : Option Value → zMm → Prop), zSH[x0]? = some (.inl 9) → zWp d zi_95 none 12 [l0, l1, l2] [.ref x0] (zSH, I, L, P) Q = zWM d 99 [.ref x0] (zSH, I, L, P) (fun r h1 => zWp d zi_95 none 15 [l0, l1, l2] (r.toList ++ []) h1 Q)) ∧
    (∀ (d : Nat) (l0 : Value) (l1 : Int32) (l2 : Value) (x0 : Nat) (h : zMm) (Q : Option Value → zMm → Prop), zWp d zi_95 none 15 [l0, .int l1, l2] [.ref x0] h Q = zWp d zi_95 none 16 [l0, .int l1, .ref x0] [] h Q) ∧
    (∀ (d : Nat) (l0 : Value) (l1 : Int32) (l2 : Value)  (h : zMm) (Q : Option Value → zMm → Prop), zWp d zi_95 none 16 [l0, .int l1, l2] [] h Q = zWp d zi_95 none 17 [l0, .int l1, l2] [.int l1] h Q) ∧
    (∀ (d : Nat) (l0 : Value) (l1 : Value) (l2 : Value) (x0 : Int32) (h : zMm) (Q : Option Value → zMm → Prop), zWp d zi_95 none 17 [l0, l1, l2] [.int x0] h Q = if x0 = 0 then zWp d zi_95 none 44 [l0, l1, l2] [] h Q else if x0 = 1 then zWp d zi_95 none 49 [l0, l1, l2] [] h Q else if x0 = 2 then zWp d zi_95 none 54 [l0, l1, l2] [] h Q else zWp d zi_95 none 59 [l0, l1, l2] [] h Q) ∧
    (∀ (d : Nat) (l0 : Value) (l1 : Value) (l2 : Nat)  (h : zMm) (Q : Option Value → zMm → Prop), zWp d zi_95 none 44 [l0, l1, .ref l2] [] h Q = zWp d zi_95 none 45 [l0, l1, .ref l2] [.ref l2] h Q) ∧
    (∀ (d : Nat) (l0 : Value) (l1 : Value) (l2 : Value) (x0 : Nat) (I : Nat → Nat → Int32) (L : Nat → Nat → Int64) (P : Nat → Nat → Option Nat) (Q : Option Value → zMm → Prop), zSH[x0]? = some (.inl 2) → zWp d zi_95 none 45 [l0, l1, l2] [.ref x0] (zSH, I, L, P) Q = zWp d zi_95 none 48 [l0, l1, l2] [.int (I x0 7)] (zSH, I, L, P) Q) ∧
    (∀ (d : Nat) (l0 : Value) (l1 : Value) (l2 : Value) (x0 : Int32) (h : zMm) (Q : Option Value → zMm → Prop), zWp d zi_95 none 48 [l0, l1, l2] [.int x0] h Q = Q (some (.int x0)) h) ∧
    (∀ (d : Nat) (l0 : Value) (l1 : Value) (l2 : Nat)  (h : zMm) (Q : Option Value → zMm → Prop), zWp d zi_95 none 49 [l0, l1, .ref l2] [] h Q = zWp d zi_95 none 50 [l0, l1, .ref l2] [.ref l2] h Q) ∧
    (∀ (d : Nat) (l0 : Value) (l1 : Value) (l2 : Value) (x0 : Nat) (I : Nat → Nat → Int32) (L : Nat → Nat → Int64) (P : Nat → Nat → Option Nat) (Q : Option Value → zMm → Prop), zSH[x0]? = some (.inl 2) → zWp d zi_95 none 50 [l0, l1, l2] [.ref x0] (zSH, I, L, P) Q = zWp d zi_95 none 53 [l0, l1, l2] [.int (I x0 8)] (zSH, I, L, P) Q) ∧
    (∀ (d : Nat) (l0 : Value) (l1 : Value) (l2 : Value) (x0 : Int32) (h : zMm) (Q : Option Value → zMm → Prop), zWp d zi_95 none 53 [l0, l1, l2] [.int x0] h Q = Q (some (.int x0)) h) ∧
    (∀ (d : Nat) (l0 : Value) (l1 : Value) (l2 : Nat)  (h : zMm) (Q : Option Value → zMm → Prop), zWp d zi_95 none 54 [l0, l1, .ref l2] [] h Q = zWp d zi_95 none 55 [l0, l1, .ref l2] [.ref l2] h Q) ∧
    (∀ (d : Nat) (l0 : Value) (l1 : Value) (l2 : Value) (x0 : Nat) (I : Nat → Nat → Int32) (L : Nat → Nat → Int64) (P : Nat → Nat → Option Nat) (Q : Option Value → zMm → Prop), zSH[x0]? = some (.inl 2) → zWp d zi_95 none 55 [l0, l1, l2] [.ref x0] (zSH, I, L, P) Q = zWp d zi_95 none 58 [l0, l1, l2] [.int (I x0 9)] (zSH, I, L, P) Q) ∧
    (∀ (d : Nat) (l0 : Value) (l1 : Value) (l2 : Value) (x0 : Int32) (h : zMm) (Q : Option Value → zMm → Prop), zWp d zi_95 none 58 [l0, l1, l2] [.int x0] h Q = Q (some (.int x0)) h) ∧
    (∀ (d : Nat) (l0 : Value) (l1 : Value) (l2 : Nat)  (h : zMm) (Q : Option Value → zMm → Prop), zWp d zi_95 none 59 [l0, l1, .ref l2] [] h Q = zWp d zi_95 none 60 [l0, l1, .ref l2] [.ref l2] h Q) ∧
    (∀ (d : Nat) (l0 : Value) (l1 : Value) (l2 : Value) (x0 : Nat) (I : Nat → Nat → Int32) (L : Nat → Nat → Int64) (P : Nat → Nat → Option Nat) (Q : Option Value → zMm → Prop), zSH[x0]? = some (.inl 2) → zWp d zi_95 none 60 [l0, l1, l2] [.ref x0] (zSH, I, L, P) Q = zWp d zi_95 none 63 [l0, l1, l2] [.int (I x0 10)] (zSH, I, L, P) Q) ∧
    (∀ (d : Nat) (l0 : Value) (l1 : Value) (l2 : Value) (x0 : Int32) (h : zMm) (Q : Option Value → zMm → Prop), zWp d zi_95 none 63 [l0, l1, l2] [.int x0] h Q = Q (some (.int x0)) h) :=
  ⟨(fun d l0 l1 l2  h Q => zr_iload_n rfl rfl),
   (fun d l0 l1 l2 x0 h Q => zr_if_lt rfl (by decide)),
   (fun d l0 l1 l2  h Q => zr_iload_n rfl rfl),
   (fun d l0 l1 l2 x0 h Q => zr_iconst rfl (by decide)),
   (fun d l0 l1 l2 x1 x0 h Q => zr_ic_le rfl (by decide)),
   (fun d l0 l1 l2  h Q => zr_iconst rfl (by decide)),
   (fun d l0 l1 l2 x0 h Q => zr_iret rfl rfl),
   (fun d l0 l1 l2  h Q => zr_aload_n rfl rfl),
   (fun d l0 l1 l2 x0 I L P Q p0 => zr_vir (as := []) (rest := []) rfl lm_9_247 m_99 kd_99 rfl (Nat.le_of_ble_eq_true rfl) p0),
   (fun d l0 l1 l2 x0 h Q => zr_astore_n (n := 2) rfl (Nat.le_of_ble_eq_true rfl) rfl),
   (fun d l0 l1 l2  h Q => zr_iload_n rfl rfl),
   (fun d l0 l1 l2 x0 h Q => by
      by_cases e0 : x0 = 0
      · subst e0; rw [if_pos rfl]; exact zr_tabI rfl (by decide) rfl (by decide)
      rw [if_neg e0]
      have n0 : ¬ x0.toInt = 0 := fun z => e0 (Int32.toInt_inj.mp z)
      by_cases e1 : x0 = 1
      · subst e1; rw [if_pos rfl]; exact zr_tabI rfl (by decide) rfl (by decide)
      rw [if_neg e1]
      have n1 : ¬ x0.toInt = 1 := fun z => e1 (Int32.toInt_inj.mp z)
      by_cases e2 : x0 = 2
      · subst e2; rw [if_pos rfl]; exact zr_tabI rfl (by decide) rfl (by decide)
      rw [if_neg e2]
      have n2 : ¬ x0.toInt = 2 := fun z => e2 (Int32.toInt_inj.mp z)
      exact zr_tabD rfl (by omega) (by decide)),
   (fun d l0 l1 l2  h Q => zr_aload_n rfl rfl),
   (fun d l0 l1 l2 x0 I L P Q p0 => zr_getI rfl lf_9_254 (fun _ _ _ => rfl) p0),
   (fun d l0 l1 l2 x0 h Q => zr_iret rfl rfl),
   (fun d l0 l1 l2  h Q => zr_aload_n rfl rfl),
   (fun d l0 l1 l2 x0 I L P Q p0 => zr_getI rfl lf_9_257 (fun _ _ _ => rfl) p0),
   (fun d l0 l1 l2 x0 h Q => zr_iret rfl rfl),
   (fun d l0 l1 l2  h Q => zr_aload_n rfl rfl),
   (fun d l0 l1 l2 x0 I L P Q p0 => zr_getI rfl lf_9_260 (fun _ _ _ => rfl) p0),
   (fun d l0 l1 l2 x0 h Q => zr_iret rfl rfl),
   (fun d l0 l1 l2  h Q => zr_aload_n rfl rfl),
   (fun d l0 l1 l2 x0 I L P Q p0 => zr_getI rfl lf_9_263 (fun _ _ _ => rfl) p0),
   (fun d l0 l1 l2 x0 h Q => zr_iret rfl rfl)⟩
theorem E_X9_heat : ∀ (d : Nat) (a0 : Nat) (a1 : Int32) (a2 : Int32) (h : zMm) (Q : Option Value → zMm → Prop), zWM (d + 1) 96 [.ref a0, .int a1, .int a2] h Q = zWp d zi_96 none 0 [.ref a0, .int a1, .int a2] [] h Q := fun d a0 a1 a2 h Q => zW_M m_96 (Nat.le_of_ble_eq_true rfl) rfl
set_option maxRecDepth 100000 in
theorem R_X9_heat :
    (∀ (d : Nat) (l0 : Nat) (l1 : Value) (l2 : Value)  (h : zMm) (Q : Option Value → zMm → Prop), zWp d zi_96 none 0 [.ref l0, l1, l2] [] h Q = zWp d zi_96 none 1 [.ref l0, l1, l2] [.ref l0] h Q) ∧
    (∀ (d : Nat) (l0 : Value) (l1 : Value) (l2 : Value) (x0 : Nat) (I : Nat → Nat → Int32) (L : Nat → Nat → Int64) (P : Nat → Nat → Option Nat) (Q : Option Value → zMm → Prop), zSH[x0]? = some (.inl 9) → zWp d zi_96 none 1 [l0, l1, l2] [.ref x0] (zSH, I, L, P) Q = zWp d zi_96 none 4 [l0, l1, l2] [va_rf (P x0 2)] (zSH, I, L, P) Q) ∧
    (∀ (d : Nat) (l0 : Value) (l1 : Int32) (l2 : Value) (x0 : Nat) (h : zMm) (Q : Option Value → zMm → Prop), zWp d zi_96 none 4 [l0, .int l1, l2] [.ref x0] h Q = zWp d zi_96 none 5 [l0, .int l1, l2] [.int l1, .ref x0] h Q) ∧
    (∀ (d : Nat) (l0 : Value) (l1 : Value) (l2 : Value) (x1 : Int32) (x0 : Nat) (I : Nat → Nat → Int32) (L : Nat → Nat → Int64) (P : Nat → Nat → Option Nat) (Q : Option Value → zMm → Prop), zSH[x0]? = some (.inl 3) → zWp d zi_96 none 5 [l0, l1, l2] [.int x1, .ref x0] (zSH, I, L, P) Q = zWM d 22 [.ref x0, .int x1] (zSH, I, L, P) (fun r h1 => zWp d zi_96 none 8 [l0, l1, l2] (r.toList ++ []) h1 Q)) ∧
    (∀ (d : Nat) (l0 : Value) (l1 : Value) (l2 : Value) (x0 : Int32) (h : zMm) (Q : Option Value → zMm → Prop), zWp d zi_96 none 8 [l0, l1, l2] [.int x0] h Q = if x0 = 0 then zWp d zi_96 none 18 [l0, l1, l2] [] h Q else zWp d zi_96 none 11 [l0, l1, l2] [] h Q) ∧
    (∀ (d : Nat) (l0 : Value) (l1 : Value) (l2 : Int32)  (h : zMm) (Q : Option Value → zMm → Prop), zWp d zi_96 none 11 [l0, l1, .int l2] [] h Q = zWp d zi_96 none 12 [l0, l1, .int l2] [.int l2] h Q) ∧
    (∀ (d : Nat) (l0 : Value) (l1 : Value) (l2 : Value) (x0 : Int32) (h : zMm) (Q : Option Value → zMm → Prop), zWp d zi_96 none 12 [l0, l1, l2] [.int x0] h Q = zWM d 13 [.int x0] h (fun r h1 => zWp d zi_96 none 15 [l0, l1, l2] (r.toList ++ []) h1 Q)) ∧
    (∀ (d : Nat) (l0 : Value) (l1 : Value) (l2 : Value) (x0 : Int32) (h : zMm) (Q : Option Value → zMm → Prop), zWp d zi_96 none 15 [l0, l1, l2] [.int x0] h Q = if x0 = 0 then zWp d zi_96 none 18 [l0, l1, l2] [] h Q else zWp d zi_96 none 20 [l0, l1, l2] [] h Q) ∧
    (∀ (d : Nat) (l0 : Value) (l1 : Value) (l2 : Value)  (h : zMm) (Q : Option Value → zMm → Prop), zWp d zi_96 none 18 [l0, l1, l2] [] h Q = zWp d zi_96 none 19 [l0, l1, l2] [.int (-1)] h Q) ∧
    (∀ (d : Nat) (l0 : Value) (l1 : Value) (l2 : Value) (x0 : Int32) (h : zMm) (Q : Option Value → zMm → Prop), zWp d zi_96 none 19 [l0, l1, l2] [.int x0] h Q = Q (some (.int x0)) h) ∧
    (∀ (d : Nat) (l0 : Nat) (l1 : Value) (l2 : Value)  (h : zMm) (Q : Option Value → zMm → Prop), zWp d zi_96 none 20 [.ref l0, l1, l2] [] h Q = zWp d zi_96 none 21 [.ref l0, l1, l2] [.ref l0] h Q) ∧
    (∀ (d : Nat) (l0 : Value) (l1 : Value) (l2 : Value) (x0 : Nat) (I : Nat → Nat → Int32) (L : Nat → Nat → Int64) (P : Nat → Nat → Option Nat) (Q : Option Value → zMm → Prop), zSH[x0]? = some (.inl 9) → zWp d zi_96 none 21 [l0, l1, l2] [.ref x0] (zSH, I, L, P) Q = zWp d zi_96 none 24 [l0, l1, l2] [va_rf (P x0 2)] (zSH, I, L, P) Q) ∧
    (∀ (d : Nat) (l0 : Value) (l1 : Int32) (l2 : Value) (x0 : Nat) (h : zMm) (Q : Option Value → zMm → Prop), zWp d zi_96 none 24 [l0, .int l1, l2] [.ref x0] h Q = zWp d zi_96 none 25 [l0, .int l1, l2] [.int l1, .ref x0] h Q) ∧
    (∀ (d : Nat) (l0 : Value) (l1 : Value) (l2 : Int32) (x1 : Int32) (x0 : Nat) (h : zMm) (Q : Option Value → zMm → Prop), zWp d zi_96 none 25 [l0, l1, .int l2] [.int x1, .ref x0] h Q = zWp d zi_96 none 26 [l0, l1, .int l2] [.int l2, .int x1, .ref x0] h Q) ∧
    (∀ (d : Nat) (l0 : Nat) (l1 : Value) (l2 : Value) (x2 : Int32) (x1 : Int32) (x0 : Nat) (h : zMm) (Q : Option Value → zMm → Prop), zWp d zi_96 none 26 [.ref l0, l1, l2] [.int x2, .int x1, .ref x0] h Q = zWp d zi_96 none 27 [.ref l0, l1, l2] [.ref l0, .int x2, .int x1, .ref x0] h Q) ∧
    (∀ (d : Nat) (l0 : Value) (l1 : Value) (l2 : Value) (x3 : Nat) (x2 : Int32) (x1 : Int32) (x0 : Nat) (I : Nat → Nat → Int32) (L : Nat → Nat → Int64) (P : Nat → Nat → Option Nat) (Q : Option Value → zMm → Prop), zSH[x3]? = some (.inl 9) → zWp d zi_96 none 27 [l0, l1, l2] [.ref x3, .int x2, .int x1, .ref x0] (zSH, I, L, P) Q = zWM d 99 [.ref x3] (zSH, I, L, P) (fun r h1 => zWp d zi_96 none 30 [l0, l1, l2] (r.toList ++ [.int x2, .int x1, .ref x0]) h1 Q)) ∧
    (∀ (d : Nat) (l0 : Value) (l1 : Value) (l2 : Value) (x3 : Nat) (x2 : Int32) (x1 : Int32) (x0 : Nat) (I : Nat → Nat → Int32) (L : Nat → Nat → Int64) (P : Nat → Nat → Option Nat) (Q : Option Value → zMm → Prop), zSH[x0]? = some (.inl 3) → zWp d zi_96 none 30 [l0, l1, l2] [.ref x3, .int x2, .int x1, .ref x0] (zSH, I, L, P) Q = zWM d 25 [.ref x0, .int x1, .int x2, .ref x3] (zSH, I, L, P) (fun r h1 => zWp d zi_96 none 33 [l0, l1, l2] (r.toList ++ []) h1 Q)) ∧
    (∀ (d : Nat) (l0 : Value) (l1 : Value) (l2 : Value) (x0 : Int32) (h : zMm) (Q : Option Value → zMm → Prop), zWp d zi_96 none 33 [l0, l1, l2] [.int x0] h Q = Q (some (.int x0)) h) :=
  ⟨(fun d l0 l1 l2  h Q => zr_aload_n rfl rfl),
   (fun d l0 l1 l2 x0 I L P Q p0 => zr_getQ rfl lf_9_22 (fun _ _ _ => rfl) p0),
   (fun d l0 l1 l2 x0 h Q => zr_iload_n rfl rfl),
   (fun d l0 l1 l2 x1 x0 I L P Q p0 => zr_vir (as := [.int x1]) (rest := []) rfl lm_9_167 m_22 kd_22 rfl (Nat.le_of_ble_eq_true rfl) p0),
   (fun d l0 l1 l2 x0 h Q => zr_if_eq rfl (by decide)),
   (fun d l0 l1 l2  h Q => zr_iload_n rfl rfl),
   (fun d l0 l1 l2 x0 h Q => zr_sta (as := [.int x0]) (rest := []) rfl lm_9_244 (by decide) m_13 kd_13 rfl (Nat.le_of_ble_eq_true rfl)),
   (fun d l0 l1 l2 x0 h Q => zr_if_ne rfl (by decide)),
   (fun d l0 l1 l2  h Q => zr_iconst rfl (by decide)),
   (fun d l0 l1 l2 x0 h Q => zr_iret rfl rfl),
   (fun d l0 l1 l2  h Q => zr_aload_n rfl rfl),
   (fun d l0 l1 l2 x0 I L P Q p0 => zr_getQ rfl lf_9_22 (fun _ _ _ => rfl) p0),
   (fun d l0 l1 l2 x0 h Q => zr_iload_n rfl rfl),
   (fun d l0 l1 l2 x1 x0 h Q => zr_iload_n rfl rfl),
   (fun d l0 l1 l2 x2 x1 x0 h Q => zr_aload_n rfl rfl),
   (fun d l0 l1 l2 x3 x2 x1 x0 I L P Q p0 => zr_vir (as := []) (rest := [.int x2, .int x1, .ref x0]) rfl lm_9_247 m_99 kd_99 rfl (Nat.le_of_ble_eq_true rfl) p0),
   (fun d l0 l1 l2 x3 x2 x1 x0 I L P Q p0 => zr_vir (as := [.ref x3, .int x2, .int x1]) (rest := []) rfl lm_9_266 m_25 kd_25 rfl (Nat.le_of_ble_eq_true rfl) p0),
   (fun d l0 l1 l2 x0 h Q => zr_iret rfl rfl)⟩
