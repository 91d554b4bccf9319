/-! THE ABSTRACT MACHINE: cells are numbered as they are made; what they hold lies in three functions (ints, longs, references) -/
def zw {α : Type} (f : Nat → Nat → α) (a : Nat) (g : Nat → α) : Nat → Nat → α := fun x => if x = a then g else f x
theorem zw_s {α : Type} {f : Nat → Nat → α} {a : Nat} {g : Nat → α} : zw f a g a = g := if_pos rfl
theorem zw_n {α : Type} {f : Nat → Nat → α} {a b : Nat} {g : Nat → α} (h : b ≠ a) : zw f a g b = f b := if_neg h
def zfv (ad : Nat → Nat) (t : FieldType) (x : Int32) (y : Int64) (z : Option Nat) : Value := match t with
  | .long => .long y
  | .object _ => va_rf (z.map ad)
  | .array _ => va_rf (z.map ad)
  | _ => .int x
def zlc (la : List Value) (n : Nat) : Value := la.getD n (.retAddr 0)
/-- no long stands just ahead of place n -/
def zok2 (la : List Value) (n : Nat) : Bool := match n with
  | 0 => true
  | k + 1 => (zlc la k).category != 2
def zal (h : zMm) (s : zSh) : zMm := (h.1 ++ [s], zw h.2.1 h.1.length (fun _ => 0), zw h.2.2.1 h.1.length (fun _ => 0), zw h.2.2.2 h.1.length (fun _ => none))
def zal2 (h : zMm) (n k : Nat) : zMm := ((h.1 ++ [.inr (.array .int, n)]) ++ List.replicate n (.inr (.int, k)), fun x => if h.1.length ≤ x then (fun _ => 0) else h.2.1 x, h.2.2.1,
  fun x => if x = h.1.length then (fun i => if i < n then some (h.1.length + 1 + i) else none) else if h.1.length ≤ x then (fun _ => none) else h.2.2.2 x)
def zOWN : Nat → Int32 := fun k => ([1, 10, 11, 2, 20, 0, 0, 0, 0, 30, 0, 0, 0, 41, 40, 0, 0, 0, 50, 0, 0, 0, 0, 60, 70, 0, 0, 0, 0, 80, 0, 81] : List Int32).getD k 0
def zABOVE : Nat → Int32 := fun k => ([-1, 0, 0, 2, 1, 3, 0, 4] : List Int32).getD k 0
/-- arrays that nobody writes: the script (1000000), the two tables -/
def zex (scr : Option (Nat × (Nat → Int32))) (a : Nat) : Option (Nat × (Nat → Int32)) := if a = 1000000 then scr else if a = 1000001 then some (32, zOWN) else if a = 1000002 then some (8, zABOVE) else none
def zini (q : zInfo) : Bool := q.1.name == "<init>"
def zcat (st : List Value) : Nat := (st.map fun v => v.category).sum
section ZS
variable (cal : Nat → List Value → zMm → zRes) (q : zInfo) (scr : Option (Nat × (Nat → Int32))) (ih : Nat → List Value → List Value → zMm → zRes)
def zgo (pc : Nat) (off : Int) (la st : List Value) (h : zMm) : zRes := if (pc : Int) + off < 0 then none else ih ((pc : Int) + off).toNat la st h
def zbr (c : Bool) (pc : Nat) (off : Int) (la st : List Value) (h : zMm) : zRes := if (pc : Int) + off < 0 then none else if c = true then ih ((pc : Int) + off).toNat la st h else ih (pc + 3) la st h
def zcond (c : Jvm.ClassFile.Cond) (x y : Int32) : Bool := match c with
  | .eq => decide (x = y)
  | .ne => decide (¬ x = y)
  | .lt => decide (x < y)
  | .ge => decide (y ≤ x)
  | .gt => decide (y < x)
  | .le => decide (x ≤ y)
def zbin (i : Instr) (x y : Int32) : Option Int32 := match i with
  | .iadd => some (x + y)
  | .isub => some (x - y)
  | .imul => some (x * y)
  | .idiv => if y = 0 then none else some (x / y)
  | .irem => if y = 0 then none else some (x - x / y * y)
  | .iand => some (x &&& y)
  | .ior => some (x ||| y)
  | .ixor => some (x ^^^ y)
  | .ishl => some (x <<< (y &&& 31))
  | .ishr => some (x >>> (y &&& 31))
  | .iushr => some ((x.toUInt32 >>> (y.toUInt32 &&& Int32.toUInt32 31)).toInt32)
  | _ => none
def zdoBin (i : Instr) (pc : Nat) (la st : List Value) (h : zMm) : zRes := match st with
  | .int y :: .int x :: r => match zbin i x y with
    | some v => ih (pc + 1) la (.int v :: r) h
    | none => none
  | _ => none
def zdoLoad (k : Nat) (n pc : Nat) (la st : List Value) (h : zMm) : zRes := match k, zlc la n with
  | 0, .int x => ih pc la (.int x :: st) h
  | 1, .long x => ih pc la (.long x :: st) h
  | 2, .ref x => ih pc la (.ref x :: st) h
  | _, _ => none
def zdoStore (k : Nat) (n pc : Nat) (la st : List Value) (h : zMm) : zRes := match k, st with
  | 0, .int x :: r => if n < la.length ∧ zok2 la n = true then ih pc (la.set n (.int x)) r h else none
  | 2, .ref x :: r => if n < la.length ∧ zok2 la n = true then ih pc (la.set n (.ref x)) r h else none
  | _, _ => none
def zdoGet (idx pc : Nat) (la st : List Value) (h : zMm) : zRes := match zlk zLFs q.2.2.2.2.1 idx, st with
  | some (ci, k), .ref a :: r => if h.1[a]? = some (.inl ci) then ih (pc + 3) la (zfv id (zFt ci k) (h.2.1 a k) (h.2.2.1 a k) (h.2.2.2 a k) :: r) h else none
  | _, _ => none
def zdoPut (idx pc : Nat) (la st : List Value) (h : zMm) : zRes := match zlk zLFs q.2.2.2.2.1 idx with
  | some (ci, k) => if (zTf ci k).2.2.2 = true ∧ ¬ (zini q = true ∧ ci = q.2.2.2.2.1) then none else match zFt ci k, st with
    | .int, .int v :: .ref a :: r => if h.1[a]? = some (.inl ci) then ih (pc + 3) la r (h.1, zw h.2.1 a (upd (h.2.1 a) k v), h.2.2.1, h.2.2.2) else none
    | .boolean, .int v :: .ref a :: r => if h.1[a]? = some (.inl ci) ∧ (v = 0 ∨ v = 1) then ih (pc + 3) la r (h.1, zw h.2.1 a (upd (h.2.1 a) k v), h.2.2.1, h.2.2.2) else none
    | .object _, .ref v :: .ref a :: r => if h.1[a]? = some (.inl ci) then ih (pc + 3) la r (h.1, h.2.1, h.2.2.1, zw h.2.2.2 a (va_up (h.2.2.2 a) k (some v))) else none
    | .array _, .ref v :: .ref a :: r => if h.1[a]? = some (.inl ci) then ih (pc + 3) la r (h.1, h.2.1, h.2.2.1, zw h.2.2.2 a (va_up (h.2.2.2 a) k (some v))) else none
    | _, _ => none
  | none => none
def zdoAld (pc : Nat) (la st : List Value) (h : zMm) : zRes := match st with
  | .int i :: .ref a :: r => match h.1[a]? with
    | some (.inr (.int, n)) => if i < 0 ∨ n ≤ i.toNatClampNeg then none else ih (pc + 1) la (.int (h.2.1 a i.toNatClampNeg) :: r) h
    | some _ => none
    | none => match zex scr a with
      | some (n, f) => if i < 0 ∨ n ≤ i.toNatClampNeg then none else ih (pc + 1) la (.int (f i.toNatClampNeg) :: r) h
      | none => none
  | _ => none
def zdoLld (pc : Nat) (la st : List Value) (h : zMm) : zRes := match st with
  | .int i :: .ref a :: r => match h.1[a]? with
    | some (.inr (.long, n)) => if i < 0 ∨ n ≤ i.toNatClampNeg then none else ih (pc + 1) la (.long (h.2.2.1 a i.toNatClampNeg) :: r) h
    | _ => none
  | _ => none
def zdoQld (pc : Nat) (la st : List Value) (h : zMm) : zRes := match st with
  | .int i :: .ref a :: r => match h.1[a]? with
    | some (.inr (.object _, n)) => if i < 0 ∨ n ≤ i.toNatClampNeg then none else ih (pc + 1) la (va_rf (h.2.2.2 a i.toNatClampNeg) :: r) h
    | some (.inr (.array _, n)) => if i < 0 ∨ n ≤ i.toNatClampNeg then none else ih (pc + 1) la (va_rf (h.2.2.2 a i.toNatClampNeg) :: r) h
    | _ => none
  | _ => none
def zdoAst (pc : Nat) (la st : List Value) (h : zMm) : zRes := match st with
  | .int v :: .int i :: .ref a :: r => match h.1[a]? with
    | some (.inr (.int, n)) => if i < 0 ∨ n ≤ i.toNatClampNeg then none else ih (pc + 1) la r (h.1, zw h.2.1 a (upd (h.2.1 a) i.toNatClampNeg v), h.2.2.1, h.2.2.2)
    | _ => none
  | _ => none
def zdoLst (pc : Nat) (la st : List Value) (h : zMm) : zRes := match st with
  | .long v :: .int i :: .ref a :: r => match h.1[a]? with
    | some (.inr (.long, n)) => if i < 0 ∨ n ≤ i.toNatClampNeg then none else ih (pc + 1) la r (h.1, h.2.1, zw h.2.2.1 a (vp_updL (h.2.2.1 a) i.toNatClampNeg v), h.2.2.2)
    | _ => none
  | _ => none
def zdoQst (pc : Nat) (la st : List Value) (h : zMm) : zRes := match st with
  | .ref v :: .int i :: .ref a :: r => match h.1[a]?, h.1[v]? with
    | some (.inr (.object C, n)), some (.inl ci) => if i < 0 ∨ n ≤ i.toNatClampNeg ∨ ¬ C = zNm ci ∨ 11 ≤ ci then none else ih (pc + 1) la r (h.1, h.2.1, h.2.2.1, zw h.2.2.2 a (va_up (h.2.2.2 a) i.toNatClampNeg (some v)))
    | _, _ => none
  | _ => none
def zdoLen (pc : Nat) (la st : List Value) (h : zMm) : zRes := match st with
  | .ref a :: r => match h.1[a]? with
    | some (.inr (_, n)) => ih (pc + 1) la (.int (Int32.ofNat n) :: r) h
    | some _ => none
    | none => match zex scr a with
      | some (n, _) => ih (pc + 1) la (.int (Int32.ofNat n) :: r) h
      | none => none
  | _ => none
def zdoNewa (t : ArrayType) (pc : Nat) (la st : List Value) (h : zMm) : zRes := match t, st with
  | .int, .int n :: r => if n < 0 ∨ 10000 < n.toNatClampNeg ∨ 500 < h.1.length then none else ih (pc + 2) la (.ref h.1.length :: r) (zal h (.inr (.int, n.toNatClampNeg)))
  | .long, .int n :: r => if n < 0 ∨ 10000 < n.toNatClampNeg ∨ 500 < h.1.length then none else ih (pc + 2) la (.ref h.1.length :: r) (zal h (.inr (.long, n.toNatClampNeg)))
  | _, _ => none
def zdoNewq (idx pc : Nat) (la st : List Value) (h : zMm) : zRes := match zlk zLNs q.2.2.2.2.1 idx, st with
  | some ci, .int n :: r => if n < 0 ∨ 10000 < n.toNatClampNeg ∨ 500 < h.1.length ∨ ¬ ci = 6 then none else ih (pc + 3) la (.ref h.1.length :: r) (zal h (.inr (.object (zNm ci), n.toNatClampNeg)))
  | _, _ => none
def zdoNew2 (idx pc : Nat) (la st : List Value) (h : zMm) : zRes := match zlk zL2s q.2.2.2.2.1 idx, st with
  | some _, .int k :: .int n :: r => if n < 0 ∨ k < 0 ∨ 50 < n.toNatClampNeg ∨ 10000 < k.toNatClampNeg ∨ 500 < h.1.length then none else ih (pc + 4) la (.ref h.1.length :: r) (zal2 h n.toNatClampNeg k.toNatClampNeg)
  | _, _ => none
def zdoNew (idx pc : Nat) (la st : List Value) (h : zMm) : zRes := match zlk zLNs q.2.2.2.2.1 idx with
  | some ci => if 500 < h.1.length then none else ih (pc + 3) la (.ref h.1.length :: st) (zal h (.inl ci))
  | none => none
/-- a call of an own method: As its arguments, rest what stays; kind 0 static, 1 virtual, 2 <init> -/
def zdoCall (kind M pc : Nat) (la st : List Value) (h : zMm) : zRes := match zM M with
  | none => none
  | some y => if st.length < y.2.2.2.2.2.1 ∨ ¬ zkds[M]? = some kind then none else
    if kind = 0 then
      if 8 < zcat (st.drop y.2.2.2.2.2.1) then none else match cal M (st.take y.2.2.2.2.2.1).reverse h with
      | some (v, h1) => ih (pc + 3) la (v.toList ++ st.drop y.2.2.2.2.2.1) h1
      | none => none
    else match st.drop y.2.2.2.2.2.1 with
    | .ref b :: rest => if 8 < zcat rest ∨ (kind = 1 ∧ ¬ h.1[b]? = some (.inl y.2.2.2.2.1)) then none else match cal M (.ref b :: (st.take y.2.2.2.2.2.1).reverse) h with
      | some (v, h1) => ih (pc + 3) la (v.toList ++ rest) h1
      | none => none
    | _ => none
def zdoCpy (pc : Nat) (la st : List Value) (h : zMm) : zRes := match st with
  | .int n :: .int dp :: .ref b :: .int sp :: .ref a :: r => if sp < 0 ∨ dp < 0 ∨ n < 0 ∨ 8 < zcat r then none else match h.1[a]?, h.1[b]? with
    | some (.inr (.int, n0)), some (.inr (.int, n1)) => if sp.toNatClampNeg + n.toNatClampNeg ≤ n0 ∧ dp.toNatClampNeg + n.toNatClampNeg ≤ n1 then ih (pc + 3) la r (h.1, zw h.2.1 b (va_cpy (h.2.1 a) (h.2.1 b) sp.toNatClampNeg dp.toNatClampNeg n.toNatClampNeg), h.2.2.1, h.2.2.2) else none
    | some (.inr (.long, n0)), some (.inr (.long, n1)) => if sp.toNatClampNeg + n.toNatClampNeg ≤ n0 ∧ dp.toNatClampNeg + n.toNatClampNeg ≤ n1 then ih (pc + 3) la r (h.1, h.2.1, zw h.2.2.1 b (va_cpy (h.2.2.1 a) (h.2.2.1 b) sp.toNatClampNeg dp.toNatClampNeg n.toNatClampNeg), h.2.2.2) else none
    | _, _ => none
  | _ => none
def zdoSta (idx pc : Nat) (la st : List Value) (h : zMm) : zRes := match zlk zLMs q.2.2.2.2.1 idx with
  | none => none
  | some M => match M, st with
    | 900, .int y :: .int x :: r => if 8 < zcat r then none else ih (pc + 3) la (.int (if x < y then y else x) :: r) h
    | 901, .int y :: .int x :: r => if 8 < zcat r then none else ih (pc + 3) la (.int (if y < x then y else x) :: r) h
    | 902, .int x :: r => if 8 < zcat r then none else ih (pc + 3) la (.int (if 0 ≤ x then x else 0 - x) :: r) h
    | 903, st => zdoCpy ih pc la st h
    | M, st => zdoCall cal ih 0 M pc la st h
def zdoVir (idx pc : Nat) (la st : List Value) (h : zMm) : zRes := match zlk zLMs q.2.2.2.2.1 idx with
  | none => none
  | some M => zdoCall cal ih 1 M pc la st h
def zdoSpe (idx pc : Nat) (la st : List Value) (h : zMm) : zRes := match zlk zLMs q.2.2.2.2.1 idx with
  | none => none
  | some M => if M = 999 then (match st with
    | .ref _ :: r => if 8 < zcat r then none else ih (pc + 3) la r h
    | _ => none) else zdoCall cal ih 2 M pc la st h
def zdoTab (d lo hi : Int) (offs : Array Int) (pc : Nat) (la st : List Value) (h : zMm) : zRes := match st with
  | .int x :: r => if x.toInt < lo ∨ hi < x.toInt then zgo ih pc d la r h else match offs[(x.toInt - lo).toNat]? with
    | some off => zgo ih pc off la r h
    | none => none
  | _ => none
def zstep (pc : Nat) (la st : List Value) (h : zMm) : zRes := match q.2.2.2.2.2.2.lookup pc with
  | none => none
  | some i => match i with
    | .aload n => zdoLoad ih 2 n (pc + 2) la st h
    | .aload_n n => zdoLoad ih 2 n.val (pc + 1) la st h
    | .iload n => zdoLoad ih 0 n (pc + 2) la st h
    | .iload_n n => zdoLoad ih 0 n.val (pc + 1) la st h
    | .lload n => zdoLoad ih 1 n (pc + 2) la st h
    | .lload_n n => zdoLoad ih 1 n.val (pc + 1) la st h
    | .istore n => zdoStore ih 0 n (pc + 2) la st h
    | .istore_n n => zdoStore ih 0 n.val (pc + 1) la st h
    | .astore n => zdoStore ih 2 n (pc + 2) la st h
    | .astore_n n => zdoStore ih 2 n.val (pc + 1) la st h
    | .iinc n k => match zlc la n with
      | .int x => if n < la.length ∧ zok2 la n = true then ih (pc + 3) (la.set n (.int (x + Int32.ofInt k))) st h else none
      | _ => none
    | .iconst n => ih (pc + 1) la (.int (Int32.ofInt n) :: st) h
    | .bipush n => ih (pc + 2) la (.int (Int8.ofInt n).toInt32 :: st) h
    | .sipush n => ih (pc + 3) la (.int (Int16.ofInt n).toInt32 :: st) h
    | .lconst n => ih (pc + 1) la (.long (Int64.ofNat n.val) :: st) h
    | .ldc idx => match zlk zLKs q.2.2.2.2.1 idx with
      | some v => ih (pc + 2) la (.int v :: st) h
      | none => none
    | .ldc_w idx => match zlk zLKs q.2.2.2.2.1 idx with
      | some v => ih (pc + 3) la (.int v :: st) h
      | none => none
    | .ldc2_w idx => match zlk zLJs q.2.2.2.2.1 idx with
      | some v => ih (pc + 3) la (.long v :: st) h
      | none => none
    | .iadd => zdoBin ih .iadd pc la st h
    | .isub => zdoBin ih .isub pc la st h
    | .imul => zdoBin ih .imul pc la st h
    | .idiv => zdoBin ih .idiv pc la st h
    | .irem => zdoBin ih .irem pc la st h
    | .iand => zdoBin ih .iand pc la st h
    | .ior => zdoBin ih .ior pc la st h
    | .ixor => zdoBin ih .ixor pc la st h
    | .ishl => zdoBin ih .ishl pc la st h
    | .ishr => zdoBin ih .ishr pc la st h
    | .iushr => zdoBin ih .iushr pc la st h
    | .ineg => match st with
      | .int x :: r => ih (pc + 1) la (.int (-x) :: r) h
      | _ => none
    | .i2l => match st with
      | .int x :: r => ih (pc + 1) la (.long x.toInt64 :: r) h
      | _ => none
    | .l2i => match st with
      | .long x :: r => ih (pc + 1) la (.int x.toInt32 :: r) h
      | _ => none
    | .i2b => match st with
      | .int x :: r => ih (pc + 1) la (.int x.toInt8.toInt32 :: r) h
      | _ => none
    | .i2s => match st with
      | .int x :: r => ih (pc + 1) la (.int x.toInt16.toInt32 :: r) h
      | _ => none
    | .land => match st with
      | .long y :: .long x :: r => ih (pc + 1) la (.long (x &&& y) :: r) h
      | _ => none
    | .lor => match st with
      | .long y :: .long x :: r => ih (pc + 1) la (.long (x ||| y) :: r) h
      | _ => none
    | .lshl => match st with
      | .int y :: .long x :: r => ih (pc + 1) la (.long (x <<< (y.toInt64 &&& 63)) :: r) h
      | _ => none
    | .lcmp => match st with
      | .long y :: .long x :: r => ih (pc + 1) la (.int (lg_cmp x y) :: r) h
      | _ => none
    | .dup => match st with
      | v :: r => if v.category = 1 then ih (pc + 1) la (v :: v :: r) h else none
      | _ => none
    | .dup_x1 => match st with
      | v :: w :: r => if v.category = 1 ∧ w.category = 1 then ih (pc + 1) la (v :: w :: v :: r) h else none
      | _ => none
    | .dup2 => match st with
      | v :: w :: r => if v.category = 1 ∧ w.category = 1 then ih (pc + 1) la (v :: w :: v :: w :: r) h else none
      | _ => none
    | .goto off => zgo ih pc off la st h
    | .ifCond c off => match st with
      | .int x :: r => zbr ih (zcond c x 0) pc off la r h
      | _ => none
    | .if_icmp c off => match st with
      | .int y :: .int x :: r => zbr ih (zcond c x y) pc off la r h
      | _ => none
    | .tableswitch d lo hi offs => zdoTab ih d lo hi offs pc la st h
    | .lookupswitch d ps => match st with
      | .int x :: r => if (ps.toList.zip (ps.toList.drop 1)).all (fun (a, next) => a.1 < next.1) = true then zgo ih pc (Op.lookupswitch.offset ps.toList d x.toInt) la r h else none
      | _ => none
    | .getfield idx => zdoGet q ih idx pc la st h
    | .putfield idx => zdoPut q ih idx pc la st h
    | .getstatic idx => match zlk zLGs q.2.2.2.2.1 idx with
      | some a => ih (pc + 3) la (.ref a :: st) h
      | none => none
    | .iaload => zdoAld scr ih pc la st h
    | .laload => zdoLld ih pc la st h
    | .aaload => zdoQld ih pc la st h
    | .iastore => zdoAst ih pc la st h
    | .lastore => zdoLst ih pc la st h
    | .aastore => zdoQst ih pc la st h
    | .arraylength => zdoLen scr ih pc la st h
    | .newarray t => zdoNewa ih t pc la st h
    | .anewarray idx => zdoNewq q ih idx pc la st h
    | .multianewarray idx d => if d = 2 then zdoNew2 q ih idx pc la st h else none
    | .new idx => zdoNew q ih idx pc la st h
    | .invokespecial idx => zdoSpe cal q ih idx pc la st h
    | .invokestatic idx => zdoSta cal q ih idx pc la st h
    | .invokevirtual idx => zdoVir cal q ih idx pc la st h
    | .ireturn => match st with
      | [.int v] => if q.2.2.2.1 = some .int ∨ (q.2.2.2.1 = some .boolean ∧ (v = 0 ∨ v = 1)) then some (some (.int v), h) else none
      | _ => none
    | .lreturn => match st with
      | [.long v] => if q.2.2.2.1 = some .long then some (some (.long v), h) else none
      | _ => none
    | .areturn => match st with
      | [.ref v] => if (match q.2.2.2.1 with | some (.object _) => true | _ => false) = true then some (some (.ref v), h) else none
      | _ => none
    | .return_ => match st with
      | [] => if q.2.2.2.1 = none then some (none, h) else none
      | _ => none
    | _ => none
end ZS
def zrun (cal : Nat → List Value → zMm → zRes) (q : zInfo) (scr : Option (Nat × (Nat → Int32))) (n : Nat) : Nat → List Value → List Value → zMm → zRes :=
  Nat.rec (fun _ _ _ _ => none) (fun _ ih => zstep cal q scr ih) n
/-- the locals at a method's entry -/
def zent (q : zInfo) (vs : List Value) : List Value := (vs.flatMap fun v => if v.category = 2 then [v, .retAddr 0] else [v]) ++ List.replicate (q.2.2.1 - (vs.flatMap fun v => if v.category = 2 then [v, .retAddr 0] else [v]).length) (.retAddr 0)
/-- method M at depth d; f steps at most in each body -/
def zrunM (f : Nat) (d : Nat) : Nat → List Value → zMm → zRes :=
  Nat.rec (fun _ _ _ => none) (fun _ cal M vs h => match zM M with
    | none => none
    | some q => if (vs.flatMap fun v => if v.category = 2 then [v, .retAddr 0] else [v]).length ≤ q.2.2.1 then zrun cal q none f 0 (zent q vs) [] h else none) d
theorem zrun_0 {cal q scr pc la st h} : zrun cal q scr 0 pc la st h = none := rfl
theorem zrun_s {cal q scr n pc la st h} : zrun cal q scr (n + 1) pc la st h = zstep cal q scr (zrun cal q scr n) pc la st h := rfl
