/-! what a program decides of the tables -/
def zisw (i : Instr) : Bool := match i with
  | .tableswitch .. => true
  | .lookupswitch .. => true
  | _ => false
def zlen (i : Instr) : Nat := match i with
  | .aload _ | .iload _ | .lload _ | .istore _ | .astore _ | .bipush _ | .ldc _ | .newarray _ => 2
  | .iinc _ _ | .sipush _ | .ldc_w _ | .ldc2_w _ | .goto _ | .ifCond _ _ | .if_icmp _ _ | .getfield _ | .putfield _ | .getstatic _ | .anewarray _ | .new _ | .invokespecial _ | .invokestatic _ | .invokevirtual _ => 3
  | .multianewarray _ _ => 4
  | _ => 1
def zgl (b : ByteArray) (L : List (Nat × Instr)) : Bool := L.all fun x => match decode b x.1 with
  | .ok (i, k) => decide (i = x.2) && (k == zlen i || zisw i)
  | _ => false
def zgoodb (q : zInfo) : Bool := zgl q.2.1 q.2.2.2.2.2.2
theorem zgl_app {b : ByteArray} {L M : List (Nat × Instr)} (h1 : zgl b L = true) (h2 : zgl b M = true) : zgl b (L ++ M) = true := by
  unfold zgl at *
  rw [List.all_append, h1, h2]
  rfl
def zTB : List Cond := lw_tbl.filter goodWord
theorem zTB_good : GoodIn zTB zTB := fun w hw => ⟨hw, good_of_word (List.mem_filter.mp hw).2⟩
theorem zTB_in {w : Cond} (h : w ∈ zTB) : w ∈ lw_tbl := (List.mem_filter.mp h).1
theorem zTB_of {w : Cond} (h : w ∈ tables_1) (g : goodWord w = true) : w ∈ zTB := List.mem_filter.mpr ⟨List.mem_append_right _ h, g⟩
theorem zb1 {w : Cond} (i : Nat) (h : tables_1_1[i]? = some w) (g : goodWord w = true) : w ∈ zTB := zTB_of (List.mem_append_left _ (List.mem_of_getElem? h)) g
theorem zb2 {w : Cond} (i : Nat) (h : tables_1_2[i]? = some w) (g : goodWord w = true) : w ∈ zTB := zTB_of (List.mem_append_right _ (List.mem_append_left _ (List.mem_of_getElem? h))) g
theorem zb3 {w : Cond} (i : Nat) (h : tables_1_3[i]? = some w) (g : goodWord w = true) : w ∈ zTB := zTB_of (List.mem_append_right _ (List.mem_append_right _ (List.mem_append_left _ (List.mem_of_getElem? h)))) g
theorem zb4 {w : Cond} (i : Nat) (h : tables_1_4[i]? = some w) (g : goodWord w = true) : w ∈ zTB := zTB_of (List.mem_append_right _ (List.mem_append_right _ (List.mem_append_right _ (List.mem_append_left _ (List.mem_of_getElem? h))))) g
theorem zb5 {w : Cond} (i : Nat) (h : tables_1_5[i]? = some w) (g : goodWord w = true) : w ∈ zTB := zTB_of (List.mem_append_right _ (List.mem_append_right _ (List.mem_append_right _ (List.mem_append_right _ (List.mem_append_left _ (List.mem_of_getElem? h)))))) g
theorem zb6 {w : Cond} (i : Nat) (h : tables_1_6[i]? = some w) (g : goodWord w = true) : w ∈ zTB := zTB_of (List.mem_append_right _ (List.mem_append_right _ (List.mem_append_right _ (List.mem_append_right _ (List.mem_append_right _ ((List.mem_of_getElem? h))))))) g
theorem zc1 {w : Cond} (i : Nat) (h : (lw_privs_1[i]?).map (fun q => Cond.selects q.1.cls q.1 q.1) = some w) (g : goodWord w = true) : w ∈ zTB := by
  obtain ⟨q, hq, he⟩ := Option.map_eq_some_iff.mp h
  subst he
  exact List.mem_filter.mpr ⟨List.mem_append_left _ (List.mem_map.mpr ⟨q, (by have h := hq; exact List.mem_append_left _ (List.mem_of_getElem? h)), rfl⟩), g⟩
theorem zc2 {w : Cond} (i : Nat) (h : (lw_privs_2[i]?).map (fun q => Cond.selects q.1.cls q.1 q.1) = some w) (g : goodWord w = true) : w ∈ zTB := by
  obtain ⟨q, hq, he⟩ := Option.map_eq_some_iff.mp h
  subst he
  exact List.mem_filter.mpr ⟨List.mem_append_left _ (List.mem_map.mpr ⟨q, (by have h := hq; exact List.mem_append_right _ (List.mem_append_left _ (List.mem_of_getElem? h))), rfl⟩), g⟩
theorem zc3 {w : Cond} (i : Nat) (h : (lw_privs_3[i]?).map (fun q => Cond.selects q.1.cls q.1 q.1) = some w) (g : goodWord w = true) : w ∈ zTB := by
  obtain ⟨q, hq, he⟩ := Option.map_eq_some_iff.mp h
  subst he
  exact List.mem_filter.mpr ⟨List.mem_append_left _ (List.mem_map.mpr ⟨q, (by have h := hq; exact List.mem_append_right _ (List.mem_append_right _ (List.mem_append_left _ (List.mem_of_getElem? h)))), rfl⟩), g⟩
theorem zc4 {w : Cond} (i : Nat) (h : (lw_privs_4[i]?).map (fun q => Cond.selects q.1.cls q.1 q.1) = some w) (g : goodWord w = true) : w ∈ zTB := by
  obtain ⟨q, hq, he⟩ := Option.map_eq_some_iff.mp h
  subst he
  exact List.mem_filter.mpr ⟨List.mem_append_left _ (List.mem_map.mpr ⟨q, (by have h := hq; exact List.mem_append_right _ (List.mem_append_right _ (List.mem_append_right _ (List.mem_append_left _ (List.mem_of_getElem? h))))), rfl⟩), g⟩
theorem zc5 {w : Cond} (i : Nat) (h : (lw_privs_5[i]?).map (fun q => Cond.selects q.1.cls q.1 q.1) = some w) (g : goodWord w = true) : w ∈ zTB := by
  obtain ⟨q, hq, he⟩ := Option.map_eq_some_iff.mp h
  subst he
  exact List.mem_filter.mpr ⟨List.mem_append_left _ (List.mem_map.mpr ⟨q, (by have h := hq; exact List.mem_append_right _ (List.mem_append_right _ (List.mem_append_right _ (List.mem_append_right _ ((List.mem_of_getElem? h)))))), rfl⟩), g⟩
def zmP (q : zInfo) : Prop := .code q.1 q.2.1 q.2.2.1 q.2.2.2.1 ∈ zTB ∧ .initialized q.1.cls ∈ zTB ∧ q.1.cls = zNm q.2.2.2.2.1 ∧ (parseMethodDescriptor q.1.desc).map (fun d => d.parameters.length) = some q.2.2.2.2.2.1 ∧ q.2.2.1 ≤ 40 ∧ plainName q.1.cls = true ∧ (q.1.cls ≠ "java/lang/invoke/MethodHandle" ∧ q.1.cls ≠ "java/lang/invoke/VarHandle")
def zkP (q : zInfo) (k : Nat) : Prop := match k with
  | 0 => .static q.1 ∈ zTB
  | 1 => .instanceMethod q.1 ∈ zTB ∧ .selects q.1.cls q.1 q.1 ∈ zTB
  | _ => .instanceMethod q.1 ∈ zTB ∧ q.1.name = "<init>" ∧ q.2.2.2.1 = none
theorem zg_0 : zgoodb zi_0 = true := by decide +kernel
theorem zp_0 : zmP zi_0 := ⟨zb1 211 rfl rfl, zb1 8 rfl rfl, rfl, by decide +kernel, by decide, by decide +kernel, by decide +kernel, by decide +kernel⟩
theorem zk_0 : zkP zi_0 2 := ⟨zb1 210 rfl rfl, rfl, rfl⟩
theorem zg_1 : zgoodb zi_1 = true := by decide +kernel
theorem zp_1 : zmP zi_1 := ⟨zb4 20 rfl rfl, zb1 8 rfl rfl, rfl, by decide +kernel, by decide, by decide +kernel, by decide +kernel, by decide +kernel⟩
theorem zk_1 : zkP zi_1 1 := ⟨zb4 18 rfl rfl, zb4 19 rfl rfl⟩
theorem zg_2 : zgoodb zi_2 = true := by decide +kernel
theorem zp_2 : zmP zi_2 := ⟨zb4 83 rfl rfl, zb1 8 rfl rfl, rfl, by decide +kernel, by decide, by decide +kernel, by decide +kernel, by decide +kernel⟩
theorem zk_2 : zkP zi_2 0 := zb4 82 rfl rfl
theorem zg_3 : zgoodb zi_3 = true := by decide +kernel
theorem zp_3 : zmP zi_3 := ⟨zb4 24 rfl rfl, zb1 8 rfl rfl, rfl, by decide +kernel, by decide, by decide +kernel, by decide +kernel, by decide +kernel⟩
theorem zk_3 : zkP zi_3 1 := ⟨zb4 22 rfl rfl, zb4 23 rfl rfl⟩
theorem zg_4 : zgoodb zi_4 = true := by decide +kernel
theorem zp_4 : zmP zi_4 := ⟨zb4 28 rfl rfl, zb1 8 rfl rfl, rfl, by decide +kernel, by decide, by decide +kernel, by decide +kernel, by decide +kernel⟩
theorem zk_4 : zkP zi_4 1 := ⟨zb4 27 rfl rfl, zc2 1 rfl rfl⟩
theorem zg_5 : zgoodb zi_5 = true := by decide +kernel
theorem zp_5 : zmP zi_5 := ⟨zb4 36 rfl rfl, zb1 8 rfl rfl, rfl, by decide +kernel, by decide, by decide +kernel, by decide +kernel, by decide +kernel⟩
theorem zk_5 : zkP zi_5 1 := ⟨zb4 35 rfl rfl, zc2 2 rfl rfl⟩
theorem zg_6 : zgoodb zi_6 = true := by decide +kernel
theorem zp_6 : zmP zi_6 := ⟨zb1 193 rfl rfl, zb1 7 rfl rfl, rfl, by decide +kernel, by decide, by decide +kernel, by decide +kernel, by decide +kernel⟩
theorem zk_6 : zkP zi_6 2 := ⟨zb1 192 rfl rfl, rfl, rfl⟩
theorem zg_7 : zgoodb zi_7 = true := by decide +kernel
theorem zp_7 : zmP zi_7 := ⟨zb2 175 rfl rfl, zb1 7 rfl rfl, rfl, by decide +kernel, by decide, by decide +kernel, by decide +kernel, by decide +kernel⟩
theorem zk_7 : zkP zi_7 1 := ⟨zb2 173 rfl rfl, zb2 174 rfl rfl⟩
theorem zg_8 : zgoodb zi_8 = true := by decide +kernel
theorem zp_8 : zmP zi_8 := ⟨zb3 232 rfl rfl, zb1 7 rfl rfl, rfl, by decide +kernel, by decide, by decide +kernel, by decide +kernel, by decide +kernel⟩
theorem zk_8 : zkP zi_8 1 := ⟨zb3 230 rfl rfl, zb3 231 rfl rfl⟩
theorem zg_9 : zgoodb zi_9 = true := by decide +kernel
theorem zp_9 : zmP zi_9 := ⟨zb3 236 rfl rfl, zb1 7 rfl rfl, rfl, by decide +kernel, by decide, by decide +kernel, by decide +kernel, by decide +kernel⟩
theorem zk_9 : zkP zi_9 1 := ⟨zb3 234 rfl rfl, zb3 235 rfl rfl⟩
theorem zg_10 : zgoodb zi_10 = true := by decide +kernel
theorem zp_10 : zmP zi_10 := ⟨zb4 0 rfl rfl, zb1 7 rfl rfl, rfl, by decide +kernel, by decide, by decide +kernel, by decide +kernel, by decide +kernel⟩
theorem zk_10 : zkP zi_10 1 := ⟨zb3 238 rfl rfl, zb3 239 rfl rfl⟩
theorem zg_11 : zgoodb zi_11 = true := by decide +kernel
theorem zp_11 : zmP zi_11 := ⟨zb4 8 rfl rfl, zb1 7 rfl rfl, rfl, by decide +kernel, by decide, by decide +kernel, by decide +kernel, by decide +kernel⟩
theorem zk_11 : zkP zi_11 1 := ⟨zb4 6 rfl rfl, zb4 7 rfl rfl⟩
theorem zg_12 : zgoodb zi_12 = true := by decide +kernel
theorem zp_12 : zmP zi_12 := ⟨zb1 115 rfl rfl, zb1 5 rfl rfl, rfl, by decide +kernel, by decide, by decide +kernel, by decide +kernel, by decide +kernel⟩
theorem zk_12 : zkP zi_12 2 := ⟨zb1 114 rfl rfl, rfl, rfl⟩
theorem zg_13 : zgoodb zi_13 = true := by decide +kernel
theorem zp_13 : zmP zi_13 := ⟨zb3 74 rfl rfl, zb1 5 rfl rfl, rfl, by decide +kernel, by decide, by decide +kernel, by decide +kernel, by decide +kernel⟩
theorem zk_13 : zkP zi_13 0 := zb3 73 rfl rfl
theorem zg_14 : zgoodb zi_14 = true := by decide +kernel
theorem zp_14 : zmP zi_14 := ⟨zb3 82 rfl rfl, zb1 5 rfl rfl, rfl, by decide +kernel, by decide, by decide +kernel, by decide +kernel, by decide +kernel⟩
theorem zk_14 : zkP zi_14 1 := ⟨zb3 80 rfl rfl, zb3 81 rfl rfl⟩
theorem zg_15 : zgoodb zi_15 = true := by decide +kernel
theorem zp_15 : zmP zi_15 := ⟨zb3 92 rfl rfl, zb1 5 rfl rfl, rfl, by decide +kernel, by decide, by decide +kernel, by decide +kernel, by decide +kernel⟩
theorem zk_15 : zkP zi_15 1 := ⟨zb3 91 rfl rfl, zc1 14 rfl rfl⟩
theorem zg_16 : zgoodb zi_16 = true := by decide +kernel
theorem zp_16 : zmP zi_16 := ⟨zb3 86 rfl rfl, zb1 5 rfl rfl, rfl, by decide +kernel, by decide, by decide +kernel, by decide +kernel, by decide +kernel⟩
theorem zk_16 : zkP zi_16 1 := ⟨zb3 85 rfl rfl, zc1 13 rfl rfl⟩
theorem zg_17 : zgoodb zi_17 = true := by decide +kernel
theorem zp_17 : zmP zi_17 := ⟨zb3 101 rfl rfl, zb1 5 rfl rfl, rfl, by decide +kernel, by decide, by decide +kernel, by decide +kernel, by decide +kernel⟩
theorem zk_17 : zkP zi_17 1 := ⟨zb3 100 rfl rfl, zc1 15 rfl rfl⟩
theorem zg_18 : zgoodb zi_18 = true := by decide +kernel
theorem zp_18 : zmP zi_18 := ⟨zb3 116 rfl rfl, zb1 5 rfl rfl, rfl, by decide +kernel, by decide, by decide +kernel, by decide +kernel, by decide +kernel⟩
theorem zk_18 : zkP zi_18 0 := zb3 115 rfl rfl
theorem zg_19 : zgoodb zi_19 = true := by decide +kernel
theorem zp_19 : zmP zi_19 := ⟨zb3 96 rfl rfl, zb1 5 rfl rfl, rfl, by decide +kernel, by decide, by decide +kernel, by decide +kernel, by decide +kernel⟩
theorem zk_19 : zkP zi_19 1 := ⟨zb3 94 rfl rfl, zb3 95 rfl rfl⟩
theorem zg_20 : zgoodb zi_20 = true := by decide +kernel
theorem zp_20 : zmP zi_20 := ⟨zb3 136 rfl rfl, zb1 5 rfl rfl, rfl, by decide +kernel, by decide, by decide +kernel, by decide +kernel, by decide +kernel⟩
theorem zk_20 : zkP zi_20 1 := ⟨zb3 134 rfl rfl, zb3 135 rfl rfl⟩
theorem zg_21 : zgoodb zi_21 = true := by decide +kernel
theorem zp_21 : zmP zi_21 := ⟨zb1 66 rfl rfl, zb1 3 rfl rfl, rfl, by decide +kernel, by decide, by decide +kernel, by decide +kernel, by decide +kernel⟩
theorem zk_21 : zkP zi_21 2 := ⟨zb1 65 rfl rfl, rfl, rfl⟩
theorem zg_22 : zgoodb zi_22 = true := by decide +kernel
theorem zp_22 : zmP zi_22 := ⟨zb2 154 rfl rfl, zb1 3 rfl rfl, rfl, by decide +kernel, by decide, by decide +kernel, by decide +kernel, by decide +kernel⟩
theorem zk_22 : zkP zi_22 1 := ⟨zb2 152 rfl rfl, zb2 153 rfl rfl⟩
theorem zg_23 : zgoodb zi_23 = true := by decide +kernel
theorem zp_23 : zmP zi_23 := ⟨zb2 138 rfl rfl, zb1 3 rfl rfl, rfl, by decide +kernel, by decide, by decide +kernel, by decide +kernel, by decide +kernel⟩
theorem zk_23 : zkP zi_23 1 := ⟨zb2 136 rfl rfl, zb2 137 rfl rfl⟩
theorem zg_24 : zgoodb zi_24 = true := by decide +kernel
theorem zp_24 : zmP zi_24 := ⟨zb2 220 rfl rfl, zb1 3 rfl rfl, rfl, by decide +kernel, by decide, by decide +kernel, by decide +kernel, by decide +kernel⟩
theorem zk_24 : zkP zi_24 1 := ⟨zb2 218 rfl rfl, zb2 219 rfl rfl⟩
theorem zg_25 : zgoodb zi_25 = true := by decide +kernel
theorem zp_25 : zmP zi_25 := ⟨zb3 132 rfl rfl, zb1 3 rfl rfl, rfl, by decide +kernel, by decide, by decide +kernel, by decide +kernel, by decide +kernel⟩
theorem zk_25 : zkP zi_25 1 := ⟨zb3 130 rfl rfl, zb3 131 rfl rfl⟩
theorem zg_26 : zgoodb zi_26 = true := by decide +kernel
theorem zp_26 : zmP zi_26 := ⟨zb3 139 rfl rfl, zb1 3 rfl rfl, rfl, by decide +kernel, by decide, by decide +kernel, by decide +kernel, by decide +kernel⟩
theorem zk_26 : zkP zi_26 0 := zb3 138 rfl rfl
theorem zg_27 : zgoodb zi_27 = true := by decide +kernel
theorem zp_27 : zmP zi_27 := ⟨zb3 148 rfl rfl, zb1 3 rfl rfl, rfl, by decide +kernel, by decide, by decide +kernel, by decide +kernel, by decide +kernel⟩
theorem zk_27 : zkP zi_27 1 := ⟨zb3 146 rfl rfl, zb3 147 rfl rfl⟩
theorem zg_28 : zgoodb zi_28 = true := by decide +kernel
theorem zp_28 : zmP zi_28 := ⟨zb3 156 rfl rfl, zb1 3 rfl rfl, rfl, by decide +kernel, by decide, by decide +kernel, by decide +kernel, by decide +kernel⟩
theorem zk_28 : zkP zi_28 1 := ⟨zb3 154 rfl rfl, zb3 155 rfl rfl⟩
theorem zg_29 : zgoodb zi_29 = true := by decide +kernel
theorem zp_29 : zmP zi_29 := ⟨zb3 168 rfl rfl, zb1 3 rfl rfl, rfl, by decide +kernel, by decide, by decide +kernel, by decide +kernel, by decide +kernel⟩
theorem zk_29 : zkP zi_29 1 := ⟨zb3 166 rfl rfl, zb3 167 rfl rfl⟩
theorem zg_30 : zgoodb zi_30 = true := by decide +kernel
theorem zp_30 : zmP zi_30 := ⟨zb3 151 rfl rfl, zb1 3 rfl rfl, rfl, by decide +kernel, by decide, by decide +kernel, by decide +kernel, by decide +kernel⟩
theorem zk_30 : zkP zi_30 0 := zb3 150 rfl rfl
theorem zg_31 : zgoodb zi_31 = true := by decide +kernel
theorem zp_31 : zmP zi_31 := ⟨zb3 160 rfl rfl, zb1 3 rfl rfl, rfl, by decide +kernel, by decide, by decide +kernel, by decide +kernel, by decide +kernel⟩
theorem zk_31 : zkP zi_31 1 := ⟨zb3 159 rfl rfl, zc2 0 rfl rfl⟩
theorem zg_32 : zgoodb zi_32 = true := by decide +kernel
theorem zp_32 : zmP zi_32 := ⟨zb1 93 rfl rfl, zb1 4 rfl rfl, rfl, by decide +kernel, by decide, by decide +kernel, by decide +kernel, by decide +kernel⟩
theorem zk_32 : zkP zi_32 2 := ⟨zb1 92 rfl rfl, rfl, rfl⟩
theorem zg_33 : zgoodb zi_33 = true := by decide +kernel
theorem zp_33 : zmP zi_33 := ⟨zb2 233 rfl rfl, zb1 4 rfl rfl, rfl, by decide +kernel, by decide, by decide +kernel, by decide +kernel, by decide +kernel⟩
theorem zk_33 : zkP zi_33 1 := ⟨zb2 231 rfl rfl, zb2 232 rfl rfl⟩
theorem zg_34 : zgoodb zi_34 = true := by decide +kernel
theorem zp_34 : zmP zi_34 := ⟨zb2 237 rfl rfl, zb1 4 rfl rfl, rfl, by decide +kernel, by decide, by decide +kernel, by decide +kernel, by decide +kernel⟩
theorem zk_34 : zkP zi_34 1 := ⟨zb2 236 rfl rfl, zc1 7 rfl rfl⟩
theorem zg_35 : zgoodb zi_35 = true := by decide +kernel
theorem zp_35 : zmP zi_35 := ⟨zb3 1 rfl rfl, zb1 4 rfl rfl, rfl, by decide +kernel, by decide, by decide +kernel, by decide +kernel, by decide +kernel⟩
theorem zk_35 : zkP zi_35 1 := ⟨zb3 0 rfl rfl, zc1 8 rfl rfl⟩
theorem zg_36 : zgoodb zi_36 = true := by decide +kernel
theorem zp_36 : zmP zi_36 := ⟨zb3 5 rfl rfl, zb1 4 rfl rfl, rfl, by decide +kernel, by decide, by decide +kernel, by decide +kernel, by decide +kernel⟩
theorem zk_36 : zkP zi_36 1 := ⟨zb3 4 rfl rfl, zc1 9 rfl rfl⟩
theorem zg_37 : zgoodb zi_37 = true := by decide +kernel
theorem zp_37 : zmP zi_37 := ⟨zb3 16 rfl rfl, zb1 4 rfl rfl, rfl, by decide +kernel, by decide, by decide +kernel, by decide +kernel, by decide +kernel⟩
theorem zk_37 : zkP zi_37 1 := ⟨zb3 15 rfl rfl, zc1 11 rfl rfl⟩
theorem zg_38 : zgoodb zi_38 = true := by decide +kernel
theorem zp_38 : zmP zi_38 := ⟨zb3 9 rfl rfl, zb1 4 rfl rfl, rfl, by decide +kernel, by decide, by decide +kernel, by decide +kernel, by decide +kernel⟩
theorem zk_38 : zkP zi_38 1 := ⟨zb3 8 rfl rfl, zc1 10 rfl rfl⟩
theorem zg_39 : zgoodb zi_39 = true := by decide +kernel
theorem zp_39 : zmP zi_39 := ⟨zb3 12 rfl rfl, zb1 4 rfl rfl, rfl, by decide +kernel, by decide, by decide +kernel, by decide +kernel, by decide +kernel⟩
theorem zk_39 : zkP zi_39 0 := zb3 11 rfl rfl
theorem zg_40 : zgoodb zi_40 = true := by decide +kernel
theorem zp_40 : zmP zi_40 := ⟨zb3 23 rfl rfl, zb1 4 rfl rfl, rfl, by decide +kernel, by decide, by decide +kernel, by decide +kernel, by decide +kernel⟩
theorem zk_40 : zkP zi_40 0 := zb3 22 rfl rfl
theorem zg_41 : zgoodb zi_41 = true := by decide +kernel
theorem zp_41 : zmP zi_41 := ⟨zb3 26 rfl rfl, zb1 4 rfl rfl, rfl, by decide +kernel, by decide, by decide +kernel, by decide +kernel, by decide +kernel⟩
theorem zk_41 : zkP zi_41 0 := zb3 25 rfl rfl
theorem zg_42 : zgoodb zi_42 = true := by decide +kernel
theorem zp_42 : zmP zi_42 := ⟨zb2 2 rfl rfl, zb1 9 rfl rfl, rfl, by decide +kernel, by decide, by decide +kernel, by decide +kernel, by decide +kernel⟩
theorem zk_42 : zkP zi_42 2 := ⟨zb2 1 rfl rfl, rfl, rfl⟩
theorem zg_43 : zgoodb zi_43 = true := by decide +kernel
theorem zp_43 : zmP zi_43 := ⟨zb3 20 rfl rfl, zb1 9 rfl rfl, rfl, by decide +kernel, by decide, by decide +kernel, by decide +kernel, by decide +kernel⟩
theorem zk_43 : zkP zi_43 1 := ⟨zb3 18 rfl rfl, zb3 19 rfl rfl⟩
theorem zg_44 : zgoodb zi_44 = true := by decide +kernel
theorem zp_44 : zmP zi_44 := ⟨zb3 105 rfl rfl, zb1 9 rfl rfl, rfl, by decide +kernel, by decide, by decide +kernel, by decide +kernel, by decide +kernel⟩
theorem zk_44 : zkP zi_44 1 := ⟨zb3 103 rfl rfl, zb3 104 rfl rfl⟩
theorem zg_45 : zgoodb zi_45 = true := by decide +kernel
theorem zp_45 : zmP zi_45 := ⟨zb3 108 rfl rfl, zb1 9 rfl rfl, rfl, by decide +kernel, by decide, by decide +kernel, by decide +kernel, by decide +kernel⟩
theorem zk_45 : zkP zi_45 0 := zb3 107 rfl rfl
theorem zg_46 : zgoodb zi_46 = true := by decide +kernel
theorem zp_46 : zmP zi_46 := ⟨zb3 111 rfl rfl, zb1 9 rfl rfl, rfl, by decide +kernel, by decide, by decide +kernel, by decide +kernel, by decide +kernel⟩
theorem zk_46 : zkP zi_46 0 := zb3 110 rfl rfl
theorem zg_47 : zgoodb zi_47 = true := by decide +kernel
theorem zp_47 : zmP zi_47 := ⟨zb2 22 rfl rfl, zb1 10 rfl rfl, rfl, by decide +kernel, by decide, by decide +kernel, by decide +kernel, by decide +kernel⟩
theorem zk_47 : zkP zi_47 2 := ⟨zb2 21 rfl rfl, rfl, rfl⟩
theorem zg_48 : zgoodb zi_48 = true := by decide +kernel
theorem zp_48 : zmP zi_48 := ⟨zb4 51 rfl rfl, zb1 10 rfl rfl, rfl, by decide +kernel, by decide, by decide +kernel, by decide +kernel, by decide +kernel⟩
theorem zk_48 : zkP zi_48 0 := zb4 50 rfl rfl
theorem zg_49 : zgoodb zi_49 = true := by decide +kernel
theorem zp_49 : zmP zi_49 := ⟨zb4 55 rfl rfl, zb1 10 rfl rfl, rfl, by decide +kernel, by decide, by decide +kernel, by decide +kernel, by decide +kernel⟩
theorem zk_49 : zkP zi_49 1 := ⟨zb4 53 rfl rfl, zb4 54 rfl rfl⟩
theorem zg_50 : zgoodb zi_50 = true := by decide +kernel
theorem zp_50 : zmP zi_50 := ⟨zb2 130 rfl rfl, zb1 10 rfl rfl, rfl, by decide +kernel, by decide, by decide +kernel, by decide +kernel, by decide +kernel⟩
theorem zk_50 : zkP zi_50 1 := ⟨zb2 128 rfl rfl, zb2 129 rfl rfl⟩
theorem zg_51 : zgoodb zi_51 = true := by decide +kernel
theorem zp_51 : zmP zi_51 := ⟨zb4 66 rfl rfl, zb1 10 rfl rfl, rfl, by decide +kernel, by decide, by decide +kernel, by decide +kernel, by decide +kernel⟩
theorem zk_51 : zkP zi_51 0 := zb4 65 rfl rfl
theorem zg_52 : zgoodb zi_52 = true := by decide +kernel
theorem zp_52 : zmP zi_52 := ⟨zb1 162 rfl rfl, zb1 6 rfl rfl, rfl, by decide +kernel, by decide, by decide +kernel, by decide +kernel, by decide +kernel⟩
theorem zk_52 : zkP zi_52 2 := ⟨zb1 161 rfl rfl, rfl, rfl⟩
theorem zg_53 : zgoodb zi_53 = true := by decide +kernel
theorem zp_53 : zmP zi_53 := ⟨zb3 189 rfl rfl, zb1 6 rfl rfl, rfl, by decide +kernel, by decide, by decide +kernel, by decide +kernel, by decide +kernel⟩
theorem zk_53 : zkP zi_53 0 := zb3 188 rfl rfl
theorem zg_54 : zgoodb zi_54 = true := by decide +kernel
theorem zp_54 : zmP zi_54 := ⟨zb3 193 rfl rfl, zb1 6 rfl rfl, rfl, by decide +kernel, by decide, by decide +kernel, by decide +kernel, by decide +kernel⟩
theorem zk_54 : zkP zi_54 0 := zb3 192 rfl rfl
theorem zg_55 : zgoodb zi_55 = true := by decide +kernel
theorem zp_55 : zmP zi_55 := ⟨zb3 202 rfl rfl, zb1 6 rfl rfl, rfl, by decide +kernel, by decide, by decide +kernel, by decide +kernel, by decide +kernel⟩
theorem zk_55 : zkP zi_55 1 := ⟨zb3 200 rfl rfl, zb3 201 rfl rfl⟩
theorem zg_56 : zgoodb zi_56 = true := by decide +kernel
theorem zp_56 : zmP zi_56 := ⟨zb3 186 rfl rfl, zb1 6 rfl rfl, rfl, by decide +kernel, by decide, by decide +kernel, by decide +kernel, by decide +kernel⟩
theorem zk_56 : zkP zi_56 1 := ⟨zb3 184 rfl rfl, zb3 185 rfl rfl⟩
theorem zg_57 : zgoodb zi_57 = true := by decide +kernel
theorem zp_57 : zmP zi_57 := ⟨zb1 27 rfl rfl, zb1 2 rfl rfl, rfl, by decide +kernel, by decide, by decide +kernel, by decide +kernel, by decide +kernel⟩
theorem zk_57 : zkP zi_57 2 := ⟨zb1 26 rfl rfl, rfl, rfl⟩
theorem zg_58 : zgoodb zi_58 = true := by decide +kernel
theorem zp_58 : zmP zi_58 := ⟨zb2 100 rfl rfl, zb1 2 rfl rfl, rfl, by decide +kernel, by decide, by decide +kernel, by decide +kernel, by decide +kernel⟩
theorem zk_58 : zkP zi_58 0 := zb2 99 rfl rfl
theorem zg_59 : zgoodb zi_59 = true := by decide +kernel
theorem zp_59 : zmP zi_59 := ⟨zb2 150 rfl rfl, zb1 2 rfl rfl, rfl, by decide +kernel, by decide, by decide +kernel, by decide +kernel, by decide +kernel⟩
theorem zk_59 : zkP zi_59 1 := ⟨zb2 148 rfl rfl, zb2 149 rfl rfl⟩
theorem zg_60 : zgoodb zi_60 = true := by decide +kernel
theorem zp_60 : zmP zi_60 := ⟨zb2 104 rfl rfl, zb1 2 rfl rfl, rfl, by decide +kernel, by decide, by decide +kernel, by decide +kernel, by decide +kernel⟩
theorem zk_60 : zkP zi_60 1 := ⟨zb2 102 rfl rfl, zb2 103 rfl rfl⟩
theorem zg_61 : zgoodb zi_61 = true := by decide +kernel
theorem zp_61 : zmP zi_61 := ⟨zb2 119 rfl rfl, zb1 2 rfl rfl, rfl, by decide +kernel, by decide, by decide +kernel, by decide +kernel, by decide +kernel⟩
theorem zk_61 : zkP zi_61 1 := ⟨zb2 117 rfl rfl, zb2 118 rfl rfl⟩
theorem zg_62 : zgoodb zi_62 = true := by decide +kernel
theorem zp_62 : zmP zi_62 := ⟨zb2 171 rfl rfl, zb1 2 rfl rfl, rfl, by decide +kernel, by decide, by decide +kernel, by decide +kernel, by decide +kernel⟩
theorem zk_62 : zkP zi_62 1 := ⟨zb2 169 rfl rfl, zb2 170 rfl rfl⟩
theorem zg_63 : zgoodb zi_63 = true := by decide +kernel
theorem zp_63 : zmP zi_63 := ⟨zb3 57 rfl rfl, zb1 2 rfl rfl, rfl, by decide +kernel, by decide, by decide +kernel, by decide +kernel, by decide +kernel⟩
theorem zk_63 : zkP zi_63 1 := ⟨zb3 55 rfl rfl, zb3 56 rfl rfl⟩
theorem zg_64 : zgoodb zi_64 = true := by decide +kernel
theorem zp_64 : zmP zi_64 := ⟨zb2 108 rfl rfl, zb1 2 rfl rfl, rfl, by decide +kernel, by decide, by decide +kernel, by decide +kernel, by decide +kernel⟩
theorem zk_64 : zkP zi_64 1 := ⟨zb2 106 rfl rfl, zb2 107 rfl rfl⟩
theorem zg_65 : zgoodb zi_65 = true := by decide +kernel
theorem zp_65 : zmP zi_65 := ⟨zb2 198 rfl rfl, zb1 2 rfl rfl, rfl, by decide +kernel, by decide, by decide +kernel, by decide +kernel, by decide +kernel⟩
theorem zk_65 : zkP zi_65 1 := ⟨zb2 196 rfl rfl, zb2 197 rfl rfl⟩
theorem zg_66 : zgoodb zi_66 = true := by decide +kernel
theorem zp_66 : zmP zi_66 := ⟨zb2 194 rfl rfl, zb1 2 rfl rfl, rfl, by decide +kernel, by decide, by decide +kernel, by decide +kernel, by decide +kernel⟩
theorem zk_66 : zkP zi_66 1 := ⟨zb2 192 rfl rfl, zb2 193 rfl rfl⟩
theorem zg_67 : zgoodb zi_67 = true := by decide +kernel
theorem zp_67 : zmP zi_67 := ⟨zb2 208 rfl rfl, zb1 2 rfl rfl, rfl, by decide +kernel, by decide, by decide +kernel, by decide +kernel, by decide +kernel⟩
theorem zk_67 : zkP zi_67 1 := ⟨zb2 206 rfl rfl, zb2 207 rfl rfl⟩
theorem zg_68 : zgoodb zi_68 = true := by decide +kernel
theorem zp_68 : zmP zi_68 := ⟨zb2 190 rfl rfl, zb1 2 rfl rfl, rfl, by decide +kernel, by decide, by decide +kernel, by decide +kernel, by decide +kernel⟩
theorem zk_68 : zkP zi_68 1 := ⟨zb2 188 rfl rfl, zb2 189 rfl rfl⟩
theorem zg_69 : zgoodb zi_69 = true := by decide +kernel
theorem zp_69 : zmP zi_69 := ⟨zb3 34 rfl rfl, zb1 2 rfl rfl, rfl, by decide +kernel, by decide, by decide +kernel, by decide +kernel, by decide +kernel⟩
theorem zk_69 : zkP zi_69 1 := ⟨zb3 32 rfl rfl, zb3 33 rfl rfl⟩
theorem zg_70 : zgoodb zi_70 = true := by decide +kernel
theorem zp_70 : zmP zi_70 := ⟨zb3 39 rfl rfl, zb1 2 rfl rfl, rfl, by decide +kernel, by decide, by decide +kernel, by decide +kernel, by decide +kernel⟩
theorem zk_70 : zkP zi_70 1 := ⟨zb3 37 rfl rfl, zb3 38 rfl rfl⟩
theorem zg_71 : zgoodb zi_71 = true := by decide +kernel
theorem zp_71 : zmP zi_71 := ⟨zb4 91 rfl rfl, zb1 2 rfl rfl, rfl, by decide +kernel, by decide, by decide +kernel, by decide +kernel, by decide +kernel⟩
theorem zk_71 : zkP zi_71 1 := ⟨zb4 89 rfl rfl, zb4 90 rfl rfl⟩
theorem zg_72 : zgoodb zi_72 = true := by decide +kernel
theorem zp_72 : zmP zi_72 := ⟨zb1 19 rfl rfl, zb1 1 rfl rfl, rfl, by decide +kernel, by decide, by decide +kernel, by decide +kernel, by decide +kernel⟩
theorem zk_72 : zkP zi_72 2 := ⟨zb1 18 rfl rfl, rfl, rfl⟩
theorem zg_73 : zgoodb zi_73 = true := by decide +kernel
theorem zp_73 : zmP zi_73 := ⟨zb2 97 rfl rfl, zb1 1 rfl rfl, rfl, by decide +kernel, by decide, by decide +kernel, by decide +kernel, by decide +kernel⟩
theorem zk_73 : zkP zi_73 1 := ⟨zb2 95 rfl rfl, zb2 96 rfl rfl⟩
theorem zg_74 : zgoodb zi_74 = true := by decide +kernel
theorem zp_74 : zmP zi_74 := ⟨zb2 112 rfl rfl, zb1 1 rfl rfl, rfl, by decide +kernel, by decide, by decide +kernel, by decide +kernel, by decide +kernel⟩
theorem zk_74 : zkP zi_74 1 := ⟨zb2 110 rfl rfl, zb2 111 rfl rfl⟩
theorem zg_75 : zgoodb zi_75 = true := by decide +kernel
theorem zp_75 : zmP zi_75 := ⟨zb2 123 rfl rfl, zb1 1 rfl rfl, rfl, by decide +kernel, by decide, by decide +kernel, by decide +kernel, by decide +kernel⟩
theorem zk_75 : zkP zi_75 1 := ⟨zb2 121 rfl rfl, zb2 122 rfl rfl⟩
theorem zg_76 : zgoodb zi_76 = true := by decide +kernel
theorem zp_76 : zmP zi_76 := ⟨zb2 134 rfl rfl, zb1 1 rfl rfl, rfl, by decide +kernel, by decide, by decide +kernel, by decide +kernel, by decide +kernel⟩
theorem zk_76 : zkP zi_76 1 := ⟨zb2 132 rfl rfl, zb2 133 rfl rfl⟩
theorem zg_77 : zgoodb zi_77 = true := by decide +kernel
theorem zp_77 : zmP zi_77 := ⟨zb2 142 rfl rfl, zb1 1 rfl rfl, rfl, by decide +kernel, by decide, by decide +kernel, by decide +kernel, by decide +kernel⟩
theorem zk_77 : zkP zi_77 1 := ⟨zb2 140 rfl rfl, zb2 141 rfl rfl⟩
theorem zg_78 : zgoodb zi_78 = true := by decide +kernel
theorem zp_78 : zmP zi_78 := ⟨zb2 182 rfl rfl, zb1 1 rfl rfl, rfl, by decide +kernel, by decide, by decide +kernel, by decide +kernel, by decide +kernel⟩
theorem zk_78 : zkP zi_78 1 := ⟨zb2 180 rfl rfl, zb2 181 rfl rfl⟩
theorem zg_79 : zgoodb zi_79 = true := by decide +kernel
theorem zp_79 : zmP zi_79 := ⟨zb2 186 rfl rfl, zb1 1 rfl rfl, rfl, by decide +kernel, by decide, by decide +kernel, by decide +kernel, by decide +kernel⟩
theorem zk_79 : zkP zi_79 1 := ⟨zb2 185 rfl rfl, zc1 4 rfl rfl⟩
theorem zg_80 : zgoodb zi_80 = true := by decide +kernel
theorem zp_80 : zmP zi_80 := ⟨zb2 212 rfl rfl, zb1 1 rfl rfl, rfl, by decide +kernel, by decide, by decide +kernel, by decide +kernel, by decide +kernel⟩
theorem zk_80 : zkP zi_80 1 := ⟨zb2 211 rfl rfl, zc1 5 rfl rfl⟩
theorem zg_81 : zgoodb zi_81 = true := by decide +kernel
theorem zp_81 : zmP zi_81 := ⟨zb2 216 rfl rfl, zb1 1 rfl rfl, rfl, by decide +kernel, by decide, by decide +kernel, by decide +kernel, by decide +kernel⟩
theorem zk_81 : zkP zi_81 1 := ⟨zb2 215 rfl rfl, zc1 6 rfl rfl⟩
theorem zg_82 : zgoodb zi_82 = true := by decide +kernel
theorem zp_82 : zmP zi_82 := ⟨zb2 225 rfl rfl, zb1 1 rfl rfl, rfl, by decide +kernel, by decide, by decide +kernel, by decide +kernel, by decide +kernel⟩
theorem zk_82 : zkP zi_82 1 := ⟨zb2 223 rfl rfl, zb2 224 rfl rfl⟩
theorem zg_83 : zgoodb zi_83 = true := by decide +kernel
theorem zp_83 : zmP zi_83 := ⟨zb2 229 rfl rfl, zb1 1 rfl rfl, rfl, by decide +kernel, by decide, by decide +kernel, by decide +kernel, by decide +kernel⟩
theorem zk_83 : zkP zi_83 1 := ⟨zb2 227 rfl rfl, zb2 228 rfl rfl⟩
theorem zg_84 : zgoodb zi_84 = true := by decide +kernel
theorem zp_84 : zmP zi_84 := ⟨zb2 146 rfl rfl, zb1 1 rfl rfl, rfl, by decide +kernel, by decide, by decide +kernel, by decide +kernel, by decide +kernel⟩
theorem zk_84 : zkP zi_84 1 := ⟨zb2 145 rfl rfl, zc1 0 rfl rfl⟩
theorem zg_85 : zgoodb zi_85 = true := by decide +kernel
theorem zp_85 : zmP zi_85 := ⟨zb2 158 rfl rfl, zb1 1 rfl rfl, rfl, by decide +kernel, by decide, by decide +kernel, by decide +kernel, by decide +kernel⟩
theorem zk_85 : zkP zi_85 1 := ⟨zb2 157 rfl rfl, zc1 1 rfl rfl⟩
theorem zg_86 : zgoodb zi_86 = true := by decide +kernel
theorem zp_86 : zmP zi_86 := ⟨zb2 163 rfl rfl, zb1 1 rfl rfl, rfl, by decide +kernel, by decide, by decide +kernel, by decide +kernel, by decide +kernel⟩
theorem zk_86 : zkP zi_86 1 := ⟨zb2 162 rfl rfl, zc1 2 rfl rfl⟩
theorem zg_87 : zgoodb zi_87 = true := by decide +kernel
theorem zp_87 : zmP zi_87 := ⟨zb2 167 rfl rfl, zb1 1 rfl rfl, rfl, by decide +kernel, by decide, by decide +kernel, by decide +kernel, by decide +kernel⟩
theorem zk_87 : zkP zi_87 1 := ⟨zb2 166 rfl rfl, zc1 3 rfl rfl⟩
theorem zg_88 : zgoodb zi_88 = true := by decide +kernel
theorem zp_88 : zmP zi_88 := ⟨zb3 30 rfl rfl, zb1 1 rfl rfl, rfl, by decide +kernel, by decide, by decide +kernel, by decide +kernel, by decide +kernel⟩
theorem zk_88 : zkP zi_88 1 := ⟨zb3 28 rfl rfl, zb3 29 rfl rfl⟩
theorem zg_89 : zgoodb zi_89 = true := by decide +kernel
theorem zp_89 : zmP zi_89 := ⟨zb3 43 rfl rfl, zb1 1 rfl rfl, rfl, by decide +kernel, by decide, by decide +kernel, by decide +kernel, by decide +kernel⟩
theorem zk_89 : zkP zi_89 1 := ⟨zb3 41 rfl rfl, zb3 42 rfl rfl⟩
theorem zg_90 : zgoodb zi_90 = true := by decide +kernel
theorem zp_90 : zmP zi_90 := ⟨zb3 47 rfl rfl, zb1 1 rfl rfl, rfl, by decide +kernel, by decide, by decide +kernel, by decide +kernel, by decide +kernel⟩
theorem zk_90 : zkP zi_90 1 := ⟨zb3 45 rfl rfl, zb3 46 rfl rfl⟩
theorem zg_91 : zgoodb zi_91 = true := by decide +kernel
theorem zp_91 : zmP zi_91 := ⟨zb3 53 rfl rfl, zb1 1 rfl rfl, rfl, by decide +kernel, by decide, by decide +kernel, by decide +kernel, by decide +kernel⟩
theorem zk_91 : zkP zi_91 1 := ⟨zb3 51 rfl rfl, zb3 52 rfl rfl⟩
theorem zg_92 : zgoodb zi_92 = true := by decide +kernel
theorem zp_92 : zmP zi_92 := ⟨zb3 62 rfl rfl, zb1 1 rfl rfl, rfl, by decide +kernel, by decide, by decide +kernel, by decide +kernel, by decide +kernel⟩
theorem zk_92 : zkP zi_92 1 := ⟨zb3 60 rfl rfl, zb3 61 rfl rfl⟩
theorem zg_93 : zgoodb zi_93 = true := by decide +kernel
theorem zp_93 : zmP zi_93 := ⟨zb3 67 rfl rfl, zb1 1 rfl rfl, rfl, by decide +kernel, by decide, by decide +kernel, by decide +kernel, by decide +kernel⟩
theorem zk_93 : zkP zi_93 1 := ⟨zb3 65 rfl rfl, zb3 66 rfl rfl⟩
theorem zg_94 : zgoodb zi_94 = true := by decide +kernel
theorem zp_94 : zmP zi_94 := ⟨zb3 71 rfl rfl, zb1 1 rfl rfl, rfl, by decide +kernel, by decide, by decide +kernel, by decide +kernel, by decide +kernel⟩
theorem zk_94 : zkP zi_94 1 := ⟨zb3 69 rfl rfl, zb3 70 rfl rfl⟩
theorem zg_95 : zgoodb zi_95 = true := by decide +kernel
theorem zp_95 : zmP zi_95 := ⟨zb3 124 rfl rfl, zb1 1 rfl rfl, rfl, by decide +kernel, by decide, by decide +kernel, by decide +kernel, by decide +kernel⟩
theorem zk_95 : zkP zi_95 1 := ⟨zb3 122 rfl rfl, zb3 123 rfl rfl⟩
theorem zg_96 : zgoodb zi_96 = true := by decide +kernel
theorem zp_96 : zmP zi_96 := ⟨zb3 128 rfl rfl, zb1 1 rfl rfl, rfl, by decide +kernel, by decide, by decide +kernel, by decide +kernel, by decide +kernel⟩
theorem zk_96 : zkP zi_96 1 := ⟨zb3 126 rfl rfl, zb3 127 rfl rfl⟩
theorem zg_97 : zgoodb zi_97 = true := by decide +kernel
theorem zp_97 : zmP zi_97 := ⟨zb3 144 rfl rfl, zb1 1 rfl rfl, rfl, by decide +kernel, by decide, by decide +kernel, by decide +kernel, by decide +kernel⟩
theorem zk_97 : zkP zi_97 1 := ⟨zb3 142 rfl rfl, zb3 143 rfl rfl⟩
theorem zg_98 : zgoodb zi_98 = true := by decide +kernel
theorem zp_98 : zmP zi_98 := ⟨zb3 164 rfl rfl, zb1 1 rfl rfl, rfl, by decide +kernel, by decide, by decide +kernel, by decide +kernel, by decide +kernel⟩
theorem zk_98 : zkP zi_98 1 := ⟨zb3 162 rfl rfl, zb3 163 rfl rfl⟩
theorem zg_99 : zgoodb zi_99 = true := by decide +kernel
theorem zp_99 : zmP zi_99 := ⟨zb3 78 rfl rfl, zb1 1 rfl rfl, rfl, by decide +kernel, by decide, by decide +kernel, by decide +kernel, by decide +kernel⟩
theorem zk_99 : zkP zi_99 1 := ⟨zb3 77 rfl rfl, zc1 12 rfl rfl⟩
theorem zg_100 : zgoodb zi_100 = true := by decide +kernel
theorem zp_100 : zmP zi_100 := ⟨zb3 172 rfl rfl, zb1 1 rfl rfl, rfl, by decide +kernel, by decide, by decide +kernel, by decide +kernel, by decide +kernel⟩
theorem zk_100 : zkP zi_100 1 := ⟨zb3 170 rfl rfl, zb3 171 rfl rfl⟩
theorem zg_101 : zgoodb zi_101 = true := by decide +kernel
theorem zp_101 : zmP zi_101 := ⟨zb3 182 rfl rfl, zb1 1 rfl rfl, rfl, by decide +kernel, by decide, by decide +kernel, by decide +kernel, by decide +kernel⟩
theorem zk_101 : zkP zi_101 1 := ⟨zb3 180 rfl rfl, zb3 181 rfl rfl⟩
theorem zg_102 : zgoodb zi_102 = true := by decide +kernel
theorem zp_102 : zmP zi_102 := ⟨zb3 198 rfl rfl, zb1 1 rfl rfl, rfl, by decide +kernel, by decide, by decide +kernel, by decide +kernel, by decide +kernel⟩
theorem zk_102 : zkP zi_102 1 := ⟨zb3 196 rfl rfl, zb3 197 rfl rfl⟩
theorem zg_103 : zgoodb zi_103 = true := by decide +kernel
theorem zp_103 : zmP zi_103 := ⟨zb3 206 rfl rfl, zb1 1 rfl rfl, rfl, by decide +kernel, by decide, by decide +kernel, by decide +kernel, by decide +kernel⟩
theorem zk_103 : zkP zi_103 1 := ⟨zb3 204 rfl rfl, zb3 205 rfl rfl⟩
theorem zg_104 : zgoodb zi_104 = true := by decide +kernel
theorem zp_104 : zmP zi_104 := ⟨zb3 212 rfl rfl, zb1 1 rfl rfl, rfl, by decide +kernel, by decide, by decide +kernel, by decide +kernel, by decide +kernel⟩
theorem zk_104 : zkP zi_104 1 := ⟨zb3 210 rfl rfl, zb3 211 rfl rfl⟩
theorem zg_105 : zgoodb zi_105 = true := by decide +kernel
theorem zp_105 : zmP zi_105 := ⟨zb3 216 rfl rfl, zb1 1 rfl rfl, rfl, by decide +kernel, by decide, by decide +kernel, by decide +kernel, by decide +kernel⟩
theorem zk_105 : zkP zi_105 1 := ⟨zb3 214 rfl rfl, zb3 215 rfl rfl⟩
theorem zg_106 : zgoodb zi_106 = true := by decide +kernel
theorem zp_106 : zmP zi_106 := ⟨zb3 220 rfl rfl, zb1 1 rfl rfl, rfl, by decide +kernel, by decide, by decide +kernel, by decide +kernel, by decide +kernel⟩
theorem zk_106 : zkP zi_106 1 := ⟨zb3 218 rfl rfl, zb3 219 rfl rfl⟩
theorem zg_107 : zgoodb zi_107 = true := by decide +kernel
theorem zp_107 : zmP zi_107 := ⟨zb3 224 rfl rfl, zb1 1 rfl rfl, rfl, by decide +kernel, by decide, by decide +kernel, by decide +kernel, by decide +kernel⟩
theorem zk_107 : zkP zi_107 1 := ⟨zb3 222 rfl rfl, zb3 223 rfl rfl⟩
theorem zg_108 : zgoodb zi_108 = true := by decide +kernel
theorem zp_108 : zmP zi_108 := ⟨zb3 228 rfl rfl, zb1 1 rfl rfl, rfl, by decide +kernel, by decide, by decide +kernel, by decide +kernel, by decide +kernel⟩
theorem zk_108 : zkP zi_108 1 := ⟨zb3 226 rfl rfl, zb3 227 rfl rfl⟩
theorem zg_109 : zgoodb zi_109 = true := by decide +kernel
theorem zp_109 : zmP zi_109 := ⟨zb4 4 rfl rfl, zb1 1 rfl rfl, rfl, by decide +kernel, by decide, by decide +kernel, by decide +kernel, by decide +kernel⟩
theorem zk_109 : zkP zi_109 1 := ⟨zb4 2 rfl rfl, zb4 3 rfl rfl⟩
theorem zg_110 : zgoodb zi_110 = true := by decide +kernel
theorem zp_110 : zmP zi_110 := ⟨zb4 12 rfl rfl, zb1 1 rfl rfl, rfl, by decide +kernel, by decide, by decide +kernel, by decide +kernel, by decide +kernel⟩
theorem zk_110 : zkP zi_110 1 := ⟨zb4 10 rfl rfl, zb4 11 rfl rfl⟩
theorem zg_111 : zgoodb zi_111 = true := by decide +kernel
theorem zp_111 : zmP zi_111 := ⟨zb4 16 rfl rfl, zb1 1 rfl rfl, rfl, by decide +kernel, by decide, by decide +kernel, by decide +kernel, by decide +kernel⟩
theorem zk_111 : zkP zi_111 1 := ⟨zb4 14 rfl rfl, zb4 15 rfl rfl⟩
theorem zg_112 : zgoodb zi_112 = true := by decide +kernel
theorem zp_112 : zmP zi_112 := ⟨zb4 40 rfl rfl, zb1 1 rfl rfl, rfl, by decide +kernel, by decide, by decide +kernel, by decide +kernel, by decide +kernel⟩
theorem zk_112 : zkP zi_112 1 := ⟨zb4 38 rfl rfl, zb4 39 rfl rfl⟩
theorem zg_113 : zgoodb zi_113 = true := by decide +kernel
theorem zp_113 : zmP zi_113 := ⟨zb4 44 rfl rfl, zb1 1 rfl rfl, rfl, by decide +kernel, by decide, by decide +kernel, by decide +kernel, by decide +kernel⟩
theorem zk_113 : zkP zi_113 1 := ⟨zb4 42 rfl rfl, zb4 43 rfl rfl⟩
theorem zg_114 : zgoodb zi_114 = true := by decide +kernel
theorem zp_114 : zmP zi_114 := ⟨zb4 48 rfl rfl, zb1 1 rfl rfl, rfl, by decide +kernel, by decide, by decide +kernel, by decide +kernel, by decide +kernel⟩
theorem zk_114 : zkP zi_114 1 := ⟨zb4 46 rfl rfl, zb4 47 rfl rfl⟩
theorem zg_115 : zgoodb zi_115 = true := by decide +kernel
theorem zp_115 : zmP zi_115 := ⟨zb4 59 rfl rfl, zb1 1 rfl rfl, rfl, by decide +kernel, by decide, by decide +kernel, by decide +kernel, by decide +kernel⟩
theorem zk_115 : zkP zi_115 1 := ⟨zb4 57 rfl rfl, zb4 58 rfl rfl⟩
theorem zg_116 : zgoodb zi_116 = true := by decide +kernel
theorem zp_116 : zmP zi_116 := ⟨zb4 70 rfl rfl, zb1 1 rfl rfl, rfl, by decide +kernel, by decide, by decide +kernel, by decide +kernel, by decide +kernel⟩
theorem zk_116 : zkP zi_116 1 := ⟨zb4 68 rfl rfl, zb4 69 rfl rfl⟩
theorem zg_117 : zgoodb zi_117 = true := by decide +kernel
theorem zp_117 : zmP zi_117 := ⟨zb4 75 rfl rfl, zb1 1 rfl rfl, rfl, by decide +kernel, by decide, by decide +kernel, by decide +kernel, by decide +kernel⟩
theorem zk_117 : zkP zi_117 1 := ⟨zb4 73 rfl rfl, zb4 74 rfl rfl⟩
theorem zg_118 : zgoodb zi_118 = true := by decide +kernel
theorem zp_118 : zmP zi_118 := ⟨zb4 80 rfl rfl, zb1 1 rfl rfl, rfl, by decide +kernel, by decide, by decide +kernel, by decide +kernel, by decide +kernel⟩
theorem zk_118 : zkP zi_118 1 := ⟨zb4 78 rfl rfl, zb4 79 rfl rfl⟩
theorem zg_119 : zgoodb zi_119 = true := by decide +kernel
theorem zp_119 : zmP zi_119 := ⟨zb4 87 rfl rfl, zb1 1 rfl rfl, rfl, by decide +kernel, by decide, by decide +kernel, by decide +kernel, by decide +kernel⟩
theorem zk_119 : zkP zi_119 1 := ⟨zb4 85 rfl rfl, zb4 86 rfl rfl⟩
theorem zg_120 : zgoodb zi_120 = true := by decide +kernel
theorem zp_120 : zmP zi_120 := ⟨zb2 126 rfl rfl, zb1 1 rfl rfl, rfl, by decide +kernel, by decide, by decide +kernel, by decide +kernel, by decide +kernel⟩
theorem zk_120 : zkP zi_120 0 := zb2 125 rfl rfl
theorem zg_121 : zgoodb zi_121 = true := by decide +kernel
theorem zp_121 : zmP zi_121 := ⟨zb4 63 rfl rfl, zb1 1 rfl rfl, rfl, by decide +kernel, by decide, by decide +kernel, by decide +kernel, by decide +kernel⟩
theorem zk_121 : zkP zi_121 1 := ⟨zb4 62 rfl rfl, zc2 3 rfl rfl⟩
theorem zg_122 : zgoodb zi_122 = true := by decide +kernel
theorem zp_122 : zmP zi_122 := ⟨zb5 35 rfl rfl, zb1 11 rfl rfl, rfl, by decide +kernel, by decide, by decide +kernel, by decide +kernel, by decide +kernel⟩
theorem zk_122 : zkP zi_122 0 := zb5 34 rfl rfl
theorem zg_123 : zgoodb zi_123 = true := by decide +kernel
theorem zp_123 : zmP zi_123 := ⟨zb5 110 rfl rfl, zb1 11 rfl rfl, rfl, by decide +kernel, by decide, by decide +kernel, by decide +kernel, by decide +kernel⟩
theorem zk_123 : zkP zi_123 0 := zb5 109 rfl rfl
theorem zg_124 : zgoodb zi_124 = true := by decide +kernel
theorem zp_124 : zmP zi_124 := ⟨zb4 96 rfl rfl, zb1 11 rfl rfl, rfl, by decide +kernel, by decide, by decide +kernel, by decide +kernel, by decide +kernel⟩
theorem zk_124 : zkP zi_124 2 := ⟨zb4 95 rfl rfl, rfl, rfl⟩
theorem zg_125 : zgoodb zi_125 = true := by decide +kernel
theorem zp_125 : zmP zi_125 := ⟨zb5 74 rfl rfl, zb1 11 rfl rfl, rfl, by decide +kernel, by decide, by decide +kernel, by decide +kernel, by decide +kernel⟩
theorem zk_125 : zkP zi_125 1 := ⟨zb5 73 rfl rfl, zc2 8 rfl rfl⟩
theorem zg_126 : zgoodb zi_126 = true := by decide +kernel
theorem zp_126 : zmP zi_126 := ⟨zb5 16 rfl rfl, zb1 11 rfl rfl, rfl, by decide +kernel, by decide, by decide +kernel, by decide +kernel, by decide +kernel⟩
theorem zk_126 : zkP zi_126 1 := ⟨zb5 15 rfl rfl, zc2 4 rfl rfl⟩
theorem zg_127 : zgoodb zi_127 = true := by decide +kernel
theorem zp_127 : zmP zi_127 := ⟨zb5 20 rfl rfl, zb1 11 rfl rfl, rfl, by decide +kernel, by decide, by decide +kernel, by decide +kernel, by decide +kernel⟩
theorem zk_127 : zkP zi_127 1 := ⟨zb5 19 rfl rfl, zc2 5 rfl rfl⟩
theorem zg_128 : zgoodb zi_128 = true := by decide +kernel
theorem zp_128 : zmP zi_128 := ⟨zb5 12 rfl rfl, zb1 11 rfl rfl, rfl, by decide +kernel, by decide, by decide +kernel, by decide +kernel, by decide +kernel⟩
theorem zk_128 : zkP zi_128 1 := ⟨zb5 10 rfl rfl, zb5 11 rfl rfl⟩
theorem zg_129 : zgoodb zi_129 = true := by decide +kernel
theorem zp_129 : zmP zi_129 := ⟨zb5 24 rfl rfl, zb1 11 rfl rfl, rfl, by decide +kernel, by decide, by decide +kernel, by decide +kernel, by decide +kernel⟩
theorem zk_129 : zkP zi_129 1 := ⟨zb5 22 rfl rfl, zb5 23 rfl rfl⟩
theorem zg_130 : zgoodb zi_130 = true := by decide +kernel
theorem zp_130 : zmP zi_130 := ⟨zb5 70 rfl rfl, zb1 11 rfl rfl, rfl, by decide +kernel, by decide, by decide +kernel, by decide +kernel, by decide +kernel⟩
theorem zk_130 : zkP zi_130 1 := ⟨zb5 69 rfl rfl, zc2 7 rfl rfl⟩
theorem zg_131 : zgoodb zi_131 = true := by decide +kernel
theorem zp_131 : zmP zi_131 := ⟨zb5 80 rfl rfl, zb1 11 rfl rfl, rfl, by decide +kernel, by decide, by decide +kernel, by decide +kernel, by decide +kernel⟩
theorem zk_131 : zkP zi_131 1 := ⟨zb5 79 rfl rfl, zc2 9 rfl rfl⟩
theorem zg_132 : zgoodb zi_132 = true := by decide +kernel
theorem zp_132 : zmP zi_132 := ⟨zb5 31 rfl rfl, zb1 11 rfl rfl, rfl, by decide +kernel, by decide, by decide +kernel, by decide +kernel, by decide +kernel⟩
theorem zk_132 : zkP zi_132 0 := zb5 30 rfl rfl
theorem zg_133 : zgoodb zi_133 = true := by decide +kernel
theorem zp_133 : zmP zi_133 := ⟨zb5 41 rfl rfl, zb1 11 rfl rfl, rfl, by decide +kernel, by decide, by decide +kernel, by decide +kernel, by decide +kernel⟩
theorem zk_133 : zkP zi_133 1 := ⟨zb5 40 rfl rfl, zc2 6 rfl rfl⟩
theorem zg_134 : zgoodb zi_134 = true := by decide +kernel
theorem zp_134 : zmP zi_134 := ⟨zb5 28 rfl rfl, zb1 11 rfl rfl, rfl, by decide +kernel, by decide, by decide +kernel, by decide +kernel, by decide +kernel⟩
theorem zk_134 : zkP zi_134 1 := ⟨zb5 26 rfl rfl, zb5 27 rfl rfl⟩
theorem zg_135 : zgoodb zi_135 = true := by decide +kernel
theorem zp_135 : zmP zi_135 := ⟨zb5 48 rfl rfl, zb1 11 rfl rfl, rfl, by decide +kernel, by decide, by decide +kernel, by decide +kernel, by decide +kernel⟩
theorem zk_135 : zkP zi_135 0 := zb5 47 rfl rfl
theorem zg_136 : zgoodb zi_136 = true := by decide +kernel
theorem zp_136 : zmP zi_136 := ⟨zb5 45 rfl rfl, zb1 11 rfl rfl, rfl, by decide +kernel, by decide, by decide +kernel, by decide +kernel, by decide +kernel⟩
theorem zk_136 : zkP zi_136 1 := ⟨zb5 43 rfl rfl, zb5 44 rfl rfl⟩
theorem zg_137 : zgoodb zi_137 = true := by decide +kernel
theorem zp_137 : zmP zi_137 := ⟨zb5 52 rfl rfl, zb1 11 rfl rfl, rfl, by decide +kernel, by decide, by decide +kernel, by decide +kernel, by decide +kernel⟩
theorem zk_137 : zkP zi_137 1 := ⟨zb5 50 rfl rfl, zb5 51 rfl rfl⟩
theorem zg_138 : zgoodb zi_138 = true := by decide +kernel
theorem zp_138 : zmP zi_138 := ⟨zb5 61 rfl rfl, zb1 11 rfl rfl, rfl, by decide +kernel, by decide, by decide +kernel, by decide +kernel, by decide +kernel⟩
theorem zk_138 : zkP zi_138 1 := ⟨zb5 59 rfl rfl, zb5 60 rfl rfl⟩
theorem zg_139 : zgoodb zi_139 = true := by decide +kernel
theorem zp_139 : zmP zi_139 := ⟨zb5 66 rfl rfl, zb1 11 rfl rfl, rfl, by decide +kernel, by decide, by decide +kernel, by decide +kernel, by decide +kernel⟩
theorem zk_139 : zkP zi_139 1 := ⟨zb5 64 rfl rfl, zb5 65 rfl rfl⟩
theorem zg_140 : zgoodb zi_140 = true := by decide +kernel
theorem zp_140 : zmP zi_140 := ⟨zb5 95 rfl rfl, zb1 11 rfl rfl, rfl, by decide +kernel, by decide, by decide +kernel, by decide +kernel, by decide +kernel⟩
theorem zk_140 : zkP zi_140 1 := ⟨zb5 94 rfl rfl, zc2 11 rfl rfl⟩
theorem zg_141 : zgoodb zi_141 = true := by decide +kernel
theorem zp_141 : zmP zi_141 := ⟨zb5 91 rfl rfl, zb1 11 rfl rfl, rfl, by decide +kernel, by decide, by decide +kernel, by decide +kernel, by decide +kernel⟩
theorem zk_141 : zkP zi_141 1 := ⟨zb5 90 rfl rfl, zc2 10 rfl rfl⟩
theorem zg_142 : zgoodb zi_142 = true := by decide +kernel
theorem zp_142 : zmP zi_142 := ⟨zb5 117 rfl rfl, zb1 11 rfl rfl, rfl, by decide +kernel, by decide, by decide +kernel, by decide +kernel, by decide +kernel⟩
theorem zk_142 : zkP zi_142 1 := ⟨zb5 116 rfl rfl, zc2 15 rfl rfl⟩
theorem zg_143 : zgoodb zi_143 = true := by decide +kernel
theorem zp_143 : zmP zi_143 := ⟨zb5 121 rfl rfl, zb1 11 rfl rfl, rfl, by decide +kernel, by decide, by decide +kernel, by decide +kernel, by decide +kernel⟩
theorem zk_143 : zkP zi_143 1 := ⟨zb5 120 rfl rfl, zc3 0 rfl rfl⟩
theorem zg_144 : zgoodb zi_144 = true := by decide +kernel
theorem zp_144 : zmP zi_144 := ⟨zb5 86 rfl rfl, zb1 11 rfl rfl, rfl, by decide +kernel, by decide, by decide +kernel, by decide +kernel, by decide +kernel⟩
theorem zk_144 : zkP zi_144 1 := ⟨zb5 84 rfl rfl, zb5 85 rfl rfl⟩
theorem zg_145 : zgoodb zi_145 = true := by decide +kernel
theorem zp_145 : zmP zi_145 := ⟨zb5 125 rfl rfl, zb1 11 rfl rfl, rfl, by decide +kernel, by decide, by decide +kernel, by decide +kernel, by decide +kernel⟩
theorem zk_145 : zkP zi_145 1 := ⟨zb5 123 rfl rfl, zb5 124 rfl rfl⟩
theorem zg_146 : zgoodb zi_146 = true := by decide +kernel
theorem zp_146 : zmP zi_146 := ⟨zb5 162 rfl rfl, zb1 11 rfl rfl, rfl, by decide +kernel, by decide, by decide +kernel, by decide +kernel, by decide +kernel⟩
theorem zk_146 : zkP zi_146 1 := ⟨zb5 161 rfl rfl, zc3 8 rfl rfl⟩
theorem zg_147 : zgoodb zi_147 = true := by decide +kernel
theorem zp_147 : zmP zi_147 := ⟨zb5 166 rfl rfl, zb1 11 rfl rfl, rfl, by decide +kernel, by decide, by decide +kernel, by decide +kernel, by decide +kernel⟩
theorem zk_147 : zkP zi_147 1 := ⟨zb5 165 rfl rfl, zc3 9 rfl rfl⟩
theorem zg_148 : zgoodb zi_148 = true := by decide +kernel
theorem zp_148 : zmP zi_148 := ⟨zb5 170 rfl rfl, zb1 11 rfl rfl, rfl, by decide +kernel, by decide, by decide +kernel, by decide +kernel, by decide +kernel⟩
theorem zk_148 : zkP zi_148 1 := ⟨zb5 169 rfl rfl, zc3 10 rfl rfl⟩
theorem zg_149 : zgoodb zi_149 = true := by decide +kernel
theorem zp_149 : zmP zi_149 := ⟨zb5 138 rfl rfl, zb1 11 rfl rfl, rfl, by decide +kernel, by decide, by decide +kernel, by decide +kernel, by decide +kernel⟩
theorem zk_149 : zkP zi_149 1 := ⟨zb5 137 rfl rfl, zc3 2 rfl rfl⟩
theorem zg_150 : zgoodb zi_150 = true := by decide +kernel
theorem zp_150 : zmP zi_150 := ⟨zb5 142 rfl rfl, zb1 11 rfl rfl, rfl, by decide +kernel, by decide, by decide +kernel, by decide +kernel, by decide +kernel⟩
theorem zk_150 : zkP zi_150 1 := ⟨zb5 141 rfl rfl, zc3 3 rfl rfl⟩
theorem zg_151 : zgoodb zi_151 = true := by decide +kernel
theorem zp_151 : zmP zi_151 := ⟨zb5 146 rfl rfl, zb1 11 rfl rfl, rfl, by decide +kernel, by decide, by decide +kernel, by decide +kernel, by decide +kernel⟩
theorem zk_151 : zkP zi_151 1 := ⟨zb5 145 rfl rfl, zc3 4 rfl rfl⟩
theorem zg_152 : zgoodb zi_152 = true := by decide +kernel
theorem zp_152 : zmP zi_152 := ⟨zb5 150 rfl rfl, zb1 11 rfl rfl, rfl, by decide +kernel, by decide, by decide +kernel, by decide +kernel, by decide +kernel⟩
theorem zk_152 : zkP zi_152 1 := ⟨zb5 149 rfl rfl, zc3 5 rfl rfl⟩
theorem zg_153 : zgoodb zi_153 = true := by decide +kernel
theorem zp_153 : zmP zi_153 := ⟨zb5 154 rfl rfl, zb1 11 rfl rfl, rfl, by decide +kernel, by decide, by decide +kernel, by decide +kernel, by decide +kernel⟩
theorem zk_153 : zkP zi_153 1 := ⟨zb5 153 rfl rfl, zc3 6 rfl rfl⟩
theorem zg_154 : zgoodb zi_154 = true := by decide +kernel
theorem zp_154 : zmP zi_154 := ⟨zb5 173 rfl rfl, zb1 11 rfl rfl, rfl, by decide +kernel, by decide, by decide +kernel, by decide +kernel, by decide +kernel⟩
theorem zk_154 : zkP zi_154 0 := zb5 172 rfl rfl
theorem zg_155 : zgoodb zi_155 = true := by decide +kernel
theorem zp_155 : zmP zi_155 := ⟨zb5 158 rfl rfl, zb1 11 rfl rfl, rfl, by decide +kernel, by decide, by decide +kernel, by decide +kernel, by decide +kernel⟩
theorem zk_155 : zkP zi_155 1 := ⟨zb5 157 rfl rfl, zc3 7 rfl rfl⟩
theorem zg_156 : zgoodb zi_156 = true := by decide +kernel
theorem zp_156 : zmP zi_156 := ⟨zb5 134 rfl rfl, zb1 11 rfl rfl, rfl, by decide +kernel, by decide, by decide +kernel, by decide +kernel, by decide +kernel⟩
theorem zk_156 : zkP zi_156 1 := ⟨zb5 133 rfl rfl, zc3 1 rfl rfl⟩
theorem zg_157 : zgoodb zi_157 = true := by decide +kernel
theorem zp_157 : zmP zi_157 := ⟨zb5 130 rfl rfl, zb1 11 rfl rfl, rfl, by decide +kernel, by decide, by decide +kernel, by decide +kernel, by decide +kernel⟩
theorem zk_157 : zkP zi_157 1 := ⟨zb5 128 rfl rfl, zb5 129 rfl rfl⟩
theorem zg_158 : zgoodb zi_158 = true := by decide +kernel
theorem zp_158 : zmP zi_158 := ⟨zb5 99 rfl rfl, zb1 11 rfl rfl, rfl, by decide +kernel, by decide, by decide +kernel, by decide +kernel, by decide +kernel⟩
theorem zk_158 : zkP zi_158 1 := ⟨zb5 98 rfl rfl, zc2 12 rfl rfl⟩
theorem zg_159 : zgoodb zi_159 = true := by decide +kernel
theorem zp_159 : zmP zi_159 := ⟨zb5 107 rfl rfl, zb1 11 rfl rfl, rfl, by decide +kernel, by decide, by decide +kernel, by decide +kernel, by decide +kernel⟩
theorem zk_159 : zkP zi_159 1 := ⟨zb5 106 rfl rfl, zc2 14 rfl rfl⟩
theorem zg_160 : zgoodb zi_160 = true := by decide +kernel
theorem zp_160 : zmP zi_160 := ⟨zb5 103 rfl rfl, zb1 11 rfl rfl, rfl, by decide +kernel, by decide, by decide +kernel, by decide +kernel, by decide +kernel⟩
theorem zk_160 : zkP zi_160 1 := ⟨zb5 102 rfl rfl, zc2 13 rfl rfl⟩
theorem zg_161 : zgoodb zi_161 = true := by decide +kernel
theorem zp_161 : zmP zi_161 := ⟨zb5 181 rfl rfl, zb1 11 rfl rfl, rfl, by decide +kernel, by decide, by decide +kernel, by decide +kernel, by decide +kernel⟩
theorem zk_161 : zkP zi_161 1 := ⟨zb5 180 rfl rfl, zc3 11 rfl rfl⟩
theorem zg_162 : zgoodb zi_162 = true := by decide +kernel
theorem zp_162 : zmP zi_162 := ⟨zb5 185 rfl rfl, zb1 11 rfl rfl, rfl, by decide +kernel, by decide, by decide +kernel, by decide +kernel, by decide +kernel⟩
theorem zk_162 : zkP zi_162 1 := ⟨zb5 184 rfl rfl, zc3 12 rfl rfl⟩
theorem zg_163 : zgoodb zi_163 = true := by decide +kernel
theorem zp_163 : zmP zi_163 := ⟨zb5 177 rfl rfl, zb1 11 rfl rfl, rfl, by decide +kernel, by decide, by decide +kernel, by decide +kernel, by decide +kernel⟩
theorem zk_163 : zkP zi_163 1 := ⟨zb5 175 rfl rfl, zb5 176 rfl rfl⟩
theorem zg_164 : zgoodb zi_164 = true := by decide +kernel
theorem zp_164 : zmP zi_164 := ⟨zb5 189 rfl rfl, zb1 11 rfl rfl, rfl, by decide +kernel, by decide, by decide +kernel, by decide +kernel, by decide +kernel⟩
theorem zk_164 : zkP zi_164 1 := ⟨zb5 187 rfl rfl, zb5 188 rfl rfl⟩
theorem zg_165 : zgoodb zi_165 = true := by decide +kernel
theorem zp_165 : zmP zi_165 := ⟨zb5 194 rfl rfl, zb1 11 rfl rfl, rfl, by decide +kernel, by decide, by decide +kernel, by decide +kernel, by decide +kernel⟩
theorem zk_165 : zkP zi_165 1 := ⟨zb5 192 rfl rfl, zb5 193 rfl rfl⟩
theorem zg_166 : zgoodb zi_166 = true := by decide +kernel
theorem zp_166 : zmP zi_166 := ⟨zb5 198 rfl rfl, zb1 11 rfl rfl, rfl, by decide +kernel, by decide, by decide +kernel, by decide +kernel, by decide +kernel⟩
theorem zk_166 : zkP zi_166 1 := ⟨zb5 196 rfl rfl, zb5 197 rfl rfl⟩
theorem zg_167 : zgoodb zi_167 = true := by decide +kernel
theorem zp_167 : zmP zi_167 := ⟨zb5 202 rfl rfl, zb1 11 rfl rfl, rfl, by decide +kernel, by decide, by decide +kernel, by decide +kernel, by decide +kernel⟩
theorem zk_167 : zkP zi_167 1 := ⟨zb5 200 rfl rfl, zb5 201 rfl rfl⟩
theorem zg_168 : zgoodb zi_168 = true := by decide +kernel
theorem zp_168 : zmP zi_168 := ⟨zb5 206 rfl rfl, zb1 11 rfl rfl, rfl, by decide +kernel, by decide, by decide +kernel, by decide +kernel, by decide +kernel⟩
theorem zk_168 : zkP zi_168 1 := ⟨zb5 204 rfl rfl, zb5 205 rfl rfl⟩
theorem zg_169 : zgoodb zi_169 = true := by decide +kernel
theorem zp_169 : zmP zi_169 := ⟨zb5 219 rfl rfl, zb1 11 rfl rfl, rfl, by decide +kernel, by decide, by decide +kernel, by decide +kernel, by decide +kernel⟩
theorem zk_169 : zkP zi_169 1 := ⟨zb5 218 rfl rfl, zc3 14 rfl rfl⟩
theorem zg_170 : zgoodb zi_170 = true := by decide +kernel
theorem zp_170 : zmP zi_170 := ⟨zb5 223 rfl rfl, zb1 11 rfl rfl, rfl, by decide +kernel, by decide, by decide +kernel, by decide +kernel, by decide +kernel⟩
theorem zk_170 : zkP zi_170 1 := ⟨zb5 222 rfl rfl, zc3 15 rfl rfl⟩
theorem zg_171 : zgoodb zi_171 = true := by decide +kernel
theorem zp_171 : zmP zi_171 := ⟨zb5 227 rfl rfl, zb1 11 rfl rfl, rfl, by decide +kernel, by decide, by decide +kernel, by decide +kernel, by decide +kernel⟩
theorem zk_171 : zkP zi_171 1 := ⟨zb5 226 rfl rfl, zc4 0 rfl rfl⟩
theorem zg_172 : zgoodb zi_172 = true := by decide +kernel
theorem zp_172 : zmP zi_172 := ⟨zb5 215 rfl rfl, zb1 11 rfl rfl, rfl, by decide +kernel, by decide, by decide +kernel, by decide +kernel, by decide +kernel⟩
theorem zk_172 : zkP zi_172 1 := ⟨zb5 214 rfl rfl, zc3 13 rfl rfl⟩
theorem zg_173 : zgoodb zi_173 = true := by decide +kernel
theorem zp_173 : zmP zi_173 := ⟨zb5 210 rfl rfl, zb1 11 rfl rfl, rfl, by decide +kernel, by decide, by decide +kernel, by decide +kernel, by decide +kernel⟩
theorem zk_173 : zkP zi_173 1 := ⟨zb5 208 rfl rfl, zb5 209 rfl rfl⟩
theorem zg_174 : zgoodb zi_174 = true := by decide +kernel
theorem zp_174 : zmP zi_174 := ⟨zb5 231 rfl rfl, zb1 11 rfl rfl, rfl, by decide +kernel, by decide, by decide +kernel, by decide +kernel, by decide +kernel⟩
theorem zk_174 : zkP zi_174 1 := ⟨zb5 229 rfl rfl, zb5 230 rfl rfl⟩
theorem zg_175 : zgoodb zi_175 = true := by decide +kernel
theorem zp_175 : zmP zi_175 := ⟨zb6 3 rfl rfl, zb1 11 rfl rfl, rfl, by decide +kernel, by decide, by decide +kernel, by decide +kernel, by decide +kernel⟩
theorem zk_175 : zkP zi_175 1 := ⟨zb6 2 rfl rfl, zc4 2 rfl rfl⟩
theorem zg_176 : zgoodb zi_176 = true := by decide +kernel
theorem zp_176 : zmP zi_176 := ⟨zb5 239 rfl rfl, zb1 11 rfl rfl, rfl, by decide +kernel, by decide, by decide +kernel, by decide +kernel, by decide +kernel⟩
theorem zk_176 : zkP zi_176 1 := ⟨zb5 238 rfl rfl, zc4 1 rfl rfl⟩
theorem zg_177 : zgoodb zi_177 = true := by decide +kernel
theorem zp_177 : zmP zi_177 := ⟨zb5 235 rfl rfl, zb1 11 rfl rfl, rfl, by decide +kernel, by decide, by decide +kernel, by decide +kernel, by decide +kernel⟩
theorem zk_177 : zkP zi_177 1 := ⟨zb5 233 rfl rfl, zb5 234 rfl rfl⟩
theorem zg_178 : zgoodb zi_178 = true := by decide +kernel
theorem zp_178 : zmP zi_178 := ⟨zb6 11 rfl rfl, zb1 11 rfl rfl, rfl, by decide +kernel, by decide, by decide +kernel, by decide +kernel, by decide +kernel⟩
theorem zk_178 : zkP zi_178 1 := ⟨zb6 10 rfl rfl, zc4 3 rfl rfl⟩
theorem zg_179 : zgoodb zi_179 = true := by decide +kernel
theorem zp_179 : zmP zi_179 := ⟨zb6 7 rfl rfl, zb1 11 rfl rfl, rfl, by decide +kernel, by decide, by decide +kernel, by decide +kernel, by decide +kernel⟩
theorem zk_179 : zkP zi_179 1 := ⟨zb6 5 rfl rfl, zb6 6 rfl rfl⟩
theorem zg_180 : zgoodb zi_180 = true := by decide +kernel
theorem zp_180 : zmP zi_180 := ⟨zb6 19 rfl rfl, zb1 11 rfl rfl, rfl, by decide +kernel, by decide, by decide +kernel, by decide +kernel, by decide +kernel⟩
theorem zk_180 : zkP zi_180 1 := ⟨zb6 18 rfl rfl, zc4 4 rfl rfl⟩
theorem zg_181 : zgoodb zi_181 = true := by decide +kernel
theorem zp_181 : zmP zi_181 := ⟨zb6 15 rfl rfl, zb1 11 rfl rfl, rfl, by decide +kernel, by decide, by decide +kernel, by decide +kernel, by decide +kernel⟩
theorem zk_181 : zkP zi_181 1 := ⟨zb6 13 rfl rfl, zb6 14 rfl rfl⟩
theorem zg_182 : zgoodb zi_182 = true := by decide +kernel
theorem zp_182 : zmP zi_182 := ⟨zb6 27 rfl rfl, zb1 11 rfl rfl, rfl, by decide +kernel, by decide, by decide +kernel, by decide +kernel, by decide +kernel⟩
theorem zk_182 : zkP zi_182 0 := zb6 26 rfl rfl
theorem zg_183 : zgoodb zi_183 = true := by decide +kernel
theorem zp_183 : zmP zi_183 := ⟨zb6 40 rfl rfl, zb1 11 rfl rfl, rfl, by decide +kernel, by decide, by decide +kernel, by decide +kernel, by decide +kernel⟩
theorem zk_183 : zkP zi_183 1 := ⟨zb6 39 rfl rfl, zc4 6 rfl rfl⟩
theorem zg_184 : zgoodb zi_184 = true := by decide +kernel
theorem zp_184 : zmP zi_184 := ⟨zb6 23 rfl rfl, zb1 11 rfl rfl, rfl, by decide +kernel, by decide, by decide +kernel, by decide +kernel, by decide +kernel⟩
theorem zk_184 : zkP zi_184 1 := ⟨zb6 21 rfl rfl, zb6 22 rfl rfl⟩
theorem zg_185 : zgoodb zi_185 = true := by decide +kernel
theorem zp_185 : zmP zi_185 := ⟨zb6 36 rfl rfl, zb1 11 rfl rfl, rfl, by decide +kernel, by decide, by decide +kernel, by decide +kernel, by decide +kernel⟩
theorem zk_185 : zkP zi_185 1 := ⟨zb6 35 rfl rfl, zc4 5 rfl rfl⟩
theorem zg_186 : zgoodb zi_186 = true := by decide +kernel
theorem zp_186 : zmP zi_186 := ⟨zb6 31 rfl rfl, zb1 11 rfl rfl, rfl, by decide +kernel, by decide, by decide +kernel, by decide +kernel, by decide +kernel⟩
theorem zk_186 : zkP zi_186 1 := ⟨zb6 29 rfl rfl, zb6 30 rfl rfl⟩
theorem zg_187 : zgoodb zi_187 = true := by decide +kernel
theorem zp_187 : zmP zi_187 := ⟨zb6 45 rfl rfl, zb1 11 rfl rfl, rfl, by decide +kernel, by decide, by decide +kernel, by decide +kernel, by decide +kernel⟩
theorem zk_187 : zkP zi_187 1 := ⟨zb6 43 rfl rfl, zb6 44 rfl rfl⟩
theorem zg_188 : zgoodb zi_188 = true := by decide +kernel
theorem zp_188 : zmP zi_188 := ⟨zb6 49 rfl rfl, zb1 11 rfl rfl, rfl, by decide +kernel, by decide, by decide +kernel, by decide +kernel, by decide +kernel⟩
theorem zk_188 : zkP zi_188 1 := ⟨zb6 47 rfl rfl, zb6 48 rfl rfl⟩
theorem zg_189 : zgoodb zi_189 = true := by decide +kernel
theorem zp_189 : zmP zi_189 := ⟨zb6 57 rfl rfl, zb1 11 rfl rfl, rfl, by decide +kernel, by decide, by decide +kernel, by decide +kernel, by decide +kernel⟩
theorem zk_189 : zkP zi_189 1 := ⟨zb6 56 rfl rfl, zc4 7 rfl rfl⟩
theorem zg_190 : zgoodb zi_190 = true := by decide +kernel
theorem zp_190 : zmP zi_190 := ⟨zb6 53 rfl rfl, zb1 11 rfl rfl, rfl, by decide +kernel, by decide, by decide +kernel, by decide +kernel, by decide +kernel⟩
theorem zk_190 : zkP zi_190 1 := ⟨zb6 51 rfl rfl, zb6 52 rfl rfl⟩
theorem zg_191 : zgoodb zi_191 = true := by decide +kernel
theorem zp_191 : zmP zi_191 := ⟨zb6 61 rfl rfl, zb1 11 rfl rfl, rfl, by decide +kernel, by decide, by decide +kernel, by decide +kernel, by decide +kernel⟩
theorem zk_191 : zkP zi_191 1 := ⟨zb6 59 rfl rfl, zb6 60 rfl rfl⟩
theorem zg_192 : zgoodb zi_192 = true := by decide +kernel
theorem zp_192 : zmP zi_192 := ⟨zb6 65 rfl rfl, zb1 11 rfl rfl, rfl, by decide +kernel, by decide, by decide +kernel, by decide +kernel, by decide +kernel⟩
theorem zk_192 : zkP zi_192 1 := ⟨zb6 63 rfl rfl, zb6 64 rfl rfl⟩
theorem zg_193 : zgoodb zi_193 = true := by decide +kernel
theorem zp_193 : zmP zi_193 := ⟨zb6 69 rfl rfl, zb1 11 rfl rfl, rfl, by decide +kernel, by decide, by decide +kernel, by decide +kernel, by decide +kernel⟩
theorem zk_193 : zkP zi_193 1 := ⟨zb6 67 rfl rfl, zb6 68 rfl rfl⟩
theorem zg_194 : zgoodb zi_194 = true := by decide +kernel
theorem zp_194 : zmP zi_194 := ⟨zb6 153 rfl rfl, zb1 11 rfl rfl, rfl, by decide +kernel, by decide, by decide +kernel, by decide +kernel, by decide +kernel⟩
theorem zk_194 : zkP zi_194 1 := ⟨zb6 152 rfl rfl, zc5 0 rfl rfl⟩
theorem zg_195 : zgoodb zi_195 = true := by decide +kernel
theorem zp_195 : zmP zi_195 := ⟨zb6 82 rfl rfl, zb1 11 rfl rfl, rfl, by decide +kernel, by decide, by decide +kernel, by decide +kernel, by decide +kernel⟩
theorem zk_195 : zkP zi_195 1 := ⟨zb6 81 rfl rfl, zc4 8 rfl rfl⟩
theorem zg_196 : zgoodb zi_196 = true := by decide +kernel
theorem zp_196 : zmP zi_196 := ⟨zb6 142 rfl rfl, zb1 11 rfl rfl, rfl, by decide +kernel, by decide, by decide +kernel, by decide +kernel, by decide +kernel⟩
theorem zk_196 : zkP zi_196 1 := ⟨zb6 141 rfl rfl, zc4 15 rfl rfl⟩
theorem zg_197 : zgoodb zi_197 = true := by decide +kernel
theorem zp_197 : zmP zi_197 := ⟨zb6 73 rfl rfl, zb1 11 rfl rfl, rfl, by decide +kernel, by decide, by decide +kernel, by decide +kernel, by decide +kernel⟩
theorem zk_197 : zkP zi_197 1 := ⟨zb6 71 rfl rfl, zb6 72 rfl rfl⟩
theorem zg_198 : zgoodb zi_198 = true := by decide +kernel
theorem zp_198 : zmP zi_198 := ⟨zb6 145 rfl rfl, zb1 11 rfl rfl, rfl, by decide +kernel, by decide, by decide +kernel, by decide +kernel, by decide +kernel⟩
theorem zk_198 : zkP zi_198 0 := zb6 144 rfl rfl
theorem zg_199 : zgoodb zi_199 = true := by decide +kernel
theorem zp_199 : zmP zi_199 := ⟨zb6 90 rfl rfl, zb1 11 rfl rfl, rfl, by decide +kernel, by decide, by decide +kernel, by decide +kernel, by decide +kernel⟩
theorem zk_199 : zkP zi_199 1 := ⟨zb6 89 rfl rfl, zc4 10 rfl rfl⟩
theorem zg_200 : zgoodb zi_200 = true := by decide +kernel
theorem zp_200 : zmP zi_200 := ⟨zb6 86 rfl rfl, zb1 11 rfl rfl, rfl, by decide +kernel, by decide, by decide +kernel, by decide +kernel, by decide +kernel⟩
theorem zk_200 : zkP zi_200 1 := ⟨zb6 85 rfl rfl, zc4 9 rfl rfl⟩
theorem zg_201 : zgoodb zi_201 = true := by decide +kernel
theorem zp_201 : zmP zi_201 := ⟨zb6 94 rfl rfl, zb1 11 rfl rfl, rfl, by decide +kernel, by decide, by decide +kernel, by decide +kernel, by decide +kernel⟩
theorem zk_201 : zkP zi_201 1 := ⟨zb6 93 rfl rfl, zc4 11 rfl rfl⟩
theorem zg_202 : zgoodb zi_202 = true := by decide +kernel
theorem zp_202 : zmP zi_202 := ⟨zb6 98 rfl rfl, zb1 11 rfl rfl, rfl, by decide +kernel, by decide, by decide +kernel, by decide +kernel, by decide +kernel⟩
theorem zk_202 : zkP zi_202 1 := ⟨zb6 97 rfl rfl, zc4 12 rfl rfl⟩
theorem zg_203 : zgoodb zi_203 = true := by decide +kernel
theorem zp_203 : zmP zi_203 := ⟨zb6 102 rfl rfl, zb1 11 rfl rfl, rfl, by decide +kernel, by decide, by decide +kernel, by decide +kernel, by decide +kernel⟩
theorem zk_203 : zkP zi_203 1 := ⟨zb6 101 rfl rfl, zc4 13 rfl rfl⟩
theorem zg_204 : zgoodb zi_204 = true := by decide +kernel
theorem zp_204 : zmP zi_204 := ⟨zb6 78 rfl rfl, zb1 11 rfl rfl, rfl, by decide +kernel, by decide, by decide +kernel, by decide +kernel, by decide +kernel⟩
theorem zk_204 : zkP zi_204 1 := ⟨zb6 76 rfl rfl, zb6 77 rfl rfl⟩
theorem zg_205 : zgoodb zi_205 = true := by decide +kernel
theorem zp_205 : zmP zi_205 := ⟨zb6 106 rfl rfl, zb1 11 rfl rfl, rfl, by decide +kernel, by decide, by decide +kernel, by decide +kernel, by decide +kernel⟩
theorem zk_205 : zkP zi_205 1 := ⟨zb6 104 rfl rfl, zb6 105 rfl rfl⟩
theorem zg_206 : zgoodb zi_206 = true := by decide +kernel
theorem zp_206 : zmP zi_206 := ⟨zb5 55 rfl rfl, zb1 11 rfl rfl, rfl, by decide +kernel, by decide, by decide +kernel, by decide +kernel, by decide +kernel⟩
theorem zk_206 : zkP zi_206 0 := zb5 54 rfl rfl
theorem zg_207 : zgoodb zi_207 = true := by decide +kernel
theorem zp_207 : zmP zi_207 := ⟨zb6 110 rfl rfl, zb1 11 rfl rfl, rfl, by decide +kernel, by decide, by decide +kernel, by decide +kernel, by decide +kernel⟩
theorem zk_207 : zkP zi_207 1 := ⟨zb6 108 rfl rfl, zb6 109 rfl rfl⟩
theorem zg_208 : zgoodb zi_208 = true := by decide +kernel
theorem zp_208 : zmP zi_208 := ⟨zb6 114 rfl rfl, zb1 11 rfl rfl, rfl, by decide +kernel, by decide, by decide +kernel, by decide +kernel, by decide +kernel⟩
theorem zk_208 : zkP zi_208 1 := ⟨zb6 112 rfl rfl, zb6 113 rfl rfl⟩
theorem zg_209 : zgoodb zi_209 = true := by decide +kernel
theorem zp_209 : zmP zi_209 := ⟨zb6 122 rfl rfl, zb1 11 rfl rfl, rfl, by decide +kernel, by decide, by decide +kernel, by decide +kernel, by decide +kernel⟩
theorem zk_209 : zkP zi_209 1 := ⟨zb6 121 rfl rfl, zc4 14 rfl rfl⟩
theorem zg_210 : zgoodb zi_210 = true := by decide +kernel
theorem zp_210 : zmP zi_210 := ⟨zb6 125 rfl rfl, zb1 11 rfl rfl, rfl, by decide +kernel, by decide, by decide +kernel, by decide +kernel, by decide +kernel⟩
theorem zk_210 : zkP zi_210 0 := zb6 124 rfl rfl
theorem zg_211 : zgoodb zi_211 = true := by decide +kernel
theorem zp_211 : zmP zi_211 := ⟨zb6 118 rfl rfl, zb1 11 rfl rfl, rfl, by decide +kernel, by decide, by decide +kernel, by decide +kernel, by decide +kernel⟩
theorem zk_211 : zkP zi_211 1 := ⟨zb6 116 rfl rfl, zb6 117 rfl rfl⟩
theorem zg_212 : zgoodb zi_212 = true := by decide +kernel
theorem zp_212 : zmP zi_212 := ⟨zb6 129 rfl rfl, zb1 11 rfl rfl, rfl, by decide +kernel, by decide, by decide +kernel, by decide +kernel, by decide +kernel⟩
theorem zk_212 : zkP zi_212 1 := ⟨zb6 127 rfl rfl, zb6 128 rfl rfl⟩
theorem zg_213 : zgoodb zi_213 = true := by decide +kernel
theorem zp_213 : zmP zi_213 := ⟨zb6 134 rfl rfl, zb1 11 rfl rfl, rfl, by decide +kernel, by decide, by decide +kernel, by decide +kernel, by decide +kernel⟩
theorem zk_213 : zkP zi_213 1 := ⟨zb6 132 rfl rfl, zb6 133 rfl rfl⟩
theorem zg_214 : zgoodb zi_214 = true := by decide +kernel
theorem zp_214 : zmP zi_214 := ⟨zb6 138 rfl rfl, zb1 11 rfl rfl, rfl, by decide +kernel, by decide, by decide +kernel, by decide +kernel, by decide +kernel⟩
theorem zk_214 : zkP zi_214 1 := ⟨zb6 136 rfl rfl, zb6 137 rfl rfl⟩
theorem zg_215 : zgoodb zi_215 = true := by decide +kernel
theorem zp_215 : zmP zi_215 := ⟨zb6 149 rfl rfl, zb1 11 rfl rfl, rfl, by decide +kernel, by decide, by decide +kernel, by decide +kernel, by decide +kernel⟩
theorem zk_215 : zkP zi_215 1 := ⟨zb6 147 rfl rfl, zb6 148 rfl rfl⟩
theorem zg_216 : zgoodb zi_216 = true := by decide +kernel
theorem zp_216 : zmP zi_216 := ⟨zb3 175 rfl rfl, zb1 14 rfl rfl, rfl, by decide +kernel, by decide, by decide +kernel, by decide +kernel, by decide +kernel⟩
theorem zk_216 : zkP zi_216 0 := zb3 174 rfl rfl
theorem zgl_0 : zgl code zt_217_0 = true := by decide +kernel
theorem zgl_1 : zgl code zt_217_1 = true := by decide +kernel
theorem zgl_2 : zgl code zt_217_2 = true := by decide +kernel
theorem zgl_3 : zgl code zt_217_3 = true := by decide +kernel
theorem zgl_4 : zgl code zt_217_4 = true := by decide +kernel
theorem zgl_5 : zgl code zt_217_5 = true := by decide +kernel
theorem zgl_6 : zgl code zt_217_6 = true := by decide +kernel
theorem zgl_7 : zgl code zt_217_7 = true := by decide +kernel
theorem zgl_8 : zgl code zt_217_8 = true := by decide +kernel
theorem zgl_9 : zgl code zt_217_9 = true := by decide +kernel
theorem zgl_10 : zgl code zt_217_10 = true := by decide +kernel
theorem zgl_11 : zgl code zt_217_11 = true := by decide +kernel
theorem zgl_12 : zgl code zt_217_12 = true := by decide +kernel
theorem zgl_13 : zgl code zt_217_13 = true := by decide +kernel
theorem zgl_14 : zgl code zt_217_14 = true := by decide +kernel
theorem zgl_15 : zgl code zt_217_15 = true := by decide +kernel
theorem zgl_16 : zgl code zt_217_16 = true := by decide +kernel
theorem zgl_17 : zgl code zt_217_17 = true := by decide +kernel
theorem zgl_18 : zgl code zt_217_18 = true := by decide +kernel
theorem zgl_19 : zgl code zt_217_19 = true := by decide +kernel
theorem zg_217 : zgoodb zi_217 = true := zgl_app zgl_0 (zgl_app zgl_1 (zgl_app zgl_2 (zgl_app zgl_3 (zgl_app zgl_4 (zgl_app zgl_5 (zgl_app zgl_6 (zgl_app zgl_7 (zgl_app zgl_8 (zgl_app zgl_9 (zgl_app zgl_10 (zgl_app zgl_11 (zgl_app zgl_12 (zgl_app zgl_13 (zgl_app zgl_14 (zgl_app zgl_15 (zgl_app zgl_16 (zgl_app zgl_17 (zgl_app zgl_18 (zgl_19)))))))))))))))))))
def zmQ (x : zInfo × Nat) : Prop := zmP x.1 ∧ zkP x.1 x.2 ∧ zgoodb x.1 = true
def zMK_0 : List (zInfo × Nat) := [(zi_0, 2), (zi_1, 1), (zi_2, 0), (zi_3, 1), (zi_4, 1), (zi_5, 1), (zi_6, 2), (zi_7, 1), (zi_8, 1), (zi_9, 1), (zi_10, 1), (zi_11, 1), (zi_12, 2), (zi_13, 0), (zi_14, 1), (zi_15, 1), (zi_16, 1), (zi_17, 1), (zi_18, 0), (zi_19, 1)]
set_option maxRecDepth 100000 in
theorem zMK_0_ok : ∀ x ∈ zMK_0, zmQ x := List.forall_mem_cons.mpr ⟨⟨zp_0, zk_0, zg_0⟩, List.forall_mem_cons.mpr ⟨⟨zp_1, zk_1, zg_1⟩, List.forall_mem_cons.mpr ⟨⟨zp_2, zk_2, zg_2⟩, List.forall_mem_cons.mpr ⟨⟨zp_3, zk_3, zg_3⟩, List.forall_mem_cons.mpr ⟨⟨zp_4, zk_4, zg_4⟩, List.forall_mem_cons.mpr ⟨⟨zp_5, zk_5, zg_5⟩, List.forall_mem_cons.mpr ⟨⟨zp_6, zk_6, zg_6⟩, List.forall_mem_cons.mpr ⟨⟨zp_7, zk_7, zg_7⟩, List.forall_mem_cons.mpr ⟨⟨zp_8, zk_8, zg_8⟩, List.forall_mem_cons.mpr ⟨⟨zp_9, zk_9, zg_9⟩, List.forall_mem_cons.mpr ⟨⟨zp_10, zk_10, zg_10⟩, List.forall_mem_cons.mpr ⟨⟨zp_11, zk_11, zg_11⟩, List.forall_mem_cons.mpr ⟨⟨zp_12, zk_12, zg_12⟩, List.forall_mem_cons.mpr ⟨⟨zp_13, zk_13, zg_13⟩, List.forall_mem_cons.mpr ⟨⟨zp_14, zk_14, zg_14⟩, List.forall_mem_cons.mpr ⟨⟨zp_15, zk_15, zg_15⟩, List.forall_mem_cons.mpr ⟨⟨zp_16, zk_16, zg_16⟩, List.forall_mem_cons.mpr ⟨⟨zp_17, zk_17, zg_17⟩, List.forall_mem_cons.mpr ⟨⟨zp_18, zk_18, zg_18⟩, List.forall_mem_cons.mpr ⟨⟨zp_19, zk_19, zg_19⟩, fun _ h => absurd h List.not_mem_nil⟩⟩⟩⟩⟩⟩⟩⟩⟩⟩⟩⟩⟩⟩⟩⟩⟩⟩⟩⟩
def zMK_1 : List (zInfo × Nat) := [(zi_20, 1), (zi_21, 2), (zi_22, 1), (zi_23, 1), (zi_24, 1), (zi_25, 1), (zi_26, 0), (zi_27, 1), (zi_28, 1), (zi_29, 1), (zi_30, 0), (zi_31, 1), (zi_32, 2), (zi_33, 1), (zi_34, 1), (zi_35, 1), (zi_36, 1), (zi_37, 1), (zi_38, 1), (zi_39, 0)]
set_option maxRecDepth 100000 in
theorem zMK_1_ok : ∀ x ∈ zMK_1, zmQ x := List.forall_mem_cons.mpr ⟨⟨zp_20, zk_20, zg_20⟩, List.forall_mem_cons.mpr ⟨⟨zp_21, zk_21, zg_21⟩, List.forall_mem_cons.mpr ⟨⟨zp_22, zk_22, zg_22⟩, List.forall_mem_cons.mpr ⟨⟨zp_23, zk_23, zg_23⟩, List.forall_mem_cons.mpr ⟨⟨zp_24, zk_24, zg_24⟩, List.forall_mem_cons.mpr ⟨⟨zp_25, zk_25, zg_25⟩, List.forall_mem_cons.mpr ⟨⟨zp_26, zk_26, zg_26⟩, List.forall_mem_cons.mpr ⟨⟨zp_27, zk_27, zg_27⟩, List.forall_mem_cons.mpr ⟨⟨zp_28, zk_28, zg_28⟩, List.forall_mem_cons.mpr ⟨⟨zp_29, zk_29, zg_29⟩, List.forall_mem_cons.mpr ⟨⟨zp_30, zk_30, zg_30⟩, List.forall_mem_cons.mpr ⟨⟨zp_31, zk_31, zg_31⟩, List.forall_mem_cons.mpr ⟨⟨zp_32, zk_32, zg_32⟩, List.forall_mem_cons.mpr ⟨⟨zp_33, zk_33, zg_33⟩, List.forall_mem_cons.mpr ⟨⟨zp_34, zk_34, zg_34⟩, List.forall_mem_cons.mpr ⟨⟨zp_35, zk_35, zg_35⟩, List.forall_mem_cons.mpr ⟨⟨zp_36, zk_36, zg_36⟩, List.forall_mem_cons.mpr ⟨⟨zp_37, zk_37, zg_37⟩, List.forall_mem_cons.mpr ⟨⟨zp_38, zk_38, zg_38⟩, List.forall_mem_cons.mpr ⟨⟨zp_39, zk_39, zg_39⟩, fun _ h => absurd h List.not_mem_nil⟩⟩⟩⟩⟩⟩⟩⟩⟩⟩⟩⟩⟩⟩⟩⟩⟩⟩⟩⟩
def zMK_2 : List (zInfo × Nat) := [(zi_40, 0), (zi_41, 0), (zi_42, 2), (zi_43, 1), (zi_44, 1), (zi_45, 0), (zi_46, 0), (zi_47, 2), (zi_48, 0), (zi_49, 1), (zi_50, 1), (zi_51, 0), (zi_52, 2), (zi_53, 0), (zi_54, 0), (zi_55, 1), (zi_56, 1), (zi_57, 2), (zi_58, 0), (zi_59, 1)]
set_option maxRecDepth 100000 in
theorem zMK_2_ok : ∀ x ∈ zMK_2, zmQ x := List.forall_mem_cons.mpr ⟨⟨zp_40, zk_40, zg_40⟩, List.forall_mem_cons.mpr ⟨⟨zp_41, zk_41, zg_41⟩, List.forall_mem_cons.mpr ⟨⟨zp_42, zk_42, zg_42⟩, List.forall_mem_cons.mpr ⟨⟨zp_43, zk_43, zg_43⟩, List.forall_mem_cons.mpr ⟨⟨zp_44, zk_44, zg_44⟩, List.forall_mem_cons.mpr ⟨⟨zp_45, zk_45, zg_45⟩, List.forall_mem_cons.mpr ⟨⟨zp_46, zk_46, zg_46⟩, List.forall_mem_cons.mpr ⟨⟨zp_47, zk_47, zg_47⟩, List.forall_mem_cons.mpr ⟨⟨zp_48, zk_48, zg_48⟩, List.forall_mem_cons.mpr ⟨⟨zp_49, zk_49, zg_49⟩, List.forall_mem_cons.mpr ⟨⟨zp_50, zk_50, zg_50⟩, List.forall_mem_cons.mpr ⟨⟨zp_51, zk_51, zg_51⟩, List.forall_mem_cons.mpr ⟨⟨zp_52, zk_52, zg_52⟩, List.forall_mem_cons.mpr ⟨⟨zp_53, zk_53, zg_53⟩, List.forall_mem_cons.mpr ⟨⟨zp_54, zk_54, zg_54⟩, List.forall_mem_cons.mpr ⟨⟨zp_55, zk_55, zg_55⟩, List.forall_mem_cons.mpr ⟨⟨zp_56, zk_56, zg_56⟩, List.forall_mem_cons.mpr ⟨⟨zp_57, zk_57, zg_57⟩, List.forall_mem_cons.mpr ⟨⟨zp_58, zk_58, zg_58⟩, List.forall_mem_cons.mpr ⟨⟨zp_59, zk_59, zg_59⟩, fun _ h => absurd h List.not_mem_nil⟩⟩⟩⟩⟩⟩⟩⟩⟩⟩⟩⟩⟩⟩⟩⟩⟩⟩⟩⟩
def zMK_3 : List (zInfo × Nat) := [(zi_60, 1), (zi_61, 1), (zi_62, 1), (zi_63, 1), (zi_64, 1), (zi_65, 1), (zi_66, 1), (zi_67, 1), (zi_68, 1), (zi_69, 1), (zi_70, 1), (zi_71, 1), (zi_72, 2), (zi_73, 1), (zi_74, 1), (zi_75, 1), (zi_76, 1), (zi_77, 1), (zi_78, 1), (zi_79, 1)]
set_option maxRecDepth 100000 in
theorem zMK_3_ok : ∀ x ∈ zMK_3, zmQ x := List.forall_mem_cons.mpr ⟨⟨zp_60, zk_60, zg_60⟩, List.forall_mem_cons.mpr ⟨⟨zp_61, zk_61, zg_61⟩, List.forall_mem_cons.mpr ⟨⟨zp_62, zk_62, zg_62⟩, List.forall_mem_cons.mpr ⟨⟨zp_63, zk_63, zg_63⟩, List.forall_mem_cons.mpr ⟨⟨zp_64, zk_64, zg_64⟩, List.forall_mem_cons.mpr ⟨⟨zp_65, zk_65, zg_65⟩, List.forall_mem_cons.mpr ⟨⟨zp_66, zk_66, zg_66⟩, List.forall_mem_cons.mpr ⟨⟨zp_67, zk_67, zg_67⟩, List.forall_mem_cons.mpr ⟨⟨zp_68, zk_68, zg_68⟩, List.forall_mem_cons.mpr ⟨⟨zp_69, zk_69, zg_69⟩, List.forall_mem_cons.mpr ⟨⟨zp_70, zk_70, zg_70⟩, List.forall_mem_cons.mpr ⟨⟨zp_71, zk_71, zg_71⟩, List.forall_mem_cons.mpr ⟨⟨zp_72, zk_72, zg_72⟩, List.forall_mem_cons.mpr ⟨⟨zp_73, zk_73, zg_73⟩, List.forall_mem_cons.mpr ⟨⟨zp_74, zk_74, zg_74⟩, List.forall_mem_cons.mpr ⟨⟨zp_75, zk_75, zg_75⟩, List.forall_mem_cons.mpr ⟨⟨zp_76, zk_76, zg_76⟩, List.forall_mem_cons.mpr ⟨⟨zp_77, zk_77, zg_77⟩, List.forall_mem_cons.mpr ⟨⟨zp_78, zk_78, zg_78⟩, List.forall_mem_cons.mpr ⟨⟨zp_79, zk_79, zg_79⟩, fun _ h => absurd h List.not_mem_nil⟩⟩⟩⟩⟩⟩⟩⟩⟩⟩⟩⟩⟩⟩⟩⟩⟩⟩⟩⟩
def zMK_4 : List (zInfo × Nat) := [(zi_80, 1), (zi_81, 1), (zi_82, 1), (zi_83, 1), (zi_84, 1), (zi_85, 1), (zi_86, 1), (zi_87, 1), (zi_88, 1), (zi_89, 1), (zi_90, 1), (zi_91, 1), (zi_92, 1), (zi_93, 1), (zi_94, 1), (zi_95, 1), (zi_96, 1), (zi_97, 1), (zi_98, 1), (zi_99, 1)]
set_option maxRecDepth 100000 in
theorem zMK_4_ok : ∀ x ∈ zMK_4, zmQ x := List.forall_mem_cons.mpr ⟨⟨zp_80, zk_80, zg_80⟩, List.forall_mem_cons.mpr ⟨⟨zp_81, zk_81, zg_81⟩, List.forall_mem_cons.mpr ⟨⟨zp_82, zk_82, zg_82⟩, List.forall_mem_cons.mpr ⟨⟨zp_83, zk_83, zg_83⟩, List.forall_mem_cons.mpr ⟨⟨zp_84, zk_84, zg_84⟩, List.forall_mem_cons.mpr ⟨⟨zp_85, zk_85, zg_85⟩, List.forall_mem_cons.mpr ⟨⟨zp_86, zk_86, zg_86⟩, List.forall_mem_cons.mpr ⟨⟨zp_87, zk_87, zg_87⟩, List.forall_mem_cons.mpr ⟨⟨zp_88, zk_88, zg_88⟩, List.forall_mem_cons.mpr ⟨⟨zp_89, zk_89, zg_89⟩, List.forall_mem_cons.mpr ⟨⟨zp_90, zk_90, zg_90⟩, List.forall_mem_cons.mpr ⟨⟨zp_91, zk_91, zg_91⟩, List.forall_mem_cons.mpr ⟨⟨zp_92, zk_92, zg_92⟩, List.forall_mem_cons.mpr ⟨⟨zp_93, zk_93, zg_93⟩, List.forall_mem_cons.mpr ⟨⟨zp_94, zk_94, zg_94⟩, List.forall_mem_cons.mpr ⟨⟨zp_95, zk_95, zg_95⟩, List.forall_mem_cons.mpr ⟨⟨zp_96, zk_96, zg_96⟩, List.forall_mem_cons.mpr ⟨⟨zp_97, zk_97, zg_97⟩, List.forall_mem_cons.mpr ⟨⟨zp_98, zk_98, zg_98⟩, List.forall_mem_cons.mpr ⟨⟨zp_99, zk_99, zg_99⟩, fun _ h => absurd h List.not_mem_nil⟩⟩⟩⟩⟩⟩⟩⟩⟩⟩⟩⟩⟩⟩⟩⟩⟩⟩⟩⟩
def zMK_5 : List (zInfo × Nat) := [(zi_100, 1), (zi_101, 1), (zi_102, 1), (zi_103, 1), (zi_104, 1), (zi_105, 1), (zi_106, 1), (zi_107, 1), (zi_108, 1), (zi_109, 1), (zi_110, 1), (zi_111, 1), (zi_112, 1), (zi_113, 1), (zi_114, 1), (zi_115, 1), (zi_116, 1), (zi_117, 1), (zi_118, 1), (zi_119, 1)]
set_option maxRecDepth 100000 in
theorem zMK_5_ok : ∀ x ∈ zMK_5, zmQ x := List.forall_mem_cons.mpr ⟨⟨zp_100, zk_100, zg_100⟩, List.forall_mem_cons.mpr ⟨⟨zp_101, zk_101, zg_101⟩, List.forall_mem_cons.mpr ⟨⟨zp_102, zk_102, zg_102⟩, List.forall_mem_cons.mpr ⟨⟨zp_103, zk_103, zg_103⟩, List.forall_mem_cons.mpr ⟨⟨zp_104, zk_104, zg_104⟩, List.forall_mem_cons.mpr ⟨⟨zp_105, zk_105, zg_105⟩, List.forall_mem_cons.mpr ⟨⟨zp_106, zk_106, zg_106⟩, List.forall_mem_cons.mpr ⟨⟨zp_107, zk_107, zg_107⟩, List.forall_mem_cons.mpr ⟨⟨zp_108, zk_108, zg_108⟩, List.forall_mem_cons.mpr ⟨⟨zp_109, zk_109, zg_109⟩, List.forall_mem_cons.mpr ⟨⟨zp_110, zk_110, zg_110⟩, List.forall_mem_cons.mpr ⟨⟨zp_111, zk_111, zg_111⟩, List.forall_mem_cons.mpr ⟨⟨zp_112, zk_112, zg_112⟩, List.forall_mem_cons.mpr ⟨⟨zp_113, zk_113, zg_113⟩, List.forall_mem_cons.mpr ⟨⟨zp_114, zk_114, zg_114⟩, List.forall_mem_cons.mpr ⟨⟨zp_115, zk_115, zg_115⟩, List.forall_mem_cons.mpr ⟨⟨zp_116, zk_116, zg_116⟩, List.forall_mem_cons.mpr ⟨⟨zp_117, zk_117, zg_117⟩, List.forall_mem_cons.mpr ⟨⟨zp_118, zk_118, zg_118⟩, List.forall_mem_cons.mpr ⟨⟨zp_119, zk_119, zg_119⟩, fun _ h => absurd h List.not_mem_nil⟩⟩⟩⟩⟩⟩⟩⟩⟩⟩⟩⟩⟩⟩⟩⟩⟩⟩⟩⟩
def zMK_6 : List (zInfo × Nat) := [(zi_120, 0), (zi_121, 1), (zi_122, 0), (zi_123, 0), (zi_124, 2), (zi_125, 1), (zi_126, 1), (zi_127, 1), (zi_128, 1), (zi_129, 1), (zi_130, 1), (zi_131, 1), (zi_132, 0), (zi_133, 1), (zi_134, 1), (zi_135, 0), (zi_136, 1), (zi_137, 1), (zi_138, 1), (zi_139, 1)]
set_option maxRecDepth 100000 in
theorem zMK_6_ok : ∀ x ∈ zMK_6, zmQ x := List.forall_mem_cons.mpr ⟨⟨zp_120, zk_120, zg_120⟩, List.forall_mem_cons.mpr ⟨⟨zp_121, zk_121, zg_121⟩, List.forall_mem_cons.mpr ⟨⟨zp_122, zk_122, zg_122⟩, List.forall_mem_cons.mpr ⟨⟨zp_123, zk_123, zg_123⟩, List.forall_mem_cons.mpr ⟨⟨zp_124, zk_124, zg_124⟩, List.forall_mem_cons.mpr ⟨⟨zp_125, zk_125, zg_125⟩, List.forall_mem_cons.mpr ⟨⟨zp_126, zk_126, zg_126⟩, List.forall_mem_cons.mpr ⟨⟨zp_127, zk_127, zg_127⟩, List.forall_mem_cons.mpr ⟨⟨zp_128, zk_128, zg_128⟩, List.forall_mem_cons.mpr ⟨⟨zp_129, zk_129, zg_129⟩, List.forall_mem_cons.mpr ⟨⟨zp_130, zk_130, zg_130⟩, List.forall_mem_cons.mpr ⟨⟨zp_131, zk_131, zg_131⟩, List.forall_mem_cons.mpr ⟨⟨zp_132, zk_132, zg_132⟩, List.forall_mem_cons.mpr ⟨⟨zp_133, zk_133, zg_133⟩, List.forall_mem_cons.mpr ⟨⟨zp_134, zk_134, zg_134⟩, List.forall_mem_cons.mpr ⟨⟨zp_135, zk_135, zg_135⟩, List.forall_mem_cons.mpr ⟨⟨zp_136, zk_136, zg_136⟩, List.forall_mem_cons.mpr ⟨⟨zp_137, zk_137, zg_137⟩, List.forall_mem_cons.mpr ⟨⟨zp_138, zk_138, zg_138⟩, List.forall_mem_cons.mpr ⟨⟨zp_139, zk_139, zg_139⟩, fun _ h => absurd h List.not_mem_nil⟩⟩⟩⟩⟩⟩⟩⟩⟩⟩⟩⟩⟩⟩⟩⟩⟩⟩⟩⟩
def zMK_7 : List (zInfo × Nat) := [(zi_140, 1), (zi_141, 1), (zi_142, 1), (zi_143, 1), (zi_144, 1), (zi_145, 1), (zi_146, 1), (zi_147, 1), (zi_148, 1), (zi_149, 1), (zi_150, 1), (zi_151, 1), (zi_152, 1), (zi_153, 1), (zi_154, 0), (zi_155, 1), (zi_156, 1), (zi_157, 1), (zi_158, 1), (zi_159, 1)]
set_option maxRecDepth 100000 in
theorem zMK_7_ok : ∀ x ∈ zMK_7, zmQ x := List.forall_mem_cons.mpr ⟨⟨zp_140, zk_140, zg_140⟩, List.forall_mem_cons.mpr ⟨⟨zp_141, zk_141, zg_141⟩, List.forall_mem_cons.mpr ⟨⟨zp_142, zk_142, zg_142⟩, List.forall_mem_cons.mpr ⟨⟨zp_143, zk_143, zg_143⟩, List.forall_mem_cons.mpr ⟨⟨zp_144, zk_144, zg_144⟩, List.forall_mem_cons.mpr ⟨⟨zp_145, zk_145, zg_145⟩, List.forall_mem_cons.mpr ⟨⟨zp_146, zk_146, zg_146⟩, List.forall_mem_cons.mpr ⟨⟨zp_147, zk_147, zg_147⟩, List.forall_mem_cons.mpr ⟨⟨zp_148, zk_148, zg_148⟩, List.forall_mem_cons.mpr ⟨⟨zp_149, zk_149, zg_149⟩, List.forall_mem_cons.mpr ⟨⟨zp_150, zk_150, zg_150⟩, List.forall_mem_cons.mpr ⟨⟨zp_151, zk_151, zg_151⟩, List.forall_mem_cons.mpr ⟨⟨zp_152, zk_152, zg_152⟩, List.forall_mem_cons.mpr ⟨⟨zp_153, zk_153, zg_153⟩, List.forall_mem_cons.mpr ⟨⟨zp_154, zk_154, zg_154⟩, List.forall_mem_cons.mpr ⟨⟨zp_155, zk_155, zg_155⟩, List.forall_mem_cons.mpr ⟨⟨zp_156, zk_156, zg_156⟩, List.forall_mem_cons.mpr ⟨⟨zp_157, zk_157, zg_157⟩, List.forall_mem_cons.mpr ⟨⟨zp_158, zk_158, zg_158⟩, List.forall_mem_cons.mpr ⟨⟨zp_159, zk_159, zg_159⟩, fun _ h => absurd h List.not_mem_nil⟩⟩⟩⟩⟩⟩⟩⟩⟩⟩⟩⟩⟩⟩⟩⟩⟩⟩⟩⟩
def zMK_8 : List (zInfo × Nat) := [(zi_160, 1), (zi_161, 1), (zi_162, 1), (zi_163, 1), (zi_164, 1), (zi_165, 1), (zi_166, 1), (zi_167, 1), (zi_168, 1), (zi_169, 1), (zi_170, 1), (zi_171, 1), (zi_172, 1), (zi_173, 1), (zi_174, 1), (zi_175, 1), (zi_176, 1), (zi_177, 1), (zi_178, 1), (zi_179, 1)]
set_option maxRecDepth 100000 in
theorem zMK_8_ok : ∀ x ∈ zMK_8, zmQ x := List.forall_mem_cons.mpr ⟨⟨zp_160, zk_160, zg_160⟩, List.forall_mem_cons.mpr ⟨⟨zp_161, zk_161, zg_161⟩, List.forall_mem_cons.mpr ⟨⟨zp_162, zk_162, zg_162⟩, List.forall_mem_cons.mpr ⟨⟨zp_163, zk_163, zg_163⟩, List.forall_mem_cons.mpr ⟨⟨zp_164, zk_164, zg_164⟩, List.forall_mem_cons.mpr ⟨⟨zp_165, zk_165, zg_165⟩, List.forall_mem_cons.mpr ⟨⟨zp_166, zk_166, zg_166⟩, List.forall_mem_cons.mpr ⟨⟨zp_167, zk_167, zg_167⟩, List.forall_mem_cons.mpr ⟨⟨zp_168, zk_168, zg_168⟩, List.forall_mem_cons.mpr ⟨⟨zp_169, zk_169, zg_169⟩, List.forall_mem_cons.mpr ⟨⟨zp_170, zk_170, zg_170⟩, List.forall_mem_cons.mpr ⟨⟨zp_171, zk_171, zg_171⟩, List.forall_mem_cons.mpr ⟨⟨zp_172, zk_172, zg_172⟩, List.forall_mem_cons.mpr ⟨⟨zp_173, zk_173, zg_173⟩, List.forall_mem_cons.mpr ⟨⟨zp_174, zk_174, zg_174⟩, List.forall_mem_cons.mpr ⟨⟨zp_175, zk_175, zg_175⟩, List.forall_mem_cons.mpr ⟨⟨zp_176, zk_176, zg_176⟩, List.forall_mem_cons.mpr ⟨⟨zp_177, zk_177, zg_177⟩, List.forall_mem_cons.mpr ⟨⟨zp_178, zk_178, zg_178⟩, List.forall_mem_cons.mpr ⟨⟨zp_179, zk_179, zg_179⟩, fun _ h => absurd h List.not_mem_nil⟩⟩⟩⟩⟩⟩⟩⟩⟩⟩⟩⟩⟩⟩⟩⟩⟩⟩⟩⟩
def zMK_9 : List (zInfo × Nat) := [(zi_180, 1), (zi_181, 1), (zi_182, 0), (zi_183, 1), (zi_184, 1), (zi_185, 1), (zi_186, 1), (zi_187, 1), (zi_188, 1), (zi_189, 1), (zi_190, 1), (zi_191, 1), (zi_192, 1), (zi_193, 1), (zi_194, 1), (zi_195, 1), (zi_196, 1), (zi_197, 1), (zi_198, 0), (zi_199, 1)]
set_option maxRecDepth 100000 in
theorem zMK_9_ok : ∀ x ∈ zMK_9, zmQ x := List.forall_mem_cons.mpr ⟨⟨zp_180, zk_180, zg_180⟩, List.forall_mem_cons.mpr ⟨⟨zp_181, zk_181, zg_181⟩, List.forall_mem_cons.mpr ⟨⟨zp_182, zk_182, zg_182⟩, List.forall_mem_cons.mpr ⟨⟨zp_183, zk_183, zg_183⟩, List.forall_mem_cons.mpr ⟨⟨zp_184, zk_184, zg_184⟩, List.forall_mem_cons.mpr ⟨⟨zp_185, zk_185, zg_185⟩, List.forall_mem_cons.mpr ⟨⟨zp_186, zk_186, zg_186⟩, List.forall_mem_cons.mpr ⟨⟨zp_187, zk_187, zg_187⟩, List.forall_mem_cons.mpr ⟨⟨zp_188, zk_188, zg_188⟩, List.forall_mem_cons.mpr ⟨⟨zp_189, zk_189, zg_189⟩, List.forall_mem_cons.mpr ⟨⟨zp_190, zk_190, zg_190⟩, List.forall_mem_cons.mpr ⟨⟨zp_191, zk_191, zg_191⟩, List.forall_mem_cons.mpr ⟨⟨zp_192, zk_192, zg_192⟩, List.forall_mem_cons.mpr ⟨⟨zp_193, zk_193, zg_193⟩, List.forall_mem_cons.mpr ⟨⟨zp_194, zk_194, zg_194⟩, List.forall_mem_cons.mpr ⟨⟨zp_195, zk_195, zg_195⟩, List.forall_mem_cons.mpr ⟨⟨zp_196, zk_196, zg_196⟩, List.forall_mem_cons.mpr ⟨⟨zp_197, zk_197, zg_197⟩, List.forall_mem_cons.mpr ⟨⟨zp_198, zk_198, zg_198⟩, List.forall_mem_cons.mpr ⟨⟨zp_199, zk_199, zg_199⟩, fun _ h => absurd h List.not_mem_nil⟩⟩⟩⟩⟩⟩⟩⟩⟩⟩⟩⟩⟩⟩⟩⟩⟩⟩⟩⟩
def zMK_10 : List (zInfo × Nat) := [(zi_200, 1), (zi_201, 1), (zi_202, 1), (zi_203, 1), (zi_204, 1), (zi_205, 1), (zi_206, 0), (zi_207, 1), (zi_208, 1), (zi_209, 1), (zi_210, 0), (zi_211, 1), (zi_212, 1), (zi_213, 1), (zi_214, 1), (zi_215, 1), (zi_216, 0)]
set_option maxRecDepth 100000 in
theorem zMK_10_ok : ∀ x ∈ zMK_10, zmQ x := List.forall_mem_cons.mpr ⟨⟨zp_200, zk_200, zg_200⟩, List.forall_mem_cons.mpr ⟨⟨zp_201, zk_201, zg_201⟩, List.forall_mem_cons.mpr ⟨⟨zp_202, zk_202, zg_202⟩, List.forall_mem_cons.mpr ⟨⟨zp_203, zk_203, zg_203⟩, List.forall_mem_cons.mpr ⟨⟨zp_204, zk_204, zg_204⟩, List.forall_mem_cons.mpr ⟨⟨zp_205, zk_205, zg_205⟩, List.forall_mem_cons.mpr ⟨⟨zp_206, zk_206, zg_206⟩, List.forall_mem_cons.mpr ⟨⟨zp_207, zk_207, zg_207⟩, List.forall_mem_cons.mpr ⟨⟨zp_208, zk_208, zg_208⟩, List.forall_mem_cons.mpr ⟨⟨zp_209, zk_209, zg_209⟩, List.forall_mem_cons.mpr ⟨⟨zp_210, zk_210, zg_210⟩, List.forall_mem_cons.mpr ⟨⟨zp_211, zk_211, zg_211⟩, List.forall_mem_cons.mpr ⟨⟨zp_212, zk_212, zg_212⟩, List.forall_mem_cons.mpr ⟨⟨zp_213, zk_213, zg_213⟩, List.forall_mem_cons.mpr ⟨⟨zp_214, zk_214, zg_214⟩, List.forall_mem_cons.mpr ⟨⟨zp_215, zk_215, zg_215⟩, List.forall_mem_cons.mpr ⟨⟨zp_216, zk_216, zg_216⟩, fun _ h => absurd h List.not_mem_nil⟩⟩⟩⟩⟩⟩⟩⟩⟩⟩⟩⟩⟩⟩⟩⟩⟩
def zMK : List (zInfo × Nat) := zMK_0 ++ (zMK_1 ++ (zMK_2 ++ (zMK_3 ++ (zMK_4 ++ (zMK_5 ++ (zMK_6 ++ (zMK_7 ++ (zMK_8 ++ (zMK_9 ++ (zMK_10))))))))))
theorem zMK_ok : ∀ x ∈ zMK, zmQ x := List.forall_mem_append.mpr ⟨zMK_0_ok, List.forall_mem_append.mpr ⟨zMK_1_ok, List.forall_mem_append.mpr ⟨zMK_2_ok, List.forall_mem_append.mpr ⟨zMK_3_ok, List.forall_mem_append.mpr ⟨zMK_4_ok, List.forall_mem_append.mpr ⟨zMK_5_ok, List.forall_mem_append.mpr ⟨zMK_6_ok, List.forall_mem_append.mpr ⟨zMK_7_ok, List.forall_mem_append.mpr ⟨zMK_8_ok, List.forall_mem_append.mpr ⟨zMK_9_ok, zMK_10_ok⟩⟩⟩⟩⟩⟩⟩⟩⟩⟩
set_option maxRecDepth 100000 in
theorem zMK_zip : zMK.map (fun x => x.1) ++ [zi_217] = zML ∧ zMK.map (fun x => x.2) ++ [1] = zkds := ⟨rfl, rfl⟩
def zLFok (e : Nat × Nat × Nat × Nat) : Prop := .fieldLink (zNm e.1) e.2.1 (zNm e.2.2.1) (zTf e.2.2.1 e.2.2.2).2.1 (zTf e.2.2.1 e.2.2.2).2.2.1 ∈ zTB ∧ e.2.2.2 < zN e.2.2.1 ∧ e.2.2.1 < 11
def zLFc_0 : List (Nat × Nat × Nat × Nat) := [(0, 9, (0, 0)), (0, 13, (0, 1)), (0, 16, (0, 2)), (0, 23, (0, 4)), (0, 26, (0, 5)), (0, 36, (0, 3)), (1, 9, (1, 0)), (1, 13, (1, 1)), (1, 23, (1, 2)), (2, 11, (2, 0)), (2, 17, (2, 1)), (2, 20, (2, 2)), (2, 23, (2, 3)), (2, 27, (2, 4)), (2, 41, (2, 10)), (2, 45, (2, 9)), (2, 48, (2, 8)), (2, 51, (2, 7)), (2, 66, (2, 5)), (2, 76, (8, 0))]
set_option maxRecDepth 100000 in
theorem zLFc_0_ok : ∀ x ∈ zLFc_0, zLFok x := List.forall_mem_cons.mpr ⟨⟨zb1 213 rfl rfl, by decide, by decide⟩, List.forall_mem_cons.mpr ⟨⟨zb1 215 rfl rfl, by decide, by decide⟩, List.forall_mem_cons.mpr ⟨⟨zb1 217 rfl rfl, by decide, by decide⟩, List.forall_mem_cons.mpr ⟨⟨zb1 221 rfl rfl, by decide, by decide⟩, List.forall_mem_cons.mpr ⟨⟨zb1 222 rfl rfl, by decide, by decide⟩, List.forall_mem_cons.mpr ⟨⟨zb1 219 rfl rfl, by decide, by decide⟩, List.forall_mem_cons.mpr ⟨⟨zb1 195 rfl rfl, by decide, by decide⟩, List.forall_mem_cons.mpr ⟨⟨zb1 196 rfl rfl, by decide, by decide⟩, List.forall_mem_cons.mpr ⟨⟨zb1 198 rfl rfl, by decide, by decide⟩, List.forall_mem_cons.mpr ⟨⟨zb1 119 rfl rfl, by decide, by decide⟩, List.forall_mem_cons.mpr ⟨⟨zb1 120 rfl rfl, by decide, by decide⟩, List.forall_mem_cons.mpr ⟨⟨zb1 121 rfl rfl, by decide, by decide⟩, List.forall_mem_cons.mpr ⟨⟨zb1 122 rfl rfl, by decide, by decide⟩, List.forall_mem_cons.mpr ⟨⟨zb1 123 rfl rfl, by decide, by decide⟩, List.forall_mem_cons.mpr ⟨⟨zb1 133 rfl rfl, by decide, by decide⟩, List.forall_mem_cons.mpr ⟨⟨zb1 131 rfl rfl, by decide, by decide⟩, List.forall_mem_cons.mpr ⟨⟨zb1 129 rfl rfl, by decide, by decide⟩, List.forall_mem_cons.mpr ⟨⟨zb1 126 rfl rfl, by decide, by decide⟩, List.forall_mem_cons.mpr ⟨⟨zb1 124 rfl rfl, by decide, by decide⟩, List.forall_mem_cons.mpr ⟨⟨zb1 33 rfl rfl, by decide, by decide⟩, fun _ h => absurd h List.not_mem_nil⟩⟩⟩⟩⟩⟩⟩⟩⟩⟩⟩⟩⟩⟩⟩⟩⟩⟩⟩⟩
def zLFc_1 : List (Nat × Nat × Nat × Nat) := [(2, 88, (8, 6)), (2, 89, (8, 1)), (2, 92, (5, 3)), (3, 11, (3, 0)), (3, 15, (3, 1)), (3, 18, (3, 2)), (3, 21, (3, 4)), (3, 25, (3, 3)), (3, 57, (2, 7)), (4, 11, (4, 0)), (4, 15, (4, 3)), (4, 19, (5, 3)), (4, 25, (4, 2)), (4, 36, (4, 1)), (5, 11, (5, 0)), (5, 15, (5, 1)), (5, 18, (5, 2)), (5, 21, (5, 3)), (6, 9, (6, 0)), (6, 13, (6, 1))]
set_option maxRecDepth 100000 in
theorem zLFc_1_ok : ∀ x ∈ zLFc_1, zLFok x := List.forall_mem_cons.mpr ⟨⟨zb1 45 rfl rfl, by decide, by decide⟩, List.forall_mem_cons.mpr ⟨⟨zb1 36 rfl rfl, by decide, by decide⟩, List.forall_mem_cons.mpr ⟨⟨zb2 9 rfl rfl, by decide, by decide⟩, List.forall_mem_cons.mpr ⟨⟨zb1 68 rfl rfl, by decide, by decide⟩, List.forall_mem_cons.mpr ⟨⟨zb1 70 rfl rfl, by decide, by decide⟩, List.forall_mem_cons.mpr ⟨⟨zb1 72 rfl rfl, by decide, by decide⟩, List.forall_mem_cons.mpr ⟨⟨zb1 76 rfl rfl, by decide, by decide⟩, List.forall_mem_cons.mpr ⟨⟨zb1 74 rfl rfl, by decide, by decide⟩, List.forall_mem_cons.mpr ⟨⟨zb1 127 rfl rfl, by decide, by decide⟩, List.forall_mem_cons.mpr ⟨⟨zb1 95 rfl rfl, by decide, by decide⟩, List.forall_mem_cons.mpr ⟨⟨zb1 101 rfl rfl, by decide, by decide⟩, List.forall_mem_cons.mpr ⟨⟨zb2 8 rfl rfl, by decide, by decide⟩, List.forall_mem_cons.mpr ⟨⟨zb1 99 rfl rfl, by decide, by decide⟩, List.forall_mem_cons.mpr ⟨⟨zb1 97 rfl rfl, by decide, by decide⟩, List.forall_mem_cons.mpr ⟨⟨zb2 4 rfl rfl, by decide, by decide⟩, List.forall_mem_cons.mpr ⟨⟨zb2 5 rfl rfl, by decide, by decide⟩, List.forall_mem_cons.mpr ⟨⟨zb2 6 rfl rfl, by decide, by decide⟩, List.forall_mem_cons.mpr ⟨⟨zb2 7 rfl rfl, by decide, by decide⟩, List.forall_mem_cons.mpr ⟨⟨zb2 24 rfl rfl, by decide, by decide⟩, List.forall_mem_cons.mpr ⟨⟨zb2 26 rfl rfl, by decide, by decide⟩, fun _ h => absurd h List.not_mem_nil⟩⟩⟩⟩⟩⟩⟩⟩⟩⟩⟩⟩⟩⟩⟩⟩⟩⟩⟩⟩
def zLFc_2 : List (Nat × Nat × Nat × Nat) := [(6, 17, (6, 2)), (6, 20, (6, 3)), (7, 9, (7, 0)), (7, 15, (7, 1)), (7, 18, (7, 5)), (7, 22, (7, 2)), (7, 25, (7, 3)), (7, 28, (7, 4)), (8, 11, (8, 0)), (8, 15, (8, 1)), (8, 20, (8, 2)), (8, 23, (8, 3)), (8, 26, (8, 4)), (8, 29, (8, 5)), (8, 32, (8, 6)), (9, 10, (9, 0)), (9, 16, (9, 1)), (9, 22, (9, 2)), (9, 29, (9, 3)), (9, 36, (9, 4))]
set_option maxRecDepth 100000 in
theorem zLFc_2_ok : ∀ x ∈ zLFc_2, zLFok x := List.forall_mem_cons.mpr ⟨⟨zb2 28 rfl rfl, by decide, by decide⟩, List.forall_mem_cons.mpr ⟨⟨zb2 30 rfl rfl, by decide, by decide⟩, List.forall_mem_cons.mpr ⟨⟨zb1 164 rfl rfl, by decide, by decide⟩, List.forall_mem_cons.mpr ⟨⟨zb1 166 rfl rfl, by decide, by decide⟩, List.forall_mem_cons.mpr ⟨⟨zb1 174 rfl rfl, by decide, by decide⟩, List.forall_mem_cons.mpr ⟨⟨zb1 168 rfl rfl, by decide, by decide⟩, List.forall_mem_cons.mpr ⟨⟨zb1 170 rfl rfl, by decide, by decide⟩, List.forall_mem_cons.mpr ⟨⟨zb1 172 rfl rfl, by decide, by decide⟩, List.forall_mem_cons.mpr ⟨⟨zb1 31 rfl rfl, by decide, by decide⟩, List.forall_mem_cons.mpr ⟨⟨zb1 34 rfl rfl, by decide, by decide⟩, List.forall_mem_cons.mpr ⟨⟨zb1 37 rfl rfl, by decide, by decide⟩, List.forall_mem_cons.mpr ⟨⟨zb1 39 rfl rfl, by decide, by decide⟩, List.forall_mem_cons.mpr ⟨⟨zb1 41 rfl rfl, by decide, by decide⟩, List.forall_mem_cons.mpr ⟨⟨zb1 42 rfl rfl, by decide, by decide⟩, List.forall_mem_cons.mpr ⟨⟨zb1 44 rfl rfl, by decide, by decide⟩, List.forall_mem_cons.mpr ⟨⟨zb2 42 rfl rfl, by decide, by decide⟩, List.forall_mem_cons.mpr ⟨⟨zb2 43 rfl rfl, by decide, by decide⟩, List.forall_mem_cons.mpr ⟨⟨zb2 44 rfl rfl, by decide, by decide⟩, List.forall_mem_cons.mpr ⟨⟨zb2 45 rfl rfl, by decide, by decide⟩, List.forall_mem_cons.mpr ⟨⟨zb2 46 rfl rfl, by decide, by decide⟩, fun _ h => absurd h List.not_mem_nil⟩⟩⟩⟩⟩⟩⟩⟩⟩⟩⟩⟩⟩⟩⟩⟩⟩⟩⟩⟩
def zLFc_3 : List (Nat × Nat × Nat × Nat) := [(9, 43, (9, 5)), (9, 47, (9, 6)), (9, 50, (9, 7)), (9, 56, (9, 8)), (9, 63, (9, 9)), (9, 69, (9, 10)), (9, 76, (9, 11)), (9, 80, (9, 12)), (9, 83, (9, 16)), (9, 92, (8, 6)), (9, 95, (7, 0)), (9, 98, (7, 1)), (9, 105, (2, 6)), (9, 109, (8, 0)), (9, 113, (8, 1)), (9, 128, (6, 1)), (9, 135, (6, 0)), (9, 139, (3, 3)), (9, 175, (8, 2)), (9, 179, (8, 3))]
set_option maxRecDepth 100000 in
theorem zLFc_3_ok : ∀ x ∈ zLFc_3, zLFok x := List.forall_mem_cons.mpr ⟨⟨zb2 47 rfl rfl, by decide, by decide⟩, List.forall_mem_cons.mpr ⟨⟨zb2 48 rfl rfl, by decide, by decide⟩, List.forall_mem_cons.mpr ⟨⟨zb2 49 rfl rfl, by decide, by decide⟩, List.forall_mem_cons.mpr ⟨⟨zb2 50 rfl rfl, by decide, by decide⟩, List.forall_mem_cons.mpr ⟨⟨zb2 51 rfl rfl, by decide, by decide⟩, List.forall_mem_cons.mpr ⟨⟨zb2 52 rfl rfl, by decide, by decide⟩, List.forall_mem_cons.mpr ⟨⟨zb2 53 rfl rfl, by decide, by decide⟩, List.forall_mem_cons.mpr ⟨⟨zb2 54 rfl rfl, by decide, by decide⟩, List.forall_mem_cons.mpr ⟨⟨zb2 58 rfl rfl, by decide, by decide⟩, List.forall_mem_cons.mpr ⟨⟨zb1 43 rfl rfl, by decide, by decide⟩, List.forall_mem_cons.mpr ⟨⟨zb1 165 rfl rfl, by decide, by decide⟩, List.forall_mem_cons.mpr ⟨⟨zb1 167 rfl rfl, by decide, by decide⟩, List.forall_mem_cons.mpr ⟨⟨zb1 125 rfl rfl, by decide, by decide⟩, List.forall_mem_cons.mpr ⟨⟨zb1 32 rfl rfl, by decide, by decide⟩, List.forall_mem_cons.mpr ⟨⟨zb1 35 rfl rfl, by decide, by decide⟩, List.forall_mem_cons.mpr ⟨⟨zb2 27 rfl rfl, by decide, by decide⟩, List.forall_mem_cons.mpr ⟨⟨zb2 25 rfl rfl, by decide, by decide⟩, List.forall_mem_cons.mpr ⟨⟨zb1 75 rfl rfl, by decide, by decide⟩, List.forall_mem_cons.mpr ⟨⟨zb1 38 rfl rfl, by decide, by decide⟩, List.forall_mem_cons.mpr ⟨⟨zb1 40 rfl rfl, by decide, by decide⟩, fun _ h => absurd h List.not_mem_nil⟩⟩⟩⟩⟩⟩⟩⟩⟩⟩⟩⟩⟩⟩⟩⟩⟩⟩⟩⟩
def zLFc_4 : List (Nat × Nat × Nat × Nat) := [(9, 182, (9, 14)), (9, 185, (9, 15)), (9, 191, (3, 0)), (9, 194, (3, 1)), (9, 197, (3, 2)), (9, 200, (3, 4)), (9, 207, (7, 2)), (9, 210, (4, 1)), (9, 211, (4, 0)), (9, 218, (4, 2)), (9, 254, (2, 7)), (9, 257, (2, 8)), (9, 260, (2, 9)), (9, 263, (2, 10)), (9, 284, (7, 3)), (9, 304, (6, 3)), (9, 307, (7, 4)), (9, 310, (7, 5)), (9, 313, (9, 13)), (9, 316, (1, 1))]
set_option maxRecDepth 100000 in
theorem zLFc_4_ok : ∀ x ∈ zLFc_4, zLFok x := List.forall_mem_cons.mpr ⟨⟨zb2 56 rfl rfl, by decide, by decide⟩, List.forall_mem_cons.mpr ⟨⟨zb2 57 rfl rfl, by decide, by decide⟩, List.forall_mem_cons.mpr ⟨⟨zb1 69 rfl rfl, by decide, by decide⟩, List.forall_mem_cons.mpr ⟨⟨zb1 71 rfl rfl, by decide, by decide⟩, List.forall_mem_cons.mpr ⟨⟨zb1 73 rfl rfl, by decide, by decide⟩, List.forall_mem_cons.mpr ⟨⟨zb1 77 rfl rfl, by decide, by decide⟩, List.forall_mem_cons.mpr ⟨⟨zb1 169 rfl rfl, by decide, by decide⟩, List.forall_mem_cons.mpr ⟨⟨zb1 98 rfl rfl, by decide, by decide⟩, List.forall_mem_cons.mpr ⟨⟨zb1 96 rfl rfl, by decide, by decide⟩, List.forall_mem_cons.mpr ⟨⟨zb1 100 rfl rfl, by decide, by decide⟩, List.forall_mem_cons.mpr ⟨⟨zb1 128 rfl rfl, by decide, by decide⟩, List.forall_mem_cons.mpr ⟨⟨zb1 130 rfl rfl, by decide, by decide⟩, List.forall_mem_cons.mpr ⟨⟨zb1 132 rfl rfl, by decide, by decide⟩, List.forall_mem_cons.mpr ⟨⟨zb1 134 rfl rfl, by decide, by decide⟩, List.forall_mem_cons.mpr ⟨⟨zb1 171 rfl rfl, by decide, by decide⟩, List.forall_mem_cons.mpr ⟨⟨zb2 31 rfl rfl, by decide, by decide⟩, List.forall_mem_cons.mpr ⟨⟨zb1 173 rfl rfl, by decide, by decide⟩, List.forall_mem_cons.mpr ⟨⟨zb1 175 rfl rfl, by decide, by decide⟩, List.forall_mem_cons.mpr ⟨⟨zb2 55 rfl rfl, by decide, by decide⟩, List.forall_mem_cons.mpr ⟨⟨zb1 197 rfl rfl, by decide, by decide⟩, fun _ h => absurd h List.not_mem_nil⟩⟩⟩⟩⟩⟩⟩⟩⟩⟩⟩⟩⟩⟩⟩⟩⟩⟩⟩⟩
def zLFc_5 : List (Nat × Nat × Nat × Nat) := [(9, 328, (1, 2)), (9, 334, (0, 2)), (9, 335, (0, 0)), (9, 338, (0, 3)), (9, 345, (0, 1)), (9, 348, (6, 2)), (10, 9, (10, 0)), (10, 13, (10, 1)), (10, 16, (10, 2)), (10, 19, (10, 3)), (10, 22, (10, 7)), (10, 25, (10, 11)), (10, 28, (10, 12)), (10, 31, (10, 13)), (10, 34, (10, 15)), (10, 37, (10, 22)), (10, 40, (10, 23)), (10, 43, (10, 24)), (10, 46, (10, 25)), (10, 49, (10, 26))]
set_option maxRecDepth 100000 in
theorem zLFc_5_ok : ∀ x ∈ zLFc_5, zLFok x := List.forall_mem_cons.mpr ⟨⟨zb1 199 rfl rfl, by decide, by decide⟩, List.forall_mem_cons.mpr ⟨⟨zb1 218 rfl rfl, by decide, by decide⟩, List.forall_mem_cons.mpr ⟨⟨zb1 214 rfl rfl, by decide, by decide⟩, List.forall_mem_cons.mpr ⟨⟨zb1 220 rfl rfl, by decide, by decide⟩, List.forall_mem_cons.mpr ⟨⟨zb1 216 rfl rfl, by decide, by decide⟩, List.forall_mem_cons.mpr ⟨⟨zb2 29 rfl rfl, by decide, by decide⟩, List.forall_mem_cons.mpr ⟨⟨zb4 98 rfl rfl, by decide, by decide⟩, List.forall_mem_cons.mpr ⟨⟨zb4 99 rfl rfl, by decide, by decide⟩, List.forall_mem_cons.mpr ⟨⟨zb4 100 rfl rfl, by decide, by decide⟩, List.forall_mem_cons.mpr ⟨⟨zb4 101 rfl rfl, by decide, by decide⟩, List.forall_mem_cons.mpr ⟨⟨zb4 105 rfl rfl, by decide, by decide⟩, List.forall_mem_cons.mpr ⟨⟨zb4 109 rfl rfl, by decide, by decide⟩, List.forall_mem_cons.mpr ⟨⟨zb4 110 rfl rfl, by decide, by decide⟩, List.forall_mem_cons.mpr ⟨⟨zb4 111 rfl rfl, by decide, by decide⟩, List.forall_mem_cons.mpr ⟨⟨zb4 113 rfl rfl, by decide, by decide⟩, List.forall_mem_cons.mpr ⟨⟨zb4 120 rfl rfl, by decide, by decide⟩, List.forall_mem_cons.mpr ⟨⟨zb4 121 rfl rfl, by decide, by decide⟩, List.forall_mem_cons.mpr ⟨⟨zb4 122 rfl rfl, by decide, by decide⟩, List.forall_mem_cons.mpr ⟨⟨zb4 123 rfl rfl, by decide, by decide⟩, List.forall_mem_cons.mpr ⟨⟨zb4 124 rfl rfl, by decide, by decide⟩, fun _ h => absurd h List.not_mem_nil⟩⟩⟩⟩⟩⟩⟩⟩⟩⟩⟩⟩⟩⟩⟩⟩⟩⟩⟩⟩
def zLFc_6 : List (Nat × Nat × Nat × Nat) := [(10, 52, (10, 27)), (10, 55, (10, 28)), (10, 58, (10, 39)), (10, 61, (10, 41)), (10, 64, (10, 42)), (10, 67, (10, 46)), (10, 70, (10, 47)), (10, 73, (10, 48)), (10, 77, (10, 49)), (10, 80, (10, 16)), (10, 84, (10, 8)), (10, 87, (10, 9)), (10, 90, (10, 36)), (10, 93, (10, 5)), (10, 96, (10, 4)), (10, 99, (10, 6)), (10, 114, (10, 10)), (10, 172, (10, 33)), (10, 191, (10, 14)), (10, 194, (10, 18))]
set_option maxRecDepth 100000 in
theorem zLFc_6_ok : ∀ x ∈ zLFc_6, zLFok x := List.forall_mem_cons.mpr ⟨⟨zb4 125 rfl rfl, by decide, by decide⟩, List.forall_mem_cons.mpr ⟨⟨zb4 126 rfl rfl, by decide, by decide⟩, List.forall_mem_cons.mpr ⟨⟨zb4 137 rfl rfl, by decide, by decide⟩, List.forall_mem_cons.mpr ⟨⟨zb4 139 rfl rfl, by decide, by decide⟩, List.forall_mem_cons.mpr ⟨⟨zb4 140 rfl rfl, by decide, by decide⟩, List.forall_mem_cons.mpr ⟨⟨zb4 144 rfl rfl, by decide, by decide⟩, List.forall_mem_cons.mpr ⟨⟨zb4 145 rfl rfl, by decide, by decide⟩, List.forall_mem_cons.mpr ⟨⟨zb4 146 rfl rfl, by decide, by decide⟩, List.forall_mem_cons.mpr ⟨⟨zb4 147 rfl rfl, by decide, by decide⟩, List.forall_mem_cons.mpr ⟨⟨zb4 114 rfl rfl, by decide, by decide⟩, List.forall_mem_cons.mpr ⟨⟨zb4 106 rfl rfl, by decide, by decide⟩, List.forall_mem_cons.mpr ⟨⟨zb4 107 rfl rfl, by decide, by decide⟩, List.forall_mem_cons.mpr ⟨⟨zb4 134 rfl rfl, by decide, by decide⟩, List.forall_mem_cons.mpr ⟨⟨zb4 103 rfl rfl, by decide, by decide⟩, List.forall_mem_cons.mpr ⟨⟨zb4 102 rfl rfl, by decide, by decide⟩, List.forall_mem_cons.mpr ⟨⟨zb4 104 rfl rfl, by decide, by decide⟩, List.forall_mem_cons.mpr ⟨⟨zb4 108 rfl rfl, by decide, by decide⟩, List.forall_mem_cons.mpr ⟨⟨zb4 131 rfl rfl, by decide, by decide⟩, List.forall_mem_cons.mpr ⟨⟨zb4 112 rfl rfl, by decide, by decide⟩, List.forall_mem_cons.mpr ⟨⟨zb4 116 rfl rfl, by decide, by decide⟩, fun _ h => absurd h List.not_mem_nil⟩⟩⟩⟩⟩⟩⟩⟩⟩⟩⟩⟩⟩⟩⟩⟩⟩⟩⟩⟩
def zLFc_7 : List (Nat × Nat × Nat × Nat) := [(10, 197, (10, 19)), (10, 200, (10, 17)), (10, 203, (10, 20)), (10, 227, (10, 21)), (10, 259, (10, 29)), (10, 262, (10, 30)), (10, 265, (10, 31)), (10, 268, (10, 32)), (10, 295, (10, 37)), (10, 301, (10, 34)), (10, 310, (10, 35)), (10, 322, (10, 38)), (10, 326, (10, 40)), (10, 331, (10, 43)), (10, 340, (10, 45)), (10, 346, (10, 44))]
set_option maxRecDepth 100000 in
theorem zLFc_7_ok : ∀ x ∈ zLFc_7, zLFok x := List.forall_mem_cons.mpr ⟨⟨zb4 117 rfl rfl, by decide, by decide⟩, List.forall_mem_cons.mpr ⟨⟨zb4 115 rfl rfl, by decide, by decide⟩, List.forall_mem_cons.mpr ⟨⟨zb4 118 rfl rfl, by decide, by decide⟩, List.forall_mem_cons.mpr ⟨⟨zb4 119 rfl rfl, by decide, by decide⟩, List.forall_mem_cons.mpr ⟨⟨zb4 127 rfl rfl, by decide, by decide⟩, List.forall_mem_cons.mpr ⟨⟨zb4 128 rfl rfl, by decide, by decide⟩, List.forall_mem_cons.mpr ⟨⟨zb4 129 rfl rfl, by decide, by decide⟩, List.forall_mem_cons.mpr ⟨⟨zb4 130 rfl rfl, by decide, by decide⟩, List.forall_mem_cons.mpr ⟨⟨zb4 135 rfl rfl, by decide, by decide⟩, List.forall_mem_cons.mpr ⟨⟨zb4 132 rfl rfl, by decide, by decide⟩, List.forall_mem_cons.mpr ⟨⟨zb4 133 rfl rfl, by decide, by decide⟩, List.forall_mem_cons.mpr ⟨⟨zb4 136 rfl rfl, by decide, by decide⟩, List.forall_mem_cons.mpr ⟨⟨zb4 138 rfl rfl, by decide, by decide⟩, List.forall_mem_cons.mpr ⟨⟨zb4 141 rfl rfl, by decide, by decide⟩, List.forall_mem_cons.mpr ⟨⟨zb4 143 rfl rfl, by decide, by decide⟩, List.forall_mem_cons.mpr ⟨⟨zb4 142 rfl rfl, by decide, by decide⟩, fun _ h => absurd h List.not_mem_nil⟩⟩⟩⟩⟩⟩⟩⟩⟩⟩⟩⟩⟩⟩⟩⟩
def zLFc : List (Nat × Nat × Nat × Nat) := zLFc_0 ++ (zLFc_1 ++ (zLFc_2 ++ (zLFc_3 ++ (zLFc_4 ++ (zLFc_5 ++ (zLFc_6 ++ (zLFc_7)))))))
theorem zLFc_ok : ∀ x ∈ zLFc, zLFok x := List.forall_mem_append.mpr ⟨zLFc_0_ok, List.forall_mem_append.mpr ⟨zLFc_1_ok, List.forall_mem_append.mpr ⟨zLFc_2_ok, List.forall_mem_append.mpr ⟨zLFc_3_ok, List.forall_mem_append.mpr ⟨zLFc_4_ok, List.forall_mem_append.mpr ⟨zLFc_5_ok, List.forall_mem_append.mpr ⟨zLFc_6_ok, zLFc_7_ok⟩⟩⟩⟩⟩⟩⟩
set_option maxRecDepth 100000 in
theorem zLFs_eq : zLFc = zLFs := rfl
def zLMok (e : Nat × Nat × Nat) : Prop := match e.2.2 with
  | 900 => .methodLink (zNm e.1) e.2.1 Lib.Math.max.name ∈ zTB
  | 901 => .methodLink (zNm e.1) e.2.1 Lib.Math.min.name ∈ zTB
  | 902 => .methodLink (zNm e.1) e.2.1 Lib.Math.abs.name ∈ zTB
  | 903 => .methodLink (zNm e.1) e.2.1 arraycopyName ∈ zTB
  | 999 => .methodLink (zNm e.1) e.2.1 objectInit ∈ zTB
  | M => M < 217 ∧ ∃ q, zM M = some q ∧ .methodLink (zNm e.1) e.2.1 q.1 ∈ zTB
def zLMc_0 : List (Nat × Nat × Nat) := [(0, 1, 999), (0, 29, 4), (0, 39, 5), (1, 1, 999), (1, 17, 903), (2, 3, 999), (2, 26, 57), (2, 31, 16), (2, 35, 902), (2, 54, 15), (2, 58, 69), (2, 62, 70), (2, 69, 19), (2, 72, 17), (2, 79, 18), (2, 82, 64), (2, 85, 63), (2, 95, 44), (2, 99, 901), (2, 102, 900)]
set_option maxRecDepth 100000 in
theorem zLMc_0_ok : ∀ x ∈ zLMc_0, zLMok x := List.forall_mem_cons.mpr ⟨(show _ ∈ zTB from zb1 212 rfl rfl), List.forall_mem_cons.mpr ⟨⟨by decide, zi_4, rfl, zb4 25 rfl rfl⟩, List.forall_mem_cons.mpr ⟨⟨by decide, zi_5, rfl, zb4 33 rfl rfl⟩, List.forall_mem_cons.mpr ⟨(show _ ∈ zTB from zb1 194 rfl rfl), List.forall_mem_cons.mpr ⟨(show _ ∈ zTB from zb2 176 rfl rfl), List.forall_mem_cons.mpr ⟨(show _ ∈ zTB from zb1 116 rfl rfl), List.forall_mem_cons.mpr ⟨⟨by decide, zi_57, rfl, zb1 118 rfl rfl⟩, List.forall_mem_cons.mpr ⟨⟨by decide, zi_16, rfl, zb3 83 rfl rfl⟩, List.forall_mem_cons.mpr ⟨(show _ ∈ zTB from zb3 88 rfl rfl), List.forall_mem_cons.mpr ⟨⟨by decide, zi_15, rfl, zb3 89 rfl rfl⟩, List.forall_mem_cons.mpr ⟨⟨by decide, zi_69, rfl, zb3 118 rfl rfl⟩, List.forall_mem_cons.mpr ⟨⟨by decide, zi_70, rfl, zb3 119 rfl rfl⟩, List.forall_mem_cons.mpr ⟨⟨by decide, zi_19, rfl, zb3 93 rfl rfl⟩, List.forall_mem_cons.mpr ⟨⟨by decide, zi_17, rfl, zb3 98 rfl rfl⟩, List.forall_mem_cons.mpr ⟨⟨by decide, zi_18, rfl, zb3 114 rfl rfl⟩, List.forall_mem_cons.mpr ⟨⟨by decide, zi_64, rfl, zb3 117 rfl rfl⟩, List.forall_mem_cons.mpr ⟨⟨by decide, zi_63, rfl, zb3 87 rfl rfl⟩, List.forall_mem_cons.mpr ⟨⟨by decide, zi_44, rfl, zb3 102 rfl rfl⟩, List.forall_mem_cons.mpr ⟨(show _ ∈ zTB from zb3 112 rfl rfl), List.forall_mem_cons.mpr ⟨(show _ ∈ zTB from zb3 113 rfl rfl), fun _ h => absurd h List.not_mem_nil⟩⟩⟩⟩⟩⟩⟩⟩⟩⟩⟩⟩⟩⟩⟩⟩⟩⟩⟩⟩
def zLMc_1 : List (Nat × Nat × Nat) := [(2, 105, 13), (3, 3, 999), (3, 28, 901), (3, 34, 20), (3, 40, 26), (3, 43, 900), (3, 46, 30), (3, 50, 25), (3, 54, 31), (4, 3, 999), (4, 28, 34), (4, 32, 38), (4, 37, 35), (4, 41, 43), (4, 45, 36), (4, 49, 41), (4, 53, 39), (4, 56, 37), (4, 59, 40), (5, 3, 999)]
set_option maxRecDepth 100000 in
theorem zLMc_1_ok : ∀ x ∈ zLMc_1, zLMok x := List.forall_mem_cons.mpr ⟨⟨by decide, zi_13, rfl, zb3 97 rfl rfl⟩, List.forall_mem_cons.mpr ⟨(show _ ∈ zTB from zb1 67 rfl rfl), List.forall_mem_cons.mpr ⟨(show _ ∈ zTB from zb2 221 rfl rfl), List.forall_mem_cons.mpr ⟨⟨by decide, zi_20, rfl, zb3 133 rfl rfl⟩, List.forall_mem_cons.mpr ⟨⟨by decide, zi_26, rfl, zb3 137 rfl rfl⟩, List.forall_mem_cons.mpr ⟨(show _ ∈ zTB from zb3 140 rfl rfl), List.forall_mem_cons.mpr ⟨⟨by decide, zi_30, rfl, zb3 149 rfl rfl⟩, List.forall_mem_cons.mpr ⟨⟨by decide, zi_25, rfl, zb3 152 rfl rfl⟩, List.forall_mem_cons.mpr ⟨⟨by decide, zi_31, rfl, zb3 157 rfl rfl⟩, List.forall_mem_cons.mpr ⟨(show _ ∈ zTB from zb1 94 rfl rfl), List.forall_mem_cons.mpr ⟨⟨by decide, zi_34, rfl, zb2 234 rfl rfl⟩, List.forall_mem_cons.mpr ⟨⟨by decide, zi_38, rfl, zb3 6 rfl rfl⟩, List.forall_mem_cons.mpr ⟨⟨by decide, zi_35, rfl, zb2 238 rfl rfl⟩, List.forall_mem_cons.mpr ⟨⟨by decide, zi_43, rfl, zb3 17 rfl rfl⟩, List.forall_mem_cons.mpr ⟨⟨by decide, zi_36, rfl, zb3 2 rfl rfl⟩, List.forall_mem_cons.mpr ⟨⟨by decide, zi_41, rfl, zb3 24 rfl rfl⟩, List.forall_mem_cons.mpr ⟨⟨by decide, zi_39, rfl, zb3 10 rfl rfl⟩, List.forall_mem_cons.mpr ⟨⟨by decide, zi_37, rfl, zb3 13 rfl rfl⟩, List.forall_mem_cons.mpr ⟨⟨by decide, zi_40, rfl, zb3 21 rfl rfl⟩, List.forall_mem_cons.mpr ⟨(show _ ∈ zTB from zb2 3 rfl rfl), fun _ h => absurd h List.not_mem_nil⟩⟩⟩⟩⟩⟩⟩⟩⟩⟩⟩⟩⟩⟩⟩⟩⟩⟩⟩⟩
def zLMc_2 : List (Nat × Nat × Nat) := [(5, 25, 45), (5, 29, 46), (6, 1, 999), (7, 3, 999), (7, 31, 53), (7, 35, 54), (7, 39, 901), (8, 3, 999), (8, 36, 64), (8, 39, 903), (8, 45, 65), (8, 49, 902), (8, 55, 900), (8, 59, 66), (8, 62, 67), (8, 65, 68), (9, 1, 999), (9, 9, 57), (9, 21, 21), (9, 28, 32)]
set_option maxRecDepth 100000 in
theorem zLMc_2_ok : ∀ x ∈ zLMc_2, zLMok x := List.forall_mem_cons.mpr ⟨⟨by decide, zi_45, rfl, zb3 106 rfl rfl⟩, List.forall_mem_cons.mpr ⟨⟨by decide, zi_46, rfl, zb3 109 rfl rfl⟩, List.forall_mem_cons.mpr ⟨(show _ ∈ zTB from zb2 23 rfl rfl), List.forall_mem_cons.mpr ⟨(show _ ∈ zTB from zb1 163 rfl rfl), List.forall_mem_cons.mpr ⟨⟨by decide, zi_53, rfl, zb3 187 rfl rfl⟩, List.forall_mem_cons.mpr ⟨⟨by decide, zi_54, rfl, zb3 191 rfl rfl⟩, List.forall_mem_cons.mpr ⟨(show _ ∈ zTB from zb3 194 rfl rfl), List.forall_mem_cons.mpr ⟨(show _ ∈ zTB from zb1 28 rfl rfl), List.forall_mem_cons.mpr ⟨⟨by decide, zi_64, rfl, zb2 105 rfl rfl⟩, List.forall_mem_cons.mpr ⟨(show _ ∈ zTB from zb3 58 rfl rfl), List.forall_mem_cons.mpr ⟨⟨by decide, zi_65, rfl, zb2 195 rfl rfl⟩, List.forall_mem_cons.mpr ⟨(show _ ∈ zTB from zb2 199 rfl rfl), List.forall_mem_cons.mpr ⟨(show _ ∈ zTB from zb2 202 rfl rfl), List.forall_mem_cons.mpr ⟨⟨by decide, zi_66, rfl, zb2 191 rfl rfl⟩, List.forall_mem_cons.mpr ⟨⟨by decide, zi_67, rfl, zb2 205 rfl rfl⟩, List.forall_mem_cons.mpr ⟨⟨by decide, zi_68, rfl, zb3 35 rfl rfl⟩, List.forall_mem_cons.mpr ⟨(show _ ∈ zTB from zb1 20 rfl rfl), List.forall_mem_cons.mpr ⟨⟨by decide, zi_57, rfl, zb1 25 rfl rfl⟩, List.forall_mem_cons.mpr ⟨⟨by decide, zi_21, rfl, zb1 64 rfl rfl⟩, List.forall_mem_cons.mpr ⟨⟨by decide, zi_32, rfl, zb1 91 rfl rfl⟩, fun _ h => absurd h List.not_mem_nil⟩⟩⟩⟩⟩⟩⟩⟩⟩⟩⟩⟩⟩⟩⟩⟩⟩⟩⟩⟩
def zLMc_3 : List (Nat × Nat × Nat) := [(9, 35, 12), (9, 42, 52), (9, 55, 6), (9, 62, 0), (9, 75, 42), (9, 87, 47), (9, 88, 58), (9, 101, 60), (9, 115, 901), (9, 121, 61), (9, 124, 120), (9, 131, 50), (9, 140, 23), (9, 144, 84), (9, 147, 85), (9, 152, 86), (9, 155, 87), (9, 159, 7), (9, 161, 59), (9, 164, 79)]
set_option maxRecDepth 100000 in
theorem zLMc_3_ok : ∀ x ∈ zLMc_3, zLMok x := List.forall_mem_cons.mpr ⟨⟨by decide, zi_12, rfl, zb1 113 rfl rfl⟩, List.forall_mem_cons.mpr ⟨⟨by decide, zi_52, rfl, zb1 160 rfl rfl⟩, List.forall_mem_cons.mpr ⟨⟨by decide, zi_6, rfl, zb1 191 rfl rfl⟩, List.forall_mem_cons.mpr ⟨⟨by decide, zi_0, rfl, zb1 209 rfl rfl⟩, List.forall_mem_cons.mpr ⟨⟨by decide, zi_42, rfl, zb2 0 rfl rfl⟩, List.forall_mem_cons.mpr ⟨⟨by decide, zi_47, rfl, zb2 20 rfl rfl⟩, List.forall_mem_cons.mpr ⟨⟨by decide, zi_58, rfl, zb2 98 rfl rfl⟩, List.forall_mem_cons.mpr ⟨⟨by decide, zi_60, rfl, zb2 101 rfl rfl⟩, List.forall_mem_cons.mpr ⟨(show _ ∈ zTB from zb2 113 rfl rfl), List.forall_mem_cons.mpr ⟨⟨by decide, zi_61, rfl, zb2 116 rfl rfl⟩, List.forall_mem_cons.mpr ⟨⟨by decide, zi_120, rfl, zb2 124 rfl rfl⟩, List.forall_mem_cons.mpr ⟨⟨by decide, zi_50, rfl, zb2 127 rfl rfl⟩, List.forall_mem_cons.mpr ⟨⟨by decide, zi_23, rfl, zb2 135 rfl rfl⟩, List.forall_mem_cons.mpr ⟨⟨by decide, zi_84, rfl, zb2 143 rfl rfl⟩, List.forall_mem_cons.mpr ⟨⟨by decide, zi_85, rfl, zb2 155 rfl rfl⟩, List.forall_mem_cons.mpr ⟨⟨by decide, zi_86, rfl, zb2 160 rfl rfl⟩, List.forall_mem_cons.mpr ⟨⟨by decide, zi_87, rfl, zb2 164 rfl rfl⟩, List.forall_mem_cons.mpr ⟨⟨by decide, zi_7, rfl, zb2 172 rfl rfl⟩, List.forall_mem_cons.mpr ⟨⟨by decide, zi_59, rfl, zb2 147 rfl rfl⟩, List.forall_mem_cons.mpr ⟨⟨by decide, zi_79, rfl, zb2 183 rfl rfl⟩, fun _ h => absurd h List.not_mem_nil⟩⟩⟩⟩⟩⟩⟩⟩⟩⟩⟩⟩⟩⟩⟩⟩⟩⟩⟩⟩
def zLMc_4 : List (Nat × Nat × Nat) := [(9, 167, 22), (9, 168, 80), (9, 171, 81), (9, 188, 68), (9, 203, 24), (9, 214, 33), (9, 221, 62), (9, 224, 69), (9, 227, 70), (9, 231, 66), (9, 234, 67), (9, 237, 63), (9, 241, 64), (9, 244, 13), (9, 247, 99), (9, 251, 19), (9, 266, 25), (9, 270, 27), (9, 274, 28), (9, 277, 29)]
set_option maxRecDepth 100000 in
theorem zLMc_4_ok : ∀ x ∈ zLMc_4, zLMok x := List.forall_mem_cons.mpr ⟨⟨by decide, zi_22, rfl, zb2 151 rfl rfl⟩, List.forall_mem_cons.mpr ⟨⟨by decide, zi_80, rfl, zb2 209 rfl rfl⟩, List.forall_mem_cons.mpr ⟨⟨by decide, zi_81, rfl, zb2 213 rfl rfl⟩, List.forall_mem_cons.mpr ⟨⟨by decide, zi_68, rfl, zb2 187 rfl rfl⟩, List.forall_mem_cons.mpr ⟨⟨by decide, zi_24, rfl, zb2 217 rfl rfl⟩, List.forall_mem_cons.mpr ⟨⟨by decide, zi_33, rfl, zb2 230 rfl rfl⟩, List.forall_mem_cons.mpr ⟨⟨by decide, zi_62, rfl, zb2 168 rfl rfl⟩, List.forall_mem_cons.mpr ⟨⟨by decide, zi_69, rfl, zb3 31 rfl rfl⟩, List.forall_mem_cons.mpr ⟨⟨by decide, zi_70, rfl, zb3 36 rfl rfl⟩, List.forall_mem_cons.mpr ⟨⟨by decide, zi_66, rfl, zb3 48 rfl rfl⟩, List.forall_mem_cons.mpr ⟨⟨by decide, zi_67, rfl, zb3 49 rfl rfl⟩, List.forall_mem_cons.mpr ⟨⟨by decide, zi_63, rfl, zb3 54 rfl rfl⟩, List.forall_mem_cons.mpr ⟨⟨by decide, zi_64, rfl, zb3 63 rfl rfl⟩, List.forall_mem_cons.mpr ⟨⟨by decide, zi_13, rfl, zb3 72 rfl rfl⟩, List.forall_mem_cons.mpr ⟨⟨by decide, zi_99, rfl, zb3 75 rfl rfl⟩, List.forall_mem_cons.mpr ⟨⟨by decide, zi_19, rfl, zb3 120 rfl rfl⟩, List.forall_mem_cons.mpr ⟨⟨by decide, zi_25, rfl, zb3 129 rfl rfl⟩, List.forall_mem_cons.mpr ⟨⟨by decide, zi_27, rfl, zb3 145 rfl rfl⟩, List.forall_mem_cons.mpr ⟨⟨by decide, zi_28, rfl, zb3 153 rfl rfl⟩, List.forall_mem_cons.mpr ⟨⟨by decide, zi_29, rfl, zb3 165 rfl rfl⟩, fun _ h => absurd h List.not_mem_nil⟩⟩⟩⟩⟩⟩⟩⟩⟩⟩⟩⟩⟩⟩⟩⟩⟩⟩⟩⟩
def zLMc_5 : List (Nat × Nat × Nat) := [(9, 280, 14), (9, 287, 216), (9, 292, 56), (9, 295, 55), (9, 298, 53), (9, 301, 54), (9, 319, 8), (9, 322, 9), (9, 325, 10), (9, 331, 11), (9, 341, 1), (9, 342, 3), (9, 351, 48), (9, 354, 49), (9, 357, 121), (9, 360, 51), (9, 368, 903), (9, 374, 2), (9, 377, 71), (10, 3, 999)]
set_option maxRecDepth 100000 in
theorem zLMc_5_ok : ∀ x ∈ zLMc_5, zLMok x := List.forall_mem_cons.mpr ⟨⟨by decide, zi_14, rfl, zb3 79 rfl rfl⟩, List.forall_mem_cons.mpr ⟨⟨by decide, zi_216, rfl, zb3 173 rfl rfl⟩, List.forall_mem_cons.mpr ⟨⟨by decide, zi_56, rfl, zb3 183 rfl rfl⟩, List.forall_mem_cons.mpr ⟨⟨by decide, zi_55, rfl, zb3 199 rfl rfl⟩, List.forall_mem_cons.mpr ⟨⟨by decide, zi_53, rfl, zb3 207 rfl rfl⟩, List.forall_mem_cons.mpr ⟨⟨by decide, zi_54, rfl, zb3 208 rfl rfl⟩, List.forall_mem_cons.mpr ⟨⟨by decide, zi_8, rfl, zb3 229 rfl rfl⟩, List.forall_mem_cons.mpr ⟨⟨by decide, zi_9, rfl, zb3 233 rfl rfl⟩, List.forall_mem_cons.mpr ⟨⟨by decide, zi_10, rfl, zb3 237 rfl rfl⟩, List.forall_mem_cons.mpr ⟨⟨by decide, zi_11, rfl, zb4 5 rfl rfl⟩, List.forall_mem_cons.mpr ⟨⟨by decide, zi_1, rfl, zb4 17 rfl rfl⟩, List.forall_mem_cons.mpr ⟨⟨by decide, zi_3, rfl, zb4 21 rfl rfl⟩, List.forall_mem_cons.mpr ⟨⟨by decide, zi_48, rfl, zb4 49 rfl rfl⟩, List.forall_mem_cons.mpr ⟨⟨by decide, zi_49, rfl, zb4 52 rfl rfl⟩, List.forall_mem_cons.mpr ⟨⟨by decide, zi_121, rfl, zb4 60 rfl rfl⟩, List.forall_mem_cons.mpr ⟨⟨by decide, zi_51, rfl, zb4 64 rfl rfl⟩, List.forall_mem_cons.mpr ⟨(show _ ∈ zTB from zb4 76 rfl rfl), List.forall_mem_cons.mpr ⟨⟨by decide, zi_2, rfl, zb4 81 rfl rfl⟩, List.forall_mem_cons.mpr ⟨⟨by decide, zi_71, rfl, zb4 88 rfl rfl⟩, List.forall_mem_cons.mpr ⟨(show _ ∈ zTB from zb4 97 rfl rfl), fun _ h => absurd h List.not_mem_nil⟩⟩⟩⟩⟩⟩⟩⟩⟩⟩⟩⟩⟩⟩⟩⟩⟩⟩⟩⟩
def zLMc_6 : List (Nat × Nat × Nat) := [(10, 102, 126), (10, 106, 127), (10, 110, 122), (10, 123, 132), (10, 127, 133), (10, 131, 135), (10, 135, 206), (10, 142, 130), (10, 145, 125), (10, 152, 131), (10, 159, 140), (10, 162, 158), (10, 165, 160), (10, 168, 143), (10, 177, 141), (10, 186, 142), (10, 206, 146), (10, 209, 150), (10, 212, 148), (10, 215, 151)]
set_option maxRecDepth 100000 in
theorem zLMc_6_ok : ∀ x ∈ zLMc_6, zLMok x := List.forall_mem_cons.mpr ⟨⟨by decide, zi_126, rfl, zb5 13 rfl rfl⟩, List.forall_mem_cons.mpr ⟨⟨by decide, zi_127, rfl, zb5 17 rfl rfl⟩, List.forall_mem_cons.mpr ⟨⟨by decide, zi_122, rfl, zb5 33 rfl rfl⟩, List.forall_mem_cons.mpr ⟨⟨by decide, zi_132, rfl, zb5 29 rfl rfl⟩, List.forall_mem_cons.mpr ⟨⟨by decide, zi_133, rfl, zb5 38 rfl rfl⟩, List.forall_mem_cons.mpr ⟨⟨by decide, zi_135, rfl, zb5 46 rfl rfl⟩, List.forall_mem_cons.mpr ⟨⟨by decide, zi_206, rfl, zb5 53 rfl rfl⟩, List.forall_mem_cons.mpr ⟨⟨by decide, zi_130, rfl, zb5 67 rfl rfl⟩, List.forall_mem_cons.mpr ⟨⟨by decide, zi_125, rfl, zb5 71 rfl rfl⟩, List.forall_mem_cons.mpr ⟨⟨by decide, zi_131, rfl, zb5 77 rfl rfl⟩, List.forall_mem_cons.mpr ⟨⟨by decide, zi_140, rfl, zb5 92 rfl rfl⟩, List.forall_mem_cons.mpr ⟨⟨by decide, zi_158, rfl, zb5 96 rfl rfl⟩, List.forall_mem_cons.mpr ⟨⟨by decide, zi_160, rfl, zb5 100 rfl rfl⟩, List.forall_mem_cons.mpr ⟨⟨by decide, zi_143, rfl, zb5 118 rfl rfl⟩, List.forall_mem_cons.mpr ⟨⟨by decide, zi_141, rfl, zb5 88 rfl rfl⟩, List.forall_mem_cons.mpr ⟨⟨by decide, zi_142, rfl, zb5 114 rfl rfl⟩, List.forall_mem_cons.mpr ⟨⟨by decide, zi_146, rfl, zb5 159 rfl rfl⟩, List.forall_mem_cons.mpr ⟨⟨by decide, zi_150, rfl, zb5 139 rfl rfl⟩, List.forall_mem_cons.mpr ⟨⟨by decide, zi_148, rfl, zb5 167 rfl rfl⟩, List.forall_mem_cons.mpr ⟨⟨by decide, zi_151, rfl, zb5 143 rfl rfl⟩, fun _ h => absurd h List.not_mem_nil⟩⟩⟩⟩⟩⟩⟩⟩⟩⟩⟩⟩⟩⟩⟩⟩⟩⟩⟩⟩
def zLMc_7 : List (Nat × Nat × Nat) := [(10, 218, 152), (10, 221, 153), (10, 224, 155), (10, 230, 147), (10, 233, 149), (10, 236, 154), (10, 239, 156), (10, 242, 159), (10, 245, 123), (10, 248, 161), (10, 251, 162), (10, 256, 169), (10, 271, 170), (10, 274, 171), (10, 279, 172), (10, 282, 175), (10, 286, 176), (10, 289, 178), (10, 292, 180), (10, 304, 182)]
set_option maxRecDepth 100000 in
theorem zLMc_7_ok : ∀ x ∈ zLMc_7, zLMok x := List.forall_mem_cons.mpr ⟨⟨by decide, zi_152, rfl, zb5 147 rfl rfl⟩, List.forall_mem_cons.mpr ⟨⟨by decide, zi_153, rfl, zb5 151 rfl rfl⟩, List.forall_mem_cons.mpr ⟨⟨by decide, zi_155, rfl, zb5 155 rfl rfl⟩, List.forall_mem_cons.mpr ⟨⟨by decide, zi_147, rfl, zb5 163 rfl rfl⟩, List.forall_mem_cons.mpr ⟨⟨by decide, zi_149, rfl, zb5 135 rfl rfl⟩, List.forall_mem_cons.mpr ⟨⟨by decide, zi_154, rfl, zb5 171 rfl rfl⟩, List.forall_mem_cons.mpr ⟨⟨by decide, zi_156, rfl, zb5 131 rfl rfl⟩, List.forall_mem_cons.mpr ⟨⟨by decide, zi_159, rfl, zb5 104 rfl rfl⟩, List.forall_mem_cons.mpr ⟨⟨by decide, zi_123, rfl, zb5 108 rfl rfl⟩, List.forall_mem_cons.mpr ⟨⟨by decide, zi_161, rfl, zb5 178 rfl rfl⟩, List.forall_mem_cons.mpr ⟨⟨by decide, zi_162, rfl, zb5 182 rfl rfl⟩, List.forall_mem_cons.mpr ⟨⟨by decide, zi_169, rfl, zb5 216 rfl rfl⟩, List.forall_mem_cons.mpr ⟨⟨by decide, zi_170, rfl, zb5 220 rfl rfl⟩, List.forall_mem_cons.mpr ⟨⟨by decide, zi_171, rfl, zb5 224 rfl rfl⟩, List.forall_mem_cons.mpr ⟨⟨by decide, zi_172, rfl, zb5 212 rfl rfl⟩, List.forall_mem_cons.mpr ⟨⟨by decide, zi_175, rfl, zb6 0 rfl rfl⟩, List.forall_mem_cons.mpr ⟨⟨by decide, zi_176, rfl, zb5 236 rfl rfl⟩, List.forall_mem_cons.mpr ⟨⟨by decide, zi_178, rfl, zb6 8 rfl rfl⟩, List.forall_mem_cons.mpr ⟨⟨by decide, zi_180, rfl, zb6 16 rfl rfl⟩, List.forall_mem_cons.mpr ⟨⟨by decide, zi_182, rfl, zb6 25 rfl rfl⟩, fun _ h => absurd h List.not_mem_nil⟩⟩⟩⟩⟩⟩⟩⟩⟩⟩⟩⟩⟩⟩⟩⟩⟩⟩⟩⟩
def zLMc_8 : List (Nat × Nat × Nat) := [(10, 307, 183), (10, 315, 185), (10, 319, 189), (10, 334, 199), (10, 337, 200), (10, 343, 201), (10, 349, 202), (10, 352, 203), (10, 355, 195), (10, 360, 209), (10, 363, 210), (10, 371, 196), (10, 374, 198), (10, 377, 194), (12, 9, 72), (12, 12, 124), (12, 13, 73), (12, 17, 134), (12, 18, 74), (12, 22, 136)]
set_option maxRecDepth 100000 in
theorem zLMc_8_ok : ∀ x ∈ zLMc_8, zLMok x := List.forall_mem_cons.mpr ⟨⟨by decide, zi_183, rfl, zb6 37 rfl rfl⟩, List.forall_mem_cons.mpr ⟨⟨by decide, zi_185, rfl, zb6 33 rfl rfl⟩, List.forall_mem_cons.mpr ⟨⟨by decide, zi_189, rfl, zb6 54 rfl rfl⟩, List.forall_mem_cons.mpr ⟨⟨by decide, zi_199, rfl, zb6 87 rfl rfl⟩, List.forall_mem_cons.mpr ⟨⟨by decide, zi_200, rfl, zb6 83 rfl rfl⟩, List.forall_mem_cons.mpr ⟨⟨by decide, zi_201, rfl, zb6 91 rfl rfl⟩, List.forall_mem_cons.mpr ⟨⟨by decide, zi_202, rfl, zb6 95 rfl rfl⟩, List.forall_mem_cons.mpr ⟨⟨by decide, zi_203, rfl, zb6 99 rfl rfl⟩, List.forall_mem_cons.mpr ⟨⟨by decide, zi_195, rfl, zb6 79 rfl rfl⟩, List.forall_mem_cons.mpr ⟨⟨by decide, zi_209, rfl, zb6 119 rfl rfl⟩, List.forall_mem_cons.mpr ⟨⟨by decide, zi_210, rfl, zb6 123 rfl rfl⟩, List.forall_mem_cons.mpr ⟨⟨by decide, zi_196, rfl, zb6 139 rfl rfl⟩, List.forall_mem_cons.mpr ⟨⟨by decide, zi_198, rfl, zb6 143 rfl rfl⟩, List.forall_mem_cons.mpr ⟨⟨by decide, zi_194, rfl, zb6 150 rfl rfl⟩, List.forall_mem_cons.mpr ⟨⟨by decide, zi_72, rfl, zb1 17 rfl rfl⟩, List.forall_mem_cons.mpr ⟨⟨by decide, zi_124, rfl, zb4 94 rfl rfl⟩, List.forall_mem_cons.mpr ⟨⟨by decide, zi_73, rfl, zb2 94 rfl rfl⟩, List.forall_mem_cons.mpr ⟨⟨by decide, zi_134, rfl, zb5 25 rfl rfl⟩, List.forall_mem_cons.mpr ⟨⟨by decide, zi_74, rfl, zb2 109 rfl rfl⟩, List.forall_mem_cons.mpr ⟨⟨by decide, zi_136, rfl, zb5 42 rfl rfl⟩, fun _ h => absurd h List.not_mem_nil⟩⟩⟩⟩⟩⟩⟩⟩⟩⟩⟩⟩⟩⟩⟩⟩⟩⟩⟩⟩
def zLMc_9 : List (Nat × Nat × Nat) := [(12, 23, 75), (12, 27, 137), (12, 28, 76), (12, 32, 138), (12, 33, 77), (12, 36, 139), (12, 37, 78), (12, 40, 144), (12, 41, 82), (12, 44, 145), (12, 45, 83), (12, 48, 157), (12, 49, 88), (12, 52, 163), (12, 53, 89), (12, 56, 164), (12, 57, 90), (12, 60, 165), (12, 61, 91), (12, 64, 166)]
set_option maxRecDepth 100000 in
theorem zLMc_9_ok : ∀ x ∈ zLMc_9, zLMok x := List.forall_mem_cons.mpr ⟨⟨by decide, zi_75, rfl, zb2 120 rfl rfl⟩, List.forall_mem_cons.mpr ⟨⟨by decide, zi_137, rfl, zb5 49 rfl rfl⟩, List.forall_mem_cons.mpr ⟨⟨by decide, zi_76, rfl, zb2 131 rfl rfl⟩, List.forall_mem_cons.mpr ⟨⟨by decide, zi_138, rfl, zb5 58 rfl rfl⟩, List.forall_mem_cons.mpr ⟨⟨by decide, zi_77, rfl, zb2 139 rfl rfl⟩, List.forall_mem_cons.mpr ⟨⟨by decide, zi_139, rfl, zb5 63 rfl rfl⟩, List.forall_mem_cons.mpr ⟨⟨by decide, zi_78, rfl, zb2 179 rfl rfl⟩, List.forall_mem_cons.mpr ⟨⟨by decide, zi_144, rfl, zb5 83 rfl rfl⟩, List.forall_mem_cons.mpr ⟨⟨by decide, zi_82, rfl, zb2 222 rfl rfl⟩, List.forall_mem_cons.mpr ⟨⟨by decide, zi_145, rfl, zb5 122 rfl rfl⟩, List.forall_mem_cons.mpr ⟨⟨by decide, zi_83, rfl, zb2 226 rfl rfl⟩, List.forall_mem_cons.mpr ⟨⟨by decide, zi_157, rfl, zb5 127 rfl rfl⟩, List.forall_mem_cons.mpr ⟨⟨by decide, zi_88, rfl, zb3 27 rfl rfl⟩, List.forall_mem_cons.mpr ⟨⟨by decide, zi_163, rfl, zb5 174 rfl rfl⟩, List.forall_mem_cons.mpr ⟨⟨by decide, zi_89, rfl, zb3 40 rfl rfl⟩, List.forall_mem_cons.mpr ⟨⟨by decide, zi_164, rfl, zb5 186 rfl rfl⟩, List.forall_mem_cons.mpr ⟨⟨by decide, zi_90, rfl, zb3 44 rfl rfl⟩, List.forall_mem_cons.mpr ⟨⟨by decide, zi_165, rfl, zb5 191 rfl rfl⟩, List.forall_mem_cons.mpr ⟨⟨by decide, zi_91, rfl, zb3 50 rfl rfl⟩, List.forall_mem_cons.mpr ⟨⟨by decide, zi_166, rfl, zb5 195 rfl rfl⟩, fun _ h => absurd h List.not_mem_nil⟩⟩⟩⟩⟩⟩⟩⟩⟩⟩⟩⟩⟩⟩⟩⟩⟩⟩⟩⟩
def zLMc_10 : List (Nat × Nat × Nat) := [(12, 65, 92), (12, 68, 167), (12, 69, 93), (12, 72, 168), (12, 73, 94), (12, 76, 173), (12, 77, 95), (12, 80, 174), (12, 81, 96), (12, 84, 177), (12, 85, 97), (12, 88, 179), (12, 89, 98), (12, 92, 181), (12, 93, 100), (12, 96, 184), (12, 97, 101), (12, 100, 186), (12, 101, 102), (12, 104, 187)]
set_option maxRecDepth 100000 in
theorem zLMc_10_ok : ∀ x ∈ zLMc_10, zLMok x := List.forall_mem_cons.mpr ⟨⟨by decide, zi_92, rfl, zb3 59 rfl rfl⟩, List.forall_mem_cons.mpr ⟨⟨by decide, zi_167, rfl, zb5 199 rfl rfl⟩, List.forall_mem_cons.mpr ⟨⟨by decide, zi_93, rfl, zb3 64 rfl rfl⟩, List.forall_mem_cons.mpr ⟨⟨by decide, zi_168, rfl, zb5 203 rfl rfl⟩, List.forall_mem_cons.mpr ⟨⟨by decide, zi_94, rfl, zb3 68 rfl rfl⟩, List.forall_mem_cons.mpr ⟨⟨by decide, zi_173, rfl, zb5 207 rfl rfl⟩, List.forall_mem_cons.mpr ⟨⟨by decide, zi_95, rfl, zb3 121 rfl rfl⟩, List.forall_mem_cons.mpr ⟨⟨by decide, zi_174, rfl, zb5 228 rfl rfl⟩, List.forall_mem_cons.mpr ⟨⟨by decide, zi_96, rfl, zb3 125 rfl rfl⟩, List.forall_mem_cons.mpr ⟨⟨by decide, zi_177, rfl, zb5 232 rfl rfl⟩, List.forall_mem_cons.mpr ⟨⟨by decide, zi_97, rfl, zb3 141 rfl rfl⟩, List.forall_mem_cons.mpr ⟨⟨by decide, zi_179, rfl, zb6 4 rfl rfl⟩, List.forall_mem_cons.mpr ⟨⟨by decide, zi_98, rfl, zb3 161 rfl rfl⟩, List.forall_mem_cons.mpr ⟨⟨by decide, zi_181, rfl, zb6 12 rfl rfl⟩, List.forall_mem_cons.mpr ⟨⟨by decide, zi_100, rfl, zb3 169 rfl rfl⟩, List.forall_mem_cons.mpr ⟨⟨by decide, zi_184, rfl, zb6 20 rfl rfl⟩, List.forall_mem_cons.mpr ⟨⟨by decide, zi_101, rfl, zb3 179 rfl rfl⟩, List.forall_mem_cons.mpr ⟨⟨by decide, zi_186, rfl, zb6 28 rfl rfl⟩, List.forall_mem_cons.mpr ⟨⟨by decide, zi_102, rfl, zb3 195 rfl rfl⟩, List.forall_mem_cons.mpr ⟨⟨by decide, zi_187, rfl, zb6 42 rfl rfl⟩, fun _ h => absurd h List.not_mem_nil⟩⟩⟩⟩⟩⟩⟩⟩⟩⟩⟩⟩⟩⟩⟩⟩⟩⟩⟩⟩
def zLMc_11 : List (Nat × Nat × Nat) := [(12, 105, 103), (12, 108, 188), (12, 109, 104), (12, 112, 190), (12, 113, 105), (12, 116, 191), (12, 117, 106), (12, 120, 192), (12, 121, 107), (12, 124, 193), (12, 125, 108), (12, 128, 128), (12, 129, 109), (12, 132, 129), (12, 133, 110), (12, 136, 197), (12, 137, 111), (12, 140, 204), (12, 141, 112), (12, 144, 205)]
set_option maxRecDepth 100000 in
theorem zLMc_11_ok : ∀ x ∈ zLMc_11, zLMok x := List.forall_mem_cons.mpr ⟨⟨by decide, zi_103, rfl, zb3 203 rfl rfl⟩, List.forall_mem_cons.mpr ⟨⟨by decide, zi_188, rfl, zb6 46 rfl rfl⟩, List.forall_mem_cons.mpr ⟨⟨by decide, zi_104, rfl, zb3 209 rfl rfl⟩, List.forall_mem_cons.mpr ⟨⟨by decide, zi_190, rfl, zb6 50 rfl rfl⟩, List.forall_mem_cons.mpr ⟨⟨by decide, zi_105, rfl, zb3 213 rfl rfl⟩, List.forall_mem_cons.mpr ⟨⟨by decide, zi_191, rfl, zb6 58 rfl rfl⟩, List.forall_mem_cons.mpr ⟨⟨by decide, zi_106, rfl, zb3 217 rfl rfl⟩, List.forall_mem_cons.mpr ⟨⟨by decide, zi_192, rfl, zb6 62 rfl rfl⟩, List.forall_mem_cons.mpr ⟨⟨by decide, zi_107, rfl, zb3 221 rfl rfl⟩, List.forall_mem_cons.mpr ⟨⟨by decide, zi_193, rfl, zb6 66 rfl rfl⟩, List.forall_mem_cons.mpr ⟨⟨by decide, zi_108, rfl, zb3 225 rfl rfl⟩, List.forall_mem_cons.mpr ⟨⟨by decide, zi_128, rfl, zb5 9 rfl rfl⟩, List.forall_mem_cons.mpr ⟨⟨by decide, zi_109, rfl, zb4 1 rfl rfl⟩, List.forall_mem_cons.mpr ⟨⟨by decide, zi_129, rfl, zb5 21 rfl rfl⟩, List.forall_mem_cons.mpr ⟨⟨by decide, zi_110, rfl, zb4 9 rfl rfl⟩, List.forall_mem_cons.mpr ⟨⟨by decide, zi_197, rfl, zb6 70 rfl rfl⟩, List.forall_mem_cons.mpr ⟨⟨by decide, zi_111, rfl, zb4 13 rfl rfl⟩, List.forall_mem_cons.mpr ⟨⟨by decide, zi_204, rfl, zb6 75 rfl rfl⟩, List.forall_mem_cons.mpr ⟨⟨by decide, zi_112, rfl, zb4 37 rfl rfl⟩, List.forall_mem_cons.mpr ⟨⟨by decide, zi_205, rfl, zb6 103 rfl rfl⟩, fun _ h => absurd h List.not_mem_nil⟩⟩⟩⟩⟩⟩⟩⟩⟩⟩⟩⟩⟩⟩⟩⟩⟩⟩⟩⟩
def zLMc_12 : List (Nat × Nat × Nat) := [(12, 145, 113), (12, 148, 207), (12, 149, 114), (12, 152, 208), (12, 155, 115), (12, 159, 211), (12, 160, 116), (12, 164, 212), (12, 165, 117), (12, 169, 213), (12, 170, 118), (12, 173, 214), (12, 174, 119), (12, 177, 215)]
set_option maxRecDepth 100000 in
theorem zLMc_12_ok : ∀ x ∈ zLMc_12, zLMok x := List.forall_mem_cons.mpr ⟨⟨by decide, zi_113, rfl, zb4 41 rfl rfl⟩, List.forall_mem_cons.mpr ⟨⟨by decide, zi_207, rfl, zb6 107 rfl rfl⟩, List.forall_mem_cons.mpr ⟨⟨by decide, zi_114, rfl, zb4 45 rfl rfl⟩, List.forall_mem_cons.mpr ⟨⟨by decide, zi_208, rfl, zb6 111 rfl rfl⟩, List.forall_mem_cons.mpr ⟨⟨by decide, zi_115, rfl, zb4 56 rfl rfl⟩, List.forall_mem_cons.mpr ⟨⟨by decide, zi_211, rfl, zb6 115 rfl rfl⟩, List.forall_mem_cons.mpr ⟨⟨by decide, zi_116, rfl, zb4 67 rfl rfl⟩, List.forall_mem_cons.mpr ⟨⟨by decide, zi_212, rfl, zb6 126 rfl rfl⟩, List.forall_mem_cons.mpr ⟨⟨by decide, zi_117, rfl, zb4 72 rfl rfl⟩, List.forall_mem_cons.mpr ⟨⟨by decide, zi_213, rfl, zb6 131 rfl rfl⟩, List.forall_mem_cons.mpr ⟨⟨by decide, zi_118, rfl, zb4 77 rfl rfl⟩, List.forall_mem_cons.mpr ⟨⟨by decide, zi_214, rfl, zb6 135 rfl rfl⟩, List.forall_mem_cons.mpr ⟨⟨by decide, zi_119, rfl, zb4 84 rfl rfl⟩, List.forall_mem_cons.mpr ⟨⟨by decide, zi_215, rfl, zb6 146 rfl rfl⟩, fun _ h => absurd h List.not_mem_nil⟩⟩⟩⟩⟩⟩⟩⟩⟩⟩⟩⟩⟩⟩
def zLMc : List (Nat × Nat × Nat) := zLMc_0 ++ (zLMc_1 ++ (zLMc_2 ++ (zLMc_3 ++ (zLMc_4 ++ (zLMc_5 ++ (zLMc_6 ++ (zLMc_7 ++ (zLMc_8 ++ (zLMc_9 ++ (zLMc_10 ++ (zLMc_11 ++ (zLMc_12))))))))))))
theorem zLMc_ok : ∀ x ∈ zLMc, zLMok x := List.forall_mem_append.mpr ⟨zLMc_0_ok, List.forall_mem_append.mpr ⟨zLMc_1_ok, List.forall_mem_append.mpr ⟨zLMc_2_ok, List.forall_mem_append.mpr ⟨zLMc_3_ok, List.forall_mem_append.mpr ⟨zLMc_4_ok, List.forall_mem_append.mpr ⟨zLMc_5_ok, List.forall_mem_append.mpr ⟨zLMc_6_ok, List.forall_mem_append.mpr ⟨zLMc_7_ok, List.forall_mem_append.mpr ⟨zLMc_8_ok, List.forall_mem_append.mpr ⟨zLMc_9_ok, List.forall_mem_append.mpr ⟨zLMc_10_ok, List.forall_mem_append.mpr ⟨zLMc_11_ok, zLMc_12_ok⟩⟩⟩⟩⟩⟩⟩⟩⟩⟩⟩⟩
set_option maxRecDepth 100000 in
theorem zLMs_eq : zLMc = zLMs := rfl
def zLNok (e : Nat × Nat × Nat) : Prop := .classLink (zNm e.1) e.2.1 (zNm e.2.2) ∈ zTB ∧ .instantiable (zNm e.2.2) (zN e.2.2) ∈ zTB ∧ .initialized (zNm e.2.2) ∈ zTB ∧ e.2.2 < 11
def zLNc_0 : List (Nat × Nat × Nat) := [(2, 9, 8), (9, 7, 8), (9, 19, 3), (9, 26, 4), (9, 33, 2), (9, 40, 7), (9, 53, 1), (9, 60, 0), (9, 67, 6), (9, 73, 5), (12, 7, 9), (12, 10, 10)]
set_option maxRecDepth 100000 in
theorem zLNc_0_ok : ∀ x ∈ zLNc_0, zLNok x := List.forall_mem_cons.mpr ⟨⟨zb1 117 rfl rfl, zb1 24 rfl rfl, zb1 2 rfl rfl, by decide⟩, List.forall_mem_cons.mpr ⟨⟨zb1 23 rfl rfl, zb1 24 rfl rfl, zb1 2 rfl rfl, by decide⟩, List.forall_mem_cons.mpr ⟨⟨zb1 62 rfl rfl, zb1 63 rfl rfl, zb1 3 rfl rfl, by decide⟩, List.forall_mem_cons.mpr ⟨⟨zb1 89 rfl rfl, zb1 90 rfl rfl, zb1 4 rfl rfl, by decide⟩, List.forall_mem_cons.mpr ⟨⟨zb1 111 rfl rfl, zb1 112 rfl rfl, zb1 5 rfl rfl, by decide⟩, List.forall_mem_cons.mpr ⟨⟨zb1 158 rfl rfl, zb1 159 rfl rfl, zb1 6 rfl rfl, by decide⟩, List.forall_mem_cons.mpr ⟨⟨zb1 189 rfl rfl, zb1 190 rfl rfl, zb1 7 rfl rfl, by decide⟩, List.forall_mem_cons.mpr ⟨⟨zb1 207 rfl rfl, zb1 208 rfl rfl, zb1 8 rfl rfl, by decide⟩, List.forall_mem_cons.mpr ⟨⟨zb1 236 rfl rfl, zb2 19 rfl rfl, zb1 10 rfl rfl, by decide⟩, List.forall_mem_cons.mpr ⟨⟨zb1 238 rfl rfl, zb1 239 rfl rfl, zb1 9 rfl rfl, by decide⟩, List.forall_mem_cons.mpr ⟨⟨zb1 15 rfl rfl, zb1 16 rfl rfl, zb1 1 rfl rfl, by decide⟩, List.forall_mem_cons.mpr ⟨⟨zb4 92 rfl rfl, zb4 93 rfl rfl, zb1 11 rfl rfl, by decide⟩, fun _ h => absurd h List.not_mem_nil⟩⟩⟩⟩⟩⟩⟩⟩⟩⟩⟩⟩
def zLNc : List (Nat × Nat × Nat) := zLNc_0
theorem zLNc_ok : ∀ x ∈ zLNc, zLNok x := zLNc_0_ok
theorem zLNs_eq : zLNc = zLNs := rfl
def zLKok (e : Nat × Nat × Int32) : Prop := .constant (zNm e.1) e.2.1 e.2.2 ∈ zTB
def zLKc_0 : List (Nat × Nat × Int32) := [(7, 21, 1103515245), (9, 151, (-2000000000)), (10, 149, (-2000000000)), (10, 298, 1103515245), (11, 265, 1431655765), (11, 266, 858993459), (11, 267, 252645135)]
set_option maxRecDepth 100000 in
theorem zLKc_0_ok : ∀ x ∈ zLKc_0, zLKok x := List.forall_mem_cons.mpr ⟨(show _ ∈ zTB from zb3 190 rfl rfl), List.forall_mem_cons.mpr ⟨(show _ ∈ zTB from zb2 159 rfl rfl), List.forall_mem_cons.mpr ⟨(show _ ∈ zTB from zb5 75 rfl rfl), List.forall_mem_cons.mpr ⟨(show _ ∈ zTB from zb6 41 rfl rfl), List.forall_mem_cons.mpr ⟨(show _ ∈ zTB from zb3 176 rfl rfl), List.forall_mem_cons.mpr ⟨(show _ ∈ zTB from zb3 177 rfl rfl), List.forall_mem_cons.mpr ⟨(show _ ∈ zTB from zb3 178 rfl rfl), fun _ h => absurd h List.not_mem_nil⟩⟩⟩⟩⟩⟩⟩
def zLKc : List (Nat × Nat × Int32) := zLKc_0
theorem zLKc_ok : ∀ x ∈ zLKc, zLKok x := zLKc_0_ok
theorem zLKs_eq : zLKc = zLKs := rfl
def zLJok (e : Nat × Nat × Int64) : Prop := .constantLong (zNm e.1) e.2.1 e.2.2 ∈ zTB
def zLJc_0 : List (Nat × Nat × Int64) := [(9, 366, (-9223372036854775808)), (10, 117, 9), (10, 119, (-4)), (10, 121, 4), (10, 138, 15), (10, 140, 99), (10, 150, (-9)), (10, 155, 999), (10, 157, 12), (10, 175, 6), (10, 180, 10), (10, 182, 20), (10, 184, 28), (10, 189, 255), (10, 254, 3), (10, 277, 60), (10, 299, 29), (10, 313, 30), (10, 329, 7), (10, 358, 5)]
set_option maxRecDepth 100000 in
theorem zLJc_0_ok : ∀ x ∈ zLJc_0, zLJok x := List.forall_mem_cons.mpr ⟨(show _ ∈ zTB from zb4 71 rfl rfl), List.forall_mem_cons.mpr ⟨(show _ ∈ zTB from zb5 32 rfl rfl), List.forall_mem_cons.mpr ⟨(show _ ∈ zTB from zb5 36 rfl rfl), List.forall_mem_cons.mpr ⟨(show _ ∈ zTB from zb5 37 rfl rfl), List.forall_mem_cons.mpr ⟨(show _ ∈ zTB from zb5 57 rfl rfl), List.forall_mem_cons.mpr ⟨(show _ ∈ zTB from zb5 62 rfl rfl), List.forall_mem_cons.mpr ⟨(show _ ∈ zTB from zb5 76 rfl rfl), List.forall_mem_cons.mpr ⟨(show _ ∈ zTB from zb5 81 rfl rfl), List.forall_mem_cons.mpr ⟨(show _ ∈ zTB from zb5 82 rfl rfl), List.forall_mem_cons.mpr ⟨(show _ ∈ zTB from zb5 87 rfl rfl), List.forall_mem_cons.mpr ⟨(show _ ∈ zTB from zb5 111 rfl rfl), List.forall_mem_cons.mpr ⟨(show _ ∈ zTB from zb5 112 rfl rfl), List.forall_mem_cons.mpr ⟨(show _ ∈ zTB from zb5 113 rfl rfl), List.forall_mem_cons.mpr ⟨(show _ ∈ zTB from zb5 126 rfl rfl), List.forall_mem_cons.mpr ⟨(show _ ∈ zTB from zb5 190 rfl rfl), List.forall_mem_cons.mpr ⟨(show _ ∈ zTB from zb5 211 rfl rfl), List.forall_mem_cons.mpr ⟨(show _ ∈ zTB from zb6 24 rfl rfl), List.forall_mem_cons.mpr ⟨(show _ ∈ zTB from zb6 32 rfl rfl), List.forall_mem_cons.mpr ⟨(show _ ∈ zTB from zb6 74 rfl rfl), List.forall_mem_cons.mpr ⟨(show _ ∈ zTB from zb5 56 rfl rfl), fun _ h => absurd h List.not_mem_nil⟩⟩⟩⟩⟩⟩⟩⟩⟩⟩⟩⟩⟩⟩⟩⟩⟩⟩⟩⟩
def zLJc_1 : List (Nat × Nat × Int64) := [(10, 369, (-9223372036854775808)), (12, 153, 4294967295)]
set_option maxRecDepth 100000 in
theorem zLJc_1_ok : ∀ x ∈ zLJc_1, zLJok x := List.forall_mem_cons.mpr ⟨(show _ ∈ zTB from zb6 130 rfl rfl), List.forall_mem_cons.mpr ⟨(show _ ∈ zTB from zb6 154 rfl rfl), fun _ h => absurd h List.not_mem_nil⟩⟩
def zLJc : List (Nat × Nat × Int64) := zLJc_0 ++ (zLJc_1)
theorem zLJc_ok : ∀ x ∈ zLJc, zLJok x := List.forall_mem_append.mpr ⟨zLJc_0_ok, zLJc_1_ok⟩
theorem zLJs_eq : zLJc = zLJs := rfl
def zLGok (e : Nat × Nat × Nat) : Prop := (e.2.2 = 1000001 ∧ .fieldLink (zNm e.1) e.2.1 "PalletSky$Bodies" "OWN" "[I" ∈ zTB) ∨ (e.2.2 = 1000002 ∧ .fieldLink (zNm e.1) e.2.1 "PalletSky$Bodies" "ABOVE" "[I" ∈ zTB)
def zLGc_0 : List (Nat × Nat × Nat) := [(0, 20, 1000002), (0, 33, 1000001)]
set_option maxRecDepth 100000 in
theorem zLGc_0_ok : ∀ x ∈ zLGc_0, zLGok x := List.forall_mem_cons.mpr ⟨Or.inr ⟨rfl, zb4 31 rfl rfl⟩, List.forall_mem_cons.mpr ⟨Or.inl ⟨rfl, zb4 29 rfl rfl⟩, fun _ h => absurd h List.not_mem_nil⟩⟩
def zLGc : List (Nat × Nat × Nat) := zLGc_0
theorem zLGc_ok : ∀ x ∈ zLGc, zLGok x := zLGc_0_ok
theorem zLGs_eq : zLGc = zLGs := rfl
theorem zf_L2 : ∀ e ∈ zL2s, .classLink (zNm e.1) e.2.1 ("[" ++ (FieldType.array .int).toString) ∈ zTB := List.forall_mem_cons.mpr ⟨zb1 29 rfl rfl, fun _ h => absurd h List.not_mem_nil⟩
theorem zf_ai : .arrayClass .int ∈ zTB := zb1 61 rfl rfl
theorem zf_al : .arrayClass .long ∈ zTB := zb2 41 rfl rfl
theorem zf_aa : .arrayOver (.array .int) ∈ lw_tbl := List.mem_append_right _ (List.mem_append_left _ (List.mem_of_getElem? (i := 30) rfl))
theorem zf_ao : .arrayOver (.object "PalletSky$Shelf") ∈ lw_tbl := List.mem_append_right _ (List.mem_append_left _ (List.mem_of_getElem? (i := 237) rfl))
theorem zf_ms_max : .static Lib.Math.max.name ∈ zTB := zb2 203 rfl rfl
theorem zf_mc_max : .code Lib.Math.max.name Lib.Math.max.code 2 (some .int) ∈ zTB := zb2 204 rfl rfl
theorem zf_ms_min : .static Lib.Math.min.name ∈ zTB := zb2 114 rfl rfl
theorem zf_mc_min : .code Lib.Math.min.name Lib.Math.min.code 2 (some .int) ∈ zTB := zb2 115 rfl rfl
theorem zf_ms_abs : .static Lib.Math.abs.name ∈ zTB := zb2 200 rfl rfl
theorem zf_mc_abs : .code Lib.Math.abs.name Lib.Math.abs.code 1 (some .int) ∈ zTB := zb2 201 rfl rfl
theorem zf_mi : .initialized "java/lang/Math" ∈ zTB := zb1 12 rfl rfl
theorem zf_cn : .native arraycopyName ∈ zTB := zb2 178 rfl rfl
theorem zf_cs : .static arraycopyName ∈ zTB := zb2 177 rfl rfl
theorem zf_ci : .initialized "java/lang/System" ∈ zTB := zb1 13 rfl rfl
theorem zf_oi : .instanceMethod objectInit ∈ zTB := zb1 21 rfl rfl
theorem zf_oc : .code objectInit ⟨#[0xb1]⟩ 1 none ∈ zTB := zb1 22 rfl rfl
set_option maxRecDepth 100000 in
theorem zu_0 : ∀ w ∈ u_ws (zNm 0) (zTf 0) (zN 0), w ∈ zTB := List.forall_mem_cons.mpr ⟨zb1 223 rfl rfl, List.forall_mem_cons.mpr ⟨zb1 225 rfl rfl, List.forall_mem_cons.mpr ⟨zb1 227 rfl rfl, List.forall_mem_cons.mpr ⟨zb1 229 rfl rfl, List.forall_mem_cons.mpr ⟨zb1 231 rfl rfl, List.forall_mem_cons.mpr ⟨zb1 233 rfl rfl, fun _ h => absurd h List.not_mem_nil⟩⟩⟩⟩⟩⟩
set_option maxRecDepth 100000 in
theorem zu_1 : ∀ w ∈ u_ws (zNm 1) (zTf 1) (zN 1), w ∈ zTB := List.forall_mem_cons.mpr ⟨zb1 200 rfl rfl, List.forall_mem_cons.mpr ⟨zb1 202 rfl rfl, List.forall_mem_cons.mpr ⟨zb1 204 rfl rfl, fun _ h => absurd h List.not_mem_nil⟩⟩⟩
set_option maxRecDepth 100000 in
theorem zu_2 : ∀ w ∈ u_ws (zNm 2) (zTf 2) (zN 2), w ∈ zTB := List.forall_mem_cons.mpr ⟨zb1 135 rfl rfl, List.forall_mem_cons.mpr ⟨zb1 137 rfl rfl, List.forall_mem_cons.mpr ⟨zb1 139 rfl rfl, List.forall_mem_cons.mpr ⟨zb1 141 rfl rfl, List.forall_mem_cons.mpr ⟨zb1 143 rfl rfl, List.forall_mem_cons.mpr ⟨zb1 145 rfl rfl, List.forall_mem_cons.mpr ⟨zb1 147 rfl rfl, List.forall_mem_cons.mpr ⟨zb1 149 rfl rfl, List.forall_mem_cons.mpr ⟨zb1 151 rfl rfl, List.forall_mem_cons.mpr ⟨zb1 153 rfl rfl, List.forall_mem_cons.mpr ⟨zb1 155 rfl rfl, fun _ h => absurd h List.not_mem_nil⟩⟩⟩⟩⟩⟩⟩⟩⟩⟩⟩
set_option maxRecDepth 100000 in
theorem zu_3 : ∀ w ∈ u_ws (zNm 3) (zTf 3) (zN 3), w ∈ zTB := List.forall_mem_cons.mpr ⟨zb1 78 rfl rfl, List.forall_mem_cons.mpr ⟨zb1 80 rfl rfl, List.forall_mem_cons.mpr ⟨zb1 82 rfl rfl, List.forall_mem_cons.mpr ⟨zb1 84 rfl rfl, List.forall_mem_cons.mpr ⟨zb1 86 rfl rfl, fun _ h => absurd h List.not_mem_nil⟩⟩⟩⟩⟩
set_option maxRecDepth 100000 in
theorem zu_4 : ∀ w ∈ u_ws (zNm 4) (zTf 4) (zN 4), w ∈ zTB := List.forall_mem_cons.mpr ⟨zb1 102 rfl rfl, List.forall_mem_cons.mpr ⟨zb1 104 rfl rfl, List.forall_mem_cons.mpr ⟨zb1 106 rfl rfl, List.forall_mem_cons.mpr ⟨zb1 108 rfl rfl, fun _ h => absurd h List.not_mem_nil⟩⟩⟩⟩
set_option maxRecDepth 100000 in
theorem zu_5 : ∀ w ∈ u_ws (zNm 5) (zTf 5) (zN 5), w ∈ zTB := List.forall_mem_cons.mpr ⟨zb2 10 rfl rfl, List.forall_mem_cons.mpr ⟨zb2 12 rfl rfl, List.forall_mem_cons.mpr ⟨zb2 14 rfl rfl, List.forall_mem_cons.mpr ⟨zb2 16 rfl rfl, fun _ h => absurd h List.not_mem_nil⟩⟩⟩⟩
set_option maxRecDepth 100000 in
theorem zu_6 : ∀ w ∈ u_ws (zNm 6) (zTf 6) (zN 6), w ∈ zTB := List.forall_mem_cons.mpr ⟨zb2 32 rfl rfl, List.forall_mem_cons.mpr ⟨zb2 34 rfl rfl, List.forall_mem_cons.mpr ⟨zb2 36 rfl rfl, List.forall_mem_cons.mpr ⟨zb2 38 rfl rfl, fun _ h => absurd h List.not_mem_nil⟩⟩⟩⟩
set_option maxRecDepth 100000 in
theorem zu_7 : ∀ w ∈ u_ws (zNm 7) (zTf 7) (zN 7), w ∈ zTB := List.forall_mem_cons.mpr ⟨zb1 176 rfl rfl, List.forall_mem_cons.mpr ⟨zb1 178 rfl rfl, List.forall_mem_cons.mpr ⟨zb1 180 rfl rfl, List.forall_mem_cons.mpr ⟨zb1 182 rfl rfl, List.forall_mem_cons.mpr ⟨zb1 184 rfl rfl, List.forall_mem_cons.mpr ⟨zb1 186 rfl rfl, fun _ h => absurd h List.not_mem_nil⟩⟩⟩⟩⟩⟩
set_option maxRecDepth 100000 in
theorem zu_8 : ∀ w ∈ u_ws (zNm 8) (zTf 8) (zN 8), w ∈ zTB := List.forall_mem_cons.mpr ⟨zb1 46 rfl rfl, List.forall_mem_cons.mpr ⟨zb1 48 rfl rfl, List.forall_mem_cons.mpr ⟨zb1 50 rfl rfl, List.forall_mem_cons.mpr ⟨zb1 52 rfl rfl, List.forall_mem_cons.mpr ⟨zb1 54 rfl rfl, List.forall_mem_cons.mpr ⟨zb1 56 rfl rfl, List.forall_mem_cons.mpr ⟨zb1 58 rfl rfl, fun _ h => absurd h List.not_mem_nil⟩⟩⟩⟩⟩⟩⟩
set_option maxRecDepth 100000 in
theorem zu_9 : ∀ w ∈ u_ws (zNm 9) (zTf 9) (zN 9), w ∈ zTB := List.forall_mem_cons.mpr ⟨zb2 59 rfl rfl, List.forall_mem_cons.mpr ⟨zb2 61 rfl rfl, List.forall_mem_cons.mpr ⟨zb2 63 rfl rfl, List.forall_mem_cons.mpr ⟨zb2 65 rfl rfl, List.forall_mem_cons.mpr ⟨zb2 67 rfl rfl, List.forall_mem_cons.mpr ⟨zb2 69 rfl rfl, List.forall_mem_cons.mpr ⟨zb2 71 rfl rfl, List.forall_mem_cons.mpr ⟨zb2 73 rfl rfl, List.forall_mem_cons.mpr ⟨zb2 75 rfl rfl, List.forall_mem_cons.mpr ⟨zb2 77 rfl rfl, List.forall_mem_cons.mpr ⟨zb2 79 rfl rfl, List.forall_mem_cons.mpr ⟨zb2 81 rfl rfl, List.forall_mem_cons.mpr ⟨zb2 83 rfl rfl, List.forall_mem_cons.mpr ⟨zb2 85 rfl rfl, List.forall_mem_cons.mpr ⟨zb2 87 rfl rfl, List.forall_mem_cons.mpr ⟨zb2 89 rfl rfl, List.forall_mem_cons.mpr ⟨zb2 91 rfl rfl, fun _ h => absurd h List.not_mem_nil⟩⟩⟩⟩⟩⟩⟩⟩⟩⟩⟩⟩⟩⟩⟩⟩⟩
set_option maxRecDepth 100000 in
theorem zu_10 : ∀ w ∈ u_ws (zNm 10) (zTf 10) (zN 10), w ∈ zTB := List.forall_mem_cons.mpr ⟨zb4 148 rfl rfl, List.forall_mem_cons.mpr ⟨zb4 150 rfl rfl, List.forall_mem_cons.mpr ⟨zb4 152 rfl rfl, List.forall_mem_cons.mpr ⟨zb4 154 rfl rfl, List.forall_mem_cons.mpr ⟨zb4 156 rfl rfl, List.forall_mem_cons.mpr ⟨zb4 158 rfl rfl, List.forall_mem_cons.mpr ⟨zb4 160 rfl rfl, List.forall_mem_cons.mpr ⟨zb4 162 rfl rfl, List.forall_mem_cons.mpr ⟨zb4 164 rfl rfl, List.forall_mem_cons.mpr ⟨zb4 166 rfl rfl, List.forall_mem_cons.mpr ⟨zb4 168 rfl rfl, List.forall_mem_cons.mpr ⟨zb4 170 rfl rfl, List.forall_mem_cons.mpr ⟨zb4 172 rfl rfl, List.forall_mem_cons.mpr ⟨zb4 174 rfl rfl, List.forall_mem_cons.mpr ⟨zb4 176 rfl rfl, List.forall_mem_cons.mpr ⟨zb4 178 rfl rfl, List.forall_mem_cons.mpr ⟨zb4 180 rfl rfl, List.forall_mem_cons.mpr ⟨zb4 182 rfl rfl, List.forall_mem_cons.mpr ⟨zb4 184 rfl rfl, List.forall_mem_cons.mpr ⟨zb4 186 rfl rfl, List.forall_mem_cons.mpr ⟨zb4 188 rfl rfl, List.forall_mem_cons.mpr ⟨zb4 190 rfl rfl, List.forall_mem_cons.mpr ⟨zb4 192 rfl rfl, List.forall_mem_cons.mpr ⟨zb4 194 rfl rfl, List.forall_mem_cons.mpr ⟨zb4 196 rfl rfl, List.forall_mem_cons.mpr ⟨zb4 198 rfl rfl, List.forall_mem_cons.mpr ⟨zb4 200 rfl rfl, List.forall_mem_cons.mpr ⟨zb4 202 rfl rfl, List.forall_mem_cons.mpr ⟨zb4 204 rfl rfl, List.forall_mem_cons.mpr ⟨zb4 206 rfl rfl, List.forall_mem_cons.mpr ⟨zb4 208 rfl rfl, List.forall_mem_cons.mpr ⟨zb4 210 rfl rfl, List.forall_mem_cons.mpr ⟨zb4 212 rfl rfl, List.forall_mem_cons.mpr ⟨zb4 214 rfl rfl, List.forall_mem_cons.mpr ⟨zb4 216 rfl rfl, List.forall_mem_cons.mpr ⟨zb4 218 rfl rfl, List.forall_mem_cons.mpr ⟨zb4 220 rfl rfl, List.forall_mem_cons.mpr ⟨zb4 222 rfl rfl, List.forall_mem_cons.mpr ⟨zb4 224 rfl rfl, List.forall_mem_cons.mpr ⟨zb4 226 rfl rfl, List.forall_mem_cons.mpr ⟨zb4 228 rfl rfl, List.forall_mem_cons.mpr ⟨zb4 230 rfl rfl, List.forall_mem_cons.mpr ⟨zb4 232 rfl rfl, List.forall_mem_cons.mpr ⟨zb4 234 rfl rfl, List.forall_mem_cons.mpr ⟨zb4 236 rfl rfl, List.forall_mem_cons.mpr ⟨zb4 238 rfl rfl, List.forall_mem_cons.mpr ⟨zb5 0 rfl rfl, List.forall_mem_cons.mpr ⟨zb5 2 rfl rfl, List.forall_mem_cons.mpr ⟨zb5 4 rfl rfl, List.forall_mem_cons.mpr ⟨zb5 6 rfl rfl, fun _ h => absurd h List.not_mem_nil⟩⟩⟩⟩⟩⟩⟩⟩⟩⟩⟩⟩⟩⟩⟩⟩⟩⟩⟩⟩⟩⟩⟩⟩⟩⟩⟩⟩⟩⟩⟩⟩⟩⟩⟩⟩⟩⟩⟩⟩⟩⟩⟩⟩⟩⟩⟩⟩⟩⟩
theorem zf_ws : ∀ ci, ci < 11 → ∀ w ∈ u_ws (zNm ci) (zTf ci) (zN ci), w ∈ zTB := fun ci h => match ci, h with
  | 0, _ => zu_0
  | 1, _ => zu_1
  | 2, _ => zu_2
  | 3, _ => zu_3
  | 4, _ => zu_4
  | 5, _ => zu_5
  | 6, _ => zu_6
  | 7, _ => zu_7
  | 8, _ => zu_8
  | 9, _ => zu_9
  | 10, _ => zu_10
  | _ + 11, h => absurd h (by omega)
theorem zf_ty : ∀ ci, ci < 11 → ∀ k, k < zN ci → parseFieldDescriptor (zTf ci k).2.2.1 = some (zFt ci k) := by decide +kernel
theorem zf_dc : ∀ ci, ci < 11 → ∀ k, k < zN ci → (zTf ci k).1 = zNm ci := by decide +kernel
theorem zf_nm : ∀ ci, ci < 11 → ∀ a, a < zN ci → ∀ b, b < zN ci → a ≠ b → (zTf ci a).2.1 ≠ (zTf ci b).2.1 := fun ci h => match ci, h with
  | 0, _ => nmX0
  | 1, _ => nmX1
  | 2, _ => nmX2
  | 3, _ => nmX3
  | 4, _ => nmX4
  | 5, _ => nmX5
  | 6, _ => nmX6
  | 7, _ => nmX7
  | 8, _ => nmX8
  | 9, _ => nmX9
  | 10, _ => nmX10
  | _ + 11, h => absurd h (by omega)
theorem zf_cl : ∀ ci, ci < 11 → zCl[ci]? = some (zNm ci, zTf ci, zN ci) := fun ci h => match ci, h with
  | 0, _ => rfl
  | 1, _ => rfl
  | 2, _ => rfl
  | 3, _ => rfl
  | 4, _ => rfl
  | 5, _ => rfl
  | 6, _ => rfl
  | 7, _ => rfl
  | 8, _ => rfl
  | 9, _ => rfl
  | 10, _ => rfl
  | _ + 11, h => absurd h (by omega)
