-- ===== PART A: goes FIRST, ahead of the names: the tables' words, and 'selects' of the private methods out of them =====
/-- a private method of a class that the tables say can be made, by its rows of tables_1 -/
def lw_okq (q : MethodName × Nat) : Prop := (q.1.cls ≠ "java/lang/invoke/MethodHandle" ∧ q.1.cls ≠ "java/lang/invoke/VarHandle") ∧ Cond.instantiable q.1.cls q.2 ∈ tables_1 ∧ Cond.privateMethod q.1 ∈ tables_1 ∧ Cond.instanceMethod q.1 ∈ tables_1
theorem lw_p0 : lw_okq (⟨"PalletSky", "isThere", "(II)Z"⟩, 17) := ⟨⟨by decide +kernel, by decide +kernel⟩, List.mem_of_getElem? (i := 16) (by decide +kernel), List.mem_of_getElem? (i := 384) (by decide +kernel), List.mem_of_getElem? (i := 385) (by decide +kernel)⟩
theorem lw_p1 : lw_okq (⟨"PalletSky", "isFit", "(III)Z"⟩, 17) := ⟨⟨by decide +kernel, by decide +kernel⟩, List.mem_of_getElem? (i := 16) (by decide +kernel), List.mem_of_getElem? (i := 396) (by decide +kernel), List.mem_of_getElem? (i := 397) (by decide +kernel)⟩
theorem lw_p2 : lw_okq (⟨"PalletSky", "told", "(II)I"⟩, 17) := ⟨⟨by decide +kernel, by decide +kernel⟩, List.mem_of_getElem? (i := 16) (by decide +kernel), List.mem_of_getElem? (i := 401) (by decide +kernel), List.mem_of_getElem? (i := 402) (by decide +kernel)⟩
theorem lw_p3 : lw_okq (⟨"PalletSky", "lay", "(III)V"⟩, 17) := ⟨⟨by decide +kernel, by decide +kernel⟩, List.mem_of_getElem? (i := 16) (by decide +kernel), List.mem_of_getElem? (i := 405) (by decide +kernel), List.mem_of_getElem? (i := 406) (by decide +kernel)⟩
theorem lw_p4 : lw_okq (⟨"PalletSky", "ofRound", "(II)I"⟩, 17) := ⟨⟨by decide +kernel, by decide +kernel⟩, List.mem_of_getElem? (i := 16) (by decide +kernel), List.mem_of_getElem? (i := 424) (by decide +kernel), List.mem_of_getElem? (i := 425) (by decide +kernel)⟩
theorem lw_p5 : lw_okq (⟨"PalletSky", "ofPane", "(II)I"⟩, 17) := ⟨⟨by decide +kernel, by decide +kernel⟩, List.mem_of_getElem? (i := 16) (by decide +kernel), List.mem_of_getElem? (i := 450) (by decide +kernel), List.mem_of_getElem? (i := 451) (by decide +kernel)⟩
theorem lw_p6 : lw_okq (⟨"PalletSky", "ofPlace", "(I)I"⟩, 17) := ⟨⟨by decide +kernel, by decide +kernel⟩, List.mem_of_getElem? (i := 16) (by decide +kernel), List.mem_of_getElem? (i := 454) (by decide +kernel), List.mem_of_getElem? (i := 455) (by decide +kernel)⟩
theorem lw_p7 : lw_okq (⟨"PalletSky$Parser", "line", "()Z"⟩, 4) := ⟨⟨by decide +kernel, by decide +kernel⟩, List.mem_of_getElem? (i := 90) (by decide +kernel), List.mem_of_getElem? (i := 475) (by decide +kernel), List.mem_of_getElem? (i := 476) (by decide +kernel)⟩
theorem lw_p8 : lw_okq (⟨"PalletSky$Parser", "chain", "(II)Z"⟩, 4) := ⟨⟨by decide +kernel, by decide +kernel⟩, List.mem_of_getElem? (i := 90) (by decide +kernel), List.mem_of_getElem? (i := 479) (by decide +kernel), List.mem_of_getElem? (i := 480) (by decide +kernel)⟩
theorem lw_p9 : lw_okq (⟨"PalletSky$Parser", "operand", "(I)Z"⟩, 4) := ⟨⟨by decide +kernel, by decide +kernel⟩, List.mem_of_getElem? (i := 90) (by decide +kernel), List.mem_of_getElem? (i := 483) (by decide +kernel), List.mem_of_getElem? (i := 484) (by decide +kernel)⟩
theorem lw_p10 : lw_okq (⟨"PalletSky$Parser", "ahead", "()I"⟩, 4) := ⟨⟨by decide +kernel, by decide +kernel⟩, List.mem_of_getElem? (i := 90) (by decide +kernel), List.mem_of_getElem? (i := 487) (by decide +kernel), List.mem_of_getElem? (i := 488) (by decide +kernel)⟩
theorem lw_p11 : lw_okq (⟨"PalletSky$Parser", "number", "()V"⟩, 4) := ⟨⟨by decide +kernel, by decide +kernel⟩, List.mem_of_getElem? (i := 90) (by decide +kernel), List.mem_of_getElem? (i := 494) (by decide +kernel), List.mem_of_getElem? (i := 495) (by decide +kernel)⟩
theorem lw_p12 : lw_okq (⟨"PalletSky", "burnt", "()LPalletSky$Fire;"⟩, 17) := ⟨⟨by decide +kernel, by decide +kernel⟩, List.mem_of_getElem? (i := 16) (by decide +kernel), List.mem_of_getElem? (i := 556) (by decide +kernel), List.mem_of_getElem? (i := 557) (by decide +kernel)⟩
theorem lw_p13 : lw_okq (⟨"PalletSky$Fire", "light", "(LPalletSky$Tower;)V"⟩, 11) := ⟨⟨by decide +kernel, by decide +kernel⟩, List.mem_of_getElem? (i := 112) (by decide +kernel), List.mem_of_getElem? (i := 564) (by decide +kernel), List.mem_of_getElem? (i := 565) (by decide +kernel)⟩
theorem lw_p14 : lw_okq (⟨"PalletSky$Fire", "smoulder", "(LPalletSky$Tower;LPalletSky$Program;I)Z"⟩, 11) := ⟨⟨by decide +kernel, by decide +kernel⟩, List.mem_of_getElem? (i := 112) (by decide +kernel), List.mem_of_getElem? (i := 570) (by decide +kernel), List.mem_of_getElem? (i := 571) (by decide +kernel)⟩
theorem lw_p15 : lw_okq (⟨"PalletSky$Fire", "loss", "(LPalletSky$Tower;LPalletSky$Program;III)I"⟩, 11) := ⟨⟨by decide +kernel, by decide +kernel⟩, List.mem_of_getElem? (i := 112) (by decide +kernel), List.mem_of_getElem? (i := 579) (by decide +kernel), List.mem_of_getElem? (i := 580) (by decide +kernel)⟩
def lw_privs_1 : List (MethodName × Nat) := [(⟨"PalletSky", "isThere", "(II)Z"⟩, 17), (⟨"PalletSky", "isFit", "(III)Z"⟩, 17), (⟨"PalletSky", "told", "(II)I"⟩, 17), (⟨"PalletSky", "lay", "(III)V"⟩, 17), (⟨"PalletSky", "ofRound", "(II)I"⟩, 17), (⟨"PalletSky", "ofPane", "(II)I"⟩, 17), (⟨"PalletSky", "ofPlace", "(I)I"⟩, 17), (⟨"PalletSky$Parser", "line", "()Z"⟩, 4), (⟨"PalletSky$Parser", "chain", "(II)Z"⟩, 4), (⟨"PalletSky$Parser", "operand", "(I)Z"⟩, 4), (⟨"PalletSky$Parser", "ahead", "()I"⟩, 4), (⟨"PalletSky$Parser", "number", "()V"⟩, 4), (⟨"PalletSky", "burnt", "()LPalletSky$Fire;"⟩, 17), (⟨"PalletSky$Fire", "light", "(LPalletSky$Tower;)V"⟩, 11), (⟨"PalletSky$Fire", "smoulder", "(LPalletSky$Tower;LPalletSky$Program;I)Z"⟩, 11), (⟨"PalletSky$Fire", "loss", "(LPalletSky$Tower;LPalletSky$Program;III)I"⟩, 11)]
theorem lw_r1 : ∀ q ∈ lw_privs_1, lw_okq q := List.forall_mem_cons.mpr ⟨lw_p0, List.forall_mem_cons.mpr ⟨lw_p1, List.forall_mem_cons.mpr ⟨lw_p2, List.forall_mem_cons.mpr ⟨lw_p3, List.forall_mem_cons.mpr ⟨lw_p4, List.forall_mem_cons.mpr ⟨lw_p5, List.forall_mem_cons.mpr ⟨lw_p6, List.forall_mem_cons.mpr ⟨lw_p7, List.forall_mem_cons.mpr ⟨lw_p8, List.forall_mem_cons.mpr ⟨lw_p9, List.forall_mem_cons.mpr ⟨lw_p10, List.forall_mem_cons.mpr ⟨lw_p11, List.forall_mem_cons.mpr ⟨lw_p12, List.forall_mem_cons.mpr ⟨lw_p13, List.forall_mem_cons.mpr ⟨lw_p14, List.forall_mem_cons.mpr ⟨lw_p15, fun _ h => absurd h List.not_mem_nil⟩⟩⟩⟩⟩⟩⟩⟩⟩⟩⟩⟩⟩⟩⟩⟩
theorem lw_p16 : lw_okq (⟨"PalletSky$Panes", "brightest", "(IILPalletSky$Fire;)I"⟩, 5) := ⟨⟨by decide +kernel, by decide +kernel⟩, List.mem_of_getElem? (i := 63) (by decide +kernel), List.mem_of_getElem? (i := 638) (by decide +kernel), List.mem_of_getElem? (i := 639) (by decide +kernel)⟩
theorem lw_p17 : lw_okq (⟨"PalletSky$Bodies", "run", "(IIII)I"⟩, 6) := ⟨⟨by decide +kernel, by decide +kernel⟩, List.mem_of_getElem? (i := 208) (by decide +kernel), List.mem_of_getElem? (i := 746) (by decide +kernel), List.mem_of_getElem? (i := 747) (by decide +kernel)⟩
theorem lw_p18 : lw_okq (⟨"PalletSky$Bodies", "result", "(IIII)I"⟩, 6) := ⟨⟨by decide +kernel, by decide +kernel⟩, List.mem_of_getElem? (i := 208) (by decide +kernel), List.mem_of_getElem? (i := 754) (by decide +kernel), List.mem_of_getElem? (i := 755) (by decide +kernel)⟩
theorem lw_p19 : lw_okq (⟨"PalletSky", "refusalOf", "(II)I"⟩, 17) := ⟨⟨by decide +kernel, by decide +kernel⟩, List.mem_of_getElem? (i := 16) (by decide +kernel), List.mem_of_getElem? (i := 781) (by decide +kernel), List.mem_of_getElem? (i := 782) (by decide +kernel)⟩
theorem lw_p20 : lw_okq (⟨"PalletSkyModel", "isThere", "(I)Z"⟩, 50) := ⟨⟨by decide +kernel, by decide +kernel⟩, List.mem_of_getElem? (i := 813) (by decide +kernel), List.mem_of_getElem? (i := 974) (by decide +kernel), List.mem_of_getElem? (i := 975) (by decide +kernel)⟩
theorem lw_p21 : lw_okq (⟨"PalletSkyModel", "lays", "(II)V"⟩, 50) := ⟨⟨by decide +kernel, by decide +kernel⟩, List.mem_of_getElem? (i := 813) (by decide +kernel), List.mem_of_getElem? (i := 978) (by decide +kernel), List.mem_of_getElem? (i := 979) (by decide +kernel)⟩
theorem lw_p22 : lw_okq (⟨"PalletSkyModel", "adds", "(IIII)V"⟩, 50) := ⟨⟨by decide +kernel, by decide +kernel⟩, List.mem_of_getElem? (i := 813) (by decide +kernel), List.mem_of_getElem? (i := 999) (by decide +kernel), List.mem_of_getElem? (i := 1000) (by decide +kernel)⟩
theorem lw_p23 : lw_okq (⟨"PalletSkyModel", "isRound", "(I)Z"⟩, 50) := ⟨⟨by decide +kernel, by decide +kernel⟩, List.mem_of_getElem? (i := 813) (by decide +kernel), List.mem_of_getElem? (i := 1028) (by decide +kernel), List.mem_of_getElem? (i := 1029) (by decide +kernel)⟩
theorem lw_p24 : lw_okq (⟨"PalletSkyModel", "becomes", "(II)I"⟩, 50) := ⟨⟨by decide +kernel, by decide +kernel⟩, List.mem_of_getElem? (i := 813) (by decide +kernel), List.mem_of_getElem? (i := 1032) (by decide +kernel), List.mem_of_getElem? (i := 1033) (by decide +kernel)⟩
theorem lw_p25 : lw_okq (⟨"PalletSkyModel", "isPane", "(I)Z"⟩, 50) := ⟨⟨by decide +kernel, by decide +kernel⟩, List.mem_of_getElem? (i := 813) (by decide +kernel), List.mem_of_getElem? (i := 1038) (by decide +kernel), List.mem_of_getElem? (i := 1039) (by decide +kernel)⟩
theorem lw_p26 : lw_okq (⟨"PalletSkyModel", "ofRound", "(II)I"⟩, 50) := ⟨⟨by decide +kernel, by decide +kernel⟩, List.mem_of_getElem? (i := 813) (by decide +kernel), List.mem_of_getElem? (i := 1049) (by decide +kernel), List.mem_of_getElem? (i := 1050) (by decide +kernel)⟩
theorem lw_p27 : lw_okq (⟨"PalletSkyModel", "middleOf", "(II)I"⟩, 50) := ⟨⟨by decide +kernel, by decide +kernel⟩, List.mem_of_getElem? (i := 813) (by decide +kernel), List.mem_of_getElem? (i := 1053) (by decide +kernel), List.mem_of_getElem? (i := 1054) (by decide +kernel)⟩
theorem lw_p28 : lw_okq (⟨"PalletSkyModel", "countsAll", "()V"⟩, 50) := ⟨⟨by decide +kernel, by decide +kernel⟩, List.mem_of_getElem? (i := 813) (by decide +kernel), List.mem_of_getElem? (i := 1057) (by decide +kernel), List.mem_of_getElem? (i := 1058) (by decide +kernel)⟩
theorem lw_p29 : lw_okq (⟨"PalletSkyModel", "holds", "(I)Z"⟩, 50) := ⟨⟨by decide +kernel, by decide +kernel⟩, List.mem_of_getElem? (i := 813) (by decide +kernel), List.mem_of_getElem? (i := 1061) (by decide +kernel), List.mem_of_getElem? (i := 1062) (by decide +kernel)⟩
theorem lw_p30 : lw_okq (⟨"PalletSkyModel", "pushOn", "(II)I"⟩, 50) := ⟨⟨by decide +kernel, by decide +kernel⟩, List.mem_of_getElem? (i := 813) (by decide +kernel), List.mem_of_getElem? (i := 1065) (by decide +kernel), List.mem_of_getElem? (i := 1066) (by decide +kernel)⟩
theorem lw_p31 : lw_okq (⟨"PalletSkyModel", "ofAll", "(I)I"⟩, 50) := ⟨⟨by decide +kernel, by decide +kernel⟩, List.mem_of_getElem? (i := 813) (by decide +kernel), List.mem_of_getElem? (i := 1075) (by decide +kernel), List.mem_of_getElem? (i := 1076) (by decide +kernel)⟩
def lw_privs_2 : List (MethodName × Nat) := [(⟨"PalletSky$Panes", "brightest", "(IILPalletSky$Fire;)I"⟩, 5), (⟨"PalletSky$Bodies", "run", "(IIII)I"⟩, 6), (⟨"PalletSky$Bodies", "result", "(IIII)I"⟩, 6), (⟨"PalletSky", "refusalOf", "(II)I"⟩, 17), (⟨"PalletSkyModel", "isThere", "(I)Z"⟩, 50), (⟨"PalletSkyModel", "lays", "(II)V"⟩, 50), (⟨"PalletSkyModel", "adds", "(IIII)V"⟩, 50), (⟨"PalletSkyModel", "isRound", "(I)Z"⟩, 50), (⟨"PalletSkyModel", "becomes", "(II)I"⟩, 50), (⟨"PalletSkyModel", "isPane", "(I)Z"⟩, 50), (⟨"PalletSkyModel", "ofRound", "(II)I"⟩, 50), (⟨"PalletSkyModel", "middleOf", "(II)I"⟩, 50), (⟨"PalletSkyModel", "countsAll", "()V"⟩, 50), (⟨"PalletSkyModel", "holds", "(I)Z"⟩, 50), (⟨"PalletSkyModel", "pushOn", "(II)I"⟩, 50), (⟨"PalletSkyModel", "ofAll", "(I)I"⟩, 50)]
theorem lw_r2 : ∀ q ∈ lw_privs_2, lw_okq q := List.forall_mem_cons.mpr ⟨lw_p16, List.forall_mem_cons.mpr ⟨lw_p17, List.forall_mem_cons.mpr ⟨lw_p18, List.forall_mem_cons.mpr ⟨lw_p19, List.forall_mem_cons.mpr ⟨lw_p20, List.forall_mem_cons.mpr ⟨lw_p21, List.forall_mem_cons.mpr ⟨lw_p22, List.forall_mem_cons.mpr ⟨lw_p23, List.forall_mem_cons.mpr ⟨lw_p24, List.forall_mem_cons.mpr ⟨lw_p25, List.forall_mem_cons.mpr ⟨lw_p26, List.forall_mem_cons.mpr ⟨lw_p27, List.forall_mem_cons.mpr ⟨lw_p28, List.forall_mem_cons.mpr ⟨lw_p29, List.forall_mem_cons.mpr ⟨lw_p30, List.forall_mem_cons.mpr ⟨lw_p31, fun _ h => absurd h List.not_mem_nil⟩⟩⟩⟩⟩⟩⟩⟩⟩⟩⟩⟩⟩⟩⟩⟩
theorem lw_p32 : lw_okq (⟨"PalletSkyModel", "mayBe", "()I"⟩, 50) := ⟨⟨by decide +kernel, by decide +kernel⟩, List.mem_of_getElem? (i := 813) (by decide +kernel), List.mem_of_getElem? (i := 1079) (by decide +kernel), List.mem_of_getElem? (i := 1080) (by decide +kernel)⟩
theorem lw_p33 : lw_okq (⟨"PalletSkyModel", "workOut", "(II)I"⟩, 50) := ⟨⟨by decide +kernel, by decide +kernel⟩, List.mem_of_getElem? (i := 813) (by decide +kernel), List.mem_of_getElem? (i := 1092) (by decide +kernel), List.mem_of_getElem? (i := 1093) (by decide +kernel)⟩
theorem lw_p34 : lw_okq (⟨"PalletSkyModel", "either", "()I"⟩, 50) := ⟨⟨by decide +kernel, by decide +kernel⟩, List.mem_of_getElem? (i := 813) (by decide +kernel), List.mem_of_getElem? (i := 1096) (by decide +kernel), List.mem_of_getElem? (i := 1097) (by decide +kernel)⟩
theorem lw_p35 : lw_okq (⟨"PalletSkyModel", "both", "()I"⟩, 50) := ⟨⟨by decide +kernel, by decide +kernel⟩, List.mem_of_getElem? (i := 813) (by decide +kernel), List.mem_of_getElem? (i := 1100) (by decide +kernel), List.mem_of_getElem? (i := 1101) (by decide +kernel)⟩
theorem lw_p36 : lw_okq (⟨"PalletSkyModel", "compared", "()I"⟩, 50) := ⟨⟨by decide +kernel, by decide +kernel⟩, List.mem_of_getElem? (i := 813) (by decide +kernel), List.mem_of_getElem? (i := 1104) (by decide +kernel), List.mem_of_getElem? (i := 1105) (by decide +kernel)⟩
theorem lw_p37 : lw_okq (⟨"PalletSkyModel", "sums", "()I"⟩, 50) := ⟨⟨by decide +kernel, by decide +kernel⟩, List.mem_of_getElem? (i := 813) (by decide +kernel), List.mem_of_getElem? (i := 1108) (by decide +kernel), List.mem_of_getElem? (i := 1109) (by decide +kernel)⟩
theorem lw_p38 : lw_okq (⟨"PalletSkyModel", "product", "()I"⟩, 50) := ⟨⟨by decide +kernel, by decide +kernel⟩, List.mem_of_getElem? (i := 813) (by decide +kernel), List.mem_of_getElem? (i := 1112) (by decide +kernel), List.mem_of_getElem? (i := 1113) (by decide +kernel)⟩
theorem lw_p39 : lw_okq (⟨"PalletSkyModel", "one", "()I"⟩, 50) := ⟨⟨by decide +kernel, by decide +kernel⟩, List.mem_of_getElem? (i := 813) (by decide +kernel), List.mem_of_getElem? (i := 1116) (by decide +kernel), List.mem_of_getElem? (i := 1117) (by decide +kernel)⟩
theorem lw_p40 : lw_okq (⟨"PalletSkyModel", "byteAt", "()I"⟩, 50) := ⟨⟨by decide +kernel, by decide +kernel⟩, List.mem_of_getElem? (i := 813) (by decide +kernel), List.mem_of_getElem? (i := 1120) (by decide +kernel), List.mem_of_getElem? (i := 1121) (by decide +kernel)⟩
theorem lw_p41 : lw_okq (⟨"PalletSkyModel", "wrong", "()I"⟩, 50) := ⟨⟨by decide +kernel, by decide +kernel⟩, List.mem_of_getElem? (i := 813) (by decide +kernel), List.mem_of_getElem? (i := 1124) (by decide +kernel), List.mem_of_getElem? (i := 1125) (by decide +kernel)⟩
theorem lw_p42 : lw_okq (⟨"PalletSkyModel", "takes", "(I)Z"⟩, 50) := ⟨⟨by decide +kernel, by decide +kernel⟩, List.mem_of_getElem? (i := 813) (by decide +kernel), List.mem_of_getElem? (i := 1128) (by decide +kernel), List.mem_of_getElem? (i := 1129) (by decide +kernel)⟩
theorem lw_p43 : lw_okq (⟨"PalletSkyModel", "fallsAt", "()I"⟩, 50) := ⟨⟨by decide +kernel, by decide +kernel⟩, List.mem_of_getElem? (i := 813) (by decide +kernel), List.mem_of_getElem? (i := 1139) (by decide +kernel), List.mem_of_getElem? (i := 1140) (by decide +kernel)⟩
theorem lw_p44 : lw_okq (⟨"PalletSkyModel", "whither", "(I)I"⟩, 50) := ⟨⟨by decide +kernel, by decide +kernel⟩, List.mem_of_getElem? (i := 813) (by decide +kernel), List.mem_of_getElem? (i := 1143) (by decide +kernel), List.mem_of_getElem? (i := 1144) (by decide +kernel)⟩
theorem lw_p45 : lw_okq (⟨"PalletSkyModel", "fire", "()V"⟩, 50) := ⟨⟨by decide +kernel, by decide +kernel⟩, List.mem_of_getElem? (i := 813) (by decide +kernel), List.mem_of_getElem? (i := 1173) (by decide +kernel), List.mem_of_getElem? (i := 1174) (by decide +kernel)⟩
theorem lw_p46 : lw_okq (⟨"PalletSkyModel", "firstFuel", "(I)I"⟩, 50) := ⟨⟨by decide +kernel, by decide +kernel⟩, List.mem_of_getElem? (i := 813) (by decide +kernel), List.mem_of_getElem? (i := 1177) (by decide +kernel), List.mem_of_getElem? (i := 1178) (by decide +kernel)⟩
theorem lw_p47 : lw_okq (⟨"PalletSkyModel", "burnsOf", "(II)I"⟩, 50) := ⟨⟨by decide +kernel, by decide +kernel⟩, List.mem_of_getElem? (i := 813) (by decide +kernel), List.mem_of_getElem? (i := 1181) (by decide +kernel), List.mem_of_getElem? (i := 1182) (by decide +kernel)⟩
def lw_privs_3 : List (MethodName × Nat) := [(⟨"PalletSkyModel", "mayBe", "()I"⟩, 50), (⟨"PalletSkyModel", "workOut", "(II)I"⟩, 50), (⟨"PalletSkyModel", "either", "()I"⟩, 50), (⟨"PalletSkyModel", "both", "()I"⟩, 50), (⟨"PalletSkyModel", "compared", "()I"⟩, 50), (⟨"PalletSkyModel", "sums", "()I"⟩, 50), (⟨"PalletSkyModel", "product", "()I"⟩, 50), (⟨"PalletSkyModel", "one", "()I"⟩, 50), (⟨"PalletSkyModel", "byteAt", "()I"⟩, 50), (⟨"PalletSkyModel", "wrong", "()I"⟩, 50), (⟨"PalletSkyModel", "takes", "(I)Z"⟩, 50), (⟨"PalletSkyModel", "fallsAt", "()I"⟩, 50), (⟨"PalletSkyModel", "whither", "(I)I"⟩, 50), (⟨"PalletSkyModel", "fire", "()V"⟩, 50), (⟨"PalletSkyModel", "firstFuel", "(I)I"⟩, 50), (⟨"PalletSkyModel", "burnsOf", "(II)I"⟩, 50)]
theorem lw_r3 : ∀ q ∈ lw_privs_3, lw_okq q := List.forall_mem_cons.mpr ⟨lw_p32, List.forall_mem_cons.mpr ⟨lw_p33, List.forall_mem_cons.mpr ⟨lw_p34, List.forall_mem_cons.mpr ⟨lw_p35, List.forall_mem_cons.mpr ⟨lw_p36, List.forall_mem_cons.mpr ⟨lw_p37, List.forall_mem_cons.mpr ⟨lw_p38, List.forall_mem_cons.mpr ⟨lw_p39, List.forall_mem_cons.mpr ⟨lw_p40, List.forall_mem_cons.mpr ⟨lw_p41, List.forall_mem_cons.mpr ⟨lw_p42, List.forall_mem_cons.mpr ⟨lw_p43, List.forall_mem_cons.mpr ⟨lw_p44, List.forall_mem_cons.mpr ⟨lw_p45, List.forall_mem_cons.mpr ⟨lw_p46, List.forall_mem_cons.mpr ⟨lw_p47, fun _ h => absurd h List.not_mem_nil⟩⟩⟩⟩⟩⟩⟩⟩⟩⟩⟩⟩⟩⟩⟩⟩
theorem lw_p48 : lw_okq (⟨"PalletSkyModel", "countsAs", "(I)I"⟩, 50) := ⟨⟨by decide +kernel, by decide +kernel⟩, List.mem_of_getElem? (i := 813) (by decide +kernel), List.mem_of_getElem? (i := 1185) (by decide +kernel), List.mem_of_getElem? (i := 1186) (by decide +kernel)⟩
theorem lw_p49 : lw_okq (⟨"PalletSkyModel", "heatAt", "(II)I"⟩, 50) := ⟨⟨by decide +kernel, by decide +kernel⟩, List.mem_of_getElem? (i := 813) (by decide +kernel), List.mem_of_getElem? (i := 1197) (by decide +kernel), List.mem_of_getElem? (i := 1198) (by decide +kernel)⟩
theorem lw_p50 : lw_okq (⟨"PalletSkyModel", "heatBy", "(III)I"⟩, 50) := ⟨⟨by decide +kernel, by decide +kernel⟩, List.mem_of_getElem? (i := 813) (by decide +kernel), List.mem_of_getElem? (i := 1201) (by decide +kernel), List.mem_of_getElem? (i := 1202) (by decide +kernel)⟩
theorem lw_p51 : lw_okq (⟨"PalletSkyModel", "crackOf", "(II)I"⟩, 50) := ⟨⟨by decide +kernel, by decide +kernel⟩, List.mem_of_getElem? (i := 813) (by decide +kernel), List.mem_of_getElem? (i := 1209) (by decide +kernel), List.mem_of_getElem? (i := 1210) (by decide +kernel)⟩
theorem lw_p52 : lw_okq (⟨"PalletSkyModel", "boardsFor", "(I)I"⟩, 50) := ⟨⟨by decide +kernel, by decide +kernel⟩, List.mem_of_getElem? (i := 813) (by decide +kernel), List.mem_of_getElem? (i := 1217) (by decide +kernel), List.mem_of_getElem? (i := 1218) (by decide +kernel)⟩
theorem lw_p53 : lw_okq (⟨"PalletSkyModel", "nightGoes", "(I)V"⟩, 50) := ⟨⟨by decide +kernel, by decide +kernel⟩, List.mem_of_getElem? (i := 813) (by decide +kernel), List.mem_of_getElem? (i := 1234) (by decide +kernel), List.mem_of_getElem? (i := 1235) (by decide +kernel)⟩
theorem lw_p54 : lw_okq (⟨"PalletSkyModel", "draws", "(I)I"⟩, 50) := ⟨⟨by decide +kernel, by decide +kernel⟩, List.mem_of_getElem? (i := 813) (by decide +kernel), List.mem_of_getElem? (i := 1238) (by decide +kernel), List.mem_of_getElem? (i := 1239) (by decide +kernel)⟩
theorem lw_p55 : lw_okq (⟨"PalletSkyModel", "nightIs", "(I)I"⟩, 50) := ⟨⟨by decide +kernel, by decide +kernel⟩, List.mem_of_getElem? (i := 813) (by decide +kernel), List.mem_of_getElem? (i := 1255) (by decide +kernel), List.mem_of_getElem? (i := 1256) (by decide +kernel)⟩
theorem lw_p56 : lw_okq (⟨"PalletSkyModel", "isBody", "(I)Z"⟩, 50) := ⟨⟨by decide +kernel, by decide +kernel⟩, List.mem_of_getElem? (i := 813) (by decide +kernel), List.mem_of_getElem? (i := 1280) (by decide +kernel), List.mem_of_getElem? (i := 1281) (by decide +kernel)⟩
theorem lw_p57 : lw_okq (⟨"PalletSkyModel", "standsAs", "(II)I"⟩, 50) := ⟨⟨by decide +kernel, by decide +kernel⟩, List.mem_of_getElem? (i := 813) (by decide +kernel), List.mem_of_getElem? (i := 1284) (by decide +kernel), List.mem_of_getElem? (i := 1285) (by decide +kernel)⟩
theorem lw_p58 : lw_okq (⟨"PalletSkyModel", "begins", "(I)V"⟩, 50) := ⟨⟨by decide +kernel, by decide +kernel⟩, List.mem_of_getElem? (i := 813) (by decide +kernel), List.mem_of_getElem? (i := 1288) (by decide +kernel), List.mem_of_getElem? (i := 1289) (by decide +kernel)⟩
theorem lw_p59 : lw_okq (⟨"PalletSkyModel", "leansAs", "(II)I"⟩, 50) := ⟨⟨by decide +kernel, by decide +kernel⟩, List.mem_of_getElem? (i := 813) (by decide +kernel), List.mem_of_getElem? (i := 1292) (by decide +kernel), List.mem_of_getElem? (i := 1293) (by decide +kernel)⟩
theorem lw_p60 : lw_okq (⟨"PalletSkyModel", "burnsAs", "(II)I"⟩, 50) := ⟨⟨by decide +kernel, by decide +kernel⟩, List.mem_of_getElem? (i := 813) (by decide +kernel), List.mem_of_getElem? (i := 1296) (by decide +kernel), List.mem_of_getElem? (i := 1297) (by decide +kernel)⟩
theorem lw_p61 : lw_okq (⟨"PalletSkyModel", "tellsAs", "(II)I"⟩, 50) := ⟨⟨by decide +kernel, by decide +kernel⟩, List.mem_of_getElem? (i := 813) (by decide +kernel), List.mem_of_getElem? (i := 1300) (by decide +kernel), List.mem_of_getElem? (i := 1301) (by decide +kernel)⟩
theorem lw_p62 : lw_okq (⟨"PalletSkyModel", "refusal", "(II)I"⟩, 50) := ⟨⟨by decide +kernel, by decide +kernel⟩, List.mem_of_getElem? (i := 813) (by decide +kernel), List.mem_of_getElem? (i := 1320) (by decide +kernel), List.mem_of_getElem? (i := 1321) (by decide +kernel)⟩
theorem lw_p63 : lw_okq (⟨"PalletSkyModel", "kindOf", "(I)I"⟩, 50) := ⟨⟨by decide +kernel, by decide +kernel⟩, List.mem_of_getElem? (i := 813) (by decide +kernel), List.mem_of_getElem? (i := 1340) (by decide +kernel), List.mem_of_getElem? (i := 1341) (by decide +kernel)⟩
def lw_privs_4 : List (MethodName × Nat) := [(⟨"PalletSkyModel", "countsAs", "(I)I"⟩, 50), (⟨"PalletSkyModel", "heatAt", "(II)I"⟩, 50), (⟨"PalletSkyModel", "heatBy", "(III)I"⟩, 50), (⟨"PalletSkyModel", "crackOf", "(II)I"⟩, 50), (⟨"PalletSkyModel", "boardsFor", "(I)I"⟩, 50), (⟨"PalletSkyModel", "nightGoes", "(I)V"⟩, 50), (⟨"PalletSkyModel", "draws", "(I)I"⟩, 50), (⟨"PalletSkyModel", "nightIs", "(I)I"⟩, 50), (⟨"PalletSkyModel", "isBody", "(I)Z"⟩, 50), (⟨"PalletSkyModel", "standsAs", "(II)I"⟩, 50), (⟨"PalletSkyModel", "begins", "(I)V"⟩, 50), (⟨"PalletSkyModel", "leansAs", "(II)I"⟩, 50), (⟨"PalletSkyModel", "burnsAs", "(II)I"⟩, 50), (⟨"PalletSkyModel", "tellsAs", "(II)I"⟩, 50), (⟨"PalletSkyModel", "refusal", "(II)I"⟩, 50), (⟨"PalletSkyModel", "kindOf", "(I)I"⟩, 50)]
theorem lw_r4 : ∀ q ∈ lw_privs_4, lw_okq q := List.forall_mem_cons.mpr ⟨lw_p48, List.forall_mem_cons.mpr ⟨lw_p49, List.forall_mem_cons.mpr ⟨lw_p50, List.forall_mem_cons.mpr ⟨lw_p51, List.forall_mem_cons.mpr ⟨lw_p52, List.forall_mem_cons.mpr ⟨lw_p53, List.forall_mem_cons.mpr ⟨lw_p54, List.forall_mem_cons.mpr ⟨lw_p55, List.forall_mem_cons.mpr ⟨lw_p56, List.forall_mem_cons.mpr ⟨lw_p57, List.forall_mem_cons.mpr ⟨lw_p58, List.forall_mem_cons.mpr ⟨lw_p59, List.forall_mem_cons.mpr ⟨lw_p60, List.forall_mem_cons.mpr ⟨lw_p61, List.forall_mem_cons.mpr ⟨lw_p62, List.forall_mem_cons.mpr ⟨lw_p63, fun _ h => absurd h List.not_mem_nil⟩⟩⟩⟩⟩⟩⟩⟩⟩⟩⟩⟩⟩⟩⟩⟩
theorem lw_p64 : lw_okq (⟨"PalletSkyModel", "allPallets", "()I"⟩, 50) := ⟨⟨by decide +kernel, by decide +kernel⟩, List.mem_of_getElem? (i := 813) (by decide +kernel), List.mem_of_getElem? (i := 1351) (by decide +kernel), List.mem_of_getElem? (i := 1352) (by decide +kernel)⟩
def lw_privs_5 : List (MethodName × Nat) := [(⟨"PalletSkyModel", "allPallets", "()I"⟩, 50)]
theorem lw_r5 : ∀ q ∈ lw_privs_5, lw_okq q := List.forall_mem_cons.mpr ⟨lw_p64, fun _ h => absurd h List.not_mem_nil⟩
def lw_privs : List (MethodName × Nat) := lw_privs_1 ++ (lw_privs_2 ++ (lw_privs_3 ++ (lw_privs_4 ++ (lw_privs_5))))
def lw_tbl : List Cond := k2_sels lw_privs ++ tables_1
theorem lw_privs_ok : ∀ q ∈ lw_privs, lw_okq q := by
  show ∀ q ∈ lw_privs_1 ++ (lw_privs_2 ++ (lw_privs_3 ++ (lw_privs_4 ++ (lw_privs_5)))), lw_okq q
  exact List.forall_mem_append.mpr ⟨lw_r1, List.forall_mem_append.mpr ⟨lw_r2, List.forall_mem_append.mpr ⟨lw_r3, List.forall_mem_append.mpr ⟨lw_r4, lw_r5⟩⟩⟩⟩

def va_AOA (ty : FieldType) (U : State) : Prop := (Cond.arrayOver (.array ty)).before #[] U = true
theorem va_AOA.of {ty : FieldType} {A : Array Value} {U : State} (h : (Cond.arrayOver (.array ty)).before A U = true) : va_AOA ty U := h
theorem va_AOA.use {ty : FieldType} {A : Array Value} {U : State} (h : va_AOA ty U) : (Cond.arrayOver (.array ty)).before A U = true := h
/-! ===== BEGIN new T[n][m]: the outer array a place, the inner ones among the pooled ===== -/
/-- f, but v at every address of l -/
def vr_up {α : Type} (f : Nat → α) (l : List Nat) (v : α) : Nat → α := fun a => if a ∈ l then v else f a
theorem vr_up_in {α : Type} {f : Nat → α} {l : List Nat} {v : α} {a : Nat} (h : a ∈ l) : vr_up f l v a = v := if_pos h
theorem vr_up_ne {α : Type} {f : Nat → α} {l : List Nat} {v : α} {a : Nat} (h : a ∉ l) : vr_up f l v a = f a := if_neg h
theorem vr_rows {L l : List Nat} {f : Nat → va_E} {e : va_E} (h : ∀ a, a ∈ l → a ∉ L) : va_pl L f ++ l.map (fun a => (a, e)) = va_pl (L ++ l) (vr_up f l e) := by
  unfold va_pl
  rw [List.map_append]
  congr 1
  · apply List.map_congr_left
    intro a ha
    rw [vr_up_ne (fun q => h a q ha)]
  · apply List.map_congr_left
    intro a ha
    rw [vr_up_in ha]
theorem vr_lay {X rows : va_W} {x : Nat × va_E} {pl : va_W} {D : va_G} {cl : List vw_C} {H : Heap} (hP : va_P D cl (((X ++ pl) ++ [x]) ++ rows) H) : va_P D cl ((X ++ [x]) ++ (pl ++ rows)) H := by
  rw [List.append_assoc (X ++ pl)] at hP
  have h := va_P.swap hP
  rw [← List.append_assoc X] at h
  have h2 := va_P.swap h
  rw [List.append_assoc (X ++ [x])] at h2
  exact h2
theorem vr_layD {X rows : va_W} {x : Nat × va_E} {pl : va_W} {A : Nat → Prop} (hD : va_D A (((X ++ pl) ++ [x]) ++ rows)) : va_D A ((X ++ [x]) ++ (pl ++ rows)) := by
  rw [List.append_assoc (X ++ pl)] at hD
  have h := va_D.swap hD
  rw [← List.append_assoc X] at h
  have h2 := va_D.swap h
  rw [List.append_assoc (X ++ [x])] at h2
  exact h2
theorem vr_outer (c : ClassId) (N h0 : Nat) : ∀ i : Nat, Jvm.Free.Multi.outerC c N h0 i = arrV c N (fun j => va_rf (if j < i then some (h0 + 1 + j) else none))
  | 0 => by
    show ({ cls := c, slots := Array.replicate N .null, vm := .none } : Cell) = _
    rw [arrV_new]
    refine congrArg (arrV c N) (funext fun j => ?_)
    simp [va_rf]
  | i + 1 => by
    show (Jvm.Free.Multi.outerC c N h0 i).setSlot i (.ref (h0 + 1 + i)) = _
    rw [vr_outer c N h0 i, arrV_store]
    refine congrArg (arrV c N) (funext fun j => ?_)
    by_cases e : j = i
    · subst e
      simp [updV, va_rf]
    · by_cases h : j < i
      · simp [updV, e, h, Nat.lt_succ_of_lt h]
      · simp [updV, e, h, show ¬ j < i + 1 by omega]
section VGM
variable {p : Program} {l : Launch} {e : Env} {R : Room} {s : State} {m : MethodId} {args : Array Value} {below : List Frame} {meth : Method} {c : Code} {H : Heap} {locs : List Loc} {cells slots : Nat} {Q : State → Prop}
variable {cc : ByteArray} {pc : Nat} {ls : Array Slot} {rest : List Value} {D : va_G} {cl : List vw_C} {A : Nat → Prop} {a : Nat} {tys : List (ClassId × FieldType)} {ws : va_W} {H0 : Heap}
theorem va_mna {X : va_W} {L : List Nat} {f : Nat → va_E} {cc : ByteArray} (hexec : p.tables.exec = Jvm.exec) (hb : c.code = cc) {own : String} {index : Nat} {ty : FieldType} {cy : ClassId} (hown : s.vm.findClass own = some m.cls) (hclink : (Cond.classLink own index ("[" ++ (FieldType.array ty).toString)).before args s = true) (hover : va_AOA ty s) (harr : (Cond.arrayClass ty).before args s = true) (hcy : s.vm.findClass (FieldType.array ty).toString = some cy)
    (hK : va_K D cl tys s) (hP : va_P D cl (X ++ va_pl L f) H) (hD : va_D A (X ++ va_pl L f)) (hS : va_S A H0 H locs) (hA : ∀ q, H0.size ≤ q → A q) {n k : Int32} {N' K' : Nat} {z : vp_A} (hn : ¬ n < 0) (hk : ¬ k < 0) (hN : n.toNatClampNeg = N') (hM : k.toNatClampNeg = K')
    (hb1 : N' * 4 ≤ 536870912) (hb2 : K' * componentBytes ty ≤ 536870912) (hb3 : K' ≤ 536870912) (hdf : fits ty (defaultValue ty) = true) (hdd : (defaultValue ty).isDefault = true) (hcells : cells + (1 + N') ≤ R.cells) (hslots : slots + (N' + N' * K') ≤ R.slots) (hz : ∀ c : ClassId, Jvm.Free.Multi.innerC c K' (defaultValue ty) = vp_cell c z) (hdg : decode cc pc = .ok (.multianewarray index 2, 4))
    (kk : ∀ (q : Nat) (r : Nat → Nat) (cA : ClassId) (H1 : Heap), (∀ i j : Nat, i < N' → j < N' → r i = r j → i = j) → (∀ i : Nat, i < N' → r i ∉ L) → va_K D cl (tys ++ [(cA, .array ty)]) s →
      va_P D cl ((X ++ [(q, .inl (cA, N', .inr (.inr (.inr (.inr (fun i => if i < N' then some (r i) else none))))))]) ++ va_pl (L ++ (List.range N').map r) (vr_up f ((List.range N').map r) (.inl (cy, z)))) H1 → va_D A ((X ++ [(q, .inl (cA, N', .inr (.inr (.inr (.inr (fun i => if i < N' then some (r i) else none))))))]) ++ va_pl (L ++ (List.range N').map r) (vr_up f ((List.range N').map r) (.inl (cy, z)))) → va_S A H0 H1 locs →
      W p l e R s m args below meth c H1 locs (cells + 1 + N') (slots + N' + N' * K') Q (F0 m (pc + 4) ls (.ref q :: rest))) : W p l e R s m args below meth c H locs cells slots Q (F0 m pc ls (.int k :: .int n :: rest)) := by
  subst hN
  subst hM
  intro T hT Xs
  obtain ⟨vm₁, cA, comp, -, fA, fC, hO, -, X', step⟩ := Xs.multianewarray2F hexec hown hclink (va_AOA.use hover) harr (g := F0 m pc ls (.int k :: .int n :: rest)) rfl (by rw [hb]; exact hdg) rfl hn hk hb1 hb2 hb3 hdf hdd hcells hslots
  have ec : some cy = some comp := hcy.symm.trans fC
  cases ec
  generalize hF : Jvm.Free.Multi.fill (T.setVm vm₁) cA cy n.toNatClampNeg k.toNatClampNeg (defaultValue ty) n.toNatClampNeg = F at X' step
  have hTh : (T.setVm vm₁).heap = H := hT
  obtain ⟨f1, f2, -, -⟩ := Jvm.Free.Multi.fill_facts (T.setVm vm₁) cA cy n.toNatClampNeg k.toNatClampNeg (defaultValue ty) n.toNatClampNeg
  rw [hF, hTh] at f1 f2
  have hold : ∀ x : Nat, x < H.size → F.heap[x]? = H[x]? := fun x hx => by
    have := Jvm.Free.Multi.fill_old (T.setVm vm₁) cA cy n.toNatClampNeg k.toNatClampNeg (defaultValue ty) (a := x) (by rw [hTh]; exact hx) n.toNatClampNeg
    rw [hF, hTh] at this
    exact this
  have hrow : ∀ j : Nat, j < n.toNatClampNeg → F.heap[H.size + 1 + j]? = some (vp_cell cy z) := fun j hj => by
    have := Jvm.Free.Multi.fill_inner (T.setVm vm₁) cA cy n.toNatClampNeg k.toNatClampNeg (defaultValue ty) n.toNatClampNeg j hj
    rw [hF, hTh, hz] at this
    exact this
  have hout : Jvm.Free.Multi.outerC cA n.toNatClampNeg H.size n.toNatClampNeg = vp_cell cA (n.toNatClampNeg, .inr (.inr (.inr (.inr (fun i => if i < n.toNatClampNeg then some (H.size + 1 + i) else none))))) := by
    rw [vp_cell_q]
    exact vr_outer cA n.toNatClampNeg H.size n.toNatClampNeg
  rw [hout] at f2
  have hlt : ∀ a, a ∈ L → a < H.size := fun a ha => by
    obtain ⟨k9, hk9⟩ := va_pl_get (X := X) (f := f) ha
    exact (hP k9 _ hk9).lt
  have hnl : ∀ i : Nat, i < n.toNatClampNeg → H.size + 1 + i ∉ L := fun i _ h => by
    have := hlt _ h
    omega
  have hnm : ∀ a, a ∈ (List.range n.toNatClampNeg).map (fun i => H.size + 1 + i) → a ∉ L := fun a ha h => by
    obtain ⟨i, -, rfl⟩ := List.mem_map.mp ha
    have := hlt _ h
    omega
  have hP0 : va_P D cl (X ++ va_pl L f) F.heap := hP.kept (fun k9 x hx => hold x.1 ((hP k9 x hx).lt))
  have hP1 : va_P D cl ((X ++ va_pl L f) ++ [(H.size, .inl (cA, n.toNatClampNeg, .inr (.inr (.inr (.inr (fun i => if i < n.toNatClampNeg then some (H.size + 1 + i) else none))))))]) F.heap := hP0.app (fun k9 x hx => by
    have h0 : k9 < 1 := (List.getElem?_eq_some_iff.mp hx).1
    rw [show k9 = 0 by omega] at hx
    cases hx
    exact f2)
  have hP2 : va_P D cl (((X ++ va_pl L f) ++ [(H.size, .inl (cA, n.toNatClampNeg, .inr (.inr (.inr (.inr (fun i => if i < n.toNatClampNeg then some (H.size + 1 + i) else none))))))]) ++ ((List.range n.toNatClampNeg).map (fun i => H.size + 1 + i)).map (fun a => (a, .inl (cy, z)))) F.heap := hP1.app (fun k9 x hx => by
    obtain ⟨a, ha, rfl⟩ := List.mem_map.mp (List.mem_of_getElem? hx)
    obtain ⟨i, hi, rfl⟩ := List.mem_map.mp ha
    exact hrow i (List.mem_range.mp hi))
  have hD2 : va_D A (((X ++ va_pl L f) ++ [(H.size, .inl (cA, n.toNatClampNeg, .inr (.inr (.inr (.inr (fun i => if i < n.toNatClampNeg then some (H.size + 1 + i) else none))))))]) ++ ((List.range n.toNatClampNeg).map (fun i => H.size + 1 + i)).map (fun a => (a, .inl (cy, z)))) := by
    have hD1 := hD.push (e := .inl (cA, n.toNatClampNeg, .inr (.inr (.inr (.inr (fun i => if i < n.toNatClampNeg then some (H.size + 1 + i) else none)))))) hP rfl (hA _ hS.1)
    generalize hW1 : (X ++ va_pl L f) ++ [(H.size, .inl (cA, n.toNatClampNeg, .inr (.inr (.inr (.inr (fun i => if i < n.toNatClampNeg then some (H.size + 1 + i) else none))))))] = W1 at hD1 hP1 ⊢
    have hle : ∀ (k9 : Nat) (x : Nat × va_E), W1[k9]? = some x → x.1 ≤ H.size := fun k9 x hx => by
      rw [← hW1] at hx
      by_cases hl : k9 < (X ++ va_pl L f).length
      · rw [List.getElem?_append_left hl] at hx
        exact Nat.le_of_lt ((hP k9 x hx).lt)
      · rw [List.getElem?_append_right (by omega)] at hx
        have h0 : k9 - (X ++ va_pl L f).length < 1 := (List.getElem?_eq_some_iff.mp hx).1
        rw [show k9 - (X ++ va_pl L f).length = 0 by omega] at hx
        cases hx
        exact Nat.le_refl _
    have hr : ∀ (k9 : Nat) (x : Nat × va_E), (((List.range n.toNatClampNeg).map (fun i => H.size + 1 + i)).map (fun a => ((a, .inl (cy, z)) : Nat × va_E)))[k9]? = some x → x.1 = H.size + 1 + k9 := fun k9 x hx => by
      rw [List.getElem?_map, List.getElem?_map] at hx
      by_cases h9 : k9 < n.toNatClampNeg
      · rw [List.getElem?_range h9] at hx
        cases hx
        rfl
      · have hn0 : (List.range n.toNatClampNeg)[k9]? = none := List.getElem?_eq_none (by rw [List.length_range]; omega)
        rw [hn0] at hx
        cases hx
    refine ⟨fun i j x y hi hj hxy => ?_, fun k9 x hx => ?_⟩
    · by_cases h1 : i < W1.length <;> by_cases h2 : j < W1.length
      · rw [List.getElem?_append_left h1] at hi
        rw [List.getElem?_append_left h2] at hj
        exact hD1.1 i j x y hi hj hxy
      · rw [List.getElem?_append_left h1] at hi
        rw [List.getElem?_append_right (by omega)] at hj
        have := hle _ _ hi
        have := hr _ _ hj
        omega
      · rw [List.getElem?_append_right (by omega)] at hi
        rw [List.getElem?_append_left h2] at hj
        have := hle _ _ hj
        have := hr _ _ hi
        omega
      · rw [List.getElem?_append_right (by omega)] at hi hj
        have := hr _ _ hi
        have := hr _ _ hj
        omega
    · by_cases h1 : k9 < W1.length
      · rw [List.getElem?_append_left h1] at hx
        exact hD1.2 k9 x hx
      · rw [List.getElem?_append_right (by omega)] at hx
        have := hr _ _ hx
        exact hA _ (by have := hS.1; omega)
  have hAr : ArrOfT s cA (.array ty) := fun N9 z9 => by
    obtain ⟨-, k9, hk9, cm9, hkk9⟩ := (hO 0 0 0).1
    exact ⟨(fun q hq => by cases hq), k9, hk9, cm9, hkk9⟩
  have hK2 : va_K D cl (tys ++ [(cA, .array ty)]) s := ⟨hK.1, fun k9 x hx => by
    by_cases hl : k9 < tys.length
    · rw [List.getElem?_append_left hl] at hx
      exact hK.2 k9 x hx
    · rw [List.getElem?_append_right (by omega)] at hx
      have h0 : k9 - tys.length < 1 := (List.getElem?_eq_some_iff.mp hx).1
      rw [show k9 - tys.length = 0 by omega] at hx
      cases hx
      exact ⟨hAr, fA⟩⟩
  obtain ⟨t, a1, b1⟩ := kk H.size (fun i => H.size + 1 + i) cA F.heap (fun i j _ _ h => by have h9 : H.size + 1 + i = H.size + 1 + j := h; omega) hnl hK2 (by rw [← vr_rows hnm]; exact vr_lay hP2) (by rw [← vr_rows hnm]; exact vr_layD hD2) ⟨by rw [f1]; have := hS.1; omega, fun x h1 h2 => (hold x (Nat.lt_of_lt_of_le h1 hS.1)).trans (hS.2.1 x h1 h2), hS.2.2⟩ F rfl X'
  refine ⟨t, step t ?_, b1⟩
  have e : T.heap.size = H.size := by rw [hT]
  rw [e]
  exact a1
end VGM
/-! ===== END ===== -/
def RX0 : String := "PalletSky$Bodies"
def TX0 : u_T := fun k => match k with
  | 0 => ("PalletSky$Bodies", "kinds", "[I", true)
  | 1 => ("PalletSky$Bodies", "traced", "[I", true)
  | 2 => ("PalletSky$Bodies", "size", "I", false)
  | 3 => ("PalletSky$Bodies", "ran", "I", false)
  | 4 => ("PalletSky$Bodies", "self", "I", false)
  | _ => ("PalletSky$Bodies", "selfKind", "I", false)
def tyX0 : Nat → FieldType := fun k => match k with
  | 0 => .array .int
  | 1 => .array .int
  | 2 => .int
  | 3 => .int
  | 4 => .int
  | _ => .int
theorem nmX0 : ∀ a, a < 6 → ∀ b, b < 6 → a ≠ b → (TX0 a).2.1 ≠ (TX0 b).2.1 := by decide +kernel
theorem tyX0_ok : ∀ k, k < 6 → parseFieldDescriptor (TX0 k).2.2.1 = some (tyX0 k) := by decide +kernel
abbrev cX0_init : ByteArray := prog_2_method_1_code
def yX0_init : MethodName := ⟨RX0, "<init>", "()V"⟩
abbrev cX0_has : ByteArray := prog_2_method_2_code
def yX0_has : MethodName := ⟨RX0, "has", "(I)Z"⟩
abbrev cX0_isUnder : ByteArray := prog_2_method_3_code
def yX0_isUnder : MethodName := ⟨RX0, "isUnder", "(II)Z"⟩
abbrev cX0_perform : ByteArray := prog_2_method_4_code
def yX0_perform : MethodName := ⟨RX0, "perform", "(III)I"⟩
abbrev cX0_run : ByteArray := prog_2_method_5_code
def yX0_run : MethodName := ⟨RX0, "run", "(IIII)I"⟩
abbrev cX0_result : ByteArray := prog_2_method_6_code
def yX0_result : MethodName := ⟨RX0, "result", "(IIII)I"⟩
def RX1 : String := "PalletSky$Changes"
def TX1 : u_T := fun k => match k with
  | 0 => ("PalletSky$Changes", "entries", "[I", true)
  | 1 => ("PalletSky$Changes", "done", "I", false)
  | _ => ("PalletSky$Changes", "all", "I", false)
def tyX1 : Nat → FieldType := fun k => match k with
  | 0 => .array .int
  | 1 => .int
  | _ => .int
theorem nmX1 : ∀ a, a < 3 → ∀ b, b < 3 → a ≠ b → (TX1 a).2.1 ≠ (TX1 b).2.1 := by decide +kernel
theorem tyX1_ok : ∀ k, k < 3 → parseFieldDescriptor (TX1 k).2.2.1 = some (tyX1 k) := by decide +kernel
abbrev cX1_init : ByteArray := prog_3_method_1_code
def yX1_init : MethodName := ⟨RX1, "<init>", "()V"⟩
abbrev cX1_add : ByteArray := prog_3_method_2_code
def yX1_add : MethodName := ⟨RX1, "add", "(IIII)V"⟩
abbrev cX1_number : ByteArray := prog_3_method_3_code
def yX1_number : MethodName := ⟨RX1, "number", "(I)I"⟩
abbrev cX1_what : ByteArray := prog_3_method_4_code
def yX1_what : MethodName := ⟨RX1, "what", "(I)I"⟩
abbrev cX1_before : ByteArray := prog_3_method_5_code
def yX1_before : MethodName := ⟨RX1, "before", "(I)I"⟩
abbrev cX1_after : ByteArray := prog_3_method_6_code
def yX1_after : MethodName := ⟨RX1, "after", "(I)I"⟩
def RX2 : String := "PalletSky$Fire"
def TX2 : u_T := fun k => match k with
  | 0 => ("PalletSky$Fire", "first", "[I", true)
  | 1 => ("PalletSky$Fire", "lit", "[I", true)
  | 2 => ("PalletSky$Fire", "left", "[I", true)
  | 3 => ("PalletSky$Fire", "names", "[I", true)
  | 4 => ("PalletSky$Fire", "charred", "LPalletSky$Tower;", true)
  | 5 => ("PalletSky$Fire", "size", "I", false)
  | 6 => ("PalletSky$Fire", "known", "Z", false)
  | 7 => ("PalletSky$Fire", "fallMinute", "I", false)
  | 8 => ("PalletSky$Fire", "fallRound", "I", false)
  | 9 => ("PalletSky$Fire", "fallWhither", "I", false)
  | _ => ("PalletSky$Fire", "burntOut", "I", false)
def tyX2 : Nat → FieldType := fun k => match k with
  | 0 => .array .int
  | 1 => .array .int
  | 2 => .array .int
  | 3 => .array .int
  | 4 => .object "PalletSky$Tower"
  | 5 => .int
  | 6 => .boolean
  | 7 => .int
  | 8 => .int
  | 9 => .int
  | _ => .int
theorem nmX2 : ∀ a, a < 11 → ∀ b, b < 11 → a ≠ b → (TX2 a).2.1 ≠ (TX2 b).2.1 := by decide +kernel
theorem tyX2_ok : ∀ k, k < 11 → parseFieldDescriptor (TX2 k).2.2.1 = some (tyX2 k) := by decide +kernel
abbrev cX2_init : ByteArray := prog_4_method_1_code
def yX2_init : MethodName := ⟨RX2, "<init>", "()V"⟩
abbrev cX2_isMinute : ByteArray := prog_4_method_2_code
def yX2_isMinute : MethodName := ⟨RX2, "isMinute", "(I)Z"⟩
abbrev cX2_burn : ByteArray := prog_4_method_3_code
def yX2_burn : MethodName := ⟨RX2, "burn", "(LPalletSky$Tower;LPalletSky$Program;II)V"⟩
abbrev cX2_smoulder : ByteArray := prog_4_method_4_code
def yX2_smoulder : MethodName := ⟨RX2, "smoulder", "(LPalletSky$Tower;LPalletSky$Program;I)Z"⟩
abbrev cX2_light : ByteArray := prog_4_method_5_code
def yX2_light : MethodName := ⟨RX2, "light", "(LPalletSky$Tower;)V"⟩
abbrev cX2_loss : ByteArray := prog_4_method_6_code
def yX2_loss : MethodName := ⟨RX2, "loss", "(LPalletSky$Tower;LPalletSky$Program;III)I"⟩
abbrev cX2_counted : ByteArray := prog_4_method_7_code
def yX2_counted : MethodName := ⟨RX2, "counted", "(III)I"⟩
abbrev cX2_leftBehind : ByteArray := prog_4_method_8_code
def yX2_leftBehind : MethodName := ⟨RX2, "leftBehind", "(II)I"⟩
abbrev cX2_glow : ByteArray := prog_4_method_9_code
def yX2_glow : MethodName := ⟨RX2, "glow", "(III)I"⟩
def RX3 : String := "PalletSky$Panes"
def TX3 : u_T := fun k => match k with
  | 0 => ("PalletSky$Panes", "far", "[I", true)
  | 1 => ("PalletSky$Panes", "up", "[I", true)
  | 2 => ("PalletSky$Panes", "boards", "[I", true)
  | 3 => ("PalletSky$Panes", "size", "I", false)
  | _ => ("PalletSky$Panes", "limit", "I", false)
def tyX3 : Nat → FieldType := fun k => match k with
  | 0 => .array .int
  | 1 => .array .int
  | 2 => .array .int
  | 3 => .int
  | _ => .int
theorem nmX3 : ∀ a, a < 5 → ∀ b, b < 5 → a ≠ b → (TX3 a).2.1 ≠ (TX3 b).2.1 := by decide +kernel
theorem tyX3_ok : ∀ k, k < 5 → parseFieldDescriptor (TX3 k).2.2.1 = some (tyX3 k) := by decide +kernel
abbrev cX3_init : ByteArray := prog_5_method_1_code
def yX3_init : MethodName := ⟨RX3, "<init>", "()V"⟩
abbrev cX3_has : ByteArray := prog_5_method_2_code
def yX3_has : MethodName := ⟨RX3, "has", "(I)Z"⟩
abbrev cX3_add : ByteArray := prog_5_method_3_code
def yX3_add : MethodName := ⟨RX3, "add", "(II)V"⟩
abbrev cX3_mayBe : ByteArray := prog_5_method_4_code
def yX3_mayBe : MethodName := ⟨RX3, "mayBe", "()I"⟩
abbrev cX3_heatOf : ByteArray := prog_5_method_5_code
def yX3_heatOf : MethodName := ⟨RX3, "heatOf", "(IILPalletSky$Fire;)I"⟩
abbrev cX3_behind : ByteArray := prog_5_method_6_code
def yX3_behind : MethodName := ⟨RX3, "behind", "(II)I"⟩
abbrev cX3_crackOf : ByteArray := prog_5_method_7_code
def yX3_crackOf : MethodName := ⟨RX3, "crackOf", "(ILPalletSky$Fire;)I"⟩
abbrev cX3_hottestOf : ByteArray := prog_5_method_8_code
def yX3_hottestOf : MethodName := ⟨RX3, "hottestOf", "(ILPalletSky$Fire;)I"⟩
abbrev cX3_boardsFor : ByteArray := prog_5_method_9_code
def yX3_boardsFor : MethodName := ⟨RX3, "boardsFor", "(ILPalletSky$Fire;)I"⟩
abbrev cX3_lastOf : ByteArray := prog_5_method_10_code
def yX3_lastOf : MethodName := ⟨RX3, "lastOf", "(LPalletSky$Fire;)I"⟩
abbrev cX3_brightest : ByteArray := prog_5_method_11_code
def yX3_brightest : MethodName := ⟨RX3, "brightest", "(IILPalletSky$Fire;)I"⟩
def RX4 : String := "PalletSky$Parser"
def TX4 : u_T := fun k => match k with
  | 0 => ("PalletSky$Parser", "tape", "[I", true)
  | 1 => ("PalletSky$Parser", "size", "I", false)
  | 2 => ("PalletSky$Parser", "place", "I", false)
  | _ => ("PalletSky$Parser", "target", "LPalletSky$Program;", false)
def tyX4 : Nat → FieldType := fun k => match k with
  | 0 => .array .int
  | 1 => .int
  | 2 => .int
  | _ => .object "PalletSky$Program"
theorem nmX4 : ∀ a, a < 4 → ∀ b, b < 4 → a ≠ b → (TX4 a).2.1 ≠ (TX4 b).2.1 := by decide +kernel
theorem tyX4_ok : ∀ k, k < 4 → parseFieldDescriptor (TX4 k).2.2.1 = some (tyX4 k) := by decide +kernel
abbrev cX4_init : ByteArray := prog_6_method_1_code
def yX4_init : MethodName := ⟨RX4, "<init>", "()V"⟩
abbrev cX4_reads : ByteArray := prog_6_method_2_code
def yX4_reads : MethodName := ⟨RX4, "reads", "(LPalletSky$Program;)Z"⟩
abbrev cX4_line : ByteArray := prog_6_method_3_code
def yX4_line : MethodName := ⟨RX4, "line", "()Z"⟩
abbrev cX4_chain : ByteArray := prog_6_method_4_code
def yX4_chain : MethodName := ⟨RX4, "chain", "(II)Z"⟩
abbrev cX4_operand : ByteArray := prog_6_method_5_code
def yX4_operand : MethodName := ⟨RX4, "operand", "(I)Z"⟩
abbrev cX4_number : ByteArray := prog_6_method_6_code
def yX4_number : MethodName := ⟨RX4, "number", "()V"⟩
abbrev cX4_ahead : ByteArray := prog_6_method_7_code
def yX4_ahead : MethodName := ⟨RX4, "ahead", "()I"⟩
abbrev cX4_isDigit : ByteArray := prog_6_method_8_code
def yX4_isDigit : MethodName := ⟨RX4, "isDigit", "(I)Z"⟩
abbrev cX4_nameOf : ByteArray := prog_6_method_9_code
def yX4_nameOf : MethodName := ⟨RX4, "nameOf", "(I)I"⟩
abbrev cX4_levelOf : ByteArray := prog_6_method_10_code
def yX4_levelOf : MethodName := ⟨RX4, "levelOf", "(I)I"⟩
def RX5 : String := "PalletSky$Program"
def TX5 : u_T := fun k => match k with
  | 0 => ("PalletSky$Program", "parts", "[I", true)
  | 1 => ("PalletSky$Program", "values", "[I", true)
  | 2 => ("PalletSky$Program", "stack", "[I", true)
  | _ => ("PalletSky$Program", "size", "I", false)
def tyX5 : Nat → FieldType := fun k => match k with
  | 0 => .array .int
  | 1 => .array .int
  | 2 => .array .int
  | _ => .int
theorem nmX5 : ∀ a, a < 4 → ∀ b, b < 4 → a ≠ b → (TX5 a).2.1 ≠ (TX5 b).2.1 := by decide +kernel
theorem tyX5_ok : ∀ k, k < 4 → parseFieldDescriptor (TX5 k).2.2.1 = some (tyX5 k) := by decide +kernel
abbrev cX5_init : ByteArray := prog_7_method_1_code
def yX5_init : MethodName := ⟨RX5, "<init>", "()V"⟩
abbrev cX5_add : ByteArray := prog_7_method_2_code
def yX5_add : MethodName := ⟨RX5, "add", "(II)V"⟩
abbrev cX5_worth : ByteArray := prog_7_method_3_code
def yX5_worth : MethodName := ⟨RX5, "worth", "([I)I"⟩
abbrev cX5_valueOf : ByteArray := prog_7_method_4_code
def yX5_valueOf : MethodName := ⟨RX5, "valueOf", "(I[I)I"⟩
abbrev cX5_joined : ByteArray := prog_7_method_5_code
def yX5_joined : MethodName := ⟨RX5, "joined", "(III)I"⟩
def RX6 : String := "PalletSky$Shelf"
def TX6 : u_T := fun k => match k with
  | 0 => ("PalletSky$Shelf", "elements", "[J", true)
  | 1 => ("PalletSky$Shelf", "sort", "I", false)
  | 2 => ("PalletSky$Shelf", "body", "I", false)
  | _ => ("PalletSky$Shelf", "length", "I", false)
def tyX6 : Nat → FieldType := fun k => match k with
  | 0 => .array .long
  | 1 => .int
  | 2 => .int
  | _ => .int
theorem nmX6 : ∀ a, a < 4 → ∀ b, b < 4 → a ≠ b → (TX6 a).2.1 ≠ (TX6 b).2.1 := by decide +kernel
theorem tyX6_ok : ∀ k, k < 4 → parseFieldDescriptor (TX6 k).2.2.1 = some (tyX6 k) := by decide +kernel
abbrev cX6_init : ByteArray := prog_8_method_1_code
def yX6_init : MethodName := ⟨RX6, "<init>", "()V"⟩
abbrev cX6_isRow : ByteArray := prog_8_method_2_code
def yX6_isRow : MethodName := ⟨RX6, "isRow", "(I)Z"⟩
abbrev cX6_becomeRow : ByteArray := prog_8_method_3_code
def yX6_becomeRow : MethodName := ⟨RX6, "becomeRow", "(II)V"⟩
abbrev cX6_hasPlaces : ByteArray := prog_8_method_4_code
def yX6_hasPlaces : MethodName := ⟨RX6, "hasPlaces", "(II)Z"⟩
abbrev cX6_lowest : ByteArray := prog_8_method_5_code
def yX6_lowest : MethodName := ⟨RX6, "lowest", "(IJ)J"⟩
def RX7 : String := "PalletSky$Store"
def TX7 : u_T := fun k => match k with
  | 0 => ("PalletSky$Store", "dry", "I", false)
  | 1 => ("PalletSky$Store", "damp", "I", false)
  | 2 => ("PalletSky$Store", "gone", "I", false)
  | 3 => ("PalletSky$Store", "watches", "I", false)
  | 4 => ("PalletSky$Store", "stolen", "I", false)
  | _ => ("PalletSky$Store", "latestThieves", "I", false)
def tyX7 : Nat → FieldType := fun k => match k with
  | 0 => .int
  | 1 => .int
  | 2 => .int
  | 3 => .int
  | 4 => .int
  | _ => .int
theorem nmX7 : ∀ a, a < 6 → ∀ b, b < 6 → a ≠ b → (TX7 a).2.1 ≠ (TX7 b).2.1 := by decide +kernel
theorem tyX7_ok : ∀ k, k < 6 → parseFieldDescriptor (TX7 k).2.2.1 = some (tyX7 k) := by decide +kernel
abbrev cX7_init : ByteArray := prog_9_method_1_code
def yX7_init : MethodName := ⟨RX7, "<init>", "()V"⟩
abbrev cX7_next : ByteArray := prog_9_method_2_code
def yX7_next : MethodName := ⟨RX7, "next", "(I)I"⟩
abbrev cX7_drawn : ByteArray := prog_9_method_3_code
def yX7_drawn : MethodName := ⟨RX7, "drawn", "(II)I"⟩
abbrev cX7_copy : ByteArray := prog_9_method_4_code
def yX7_copy : MethodName := ⟨RX7, "copy", "(LPalletSky$Store;)V"⟩
abbrev cX7_pass : ByteArray := prog_9_method_5_code
def yX7_pass : MethodName := ⟨RX7, "pass", "(III)V"⟩
def RX8 : String := "PalletSky$Tower"
def TX8 : u_T := fun k => match k with
  | 0 => ("PalletSky$Tower", "pallets", "[I", true)
  | 1 => ("PalletSky$Tower", "damp", "[I", true)
  | 2 => ("PalletSky$Tower", "slip", "[[I", true)
  | 3 => ("PalletSky$Tower", "middle", "[[I", true)
  | 4 => ("PalletSky$Tower", "weight", "[I", true)
  | 5 => ("PalletSky$Tower", "moment", "[[I", true)
  | _ => ("PalletSky$Tower", "size", "I", false)
def tyX8 : Nat → FieldType := fun k => match k with
  | 0 => .array .int
  | 1 => .array .int
  | 2 => .array (.array .int)
  | 3 => .array (.array .int)
  | 4 => .array .int
  | 5 => .array (.array .int)
  | _ => .int
theorem nmX8 : ∀ a, a < 7 → ∀ b, b < 7 → a ≠ b → (TX8 a).2.1 ≠ (TX8 b).2.1 := by decide +kernel
theorem tyX8_ok : ∀ k, k < 7 → parseFieldDescriptor (TX8 k).2.2.1 = some (tyX8 k) := by decide +kernel
abbrev cX8_init : ByteArray := prog_10_method_1_code
def yX8_init : MethodName := ⟨RX8, "<init>", "()V"⟩
abbrev cX8_fits : ByteArray := prog_10_method_2_code
def yX8_fits : MethodName := ⟨RX8, "fits", "(IIII)Z"⟩
abbrev cX8_has : ByteArray := prog_10_method_3_code
def yX8_has : MethodName := ⟨RX8, "has", "(I)Z"⟩
abbrev cX8_raise : ByteArray := prog_10_method_4_code
def yX8_raise : MethodName := ⟨RX8, "raise", "(IIII)V"⟩
abbrev cX8_lower : ByteArray := prog_10_method_5_code
def yX8_lower : MethodName := ⟨RX8, "lower", "()V"⟩
abbrev cX8_slide : ByteArray := prog_10_method_6_code
def yX8_slide : MethodName := ⟨RX8, "slide", "(III)V"⟩
abbrev cX8_copy : ByteArray := prog_10_method_7_code
def yX8_copy : MethodName := ⟨RX8, "copy", "(LPalletSky$Tower;)V"⟩
abbrev cX8_settle : ByteArray := prog_10_method_8_code
def yX8_settle : MethodName := ⟨RX8, "settle", "()V"⟩
abbrev cX8_push : ByteArray := prog_10_method_9_code
def yX8_push : MethodName := ⟨RX8, "push", "(III)I"⟩
abbrev cX8_strain : ByteArray := prog_10_method_10_code
def yX8_strain : MethodName := ⟨RX8, "strain", "(III)I"⟩
abbrev cX8_strength : ByteArray := prog_10_method_11_code
def yX8_strength : MethodName := ⟨RX8, "strength", "(II)I"⟩
abbrev cX8_bears : ByteArray := prog_10_method_12_code
def yX8_bears : MethodName := ⟨RX8, "bears", "(III)Z"⟩
abbrev cX8_fallsAt : ByteArray := prog_10_method_13_code
def yX8_fallsAt : MethodName := ⟨RX8, "fallsAt", "(II)I"⟩
abbrev cX8_whither : ByteArray := prog_10_method_14_code
def yX8_whither : MethodName := ⟨RX8, "whither", "(III)I"⟩
abbrev cX8_allPallets : ByteArray := prog_10_method_15_code
def yX8_allPallets : MethodName := ⟨RX8, "allPallets", "()I"⟩
def RX9 : String := "PalletSky"
def TX9 : u_T := fun k => match k with
  | 0 => ("PalletSky", "tower", "LPalletSky$Tower;", true)
  | 1 => ("PalletSky", "thought", "LPalletSky$Tower;", true)
  | 2 => ("PalletSky", "panes", "LPalletSky$Panes;", true)
  | 3 => ("PalletSky", "parser", "LPalletSky$Parser;", true)
  | 4 => ("PalletSky", "fire", "LPalletSky$Fire;", true)
  | 5 => ("PalletSky", "store", "LPalletSky$Store;", true)
  | 6 => ("PalletSky", "kept", "LPalletSky$Store;", true)
  | 7 => ("PalletSky", "guess", "LPalletSky$Store;", true)
  | 8 => ("PalletSky", "changes", "LPalletSky$Changes;", true)
  | 9 => ("PalletSky", "bodies", "LPalletSky$Bodies;", true)
  | 10 => ("PalletSky", "shelves", "[LPalletSky$Shelf;", true)
  | 11 => ("PalletSky", "inForce", "LPalletSky$Program;", false)
  | 12 => ("PalletSky", "draft", "LPalletSky$Program;", false)
  | 13 => ("PalletSky", "hasImage", "Z", false)
  | 14 => ("PalletSky", "windX", "I", false)
  | 15 => ("PalletSky", "windY", "I", false)
  | _ => ("PalletSky", "thieves", "I", false)
def tyX9 : Nat → FieldType := fun k => match k with
  | 0 => .object "PalletSky$Tower"
  | 1 => .object "PalletSky$Tower"
  | 2 => .object "PalletSky$Panes"
  | 3 => .object "PalletSky$Parser"
  | 4 => .object "PalletSky$Fire"
  | 5 => .object "PalletSky$Store"
  | 6 => .object "PalletSky$Store"
  | 7 => .object "PalletSky$Store"
  | 8 => .object "PalletSky$Changes"
  | 9 => .object "PalletSky$Bodies"
  | 10 => .array (.object "PalletSky$Shelf")
  | 11 => .object "PalletSky$Program"
  | 12 => .object "PalletSky$Program"
  | 13 => .boolean
  | 14 => .int
  | 15 => .int
  | _ => .int
theorem nmX9 : ∀ a, a < 17 → ∀ b, b < 17 → a ≠ b → (TX9 a).2.1 ≠ (TX9 b).2.1 := by decide +kernel
theorem tyX9_ok : ∀ k, k < 17 → parseFieldDescriptor (TX9 k).2.2.1 = some (tyX9 k) := by decide +kernel
abbrev cX9_init : ByteArray := prog_1_method_1_code
def yX9_init : MethodName := ⟨RX9, "<init>", "()V"⟩
abbrev cX9_build : ByteArray := prog_1_method_2_code
def yX9_build : MethodName := ⟨RX9, "build", "(II)I"⟩
abbrev cX9_unbuild : ByteArray := prog_1_method_3_code
def yX9_unbuild : MethodName := ⟨RX9, "unbuild", "()I"⟩
abbrev cX9_rounds : ByteArray := prog_1_method_4_code
def yX9_rounds : MethodName := ⟨RX9, "rounds", "(III)I"⟩
abbrev cX9_pane : ByteArray := prog_1_method_5_code
def yX9_pane : MethodName := ⟨RX9, "pane", "(I)I"⟩
abbrev cX9_mend : ByteArray := prog_1_method_6_code
def yX9_mend : MethodName := ⟨RX9, "mend", "(III)I"⟩
abbrev cX9_of : ByteArray := prog_1_method_7_code
def yX9_of : MethodName := ⟨RX9, "of", "(II)I"⟩
abbrev cX9_ofRound : ByteArray := prog_1_method_8_code
def yX9_ofRound : MethodName := ⟨RX9, "ofRound", "(II)I"⟩
abbrev cX9_ofPane : ByteArray := prog_1_method_9_code
def yX9_ofPane : MethodName := ⟨RX9, "ofPane", "(II)I"⟩
abbrev cX9_ofPlace : ByteArray := prog_1_method_10_code
def yX9_ofPlace : MethodName := ⟨RX9, "ofPlace", "(I)I"⟩
abbrev cX9_feed : ByteArray := prog_1_method_11_code
def yX9_feed : MethodName := ⟨RX9, "feed", "(I)I"⟩
abbrev cX9_law : ByteArray := prog_1_method_12_code
def yX9_law : MethodName := ⟨RX9, "law", "()I"⟩
abbrev cX9_isThere : ByteArray := prog_1_method_13_code
def yX9_isThere : MethodName := ⟨RX9, "isThere", "(II)Z"⟩
abbrev cX9_isFit : ByteArray := prog_1_method_14_code
def yX9_isFit : MethodName := ⟨RX9, "isFit", "(III)Z"⟩
abbrev cX9_told : ByteArray := prog_1_method_15_code
def yX9_told : MethodName := ⟨RX9, "told", "(II)I"⟩
abbrev cX9_lay : ByteArray := prog_1_method_16_code
def yX9_lay : MethodName := ⟨RX9, "lay", "(III)V"⟩
abbrev cX9_falls : ByteArray := prog_1_method_17_code
def yX9_falls : MethodName := ⟨RX9, "falls", "(I)I"⟩
abbrev cX9_topples : ByteArray := prog_1_method_18_code
def yX9_topples : MethodName := ⟨RX9, "topples", "(I)I"⟩
abbrev cX9_broad : ByteArray := prog_1_method_19_code
def yX9_broad : MethodName := ⟨RX9, "broad", "(I)I"⟩
abbrev cX9_straight : ByteArray := prog_1_method_20_code
def yX9_straight : MethodName := ⟨RX9, "straight", "(II)I"⟩
abbrev cX9_without : ByteArray := prog_1_method_21_code
def yX9_without : MethodName := ⟨RX9, "without", "()I"⟩
abbrev cX9_highest : ByteArray := prog_1_method_22_code
def yX9_highest : MethodName := ⟨RX9, "highest", "()I"⟩
abbrev cX9_fuel : ByteArray := prog_1_method_23_code
def yX9_fuel : MethodName := ⟨RX9, "fuel", "(II)I"⟩
abbrev cX9_burns : ByteArray := prog_1_method_24_code
def yX9_burns : MethodName := ⟨RX9, "burns", "(I)I"⟩
abbrev cX9_heat : ByteArray := prog_1_method_25_code
def yX9_heat : MethodName := ⟨RX9, "heat", "(II)I"⟩
abbrev cX9_cracks : ByteArray := prog_1_method_26_code
def yX9_cracks : MethodName := ⟨RX9, "cracks", "(II)I"⟩
abbrev cX9_boarded : ByteArray := prog_1_method_27_code
def yX9_boarded : MethodName := ⟨RX9, "boarded", "(I)I"⟩
abbrev cX9_burnt : ByteArray := prog_1_method_28_code
def yX9_burnt : MethodName := ⟨RX9, "burnt", "()LPalletSky$Fire;"⟩
abbrev cX9_watch : ByteArray := prog_1_method_29_code
def yX9_watch : MethodName := ⟨RX9, "watch", "(II)I"⟩
abbrev cX9_nights : ByteArray := prog_1_method_30_code
def yX9_nights : MethodName := ⟨RX9, "nights", "(II)I"⟩
abbrev cX9_best : ByteArray := prog_1_method_31_code
def yX9_best : MethodName := ⟨RX9, "best", "(III)I"⟩
abbrev cX9_rival : ByteArray := prog_1_method_32_code
def yX9_rival : MethodName := ⟨RX9, "rival", "(I)I"⟩
abbrev cX9_judge : ByteArray := prog_1_method_33_code
def yX9_judge : MethodName := ⟨RX9, "judge", "(II)I"⟩
abbrev cX9_led : ByteArray := prog_1_method_34_code
def yX9_led : MethodName := ⟨RX9, "led", "(I)I"⟩
abbrev cX9_image : ByteArray := prog_1_method_35_code
def yX9_image : MethodName := ⟨RX9, "image", "()I"⟩
abbrev cX9_back : ByteArray := prog_1_method_36_code
def yX9_back : MethodName := ⟨RX9, "back", "()I"⟩
abbrev cX9_undo : ByteArray := prog_1_method_37_code
def yX9_undo : MethodName := ⟨RX9, "undo", "()I"⟩
abbrev cX9_redo : ByteArray := prog_1_method_38_code
def yX9_redo : MethodName := ⟨RX9, "redo", "()I"⟩
abbrev cX9_body : ByteArray := prog_1_method_39_code
def yX9_body : MethodName := ⟨RX9, "body", "(I)I"⟩
abbrev cX9_act : ByteArray := prog_1_method_40_code
def yX9_act : MethodName := ⟨RX9, "act", "(III)I"⟩
abbrev cX9_trace : ByteArray := prog_1_method_41_code
def yX9_trace : MethodName := ⟨RX9, "trace", "(I)I"⟩
abbrev cX9_keep : ByteArray := prog_1_method_42_code
def yX9_keep : MethodName := ⟨RX9, "keep", "(II)I"⟩
abbrev cX9_row : ByteArray := prog_1_method_43_code
def yX9_row : MethodName := ⟨RX9, "row", "(III)I"⟩
abbrev cX9_put : ByteArray := prog_1_method_44_code
def yX9_put : MethodName := ⟨RX9, "put", "(IIJ)I"⟩
abbrev cX9_element : ByteArray := prog_1_method_45_code
def yX9_element : MethodName := ⟨RX9, "element", "(II)J"⟩
abbrev cX9_shift : ByteArray := prog_1_method_46_code
def yX9_shift : MethodName := ⟨RX9, "shift", "(IIIII)I"⟩
abbrev cX9_taken : ByteArray := prog_1_method_47_code
def yX9_taken : MethodName := ⟨RX9, "taken", "(II)I"⟩
abbrev cX9_count : ByteArray := prog_1_method_48_code
def yX9_count : MethodName := ⟨RX9, "count", "(I)I"⟩
abbrev cX9_isShelf : ByteArray := prog_1_method_49_code
def yX9_isShelf : MethodName := ⟨RX9, "isShelf", "(I)Z"⟩
abbrev cX9_refusalOf : ByteArray := prog_1_method_50_code
def yX9_refusalOf : MethodName := ⟨RX9, "refusalOf", "(II)I"⟩
def RX10 : String := "PalletSkyModel"
def TX10 : u_T := fun k => match k with
  | 0 => ("PalletSkyModel", "may", "[I", true)
  | 1 => ("PalletSkyModel", "changeAt", "[I", true)
  | 2 => ("PalletSkyModel", "changeWas", "[I", true)
  | 3 => ("PalletSkyModel", "changeIs", "[I", true)
  | 4 => ("PalletSkyModel", "keptMany", "I", false)
  | 5 => ("PalletSkyModel", "done", "I", false)
  | 6 => ("PalletSkyModel", "rounds", "I", false)
  | 7 => ("PalletSkyModel", "pallets", "[I", true)
  | 8 => ("PalletSkyModel", "dry", "I", false)
  | 9 => ("PalletSkyModel", "damp", "I", false)
  | 10 => ("PalletSkyModel", "panes", "I", false)
  | 11 => ("PalletSkyModel", "far", "[I", true)
  | 12 => ("PalletSkyModel", "up", "[I", true)
  | 13 => ("PalletSkyModel", "tape", "[I", true)
  | 14 => ("PalletSkyModel", "tapeMany", "I", false)
  | 15 => ("PalletSkyModel", "text", "[I", true)
  | 16 => ("PalletSkyModel", "textMany", "I", false)
  | 17 => ("PalletSkyModel", "base", "I", false)
  | 18 => ("PalletSkyModel", "at", "I", false)
  | 19 => ("PalletSkyModel", "ends", "I", false)
  | 20 => ("PalletSkyModel", "fault", "I", false)
  | 21 => ("PalletSkyModel", "opened", "I", false)
  | 22 => ("PalletSkyModel", "names", "[I", true)
  | 23 => ("PalletSkyModel", "counted", "[I", true)
  | 24 => ("PalletSkyModel", "hadSlips", "[I", true)
  | 25 => ("PalletSkyModel", "lit", "[I", true)
  | 26 => ("PalletSkyModel", "fuel", "[I", true)
  | 27 => ("PalletSkyModel", "fuelAt", "[I", true)
  | 28 => ("PalletSkyModel", "burntIn", "[I", true)
  | 29 => ("PalletSkyModel", "fallMinute", "I", false)
  | 30 => ("PalletSkyModel", "fallRound", "I", false)
  | 31 => ("PalletSkyModel", "fallWhither", "I", false)
  | 32 => ("PalletSkyModel", "outMinute", "I", false)
  | 33 => ("PalletSkyModel", "gone", "I", false)
  | 34 => ("PalletSkyModel", "watches", "I", false)
  | 35 => ("PalletSkyModel", "stolen", "I", false)
  | 36 => ("PalletSkyModel", "ledNight", "I", false)
  | 37 => ("PalletSkyModel", "z", "I", false)
  | 38 => ("PalletSkyModel", "isKept", "Z", false)
  | 39 => ("PalletSkyModel", "image", "[I", true)
  | 40 => ("PalletSkyModel", "bodies", "I", false)
  | 41 => ("PalletSkyModel", "bodyKind", "[I", true)
  | 42 => ("PalletSkyModel", "trace", "[I", true)
  | 43 => ("PalletSkyModel", "ran", "I", false)
  | 44 => ("PalletSkyModel", "ownKind", "I", false)
  | 45 => ("PalletSkyModel", "ownNumber", "I", false)
  | 46 => ("PalletSkyModel", "shelf", "[I", true)
  | 47 => ("PalletSkyModel", "many", "[I", true)
  | 48 => ("PalletSkyModel", "items", "[J", true)
  | _ => ("PalletSkyModel", "carried", "[J", true)
def tyX10 : Nat → FieldType := fun k => match k with
  | 0 => .array .int
  | 1 => .array .int
  | 2 => .array .int
  | 3 => .array .int
  | 4 => .int
  | 5 => .int
  | 6 => .int
  | 7 => .array .int
  | 8 => .int
  | 9 => .int
  | 10 => .int
  | 11 => .array .int
  | 12 => .array .int
  | 13 => .array .int
  | 14 => .int
  | 15 => .array .int
  | 16 => .int
  | 17 => .int
  | 18 => .int
  | 19 => .int
  | 20 => .int
  | 21 => .int
  | 22 => .array .int
  | 23 => .array .int
  | 24 => .array .int
  | 25 => .array .int
  | 26 => .array .int
  | 27 => .array .int
  | 28 => .array .int
  | 29 => .int
  | 30 => .int
  | 31 => .int
  | 32 => .int
  | 33 => .int
  | 34 => .int
  | 35 => .int
  | 36 => .int
  | 37 => .int
  | 38 => .boolean
  | 39 => .array .int
  | 40 => .int
  | 41 => .array .int
  | 42 => .array .int
  | 43 => .int
  | 44 => .int
  | 45 => .int
  | 46 => .array .int
  | 47 => .array .int
  | 48 => .array .long
  | _ => .array .long
theorem nmX10 : ∀ a, a < 50 → ∀ b, b < 50 → a ≠ b → (TX10 a).2.1 ≠ (TX10 b).2.1 := by decide +kernel
theorem tyX10_ok : ∀ k, k < 50 → parseFieldDescriptor (TX10 k).2.2.1 = some (tyX10 k) := by decide +kernel
abbrev cX10_within : ByteArray := prog_12_method_1_code
def yX10_within : MethodName := ⟨RX10, "within", "(JJJ)Z"⟩
abbrev cX10_sizeOf : ByteArray := prog_12_method_2_code
def yX10_sizeOf : MethodName := ⟨RX10, "sizeOf", "(I)I"⟩
abbrev cX10_init : ByteArray := prog_12_method_3_code
def yX10_init : MethodName := ⟨RX10, "<init>", "()V"⟩
abbrev cX10_becomes : ByteArray := prog_12_method_4_code
def yX10_becomes : MethodName := ⟨RX10, "becomes", "(II)I"⟩
abbrev cX10_isThere : ByteArray := prog_12_method_5_code
def yX10_isThere : MethodName := ⟨RX10, "isThere", "(I)Z"⟩
abbrev cX10_lays : ByteArray := prog_12_method_6_code
def yX10_lays : MethodName := ⟨RX10, "lays", "(II)V"⟩
abbrev cX10_undo : ByteArray := prog_12_method_7_code
def yX10_undo : MethodName := ⟨RX10, "undo", "()I"⟩
abbrev cX10_redo : ByteArray := prog_12_method_8_code
def yX10_redo : MethodName := ⟨RX10, "redo", "()I"⟩
abbrev cX10_isRound : ByteArray := prog_12_method_9_code
def yX10_isRound : MethodName := ⟨RX10, "isRound", "(I)Z"⟩
abbrev cX10_isPane : ByteArray := prog_12_method_10_code
def yX10_isPane : MethodName := ⟨RX10, "isPane", "(I)Z"⟩
abbrev cX10_isOne : ByteArray := prog_12_method_11_code
def yX10_isOne : MethodName := ⟨RX10, "isOne", "(JJJJ)Z"⟩
abbrev cX10_adds : ByteArray := prog_12_method_12_code
def yX10_adds : MethodName := ⟨RX10, "adds", "(IIII)V"⟩
abbrev cX10_build : ByteArray := prog_12_method_13_code
def yX10_build : MethodName := ⟨RX10, "build", "(II)I"⟩
abbrev cX10_stored : ByteArray := prog_12_method_14_code
def yX10_stored : MethodName := ⟨RX10, "stored", "(I)I"⟩
abbrev cX10_unbuild : ByteArray := prog_12_method_15_code
def yX10_unbuild : MethodName := ⟨RX10, "unbuild", "()I"⟩
abbrev cX10_rounds : ByteArray := prog_12_method_16_code
def yX10_rounds : MethodName := ⟨RX10, "rounds", "(III)I"⟩
abbrev cX10_pane : ByteArray := prog_12_method_17_code
def yX10_pane : MethodName := ⟨RX10, "pane", "(I)I"⟩
abbrev cX10_mend : ByteArray := prog_12_method_18_code
def yX10_mend : MethodName := ⟨RX10, "mend", "(III)I"⟩
abbrev cX10_middleOf : ByteArray := prog_12_method_19_code
def yX10_middleOf : MethodName := ⟨RX10, "middleOf", "(II)I"⟩
abbrev cX10_ofRound : ByteArray := prog_12_method_20_code
def yX10_ofRound : MethodName := ⟨RX10, "ofRound", "(II)I"⟩
abbrev cX10_ofAll : ByteArray := prog_12_method_21_code
def yX10_ofAll : MethodName := ⟨RX10, "ofAll", "(I)I"⟩
abbrev cX10_mayBe : ByteArray := prog_12_method_22_code
def yX10_mayBe : MethodName := ⟨RX10, "mayBe", "()I"⟩
abbrev cX10_of : ByteArray := prog_12_method_23_code
def yX10_of : MethodName := ⟨RX10, "of", "(II)I"⟩
abbrev cX10_feed : ByteArray := prog_12_method_24_code
def yX10_feed : MethodName := ⟨RX10, "feed", "(I)I"⟩
abbrev cX10_byteAt : ByteArray := prog_12_method_25_code
def yX10_byteAt : MethodName := ⟨RX10, "byteAt", "()I"⟩
abbrev cX10_wrong : ByteArray := prog_12_method_26_code
def yX10_wrong : MethodName := ⟨RX10, "wrong", "()I"⟩
abbrev cX10_takes : ByteArray := prog_12_method_27_code
def yX10_takes : MethodName := ⟨RX10, "takes", "(I)Z"⟩
abbrev cX10_either : ByteArray := prog_12_method_28_code
def yX10_either : MethodName := ⟨RX10, "either", "()I"⟩
abbrev cX10_both : ByteArray := prog_12_method_29_code
def yX10_both : MethodName := ⟨RX10, "both", "()I"⟩
abbrev cX10_compared : ByteArray := prog_12_method_30_code
def yX10_compared : MethodName := ⟨RX10, "compared", "()I"⟩
abbrev cX10_sums : ByteArray := prog_12_method_31_code
def yX10_sums : MethodName := ⟨RX10, "sums", "()I"⟩
abbrev cX10_product : ByteArray := prog_12_method_32_code
def yX10_product : MethodName := ⟨RX10, "product", "()I"⟩
abbrev cX10_nameOf : ByteArray := prog_12_method_33_code
def yX10_nameOf : MethodName := ⟨RX10, "nameOf", "(I)I"⟩
abbrev cX10_one : ByteArray := prog_12_method_34_code
def yX10_one : MethodName := ⟨RX10, "one", "()I"⟩
abbrev cX10_workOut : ByteArray := prog_12_method_35_code
def yX10_workOut : MethodName := ⟨RX10, "workOut", "(II)I"⟩
abbrev cX10_law : ByteArray := prog_12_method_36_code
def yX10_law : MethodName := ⟨RX10, "law", "()I"⟩
abbrev cX10_countsAll : ByteArray := prog_12_method_37_code
def yX10_countsAll : MethodName := ⟨RX10, "countsAll", "()V"⟩
abbrev cX10_pushOn : ByteArray := prog_12_method_38_code
def yX10_pushOn : MethodName := ⟨RX10, "pushOn", "(II)I"⟩
abbrev cX10_holds : ByteArray := prog_12_method_39_code
def yX10_holds : MethodName := ⟨RX10, "holds", "(I)Z"⟩
abbrev cX10_fallsAt : ByteArray := prog_12_method_40_code
def yX10_fallsAt : MethodName := ⟨RX10, "fallsAt", "()I"⟩
abbrev cX10_whither : ByteArray := prog_12_method_41_code
def yX10_whither : MethodName := ⟨RX10, "whither", "(I)I"⟩
abbrev cX10_falls : ByteArray := prog_12_method_42_code
def yX10_falls : MethodName := ⟨RX10, "falls", "(I)I"⟩
abbrev cX10_topples : ByteArray := prog_12_method_43_code
def yX10_topples : MethodName := ⟨RX10, "topples", "(I)I"⟩
abbrev cX10_broad : ByteArray := prog_12_method_44_code
def yX10_broad : MethodName := ⟨RX10, "broad", "(I)I"⟩
abbrev cX10_straight : ByteArray := prog_12_method_45_code
def yX10_straight : MethodName := ⟨RX10, "straight", "(II)I"⟩
abbrev cX10_without : ByteArray := prog_12_method_46_code
def yX10_without : MethodName := ⟨RX10, "without", "()I"⟩
abbrev cX10_highest : ByteArray := prog_12_method_47_code
def yX10_highest : MethodName := ⟨RX10, "highest", "()I"⟩
abbrev cX10_firstFuel : ByteArray := prog_12_method_48_code
def yX10_firstFuel : MethodName := ⟨RX10, "firstFuel", "(I)I"⟩
abbrev cX10_burnsOf : ByteArray := prog_12_method_49_code
def yX10_burnsOf : MethodName := ⟨RX10, "burnsOf", "(II)I"⟩
abbrev cX10_countsAs : ByteArray := prog_12_method_50_code
def yX10_countsAs : MethodName := ⟨RX10, "countsAs", "(I)I"⟩
abbrev cX10_fire : ByteArray := prog_12_method_51_code
def yX10_fire : MethodName := ⟨RX10, "fire", "()V"⟩
abbrev cX10_fuel : ByteArray := prog_12_method_52_code
def yX10_fuel : MethodName := ⟨RX10, "fuel", "(II)I"⟩
abbrev cX10_burns : ByteArray := prog_12_method_53_code
def yX10_burns : MethodName := ⟨RX10, "burns", "(I)I"⟩
abbrev cX10_heatBy : ByteArray := prog_12_method_54_code
def yX10_heatBy : MethodName := ⟨RX10, "heatBy", "(III)I"⟩
abbrev cX10_heatAt : ByteArray := prog_12_method_55_code
def yX10_heatAt : MethodName := ⟨RX10, "heatAt", "(II)I"⟩
abbrev cX10_heat : ByteArray := prog_12_method_56_code
def yX10_heat : MethodName := ⟨RX10, "heat", "(II)I"⟩
abbrev cX10_crackOf : ByteArray := prog_12_method_57_code
def yX10_crackOf : MethodName := ⟨RX10, "crackOf", "(II)I"⟩
abbrev cX10_cracks : ByteArray := prog_12_method_58_code
def yX10_cracks : MethodName := ⟨RX10, "cracks", "(II)I"⟩
abbrev cX10_boardsFor : ByteArray := prog_12_method_59_code
def yX10_boardsFor : MethodName := ⟨RX10, "boardsFor", "(I)I"⟩
abbrev cX10_boarded : ByteArray := prog_12_method_60_code
def yX10_boarded : MethodName := ⟨RX10, "boarded", "(I)I"⟩
abbrev cX10_bitsOf : ByteArray := prog_12_method_61_code
def yX10_bitsOf : MethodName := ⟨RX10, "bitsOf", "(I)I"⟩
abbrev cX10_draws : ByteArray := prog_12_method_62_code
def yX10_draws : MethodName := ⟨RX10, "draws", "(I)I"⟩
abbrev cX10_watch : ByteArray := prog_12_method_63_code
def yX10_watch : MethodName := ⟨RX10, "watch", "(II)I"⟩
abbrev cX10_nightGoes : ByteArray := prog_12_method_64_code
def yX10_nightGoes : MethodName := ⟨RX10, "nightGoes", "(I)V"⟩
abbrev cX10_nights : ByteArray := prog_12_method_65_code
def yX10_nights : MethodName := ⟨RX10, "nights", "(II)I"⟩
abbrev cX10_best : ByteArray := prog_12_method_66_code
def yX10_best : MethodName := ⟨RX10, "best", "(III)I"⟩
abbrev cX10_rival : ByteArray := prog_12_method_67_code
def yX10_rival : MethodName := ⟨RX10, "rival", "(I)I"⟩
abbrev cX10_nightIs : ByteArray := prog_12_method_68_code
def yX10_nightIs : MethodName := ⟨RX10, "nightIs", "(I)I"⟩
abbrev cX10_judge : ByteArray := prog_12_method_69_code
def yX10_judge : MethodName := ⟨RX10, "judge", "(II)I"⟩
abbrev cX10_led : ByteArray := prog_12_method_70_code
def yX10_led : MethodName := ⟨RX10, "led", "(I)I"⟩
abbrev cX10_image : ByteArray := prog_12_method_71_code
def yX10_image : MethodName := ⟨RX10, "image", "()I"⟩
abbrev cX10_back : ByteArray := prog_12_method_72_code
def yX10_back : MethodName := ⟨RX10, "back", "()I"⟩
abbrev cX10_allPallets : ByteArray := prog_12_method_73_code
def yX10_allPallets : MethodName := ⟨RX10, "allPallets", "()I"⟩
abbrev cX10_isBody : ByteArray := prog_12_method_74_code
def yX10_isBody : MethodName := ⟨RX10, "isBody", "(I)Z"⟩
abbrev cX10_kindOf : ByteArray := prog_12_method_75_code
def yX10_kindOf : MethodName := ⟨RX10, "kindOf", "(I)I"⟩
abbrev cX10_body : ByteArray := prog_12_method_76_code
def yX10_body : MethodName := ⟨RX10, "body", "(I)I"⟩
abbrev cX10_above : ByteArray := prog_12_method_77_code
def yX10_above : MethodName := ⟨RX10, "above", "(I)I"⟩
abbrev cX10_begins : ByteArray := prog_12_method_78_code
def yX10_begins : MethodName := ⟨RX10, "begins", "(I)V"⟩
abbrev cX10_standsAs : ByteArray := prog_12_method_79_code
def yX10_standsAs : MethodName := ⟨RX10, "standsAs", "(II)I"⟩
abbrev cX10_leansAs : ByteArray := prog_12_method_80_code
def yX10_leansAs : MethodName := ⟨RX10, "leansAs", "(II)I"⟩
abbrev cX10_burnsAs : ByteArray := prog_12_method_81_code
def yX10_burnsAs : MethodName := ⟨RX10, "burnsAs", "(II)I"⟩
abbrev cX10_tellsAs : ByteArray := prog_12_method_82_code
def yX10_tellsAs : MethodName := ⟨RX10, "tellsAs", "(II)I"⟩
abbrev cX10_act : ByteArray := prog_12_method_83_code
def yX10_act : MethodName := ⟨RX10, "act", "(III)I"⟩
abbrev cX10_trace : ByteArray := prog_12_method_84_code
def yX10_trace : MethodName := ⟨RX10, "trace", "(I)I"⟩
abbrev cX10_isShelf : ByteArray := prog_12_method_85_code
def yX10_isShelf : MethodName := ⟨RX10, "isShelf", "(I)Z"⟩
abbrev cX10_keep : ByteArray := prog_12_method_86_code
def yX10_keep : MethodName := ⟨RX10, "keep", "(II)I"⟩
abbrev cX10_row : ByteArray := prog_12_method_87_code
def yX10_row : MethodName := ⟨RX10, "row", "(III)I"⟩
abbrev cX10_refusal : ByteArray := prog_12_method_88_code
def yX10_refusal : MethodName := ⟨RX10, "refusal", "(II)I"⟩
abbrev cX10_asSort : ByteArray := prog_12_method_89_code
def yX10_asSort : MethodName := ⟨RX10, "asSort", "(IJ)J"⟩
abbrev cX10_put : ByteArray := prog_12_method_90_code
def yX10_put : MethodName := ⟨RX10, "put", "(IIJ)I"⟩
abbrev cX10_element : ByteArray := prog_12_method_91_code
def yX10_element : MethodName := ⟨RX10, "element", "(II)J"⟩
abbrev cX10_shift : ByteArray := prog_12_method_92_code
def yX10_shift : MethodName := ⟨RX10, "shift", "(IIIII)I"⟩
abbrev cX10_taken : ByteArray := prog_12_method_93_code
def yX10_taken : MethodName := ⟨RX10, "taken", "(II)I"⟩
abbrev cX10_count : ByteArray := prog_12_method_94_code
def yX10_count : MethodName := ⟨RX10, "count", "(I)I"⟩
def RJ6 : String := "java/lang/Integer"
abbrev cJ6_bitCount_0f7a4 : ByteArray := prog_13_method_49_code
def yJ6_bitCount_0f7a4 : MethodName := ⟨RJ6, "bitCount", "(I)I"⟩
def RL : String := "PalletSkyLaw"
abbrev cL_law : ByteArray := code
def yL_law : MethodName := ⟨RL, "law", "([I)Z"⟩
