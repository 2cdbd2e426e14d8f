section
-- ===== PART A: goes FIRST, ahead of the names: the tables' words, and 'selects' of the private methods out of them =====
/-- a private method of a class that the tables say can be made, by its rows of tables_1 -/
def lw_okq (q : MethodName × Nat) : Prop := (q.1.cls ≠ "java/lang/invoke/MethodHandle" ∧ q.1.cls ≠ "java/lang/invoke/VarHandle") ∧ Cond.instantiable q.1.cls q.2 ∈ tables_1 ∧ Cond.privateMethod q.1 ∈ tables_1 ∧ Cond.instanceMethod q.1 ∈ tables_1
theorem lw_p0 : lw_okq (⟨"GlassRoom", "findGlass", "(I)LGlassRoom$Glass;"⟩, 5) := ⟨⟨by decide +kernel, by decide +kernel⟩, List.mem_of_getElem? (i := 12) (by decide +kernel), List.mem_of_getElem? (i := 197) (by decide +kernel), List.mem_of_getElem? (i := 198) (by decide +kernel)⟩
theorem lw_p1 : lw_okq (⟨"GlassRoom$Survey", "fillRows", "(I)V"⟩, 10) := ⟨⟨by decide +kernel, by decide +kernel⟩, List.mem_of_getElem? (i := 88) (by decide +kernel), List.mem_of_getElem? (i := 486) (by decide +kernel), List.mem_of_getElem? (i := 487) (by decide +kernel)⟩
theorem lw_p2 : lw_okq (⟨"GlassRoom$Survey", "addToRow", "(IIIJ)V"⟩, 10) := ⟨⟨by decide +kernel, by decide +kernel⟩, List.mem_of_getElem? (i := 88) (by decide +kernel), List.mem_of_getElem? (i := 490) (by decide +kernel), List.mem_of_getElem? (i := 491) (by decide +kernel)⟩
theorem lw_p3 : lw_okq (⟨"GlassRoom$Survey", "firstBetween", "(II)I"⟩, 10) := ⟨⟨by decide +kernel, by decide +kernel⟩, List.mem_of_getElem? (i := 88) (by decide +kernel), List.mem_of_getElem? (i := 541) (by decide +kernel), List.mem_of_getElem? (i := 542) (by decide +kernel)⟩
theorem lw_p4 : lw_okq (⟨"GlassRoom$Chart", "isLow", "(I)Z"⟩, 6) := ⟨⟨by decide +kernel, by decide +kernel⟩, List.mem_of_getElem? (i := 22) (by decide +kernel), List.mem_of_getElem? (i := 577) (by decide +kernel), List.mem_of_getElem? (i := 578) (by decide +kernel)⟩
theorem lw_p5 : lw_okq (⟨"GlassRoom$Contours", "markPoints", "(LGlassRoom$Chart;I)V"⟩, 10) := ⟨⟨by decide +kernel, by decide +kernel⟩, List.mem_of_getElem? (i := 50) (by decide +kernel), List.mem_of_getElem? (i := 609) (by decide +kernel), List.mem_of_getElem? (i := 610) (by decide +kernel)⟩
theorem lw_p6 : lw_okq (⟨"GlassRoom$Contours", "cutSides", "()V"⟩, 10) := ⟨⟨by decide +kernel, by decide +kernel⟩, List.mem_of_getElem? (i := 50) (by decide +kernel), List.mem_of_getElem? (i := 617) (by decide +kernel), List.mem_of_getElem? (i := 618) (by decide +kernel)⟩
theorem lw_p7 : lw_okq (⟨"GlassRoom$Contours", "crossSquare", "(LGlassRoom$Chart;III)V"⟩, 10) := ⟨⟨by decide +kernel, by decide +kernel⟩, List.mem_of_getElem? (i := 50) (by decide +kernel), List.mem_of_getElem? (i := 621) (by decide +kernel), List.mem_of_getElem? (i := 622) (by decide +kernel)⟩
theorem lw_p8 : lw_okq (⟨"GlassRoom$Contours", "isCut", "(I)Z"⟩, 10) := ⟨⟨by decide +kernel, by decide +kernel⟩, List.mem_of_getElem? (i := 50) (by decide +kernel), List.mem_of_getElem? (i := 625) (by decide +kernel), List.mem_of_getElem? (i := 626) (by decide +kernel)⟩
theorem lw_p9 : lw_okq (⟨"GlassRoom$Contours", "join", "(II)V"⟩, 10) := ⟨⟨by decide +kernel, by decide +kernel⟩, List.mem_of_getElem? (i := 50) (by decide +kernel), List.mem_of_getElem? (i := 629) (by decide +kernel), List.mem_of_getElem? (i := 630) (by decide +kernel)⟩
theorem lw_p10 : lw_okq (⟨"GlassRoom$Contours", "leastOf", "(I)I"⟩, 10) := ⟨⟨by decide +kernel, by decide +kernel⟩, List.mem_of_getElem? (i := 50) (by decide +kernel), List.mem_of_getElem? (i := 633) (by decide +kernel), List.mem_of_getElem? (i := 634) (by decide +kernel)⟩
theorem lw_p11 : lw_okq (⟨"GlassRoom$Contours", "gatherLines", "()V"⟩, 10) := ⟨⟨by decide +kernel, by decide +kernel⟩, List.mem_of_getElem? (i := 50) (by decide +kernel), List.mem_of_getElem? (i := 639) (by decide +kernel), List.mem_of_getElem? (i := 640) (by decide +kernel)⟩
theorem lw_p12 : lw_okq (⟨"GlassRoom$Contours", "addToLine", "(II)V"⟩, 10) := ⟨⟨by decide +kernel, by decide +kernel⟩, List.mem_of_getElem? (i := 50) (by decide +kernel), List.mem_of_getElem? (i := 643) (by decide +kernel), List.mem_of_getElem? (i := 644) (by decide +kernel)⟩
theorem lw_p13 : lw_okq (⟨"GlassRoom$DriftFinder", "take", "(ZIJJ)V"⟩, 6) := ⟨⟨by decide +kernel, by decide +kernel⟩, List.mem_of_getElem? (i := 128) (by decide +kernel), List.mem_of_getElem? (i := 686) (by decide +kernel), List.mem_of_getElem? (i := 687) (by decide +kernel)⟩
theorem lw_p14 : lw_okq (⟨"GlassRoomModel", "rightOf", "(III)J"⟩, 33) := ⟨⟨by decide +kernel, by decide +kernel⟩, List.mem_of_getElem? (i := 738) (by decide +kernel), List.mem_of_getElem? (i := 899) (by decide +kernel), List.mem_of_getElem? (i := 900) (by decide +kernel)⟩
theorem lw_p15 : lw_okq (⟨"GlassRoomModel", "isStation", "(I)Z"⟩, 33) := ⟨⟨by decide +kernel, by decide +kernel⟩, List.mem_of_getElem? (i := 738) (by decide +kernel), List.mem_of_getElem? (i := 920) (by decide +kernel), List.mem_of_getElem? (i := 921) (by decide +kernel)⟩
def lw_privs_1 : List (MethodName × Nat) := [(⟨"GlassRoom", "findGlass", "(I)LGlassRoom$Glass;"⟩, 5), (⟨"GlassRoom$Survey", "fillRows", "(I)V"⟩, 10), (⟨"GlassRoom$Survey", "addToRow", "(IIIJ)V"⟩, 10), (⟨"GlassRoom$Survey", "firstBetween", "(II)I"⟩, 10), (⟨"GlassRoom$Chart", "isLow", "(I)Z"⟩, 6), (⟨"GlassRoom$Contours", "markPoints", "(LGlassRoom$Chart;I)V"⟩, 10), (⟨"GlassRoom$Contours", "cutSides", "()V"⟩, 10), (⟨"GlassRoom$Contours", "crossSquare", "(LGlassRoom$Chart;III)V"⟩, 10), (⟨"GlassRoom$Contours", "isCut", "(I)Z"⟩, 10), (⟨"GlassRoom$Contours", "join", "(II)V"⟩, 10), (⟨"GlassRoom$Contours", "leastOf", "(I)I"⟩, 10), (⟨"GlassRoom$Contours", "gatherLines", "()V"⟩, 10), (⟨"GlassRoom$Contours", "addToLine", "(II)V"⟩, 10), (⟨"GlassRoom$DriftFinder", "take", "(ZIJJ)V"⟩, 6), (⟨"GlassRoomModel", "rightOf", "(III)J"⟩, 33), (⟨"GlassRoomModel", "isStation", "(I)Z"⟩, 33)]
theorem lw_r1 : ∀ q ∈ lw_privs_1, lw_okq q := List.forall_mem_cons.mpr ⟨lw_p0, List.forall_mem_cons.mpr ⟨lw_p1, List.forall_mem_cons.mpr ⟨lw_p2, List.forall_mem_cons.mpr ⟨lw_p3, List.forall_mem_cons.mpr ⟨lw_p4, List.forall_mem_cons.mpr ⟨lw_p5, List.forall_mem_cons.mpr ⟨lw_p6, List.forall_mem_cons.mpr ⟨lw_p7, List.forall_mem_cons.mpr ⟨lw_p8, List.forall_mem_cons.mpr ⟨lw_p9, List.forall_mem_cons.mpr ⟨lw_p10, List.forall_mem_cons.mpr ⟨lw_p11, List.forall_mem_cons.mpr ⟨lw_p12, List.forall_mem_cons.mpr ⟨lw_p13, List.forall_mem_cons.mpr ⟨lw_p14, List.forall_mem_cons.mpr ⟨lw_p15, fun _ h => absurd h List.not_mem_nil⟩⟩⟩⟩⟩⟩⟩⟩⟩⟩⟩⟩⟩⟩⟩⟩
theorem lw_p16 : lw_okq (⟨"GlassRoomModel", "has", "(II)Z"⟩, 33) := ⟨⟨by decide +kernel, by decide +kernel⟩, List.mem_of_getElem? (i := 738) (by decide +kernel), List.mem_of_getElem? (i := 928) (by decide +kernel), List.mem_of_getElem? (i := 929) (by decide +kernel)⟩
theorem lw_p17 : lw_okq (⟨"GlassRoomModel", "rightAt", "(II)J"⟩, 33) := ⟨⟨by decide +kernel, by decide +kernel⟩, List.mem_of_getElem? (i := 738) (by decide +kernel), List.mem_of_getElem? (i := 942) (by decide +kernel), List.mem_of_getElem? (i := 943) (by decide +kernel)⟩
theorem lw_p18 : lw_okq (⟨"GlassRoomModel", "mendedAt", "(II)J"⟩, 33) := ⟨⟨by decide +kernel, by decide +kernel⟩, List.mem_of_getElem? (i := 738) (by decide +kernel), List.mem_of_getElem? (i := 946) (by decide +kernel), List.mem_of_getElem? (i := 947) (by decide +kernel)⟩
theorem lw_p19 : lw_okq (⟨"GlassRoomModel", "levelAt", "(II)I"⟩, 33) := ⟨⟨by decide +kernel, by decide +kernel⟩, List.mem_of_getElem? (i := 738) (by decide +kernel), List.mem_of_getElem? (i := 950) (by decide +kernel), List.mem_of_getElem? (i := 951) (by decide +kernel)⟩
theorem lw_p20 : lw_okq (⟨"GlassRoomModel", "heldAt", "(II)I"⟩, 33) := ⟨⟨by decide +kernel, by decide +kernel⟩, List.mem_of_getElem? (i := 738) (by decide +kernel), List.mem_of_getElem? (i := 954) (by decide +kernel), List.mem_of_getElem? (i := 955) (by decide +kernel)⟩
theorem lw_p21 : lw_okq (⟨"GlassRoomModel", "riseOf", "(III)J"⟩, 33) := ⟨⟨by decide +kernel, by decide +kernel⟩, List.mem_of_getElem? (i := 738) (by decide +kernel), List.mem_of_getElem? (i := 960) (by decide +kernel), List.mem_of_getElem? (i := 961) (by decide +kernel)⟩
theorem lw_p22 : lw_okq (⟨"GlassRoomModel", "isBench", "(I)Z"⟩, 33) := ⟨⟨by decide +kernel, by decide +kernel⟩, List.mem_of_getElem? (i := 738) (by decide +kernel), List.mem_of_getElem? (i := 983) (by decide +kernel), List.mem_of_getElem? (i := 984) (by decide +kernel)⟩
theorem lw_p23 : lw_okq (⟨"GlassRoomModel", "findHeights", "()Z"⟩, 33) := ⟨⟨by decide +kernel, by decide +kernel⟩, List.mem_of_getElem? (i := 738) (by decide +kernel), List.mem_of_getElem? (i := 998) (by decide +kernel), List.mem_of_getElem? (i := 999) (by decide +kernel)⟩
theorem lw_p24 : lw_okq (⟨"GlassRoomModel", "areJoined", "()Z"⟩, 33) := ⟨⟨by decide +kernel, by decide +kernel⟩, List.mem_of_getElem? (i := 738) (by decide +kernel), List.mem_of_getElem? (i := 1002) (by decide +kernel), List.mem_of_getElem? (i := 1003) (by decide +kernel)⟩
theorem lw_p25 : lw_okq (⟨"GlassRoomModel", "laySquare", "(I)V"⟩, 33) := ⟨⟨by decide +kernel, by decide +kernel⟩, List.mem_of_getElem? (i := 738) (by decide +kernel), List.mem_of_getElem? (i := 1006) (by decide +kernel), List.mem_of_getElem? (i := 1007) (by decide +kernel)⟩
theorem lw_p26 : lw_okq (⟨"GlassRoomModel", "addTo", "(IIII)V"⟩, 33) := ⟨⟨by decide +kernel, by decide +kernel⟩, List.mem_of_getElem? (i := 738) (by decide +kernel), List.mem_of_getElem? (i := 1010) (by decide +kernel), List.mem_of_getElem? (i := 1011) (by decide +kernel)⟩
theorem lw_p27 : lw_okq (⟨"GlassRoomModel", "determinant", "()J"⟩, 33) := ⟨⟨by decide +kernel, by decide +kernel⟩, List.mem_of_getElem? (i := 738) (by decide +kernel), List.mem_of_getElem? (i := 1014) (by decide +kernel), List.mem_of_getElem? (i := 1015) (by decide +kernel)⟩
theorem lw_p28 : lw_okq (⟨"GlassRoomModel", "offUpper", "(I)J"⟩, 33) := ⟨⟨by decide +kernel, by decide +kernel⟩, List.mem_of_getElem? (i := 738) (by decide +kernel), List.mem_of_getElem? (i := 1023) (by decide +kernel), List.mem_of_getElem? (i := 1024) (by decide +kernel)⟩
theorem lw_p29 : lw_okq (⟨"GlassRoomModel", "firstOf", "(II)I"⟩, 33) := ⟨⟨by decide +kernel, by decide +kernel⟩, List.mem_of_getElem? (i := 738) (by decide +kernel), List.mem_of_getElem? (i := 1035) (by decide +kernel), List.mem_of_getElem? (i := 1036) (by decide +kernel)⟩
theorem lw_p30 : lw_okq (⟨"GlassRoomModel", "hasAny", "(II)Z"⟩, 33) := ⟨⟨by decide +kernel, by decide +kernel⟩, List.mem_of_getElem? (i := 738) (by decide +kernel), List.mem_of_getElem? (i := 1043) (by decide +kernel), List.mem_of_getElem? (i := 1044) (by decide +kernel)⟩
theorem lw_p31 : lw_okq (⟨"GlassRoomModel", "findLevels", "(I)V"⟩, 33) := ⟨⟨by decide +kernel, by decide +kernel⟩, List.mem_of_getElem? (i := 738) (by decide +kernel), List.mem_of_getElem? (i := 1047) (by decide +kernel), List.mem_of_getElem? (i := 1048) (by decide +kernel)⟩
def lw_privs_2 : List (MethodName × Nat) := [(⟨"GlassRoomModel", "has", "(II)Z"⟩, 33), (⟨"GlassRoomModel", "rightAt", "(II)J"⟩, 33), (⟨"GlassRoomModel", "mendedAt", "(II)J"⟩, 33), (⟨"GlassRoomModel", "levelAt", "(II)I"⟩, 33), (⟨"GlassRoomModel", "heldAt", "(II)I"⟩, 33), (⟨"GlassRoomModel", "riseOf", "(III)J"⟩, 33), (⟨"GlassRoomModel", "isBench", "(I)Z"⟩, 33), (⟨"GlassRoomModel", "findHeights", "()Z"⟩, 33), (⟨"GlassRoomModel", "areJoined", "()Z"⟩, 33), (⟨"GlassRoomModel", "laySquare", "(I)V"⟩, 33), (⟨"GlassRoomModel", "addTo", "(IIII)V"⟩, 33), (⟨"GlassRoomModel", "determinant", "()J"⟩, 33), (⟨"GlassRoomModel", "offUpper", "(I)J"⟩, 33), (⟨"GlassRoomModel", "firstOf", "(II)I"⟩, 33), (⟨"GlassRoomModel", "hasAny", "(II)Z"⟩, 33), (⟨"GlassRoomModel", "findLevels", "(I)V"⟩, 33)]
theorem lw_r2 : ∀ q ∈ lw_privs_2, lw_okq q := List.forall_mem_cons.mpr ⟨lw_p16, List.forall_mem_cons.mpr ⟨lw_p17, List.forall_mem_cons.mpr ⟨lw_p18, List.forall_mem_cons.mpr ⟨lw_p19, List.forall_mem_cons.mpr ⟨lw_p20, List.forall_mem_cons.mpr ⟨lw_p21, List.forall_mem_cons.mpr ⟨lw_p22, List.forall_mem_cons.mpr ⟨lw_p23, List.forall_mem_cons.mpr ⟨lw_p24, List.forall_mem_cons.mpr ⟨lw_p25, List.forall_mem_cons.mpr ⟨lw_p26, List.forall_mem_cons.mpr ⟨lw_p27, List.forall_mem_cons.mpr ⟨lw_p28, List.forall_mem_cons.mpr ⟨lw_p29, List.forall_mem_cons.mpr ⟨lw_p30, List.forall_mem_cons.mpr ⟨lw_p31, fun _ h => absurd h List.not_mem_nil⟩⟩⟩⟩⟩⟩⟩⟩⟩⟩⟩⟩⟩⟩⟩⟩
theorem lw_p32 : lw_okq (⟨"GlassRoomModel", "fieldAt", "(IIII)J"⟩, 33) := ⟨⟨by decide +kernel, by decide +kernel⟩, List.mem_of_getElem? (i := 738) (by decide +kernel), List.mem_of_getElem? (i := 1051) (by decide +kernel), List.mem_of_getElem? (i := 1052) (by decide +kernel)⟩
theorem lw_p33 : lw_okq (⟨"GlassRoomModel", "lowOf", "(II)I"⟩, 33) := ⟨⟨by decide +kernel, by decide +kernel⟩, List.mem_of_getElem? (i := 738) (by decide +kernel), List.mem_of_getElem? (i := 1059) (by decide +kernel), List.mem_of_getElem? (i := 1060) (by decide +kernel)⟩
theorem lw_p34 : lw_okq (⟨"GlassRoomModel", "findSheet", "(I)V"⟩, 33) := ⟨⟨by decide +kernel, by decide +kernel⟩, List.mem_of_getElem? (i := 738) (by decide +kernel), List.mem_of_getElem? (i := 1063) (by decide +kernel), List.mem_of_getElem? (i := 1064) (by decide +kernel)⟩
theorem lw_p35 : lw_okq (⟨"GlassRoomModel", "isLow", "(I)Z"⟩, 33) := ⟨⟨by decide +kernel, by decide +kernel⟩, List.mem_of_getElem? (i := 738) (by decide +kernel), List.mem_of_getElem? (i := 1067) (by decide +kernel), List.mem_of_getElem? (i := 1068) (by decide +kernel)⟩
theorem lw_p36 : lw_okq (⟨"GlassRoomModel", "nearest", "(II)I"⟩, 33) := ⟨⟨by decide +kernel, by decide +kernel⟩, List.mem_of_getElem? (i := 738) (by decide +kernel), List.mem_of_getElem? (i := 1075) (by decide +kernel), List.mem_of_getElem? (i := 1076) (by decide +kernel)⟩
theorem lw_p37 : lw_okq (⟨"GlassRoomModel", "whyNot", "(III)I"⟩, 33) := ⟨⟨by decide +kernel, by decide +kernel⟩, List.mem_of_getElem? (i := 738) (by decide +kernel), List.mem_of_getElem? (i := 1083) (by decide +kernel), List.mem_of_getElem? (i := 1084) (by decide +kernel)⟩
theorem lw_p38 : lw_okq (⟨"GlassRoomModel", "findLines", "(II)V"⟩, 33) := ⟨⟨by decide +kernel, by decide +kernel⟩, List.mem_of_getElem? (i := 738) (by decide +kernel), List.mem_of_getElem? (i := 1088) (by decide +kernel), List.mem_of_getElem? (i := 1089) (by decide +kernel)⟩
theorem lw_p39 : lw_okq (⟨"GlassRoomModel", "isHigh", "(III)Z"⟩, 33) := ⟨⟨by decide +kernel, by decide +kernel⟩, List.mem_of_getElem? (i := 738) (by decide +kernel), List.mem_of_getElem? (i := 1092) (by decide +kernel), List.mem_of_getElem? (i := 1093) (by decide +kernel)⟩
theorem lw_p40 : lw_okq (⟨"GlassRoomModel", "goThrough", "(III)V"⟩, 33) := ⟨⟨by decide +kernel, by decide +kernel⟩, List.mem_of_getElem? (i := 738) (by decide +kernel), List.mem_of_getElem? (i := 1096) (by decide +kernel), List.mem_of_getElem? (i := 1097) (by decide +kernel)⟩
theorem lw_p41 : lw_okq (⟨"GlassRoomModel", "link", "(II)V"⟩, 33) := ⟨⟨by decide +kernel, by decide +kernel⟩, List.mem_of_getElem? (i := 738) (by decide +kernel), List.mem_of_getElem? (i := 1100) (by decide +kernel), List.mem_of_getElem? (i := 1101) (by decide +kernel)⟩
theorem lw_p42 : lw_okq (⟨"GlassRoomModel", "ofLine", "(II)I"⟩, 33) := ⟨⟨by decide +kernel, by decide +kernel⟩, List.mem_of_getElem? (i := 738) (by decide +kernel), List.mem_of_getElem? (i := 1104) (by decide +kernel), List.mem_of_getElem? (i := 1105) (by decide +kernel)⟩
theorem lw_p43 : lw_okq (⟨"GlassRoomModel", "findDrift", "(I)Z"⟩, 33) := ⟨⟨by decide +kernel, by decide +kernel⟩, List.mem_of_getElem? (i := 738) (by decide +kernel), List.mem_of_getElem? (i := 1116) (by decide +kernel), List.mem_of_getElem? (i := 1117) (by decide +kernel)⟩
theorem lw_p44 : lw_okq (⟨"GlassRoomModel", "tryHour", "(I)V"⟩, 33) := ⟨⟨by decide +kernel, by decide +kernel⟩, List.mem_of_getElem? (i := 738) (by decide +kernel), List.mem_of_getElem? (i := 1120) (by decide +kernel), List.mem_of_getElem? (i := 1121) (by decide +kernel)⟩
def lw_privs_3 : List (MethodName × Nat) := [(⟨"GlassRoomModel", "fieldAt", "(IIII)J"⟩, 33), (⟨"GlassRoomModel", "lowOf", "(II)I"⟩, 33), (⟨"GlassRoomModel", "findSheet", "(I)V"⟩, 33), (⟨"GlassRoomModel", "isLow", "(I)Z"⟩, 33), (⟨"GlassRoomModel", "nearest", "(II)I"⟩, 33), (⟨"GlassRoomModel", "whyNot", "(III)I"⟩, 33), (⟨"GlassRoomModel", "findLines", "(II)V"⟩, 33), (⟨"GlassRoomModel", "isHigh", "(III)Z"⟩, 33), (⟨"GlassRoomModel", "goThrough", "(III)V"⟩, 33), (⟨"GlassRoomModel", "link", "(II)V"⟩, 33), (⟨"GlassRoomModel", "ofLine", "(II)I"⟩, 33), (⟨"GlassRoomModel", "findDrift", "(I)Z"⟩, 33), (⟨"GlassRoomModel", "tryHour", "(I)V"⟩, 33)]
theorem lw_r3 : ∀ q ∈ lw_privs_3, lw_okq q := List.forall_mem_cons.mpr ⟨lw_p32, List.forall_mem_cons.mpr ⟨lw_p33, List.forall_mem_cons.mpr ⟨lw_p34, List.forall_mem_cons.mpr ⟨lw_p35, List.forall_mem_cons.mpr ⟨lw_p36, List.forall_mem_cons.mpr ⟨lw_p37, List.forall_mem_cons.mpr ⟨lw_p38, List.forall_mem_cons.mpr ⟨lw_p39, List.forall_mem_cons.mpr ⟨lw_p40, List.forall_mem_cons.mpr ⟨lw_p41, List.forall_mem_cons.mpr ⟨lw_p42, List.forall_mem_cons.mpr ⟨lw_p43, List.forall_mem_cons.mpr ⟨lw_p44, fun _ h => absurd h List.not_mem_nil⟩⟩⟩⟩⟩⟩⟩⟩⟩⟩⟩⟩⟩
def lw_privs : List (MethodName × Nat) := lw_privs_1 ++ (lw_privs_2 ++ (lw_privs_3))
def lw_tbl : List Cond := k2_sels lw_privs ++ tables_1
theorem lw_privs_ok : ∀ q ∈ lw_privs, lw_okq q := by
  show ∀ q ∈ lw_privs_1 ++ (lw_privs_2 ++ (lw_privs_3)), lw_okq q
  exact List.forall_mem_append.mpr ⟨lw_r1, List.forall_mem_append.mpr ⟨lw_r2, lw_r3⟩⟩
end
section
def RX0 : String := "GlassRoom$Chart"
def TX0 : u_T := fun k => match k with
  | 0 => ("GlassRoom$Chart", "stations", "[LGlassRoom$Station;", true)
  | 1 => ("GlassRoom$Chart", "count", "I", false)
  | 2 => ("GlassRoom$Chart", "levels", "[I", true)
  | 3 => ("GlassRoom$Chart", "fields", "[I", true)
  | 4 => ("GlassRoom$Chart", "lows", "[I", true)
  | _ => ("GlassRoom$Chart", "lowCount", "I", false)
def tyX0 : Nat → FieldType := fun k => match k with
  | 0 => .array (.object "GlassRoom$Station")
  | 1 => .int
  | 2 => .array .int
  | 3 => .array .int
  | 4 => .array .int
  | _ => .int
abbrev wsX00 : List Cond := u_ws RX0 TX0 6
theorem nmX0 : ∀ a, a < 6 → ∀ b, b < 6 → a ≠ b → (TX0 a).2.1 ≠ (TX0 b).2.1 := by decide +kernel
theorem tyX0_ok : ∀ k, k < 6 → parseFieldDescriptor (TX0 k).2.2.1 = some (tyX0 k) := by decide +kernel
abbrev cX0_init : ByteArray := prog_2_method_1_code
def yX0_init : MethodName := ⟨RX0, "<init>", "()V"⟩
abbrev cX0_isFull : ByteArray := prog_2_method_2_code
def yX0_isFull : MethodName := ⟨RX0, "isFull", "()Z"⟩
abbrev cX0_stationCount : ByteArray := prog_2_method_3_code
def yX0_stationCount : MethodName := ⟨RX0, "stationCount", "()I"⟩
abbrev cX0_find : ByteArray := prog_2_method_4_code
def yX0_find : MethodName := ⟨RX0, "find", "(I)LGlassRoom$Station;"⟩
abbrev cX0_isTaken : ByteArray := prog_2_method_5_code
def yX0_isTaken : MethodName := ⟨RX0, "isTaken", "(II)Z"⟩
abbrev cX0_add : ByteArray := prog_2_method_6_code
def yX0_add : MethodName := ⟨RX0, "add", "(IIILGlassRoom$Glass;)I"⟩
abbrev cX0_countReadings : ByteArray := prog_2_method_7_code
def yX0_countReadings : MethodName := ⟨RX0, "countReadings", "()I"⟩
abbrev cX0_countMendings : ByteArray := prog_2_method_8_code
def yX0_countMendings : MethodName := ⟨RX0, "countMendings", "()I"⟩
abbrev cX0_readLevels : ByteArray := prog_2_method_9_code
def yX0_readLevels : MethodName := ⟨RX0, "readLevels", "(I)Z"⟩
abbrev cX0_readHour : ByteArray := prog_2_method_10_code
def yX0_readHour : MethodName := ⟨RX0, "readHour", "(I)Z"⟩
abbrev cX0_fieldAt : ByteArray := prog_2_method_11_code
def yX0_fieldAt : MethodName := ⟨RX0, "fieldAt", "(III)I"⟩
abbrev cX0_excess : ByteArray := prog_2_method_12_code
def yX0_excess : MethodName := ⟨RX0, "excess", "(I)I"⟩
abbrev cX0_fieldOf : ByteArray := prog_2_method_13_code
def yX0_fieldOf : MethodName := ⟨RX0, "fieldOf", "(I)I"⟩
abbrev cX0_isLow : ByteArray := prog_2_method_14_code
def yX0_isLow : MethodName := ⟨RX0, "isLow", "(I)Z"⟩
abbrev cX0_lowCount : ByteArray := prog_2_method_15_code
def yX0_lowCount : MethodName := ⟨RX0, "lowCount", "()I"⟩
abbrev cX0_lowPoint : ByteArray := prog_2_method_16_code
def yX0_lowPoint : MethodName := ⟨RX0, "lowPoint", "(I)I"⟩
abbrev cX0_lowNear : ByteArray := prog_2_method_17_code
def yX0_lowNear : MethodName := ⟨RX0, "lowNear", "(I)I"⟩
def RX1 : String := "GlassRoom$Column"
def TX1 : u_T := fun k => match k with
  | _ => ("", "", "", false)
def tyX1 : Nat → FieldType := fun k => match k with
  | _ => .int
abbrev wsX10 : List Cond := u_ws RX1 TX1 0
theorem nmX1 : ∀ a, a < 0 → ∀ b, b < 0 → a ≠ b → (TX1 a).2.1 ≠ (TX1 b).2.1 := by decide +kernel
theorem tyX1_ok : ∀ k, k < 0 → parseFieldDescriptor (TX1 k).2.2.1 = some (tyX1 k) := by decide +kernel
abbrev cX1_holds : ByteArray := prog_3_method_2_code
def yX1_holds : MethodName := ⟨RX1, "holds", "(I)Z"⟩
abbrev cX1_held : ByteArray := prog_3_method_3_code
def yX1_held : MethodName := ⟨RX1, "held", "(J)I"⟩
abbrev cX1_climb : ByteArray := prog_3_method_4_code
def yX1_climb : MethodName := ⟨RX1, "climb", "(III)J"⟩
abbrev cX1_reduced : ByteArray := prog_3_method_5_code
def yX1_reduced : MethodName := ⟨RX1, "reduced", "(III)I"⟩
abbrev cX1_sumNeeded : ByteArray := prog_3_method_6_code
def yX1_sumNeeded : MethodName := ⟨RX1, "sumNeeded", "(JI)I"⟩
abbrev cX1_sumTo : ByteArray := prog_3_method_7_code
def yX1_sumTo : MethodName := ⟨RX1, "sumTo", "(I)I"⟩
abbrev cX1_leastReaching : ByteArray := prog_3_method_8_code
def yX1_leastReaching : MethodName := ⟨RX1, "leastReaching", "(I)I"⟩
def RX2 : String := "GlassRoom$Contours"
def TX2 : u_T := fun k => match k with
  | 0 => ("GlassRoom$Contours", "high", "[Z", true)
  | 1 => ("GlassRoom$Contours", "towardsLeast", "[I", true)
  | 2 => ("GlassRoom$Contours", "sizes", "[I", true)
  | 3 => ("GlassRoom$Contours", "greatest", "[I", true)
  | 4 => ("GlassRoom$Contours", "round", "[Z", true)
  | 5 => ("GlassRoom$Contours", "leasts", "[I", true)
  | 6 => ("GlassRoom$Contours", "lineCount", "I", false)
  | 7 => ("GlassRoom$Contours", "roundCount", "I", false)
  | 8 => ("GlassRoom$Contours", "sideCount", "I", false)
  | _ => ("GlassRoom$Contours", "highCount", "I", false)
def tyX2 : Nat → FieldType := fun k => match k with
  | 0 => .array .boolean
  | 1 => .array .int
  | 2 => .array .int
  | 3 => .array .int
  | 4 => .array .boolean
  | 5 => .array .int
  | 6 => .int
  | 7 => .int
  | 8 => .int
  | _ => .int
abbrev wsX20 : List Cond := u_ws RX2 TX2 10
theorem nmX2 : ∀ a, a < 10 → ∀ b, b < 10 → a ≠ b → (TX2 a).2.1 ≠ (TX2 b).2.1 := by decide +kernel
theorem tyX2_ok : ∀ k, k < 10 → parseFieldDescriptor (TX2 k).2.2.1 = some (tyX2 k) := by decide +kernel
abbrev cX2_init : ByteArray := prog_4_method_1_code
def yX2_init : MethodName := ⟨RX2, "<init>", "()V"⟩
abbrev cX2_drawAt : ByteArray := prog_4_method_2_code
def yX2_drawAt : MethodName := ⟨RX2, "drawAt", "(LGlassRoom$Chart;I)V"⟩
abbrev cX2_sumOfAll : ByteArray := prog_4_method_3_code
def yX2_sumOfAll : MethodName := ⟨RX2, "sumOfAll", "(I)I"⟩
abbrev cX2_hasLine : ByteArray := prog_4_method_4_code
def yX2_hasLine : MethodName := ⟨RX2, "hasLine", "(I)Z"⟩
abbrev cX2_ofLine : ByteArray := prog_4_method_5_code
def yX2_ofLine : MethodName := ⟨RX2, "ofLine", "(II)I"⟩
abbrev cX2_markPoints : ByteArray := prog_4_method_6_code
def yX2_markPoints : MethodName := ⟨RX2, "markPoints", "(LGlassRoom$Chart;I)V"⟩
abbrev cX2_cutSides : ByteArray := prog_4_method_7_code
def yX2_cutSides : MethodName := ⟨RX2, "cutSides", "()V"⟩
abbrev cX2_crossSquare : ByteArray := prog_4_method_8_code
def yX2_crossSquare : MethodName := ⟨RX2, "crossSquare", "(LGlassRoom$Chart;III)V"⟩
abbrev cX2_isCut : ByteArray := prog_4_method_9_code
def yX2_isCut : MethodName := ⟨RX2, "isCut", "(I)Z"⟩
abbrev cX2_join : ByteArray := prog_4_method_10_code
def yX2_join : MethodName := ⟨RX2, "join", "(II)V"⟩
abbrev cX2_leastOf : ByteArray := prog_4_method_11_code
def yX2_leastOf : MethodName := ⟨RX2, "leastOf", "(I)I"⟩
abbrev cX2_gatherLines : ByteArray := prog_4_method_12_code
def yX2_gatherLines : MethodName := ⟨RX2, "gatherLines", "()V"⟩
abbrev cX2_addToLine : ByteArray := prog_4_method_13_code
def yX2_addToLine : MethodName := ⟨RX2, "addToLine", "(II)V"⟩
abbrev cX2_isAtBorder : ByteArray := prog_4_method_14_code
def yX2_isAtBorder : MethodName := ⟨RX2, "isAtBorder", "(I)Z"⟩
def RX3 : String := "GlassRoom$DriftFinder"
def TX3 : u_T := fun k => match k with
  | 0 => ("GlassRoom$DriftFinder", "hours", "[I", true)
  | 1 => ("GlassRoom$DriftFinder", "excesses", "[I", true)
  | 2 => ("GlassRoom$DriftFinder", "count", "I", false)
  | 3 => ("GlassRoom$DriftFinder", "hour", "I", false)
  | 4 => ("GlassRoom$DriftFinder", "top", "J", false)
  | _ => ("GlassRoom$DriftFinder", "bottom", "J", false)
def tyX3 : Nat → FieldType := fun k => match k with
  | 0 => .array .int
  | 1 => .array .int
  | 2 => .int
  | 3 => .int
  | 4 => .long
  | _ => .long
abbrev wsX30 : List Cond := u_ws RX3 TX3 6
theorem nmX3 : ∀ a, a < 6 → ∀ b, b < 6 → a ≠ b → (TX3 a).2.1 ≠ (TX3 b).2.1 := by decide +kernel
theorem tyX3_ok : ∀ k, k < 6 → parseFieldDescriptor (TX3 k).2.2.1 = some (tyX3 k) := by decide +kernel
abbrev cX3_init : ByteArray := prog_5_method_1_code
def yX3_init : MethodName := ⟨RX3, "<init>", "()V"⟩
abbrev cX3_hour : ByteArray := prog_5_method_2_code
def yX3_hour : MethodName := ⟨RX3, "hour", "()I"⟩
abbrev cX3_top : ByteArray := prog_5_method_3_code
def yX3_top : MethodName := ⟨RX3, "top", "()J"⟩
abbrev cX3_bottom : ByteArray := prog_5_method_4_code
def yX3_bottom : MethodName := ⟨RX3, "bottom", "()J"⟩
abbrev cX3_compare : ByteArray := prog_5_method_5_code
def yX3_compare : MethodName := ⟨RX3, "compare", "(LGlassRoom$Chart;I)V"⟩
abbrev cX3_search : ByteArray := prog_5_method_6_code
def yX3_search : MethodName := ⟨RX3, "search", "()Z"⟩
abbrev cX3_take : ByteArray := prog_5_method_7_code
def yX3_take : MethodName := ⟨RX3, "take", "(ZIJJ)V"⟩
def RX4 : String := "GlassRoom$Glass"
def TX4 : u_T := fun k => match k with
  | 0 => ("GlassRoom$Glass", "numbers", "[I", true)
  | 1 => ("GlassRoom$Glass", "airTop", "J", false)
  | _ => ("GlassRoom$Glass", "airBottom", "J", false)
def tyX4 : Nat → FieldType := fun k => match k with
  | 0 => .array .int
  | 1 => .long
  | _ => .long
abbrev wsX40 : List Cond := u_ws RX4 TX4 3
theorem nmX4 : ∀ a, a < 3 → ∀ b, b < 3 → a ≠ b → (TX4 a).2.1 ≠ (TX4 b).2.1 := by decide +kernel
theorem tyX4_ok : ∀ k, k < 3 → parseFieldDescriptor (TX4 k).2.2.1 = some (tyX4 k) := by decide +kernel
abbrev cX4_init : ByteArray := prog_6_method_1_code
def yX4_init : MethodName := ⟨RX4, "<init>", "()V"⟩
abbrev cX4_hasNumber : ByteArray := prog_6_method_2_code
def yX4_hasNumber : MethodName := ⟨RX4, "hasNumber", "(I)Z"⟩
abbrev cX4_allows : ByteArray := prog_6_method_3_code
def yX4_allows : MethodName := ⟨RX4, "allows", "(II)Z"⟩
abbrev cX4_number : ByteArray := prog_6_method_4_code
def yX4_number : MethodName := ⟨RX4, "number", "(I)I"⟩
abbrev cX4_putNumber : ByteArray := prog_6_method_5_code
def yX4_putNumber : MethodName := ⟨RX4, "putNumber", "(II)V"⟩
abbrev cX4_findAir : ByteArray := prog_6_method_6_code
def yX4_findAir : MethodName := ⟨RX4, "findAir", "(IIII)I"⟩
abbrev cX4_airPart : ByteArray := prog_6_method_7_code
def yX4_airPart : MethodName := ⟨RX4, "airPart", "(I)J"⟩
abbrev cX4_corrected : ByteArray := prog_6_method_8_code
def yX4_corrected : MethodName := ⟨RX4, "corrected", "(II)J"⟩
def RX5 : String := "GlassRoom$Station"
def TX5 : u_T := fun k => match k with
  | 0 => ("GlassRoom$Station", "x", "I", true)
  | 1 => ("GlassRoom$Station", "y", "I", true)
  | 2 => ("GlassRoom$Station", "height", "I", true)
  | 3 => ("GlassRoom$Station", "glass", "LGlassRoom$Glass;", true)
  | 4 => ("GlassRoom$Station", "readings", "[I", true)
  | 5 => ("GlassRoom$Station", "warmths", "[I", true)
  | 6 => ("GlassRoom$Station", "mendHours", "[I", true)
  | 7 => ("GlassRoom$Station", "mendSizes", "[J", true)
  | _ => ("GlassRoom$Station", "mendCount", "I", false)
def tyX5 : Nat → FieldType := fun k => match k with
  | 0 => .int
  | 1 => .int
  | 2 => .int
  | 3 => .object "GlassRoom$Glass"
  | 4 => .array .int
  | 5 => .array .int
  | 6 => .array .int
  | 7 => .array .long
  | _ => .int
abbrev wsX50 : List Cond := u_ws RX5 TX5 9
theorem nmX5 : ∀ a, a < 9 → ∀ b, b < 9 → a ≠ b → (TX5 a).2.1 ≠ (TX5 b).2.1 := by decide +kernel
theorem tyX5_ok : ∀ k, k < 9 → parseFieldDescriptor (TX5 k).2.2.1 = some (tyX5 k) := by decide +kernel
abbrev cX5_init : ByteArray := prog_7_method_1_code
def yX5_init : MethodName := ⟨RX5, "<init>", "(IIILGlassRoom$Glass;)V"⟩
abbrev cX5_isAt : ByteArray := prog_7_method_2_code
def yX5_isAt : MethodName := ⟨RX5, "isAt", "(II)Z"⟩
abbrev cX5_hasReading : ByteArray := prog_7_method_3_code
def yX5_hasReading : MethodName := ⟨RX5, "hasReading", "(I)Z"⟩
abbrev cX5_putReading : ByteArray := prog_7_method_4_code
def yX5_putReading : MethodName := ⟨RX5, "putReading", "(III)V"⟩
abbrev cX5_clearReading : ByteArray := prog_7_method_5_code
def yX5_clearReading : MethodName := ⟨RX5, "clearReading", "(I)V"⟩
abbrev cX5_countReadings : ByteArray := prog_7_method_6_code
def yX5_countReadings : MethodName := ⟨RX5, "countReadings", "()I"⟩
abbrev cX5_warmth : ByteArray := prog_7_method_7_code
def yX5_warmth : MethodName := ⟨RX5, "warmth", "(I)I"⟩
abbrev cX5_mendings : ByteArray := prog_7_method_8_code
def yX5_mendings : MethodName := ⟨RX5, "mendings", "()I"⟩
abbrev cX5_addMending : ByteArray := prog_7_method_9_code
def yX5_addMending : MethodName := ⟨RX5, "addMending", "(IJ)V"⟩
abbrev cX5_toldOf : ByteArray := prog_7_method_10_code
def yX5_toldOf : MethodName := ⟨RX5, "toldOf", "(II)J"⟩
abbrev cX5_mended : ByteArray := prog_7_method_11_code
def yX5_mended : MethodName := ⟨RX5, "mended", "(I)J"⟩
abbrev cX5_levelAt : ByteArray := prog_7_method_12_code
def yX5_levelAt : MethodName := ⟨RX5, "levelAt", "(I)I"⟩
def RX6 : String := "GlassRoom$Survey"
def TX6 : u_T := fun k => match k with
  | 0 => ("GlassRoom$Survey", "benchCount", "I", false)
  | 1 => ("GlassRoom$Survey", "count", "I", false)
  | 2 => ("GlassRoom$Survey", "froms", "[I", true)
  | 3 => ("GlassRoom$Survey", "tos", "[I", true)
  | 4 => ("GlassRoom$Survey", "ups", "[I", true)
  | 5 => ("GlassRoom$Survey", "weights", "[I", true)
  | 6 => ("GlassRoom$Survey", "rows", "[[J", true)
  | 7 => ("GlassRoom$Survey", "tops", "[J", true)
  | 8 => ("GlassRoom$Survey", "bottom", "J", false)
  | _ => ("GlassRoom$Survey", "solved", "Z", false)
def tyX6 : Nat → FieldType := fun k => match k with
  | 0 => .int
  | 1 => .int
  | 2 => .array .int
  | 3 => .array .int
  | 4 => .array .int
  | 5 => .array .int
  | 6 => .array (.array .long)
  | 7 => .array .long
  | 8 => .long
  | _ => .boolean
abbrev wsX60 : List Cond := u_ws RX6 TX6 10
theorem nmX6 : ∀ a, a < 10 → ∀ b, b < 10 → a ≠ b → (TX6 a).2.1 ≠ (TX6 b).2.1 := by decide +kernel
theorem tyX6_ok : ∀ k, k < 10 → parseFieldDescriptor (TX6 k).2.2.1 = some (tyX6 k) := by decide +kernel
abbrev cX6_init : ByteArray := prog_8_method_1_code
def yX6_init : MethodName := ⟨RX6, "<init>", "()V"⟩
abbrev cX6_benchCount : ByteArray := prog_8_method_2_code
def yX6_benchCount : MethodName := ⟨RX6, "benchCount", "()I"⟩
abbrev cX6_count : ByteArray := prog_8_method_3_code
def yX6_count : MethodName := ⟨RX6, "count", "()I"⟩
abbrev cX6_hasBench : ByteArray := prog_8_method_4_code
def yX6_hasBench : MethodName := ⟨RX6, "hasBench", "(I)Z"⟩
abbrev cX6_hasDifference : ByteArray := prog_8_method_5_code
def yX6_hasDifference : MethodName := ⟨RX6, "hasDifference", "(I)Z"⟩
abbrev cX6_startAnew : ByteArray := prog_8_method_6_code
def yX6_startAnew : MethodName := ⟨RX6, "startAnew", "(I)V"⟩
abbrev cX6_add : ByteArray := prog_8_method_7_code
def yX6_add : MethodName := ⟨RX6, "add", "(IIII)I"⟩
abbrev cX6_removeLatest : ByteArray := prog_8_method_8_code
def yX6_removeLatest : MethodName := ⟨RX6, "removeLatest", "()I"⟩
abbrev cX6_joins : ByteArray := prog_8_method_9_code
def yX6_joins : MethodName := ⟨RX6, "joins", "(II)Z"⟩
abbrev cX6_firstUp : ByteArray := prog_8_method_10_code
def yX6_firstUp : MethodName := ⟨RX6, "firstUp", "(II)J"⟩
abbrev cX6_firstBetween : ByteArray := prog_8_method_11_code
def yX6_firstBetween : MethodName := ⟨RX6, "firstBetween", "(II)I"⟩
abbrev cX6_heightTop : ByteArray := prog_8_method_12_code
def yX6_heightTop : MethodName := ⟨RX6, "heightTop", "(I)J"⟩
abbrev cX6_misfitTop : ByteArray := prog_8_method_13_code
def yX6_misfitTop : MethodName := ⟨RX6, "misfitTop", "(I)J"⟩
abbrev cX6_bottom : ByteArray := prog_8_method_14_code
def yX6_bottom : MethodName := ⟨RX6, "bottom", "()J"⟩
abbrev cX6_greatestMisfit : ByteArray := prog_8_method_15_code
def yX6_greatestMisfit : MethodName := ⟨RX6, "greatestMisfit", "()I"⟩
abbrev cX6_solve : ByteArray := prog_8_method_16_code
def yX6_solve : MethodName := ⟨RX6, "solve", "()Z"⟩
abbrev cX6_fillRows : ByteArray := prog_8_method_17_code
def yX6_fillRows : MethodName := ⟨RX6, "fillRows", "(I)V"⟩
abbrev cX6_addToRow : ByteArray := prog_8_method_18_code
def yX6_addToRow : MethodName := ⟨RX6, "addToRow", "(IIIJ)V"⟩
abbrev cX6_determinant : ByteArray := prog_8_method_19_code
def yX6_determinant : MethodName := ⟨RX6, "determinant", "([[JIIII)J"⟩
def RX7 : String := "GlassRoom"
def TX7 : u_T := fun k => match k with
  | 0 => ("GlassRoom", "glasses", "[LGlassRoom$Glass;", true)
  | 1 => ("GlassRoom", "chart", "LGlassRoom$Chart;", true)
  | 2 => ("GlassRoom", "contours", "LGlassRoom$Contours;", true)
  | 3 => ("GlassRoom", "survey", "LGlassRoom$Survey;", true)
  | _ => ("GlassRoom", "drifts", "LGlassRoom$DriftFinder;", true)
def tyX7 : Nat → FieldType := fun k => match k with
  | 0 => .array (.object "GlassRoom$Glass")
  | 1 => .object "GlassRoom$Chart"
  | 2 => .object "GlassRoom$Contours"
  | 3 => .object "GlassRoom$Survey"
  | _ => .object "GlassRoom$DriftFinder"
abbrev wsX70 : List Cond := u_ws RX7 TX7 5
theorem nmX7 : ∀ a, a < 5 → ∀ b, b < 5 → a ≠ b → (TX7 a).2.1 ≠ (TX7 b).2.1 := by decide +kernel
theorem tyX7_ok : ∀ k, k < 5 → parseFieldDescriptor (TX7 k).2.2.1 = some (tyX7 k) := by decide +kernel
abbrev cX7_init : ByteArray := prog_1_method_1_code
def yX7_init : MethodName := ⟨RX7, "<init>", "()V"⟩
abbrev cX7_set : ByteArray := prog_1_method_2_code
def yX7_set : MethodName := ⟨RX7, "set", "(III)I"⟩
abbrev cX7_glass : ByteArray := prog_1_method_3_code
def yX7_glass : MethodName := ⟨RX7, "glass", "(II)I"⟩
abbrev cX7_seal : ByteArray := prog_1_method_4_code
def yX7_seal : MethodName := ⟨RX7, "seal", "(IIIII)I"⟩
abbrev cX7_air : ByteArray := prog_1_method_5_code
def yX7_air : MethodName := ⟨RX7, "air", "(II)J"⟩
abbrev cX7_right : ByteArray := prog_1_method_6_code
def yX7_right : MethodName := ⟨RX7, "right", "(III)J"⟩
abbrev cX7_station : ByteArray := prog_1_method_7_code
def yX7_station : MethodName := ⟨RX7, "station", "(IIII)I"⟩
abbrev cX7_tell : ByteArray := prog_1_method_8_code
def yX7_tell : MethodName := ⟨RX7, "tell", "(IIII)I"⟩
abbrev cX7_gap : ByteArray := prog_1_method_9_code
def yX7_gap : MethodName := ⟨RX7, "gap", "(II)I"⟩
abbrev cX7_reading : ByteArray := prog_1_method_10_code
def yX7_reading : MethodName := ⟨RX7, "reading", "(III)J"⟩
abbrev cX7_rise : ByteArray := prog_1_method_11_code
def yX7_rise : MethodName := ⟨RX7, "rise", "(III)J"⟩
abbrev cX7_between : ByteArray := prog_1_method_12_code
def yX7_between : MethodName := ⟨RX7, "between", "(III)J"⟩
abbrev cX7_benches : ByteArray := prog_1_method_13_code
def yX7_benches : MethodName := ⟨RX7, "benches", "(I)I"⟩
abbrev cX7_difference : ByteArray := prog_1_method_14_code
def yX7_difference : MethodName := ⟨RX7, "difference", "(IIII)I"⟩
abbrev cX7_drop : ByteArray := prog_1_method_15_code
def yX7_drop : MethodName := ⟨RX7, "drop", "()I"⟩
abbrev cX7_height : ByteArray := prog_1_method_16_code
def yX7_height : MethodName := ⟨RX7, "height", "(II)J"⟩
abbrev cX7_off : ByteArray := prog_1_method_17_code
def yX7_off : MethodName := ⟨RX7, "off", "(II)J"⟩
abbrev cX7_worst : ByteArray := prog_1_method_18_code
def yX7_worst : MethodName := ⟨RX7, "worst", "()I"⟩
abbrev cX7_closing : ByteArray := prog_1_method_19_code
def yX7_closing : MethodName := ⟨RX7, "closing", "(III)J"⟩
abbrev cX7_field : ByteArray := prog_1_method_20_code
def yX7_field : MethodName := ⟨RX7, "field", "(III)J"⟩
abbrev cX7_low : ByteArray := prog_1_method_21_code
def yX7_low : MethodName := ⟨RX7, "low", "(II)I"⟩
abbrev cX7_follow : ByteArray := prog_1_method_22_code
def yX7_follow : MethodName := ⟨RX7, "follow", "(III)I"⟩
abbrev cX7_lines : ByteArray := prog_1_method_23_code
def yX7_lines : MethodName := ⟨RX7, "lines", "(III)I"⟩
abbrev cX7_line : ByteArray := prog_1_method_24_code
def yX7_line : MethodName := ⟨RX7, "line", "(IIII)I"⟩
abbrev cX7_drift : ByteArray := prog_1_method_25_code
def yX7_drift : MethodName := ⟨RX7, "drift", "(II)J"⟩
abbrev cX7_mend : ByteArray := prog_1_method_26_code
def yX7_mend : MethodName := ⟨RX7, "mend", "(I)J"⟩
abbrev cX7_told : ByteArray := prog_1_method_27_code
def yX7_told : MethodName := ⟨RX7, "told", "(I)I"⟩
abbrev cX7_findGlass : ByteArray := prog_1_method_28_code
def yX7_findGlass : MethodName := ⟨RX7, "findGlass", "(I)LGlassRoom$Glass;"⟩
abbrev cX7_isWithin : ByteArray := prog_1_method_29_code
def yX7_isWithin : MethodName := ⟨RX7, "isWithin", "(III)Z"⟩
abbrev cX7_isReading : ByteArray := prog_1_method_30_code
def yX7_isReading : MethodName := ⟨RX7, "isReading", "(I)Z"⟩
abbrev cX7_isRoom : ByteArray := prog_1_method_31_code
def yX7_isRoom : MethodName := ⟨RX7, "isRoom", "(I)Z"⟩
abbrev cX7_isWarmth : ByteArray := prog_1_method_32_code
def yX7_isWarmth : MethodName := ⟨RX7, "isWarmth", "(I)Z"⟩
abbrev cX7_isHour : ByteArray := prog_1_method_33_code
def yX7_isHour : MethodName := ⟨RX7, "isHour", "(I)Z"⟩
abbrev cX7_isOnMap : ByteArray := prog_1_method_34_code
def yX7_isOnMap : MethodName := ⟨RX7, "isOnMap", "(I)Z"⟩
abbrev cX7_isPart : ByteArray := prog_1_method_35_code
def yX7_isPart : MethodName := ⟨RX7, "isPart", "(I)Z"⟩
abbrev cX7_cut : ByteArray := prog_1_method_36_code
def yX7_cut : MethodName := ⟨RX7, "cut", "(JJ)J"⟩
abbrev cX7_fractionPart : ByteArray := prog_1_method_37_code
def yX7_fractionPart : MethodName := ⟨RX7, "fractionPart", "(JJI)J"⟩
abbrev cX7_commonMeasure : ByteArray := prog_1_method_38_code
def yX7_commonMeasure : MethodName := ⟨RX7, "commonMeasure", "(JJ)J"⟩
abbrev cX7_squareBetween : ByteArray := prog_1_method_39_code
def yX7_squareBetween : MethodName := ⟨RX7, "squareBetween", "(IIII)I"⟩
def RX8 : String := "GlassRoomModel"
def TX8 : u_T := fun k => match k with
  | 0 => ("GlassRoomModel", "steps", "[I", true)
  | 1 => ("GlassRoomModel", "numbers", "[I", true)
  | 2 => ("GlassRoomModel", "airUpper", "[J", true)
  | 3 => ("GlassRoomModel", "airLower", "[J", true)
  | 4 => ("GlassRoomModel", "placeX", "[I", true)
  | 5 => ("GlassRoomModel", "placeY", "[I", true)
  | 6 => ("GlassRoomModel", "heights", "[I", true)
  | 7 => ("GlassRoomModel", "glassOf", "[I", true)
  | 8 => ("GlassRoomModel", "stations", "I", false)
  | 9 => ("GlassRoomModel", "readings", "[I", true)
  | 10 => ("GlassRoomModel", "warmths", "[I", true)
  | 11 => ("GlassRoomModel", "mendHour", "[I", true)
  | 12 => ("GlassRoomModel", "mendBy", "[J", true)
  | 13 => ("GlassRoomModel", "mendMany", "[I", true)
  | 14 => ("GlassRoomModel", "benches", "I", false)
  | 15 => ("GlassRoomModel", "from", "[I", true)
  | 16 => ("GlassRoomModel", "to", "[I", true)
  | 17 => ("GlassRoomModel", "up", "[I", true)
  | 18 => ("GlassRoomModel", "weights", "[I", true)
  | 19 => ("GlassRoomModel", "differences", "I", false)
  | 20 => ("GlassRoomModel", "square", "[J", true)
  | 21 => ("GlassRoomModel", "wide", "I", false)
  | 22 => ("GlassRoomModel", "highUpper", "[J", true)
  | 23 => ("GlassRoomModel", "highLower", "J", false)
  | 24 => ("GlassRoomModel", "levels", "[I", true)
  | 25 => ("GlassRoomModel", "sheet", "[J", true)
  | 26 => ("GlassRoomModel", "group", "[I", true)
  | 27 => ("GlassRoomModel", "links", "[I", true)
  | 28 => ("GlassRoomModel", "driftHour", "I", false)
  | 29 => ("GlassRoomModel", "driftUpper", "J", false)
  | 30 => ("GlassRoomModel", "driftLower", "J", false)
  | 31 => ("GlassRoomModel", "misses", "[J", true)
  | _ => ("GlassRoomModel", "hasMiss", "[Z", true)
def tyX8 : Nat → FieldType := fun k => match k with
  | 0 => .array .int
  | 1 => .array .int
  | 2 => .array .long
  | 3 => .array .long
  | 4 => .array .int
  | 5 => .array .int
  | 6 => .array .int
  | 7 => .array .int
  | 8 => .int
  | 9 => .array .int
  | 10 => .array .int
  | 11 => .array .int
  | 12 => .array .long
  | 13 => .array .int
  | 14 => .int
  | 15 => .array .int
  | 16 => .array .int
  | 17 => .array .int
  | 18 => .array .int
  | 19 => .int
  | 20 => .array .long
  | 21 => .int
  | 22 => .array .long
  | 23 => .long
  | 24 => .array .int
  | 25 => .array .long
  | 26 => .array .int
  | 27 => .array .int
  | 28 => .int
  | 29 => .long
  | 30 => .long
  | 31 => .array .long
  | _ => .array .boolean
abbrev wsX80 : List Cond := u_ws RX8 TX8 33
theorem nmX8 : ∀ a, a < 33 → ∀ b, b < 33 → a ≠ b → (TX8 a).2.1 ≠ (TX8 b).2.1 := by decide +kernel
theorem tyX8_ok : ∀ k, k < 33 → parseFieldDescriptor (TX8 k).2.2.1 = some (tyX8 k) := by decide +kernel
abbrev cX8_init : ByteArray := prog_10_method_1_code
def yX8_init : MethodName := ⟨RX8, "<init>", "()V"⟩
abbrev cX8_in : ByteArray := prog_10_method_3_code
def yX8_in : MethodName := ⟨RX8, "in", "(JJJ)Z"⟩
abbrev cX8_size : ByteArray := prog_10_method_4_code
def yX8_size : MethodName := ⟨RX8, "size", "(J)J"⟩
abbrev cX8_common : ByteArray := prog_10_method_5_code
def yX8_common : MethodName := ⟨RX8, "common", "(JJ)J"⟩
abbrev cX8_lowest : ByteArray := prog_10_method_6_code
def yX8_lowest : MethodName := ⟨RX8, "lowest", "(JJI)J"⟩
abbrev cX8_isGlass : ByteArray := prog_10_method_7_code
def yX8_isGlass : MethodName := ⟨RX8, "isGlass", "(I)Z"⟩
abbrev cX8_mayBe : ByteArray := prog_10_method_8_code
def yX8_mayBe : MethodName := ⟨RX8, "mayBe", "(II)Z"⟩
abbrev cX8_set : ByteArray := prog_10_method_9_code
def yX8_set : MethodName := ⟨RX8, "set", "(III)I"⟩
abbrev cX8_glass : ByteArray := prog_10_method_10_code
def yX8_glass : MethodName := ⟨RX8, "glass", "(II)I"⟩
abbrev cX8_seal : ByteArray := prog_10_method_11_code
def yX8_seal : MethodName := ⟨RX8, "seal", "(IIIII)I"⟩
abbrev cX8_air : ByteArray := prog_10_method_12_code
def yX8_air : MethodName := ⟨RX8, "air", "(II)J"⟩
abbrev cX8_dropOf : ByteArray := prog_10_method_13_code
def yX8_dropOf : MethodName := ⟨RX8, "dropOf", "(I)I"⟩
abbrev cX8_rightOf : ByteArray := prog_10_method_14_code
def yX8_rightOf : MethodName := ⟨RX8, "rightOf", "(III)J"⟩
abbrev cX8_isReading : ByteArray := prog_10_method_15_code
def yX8_isReading : MethodName := ⟨RX8, "isReading", "(II)Z"⟩
abbrev cX8_right : ByteArray := prog_10_method_16_code
def yX8_right : MethodName := ⟨RX8, "right", "(III)J"⟩
abbrev cX8_isStation : ByteArray := prog_10_method_17_code
def yX8_isStation : MethodName := ⟨RX8, "isStation", "(I)Z"⟩
abbrev cX8_isHour : ByteArray := prog_10_method_18_code
def yX8_isHour : MethodName := ⟨RX8, "isHour", "(I)Z"⟩
abbrev cX8_isPoint : ByteArray := prog_10_method_19_code
def yX8_isPoint : MethodName := ⟨RX8, "isPoint", "(II)Z"⟩
abbrev cX8_station : ByteArray := prog_10_method_20_code
def yX8_station : MethodName := ⟨RX8, "station", "(IIII)I"⟩
abbrev cX8_has : ByteArray := prog_10_method_21_code
def yX8_has : MethodName := ⟨RX8, "has", "(II)Z"⟩
abbrev cX8_tell : ByteArray := prog_10_method_22_code
def yX8_tell : MethodName := ⟨RX8, "tell", "(IIII)I"⟩
abbrev cX8_gap : ByteArray := prog_10_method_23_code
def yX8_gap : MethodName := ⟨RX8, "gap", "(II)I"⟩
abbrev cX8_rightAt : ByteArray := prog_10_method_24_code
def yX8_rightAt : MethodName := ⟨RX8, "rightAt", "(II)J"⟩
abbrev cX8_mendedAt : ByteArray := prog_10_method_25_code
def yX8_mendedAt : MethodName := ⟨RX8, "mendedAt", "(II)J"⟩
abbrev cX8_heldAt : ByteArray := prog_10_method_26_code
def yX8_heldAt : MethodName := ⟨RX8, "heldAt", "(II)I"⟩
abbrev cX8_riseOf : ByteArray := prog_10_method_27_code
def yX8_riseOf : MethodName := ⟨RX8, "riseOf", "(III)J"⟩
abbrev cX8_levelAt : ByteArray := prog_10_method_28_code
def yX8_levelAt : MethodName := ⟨RX8, "levelAt", "(II)I"⟩
abbrev cX8_reading : ByteArray := prog_10_method_29_code
def yX8_reading : MethodName := ⟨RX8, "reading", "(III)J"⟩
abbrev cX8_rise : ByteArray := prog_10_method_30_code
def yX8_rise : MethodName := ⟨RX8, "rise", "(III)J"⟩
abbrev cX8_between : ByteArray := prog_10_method_31_code
def yX8_between : MethodName := ⟨RX8, "between", "(III)J"⟩
abbrev cX8_isBench : ByteArray := prog_10_method_32_code
def yX8_isBench : MethodName := ⟨RX8, "isBench", "(I)Z"⟩
abbrev cX8_benches : ByteArray := prog_10_method_33_code
def yX8_benches : MethodName := ⟨RX8, "benches", "(I)I"⟩
abbrev cX8_difference : ByteArray := prog_10_method_34_code
def yX8_difference : MethodName := ⟨RX8, "difference", "(IIII)I"⟩
abbrev cX8_drop : ByteArray := prog_10_method_35_code
def yX8_drop : MethodName := ⟨RX8, "drop", "()I"⟩
abbrev cX8_areJoined : ByteArray := prog_10_method_36_code
def yX8_areJoined : MethodName := ⟨RX8, "areJoined", "()Z"⟩
abbrev cX8_determinant : ByteArray := prog_10_method_37_code
def yX8_determinant : MethodName := ⟨RX8, "determinant", "()J"⟩
abbrev cX8_laySquare : ByteArray := prog_10_method_38_code
def yX8_laySquare : MethodName := ⟨RX8, "laySquare", "(I)V"⟩
abbrev cX8_addTo : ByteArray := prog_10_method_39_code
def yX8_addTo : MethodName := ⟨RX8, "addTo", "(IIII)V"⟩
abbrev cX8_findHeights : ByteArray := prog_10_method_40_code
def yX8_findHeights : MethodName := ⟨RX8, "findHeights", "()Z"⟩
abbrev cX8_height : ByteArray := prog_10_method_41_code
def yX8_height : MethodName := ⟨RX8, "height", "(II)J"⟩
abbrev cX8_offUpper : ByteArray := prog_10_method_42_code
def yX8_offUpper : MethodName := ⟨RX8, "offUpper", "(I)J"⟩
abbrev cX8_off : ByteArray := prog_10_method_43_code
def yX8_off : MethodName := ⟨RX8, "off", "(II)J"⟩
abbrev cX8_worst : ByteArray := prog_10_method_44_code
def yX8_worst : MethodName := ⟨RX8, "worst", "()I"⟩
abbrev cX8_firstOf : ByteArray := prog_10_method_45_code
def yX8_firstOf : MethodName := ⟨RX8, "firstOf", "(II)I"⟩
abbrev cX8_closing : ByteArray := prog_10_method_46_code
def yX8_closing : MethodName := ⟨RX8, "closing", "(III)J"⟩
abbrev cX8_hasAny : ByteArray := prog_10_method_47_code
def yX8_hasAny : MethodName := ⟨RX8, "hasAny", "(II)Z"⟩
abbrev cX8_findLevels : ByteArray := prog_10_method_48_code
def yX8_findLevels : MethodName := ⟨RX8, "findLevels", "(I)V"⟩
abbrev cX8_fieldAt : ByteArray := prog_10_method_49_code
def yX8_fieldAt : MethodName := ⟨RX8, "fieldAt", "(IIII)J"⟩
abbrev cX8_field : ByteArray := prog_10_method_50_code
def yX8_field : MethodName := ⟨RX8, "field", "(III)J"⟩
abbrev cX8_findSheet : ByteArray := prog_10_method_51_code
def yX8_findSheet : MethodName := ⟨RX8, "findSheet", "(I)V"⟩
abbrev cX8_isLow : ByteArray := prog_10_method_52_code
def yX8_isLow : MethodName := ⟨RX8, "isLow", "(I)Z"⟩
abbrev cX8_lowOf : ByteArray := prog_10_method_53_code
def yX8_lowOf : MethodName := ⟨RX8, "lowOf", "(II)I"⟩
abbrev cX8_low : ByteArray := prog_10_method_54_code
def yX8_low : MethodName := ⟨RX8, "low", "(II)I"⟩
abbrev cX8_nearest : ByteArray := prog_10_method_55_code
def yX8_nearest : MethodName := ⟨RX8, "nearest", "(II)I"⟩
abbrev cX8_follow : ByteArray := prog_10_method_56_code
def yX8_follow : MethodName := ⟨RX8, "follow", "(III)I"⟩
abbrev cX8_isHigh : ByteArray := prog_10_method_57_code
def yX8_isHigh : MethodName := ⟨RX8, "isHigh", "(III)Z"⟩
abbrev cX8_link : ByteArray := prog_10_method_58_code
def yX8_link : MethodName := ⟨RX8, "link", "(II)V"⟩
abbrev cX8_goThrough : ByteArray := prog_10_method_59_code
def yX8_goThrough : MethodName := ⟨RX8, "goThrough", "(III)V"⟩
abbrev cX8_findLines : ByteArray := prog_10_method_60_code
def yX8_findLines : MethodName := ⟨RX8, "findLines", "(II)V"⟩
abbrev cX8_ofLine : ByteArray := prog_10_method_61_code
def yX8_ofLine : MethodName := ⟨RX8, "ofLine", "(II)I"⟩
abbrev cX8_whyNot : ByteArray := prog_10_method_62_code
def yX8_whyNot : MethodName := ⟨RX8, "whyNot", "(III)I"⟩
abbrev cX8_lines : ByteArray := prog_10_method_63_code
def yX8_lines : MethodName := ⟨RX8, "lines", "(III)I"⟩
abbrev cX8_line : ByteArray := prog_10_method_64_code
def yX8_line : MethodName := ⟨RX8, "line", "(IIII)I"⟩
abbrev cX8_findDrift : ByteArray := prog_10_method_65_code
def yX8_findDrift : MethodName := ⟨RX8, "findDrift", "(I)Z"⟩
abbrev cX8_tryHour : ByteArray := prog_10_method_66_code
def yX8_tryHour : MethodName := ⟨RX8, "tryHour", "(I)V"⟩
abbrev cX8_drift : ByteArray := prog_10_method_67_code
def yX8_drift : MethodName := ⟨RX8, "drift", "(II)J"⟩
abbrev cX8_mend : ByteArray := prog_10_method_68_code
def yX8_mend : MethodName := ⟨RX8, "mend", "(I)J"⟩
abbrev cX8_told : ByteArray := prog_10_method_69_code
def yX8_told : MethodName := ⟨RX8, "told", "(I)I"⟩
def RL : String := "GlassRoomLaw"
abbrev cL_law : ByteArray := code
def yL_law : MethodName := ⟨RL, "law", "([I)Z"⟩
abbrev vwCl : List vw_C := [(RX0, TX0, 6), (RX2, TX2, 10), (RX3, TX3, 6), (RX4, TX4, 3), (RX5, TX5, 9), (RX6, TX6, 10), (RX7, TX7, 5), (RX8, TX8, 33)]
end
section
theorem dX0_init_0 : decode cX0_init 0 = .ok (.aload_n 0, 1) := by decide +kernel
theorem dX0_init_1 : decode cX0_init 1 = .ok (.invokespecial 3, 3) := by decide +kernel
theorem dX0_init_4 : decode cX0_init 4 = .ok (.aload_n 0, 1) := by decide +kernel
theorem dX0_init_5 : decode cX0_init 5 = .ok (.bipush 8, 2) := by decide +kernel
theorem dX0_init_7 : decode cX0_init 7 = .ok (.anewarray 11, 3) := by decide +kernel
theorem dX0_init_10 : decode cX0_init 10 = .ok (.putfield 13, 3) := by decide +kernel
theorem dX0_init_13 : decode cX0_init 13 = .ok (.aload_n 0, 1) := by decide +kernel
theorem dX0_init_14 : decode cX0_init 14 = .ok (.iconst 0, 1) := by decide +kernel
theorem dX0_init_15 : decode cX0_init 15 = .ok (.putfield 17, 3) := by decide +kernel
theorem dX0_init_18 : decode cX0_init 18 = .ok (.aload_n 0, 1) := by decide +kernel
theorem dX0_init_19 : decode cX0_init 19 = .ok (.bipush 8, 2) := by decide +kernel
theorem dX0_init_21 : decode cX0_init 21 = .ok (.newarray .int, 2) := by decide +kernel
theorem dX0_init_23 : decode cX0_init 23 = .ok (.putfield 21, 3) := by decide +kernel
theorem dX0_init_26 : decode cX0_init 26 = .ok (.aload_n 0, 1) := by decide +kernel
theorem dX0_init_27 : decode cX0_init 27 = .ok (.bipush 64, 2) := by decide +kernel
theorem dX0_init_29 : decode cX0_init 29 = .ok (.newarray .int, 2) := by decide +kernel
theorem dX0_init_31 : decode cX0_init 31 = .ok (.putfield 25, 3) := by decide +kernel
theorem dX0_init_34 : decode cX0_init 34 = .ok (.aload_n 0, 1) := by decide +kernel
theorem dX0_init_35 : decode cX0_init 35 = .ok (.bipush 64, 2) := by decide +kernel
theorem dX0_init_37 : decode cX0_init 37 = .ok (.newarray .int, 2) := by decide +kernel
theorem dX0_init_39 : decode cX0_init 39 = .ok (.putfield 28, 3) := by decide +kernel
theorem dX0_init_42 : decode cX0_init 42 = .ok (.aload_n 0, 1) := by decide +kernel
theorem dX0_init_43 : decode cX0_init 43 = .ok (.iconst 0, 1) := by decide +kernel
theorem dX0_init_44 : decode cX0_init 44 = .ok (.putfield 31, 3) := by decide +kernel
theorem dX0_init_47 : decode cX0_init 47 = .ok (.return_, 1) := by decide +kernel
theorem dX0_isFull_0 : decode cX0_isFull 0 = .ok (.aload_n 0, 1) := by decide +kernel
theorem dX0_isFull_1 : decode cX0_isFull 1 = .ok (.getfield 17, 3) := by decide +kernel
theorem dX0_isFull_4 : decode cX0_isFull 4 = .ok (.bipush 8, 2) := by decide +kernel
theorem dX0_isFull_6 : decode cX0_isFull 6 = .ok (.if_icmp .lt 7, 3) := by decide +kernel
theorem dX0_isFull_9 : decode cX0_isFull 9 = .ok (.iconst 1, 1) := by decide +kernel
theorem dX0_isFull_10 : decode cX0_isFull 10 = .ok (.goto 4, 3) := by decide +kernel
theorem dX0_isFull_13 : decode cX0_isFull 13 = .ok (.iconst 0, 1) := by decide +kernel
theorem dX0_isFull_14 : decode cX0_isFull 14 = .ok (.ireturn, 1) := by decide +kernel
theorem dX0_stationCount_0 : decode cX0_stationCount 0 = .ok (.aload_n 0, 1) := by decide +kernel
theorem dX0_stationCount_1 : decode cX0_stationCount 1 = .ok (.getfield 17, 3) := by decide +kernel
theorem dX0_stationCount_4 : decode cX0_stationCount 4 = .ok (.ireturn, 1) := by decide +kernel
theorem dX0_find_0 : decode cX0_find 0 = .ok (.iload_n 1, 1) := by decide +kernel
theorem dX0_find_1 : decode cX0_find 1 = .ok (.iconst 0, 1) := by decide +kernel
theorem dX0_find_2 : decode cX0_find 2 = .ok (.aload_n 0, 1) := by decide +kernel
theorem dX0_find_3 : decode cX0_find 3 = .ok (.getfield 17, 3) := by decide +kernel
theorem dX0_find_6 : decode cX0_find 6 = .ok (.iconst 1, 1) := by decide +kernel
theorem dX0_find_7 : decode cX0_find 7 = .ok (.isub, 1) := by decide +kernel
theorem dX0_find_8 : decode cX0_find 8 = .ok (.invokestatic 34, 3) := by decide +kernel
theorem dX0_find_11 : decode cX0_find 11 = .ok (.ifCond .eq 12, 3) := by decide +kernel
theorem dX0_find_14 : decode cX0_find 14 = .ok (.aload_n 0, 1) := by decide +kernel
theorem dX0_find_15 : decode cX0_find 15 = .ok (.getfield 13, 3) := by decide +kernel
theorem dX0_find_18 : decode cX0_find 18 = .ok (.iload_n 1, 1) := by decide +kernel
theorem dX0_find_19 : decode cX0_find 19 = .ok (.aaload, 1) := by decide +kernel
theorem dX0_find_20 : decode cX0_find 20 = .ok (.goto 4, 3) := by decide +kernel
theorem dX0_find_23 : decode cX0_find 23 = .ok (.aconst_null, 1) := by decide +kernel
theorem dX0_find_24 : decode cX0_find 24 = .ok (.areturn, 1) := by decide +kernel
theorem dX0_isTaken_0 : decode cX0_isTaken 0 = .ok (.iconst 0, 1) := by decide +kernel
theorem dX0_isTaken_1 : decode cX0_isTaken 1 = .ok (.istore_n 3, 1) := by decide +kernel
theorem dX0_isTaken_2 : decode cX0_isTaken 2 = .ok (.iload_n 3, 1) := by decide +kernel
theorem dX0_isTaken_3 : decode cX0_isTaken 3 = .ok (.aload_n 0, 1) := by decide +kernel
theorem dX0_isTaken_4 : decode cX0_isTaken 4 = .ok (.getfield 17, 3) := by decide +kernel
theorem dX0_isTaken_7 : decode cX0_isTaken 7 = .ok (.if_icmp .ge 33, 3) := by decide +kernel
theorem dX0_isTaken_10 : decode cX0_isTaken 10 = .ok (.aload_n 0, 1) := by decide +kernel
theorem dX0_isTaken_11 : decode cX0_isTaken 11 = .ok (.iload_n 3, 1) := by decide +kernel
theorem dX0_isTaken_12 : decode cX0_isTaken 12 = .ok (.invokevirtual 38, 3) := by decide +kernel
theorem dX0_isTaken_15 : decode cX0_isTaken 15 = .ok (.astore 4, 2) := by decide +kernel
theorem dX0_isTaken_17 : decode cX0_isTaken 17 = .ok (.aload 4, 2) := by decide +kernel
theorem dX0_isTaken_19 : decode cX0_isTaken 19 = .ok (.ifnull 15, 3) := by decide +kernel
theorem dX0_isTaken_22 : decode cX0_isTaken 22 = .ok (.aload 4, 2) := by decide +kernel
theorem dX0_isTaken_24 : decode cX0_isTaken 24 = .ok (.iload_n 1, 1) := by decide +kernel
theorem dX0_isTaken_25 : decode cX0_isTaken 25 = .ok (.iload_n 2, 1) := by decide +kernel
theorem dX0_isTaken_26 : decode cX0_isTaken 26 = .ok (.invokevirtual 42, 3) := by decide +kernel
theorem dX0_isTaken_29 : decode cX0_isTaken 29 = .ok (.ifCond .eq 5, 3) := by decide +kernel
theorem dX0_isTaken_32 : decode cX0_isTaken 32 = .ok (.iconst 1, 1) := by decide +kernel
theorem dX0_isTaken_33 : decode cX0_isTaken 33 = .ok (.ireturn, 1) := by decide +kernel
theorem dX0_isTaken_34 : decode cX0_isTaken 34 = .ok (.iinc 3 1, 3) := by decide +kernel
theorem dX0_isTaken_37 : decode cX0_isTaken 37 = .ok (.goto (-35), 3) := by decide +kernel
theorem dX0_isTaken_40 : decode cX0_isTaken 40 = .ok (.iconst 0, 1) := by decide +kernel
theorem dX0_isTaken_41 : decode cX0_isTaken 41 = .ok (.ireturn, 1) := by decide +kernel
theorem dX0_add_0 : decode cX0_add 0 = .ok (.aload_n 0, 1) := by decide +kernel
theorem dX0_add_1 : decode cX0_add 1 = .ok (.invokevirtual 46, 3) := by decide +kernel
theorem dX0_add_4 : decode cX0_add 4 = .ok (.ifCond .eq 6, 3) := by decide +kernel
theorem dX0_add_7 : decode cX0_add 7 = .ok (.bipush (-4), 2) := by decide +kernel
theorem dX0_add_9 : decode cX0_add 9 = .ok (.ireturn, 1) := by decide +kernel
theorem dX0_add_10 : decode cX0_add 10 = .ok (.aload_n 0, 1) := by decide +kernel
theorem dX0_add_11 : decode cX0_add 11 = .ok (.getfield 13, 3) := by decide +kernel
theorem dX0_add_14 : decode cX0_add 14 = .ok (.aload_n 0, 1) := by decide +kernel
theorem dX0_add_15 : decode cX0_add 15 = .ok (.getfield 17, 3) := by decide +kernel
theorem dX0_add_18 : decode cX0_add 18 = .ok (.new 11, 3) := by decide +kernel
theorem dX0_add_21 : decode cX0_add 21 = .ok (.dup, 1) := by decide +kernel
theorem dX0_add_22 : decode cX0_add 22 = .ok (.iload_n 1, 1) := by decide +kernel
theorem dX0_add_23 : decode cX0_add 23 = .ok (.iload_n 2, 1) := by decide +kernel
theorem dX0_add_24 : decode cX0_add 24 = .ok (.iload_n 3, 1) := by decide +kernel
theorem dX0_add_25 : decode cX0_add 25 = .ok (.aload 4, 2) := by decide +kernel
theorem dX0_add_27 : decode cX0_add 27 = .ok (.invokespecial 50, 3) := by decide +kernel
theorem dX0_add_30 : decode cX0_add 30 = .ok (.aastore, 1) := by decide +kernel
theorem dX0_add_31 : decode cX0_add 31 = .ok (.aload_n 0, 1) := by decide +kernel
theorem dX0_add_32 : decode cX0_add 32 = .ok (.dup, 1) := by decide +kernel
theorem dX0_add_33 : decode cX0_add 33 = .ok (.getfield 17, 3) := by decide +kernel
theorem dX0_add_36 : decode cX0_add 36 = .ok (.dup_x1, 1) := by decide +kernel
theorem dX0_add_37 : decode cX0_add 37 = .ok (.iconst 1, 1) := by decide +kernel
theorem dX0_add_38 : decode cX0_add 38 = .ok (.iadd, 1) := by decide +kernel
theorem dX0_add_39 : decode cX0_add 39 = .ok (.putfield 17, 3) := by decide +kernel
theorem dX0_add_42 : decode cX0_add 42 = .ok (.ireturn, 1) := by decide +kernel
theorem dX0_countReadings_0 : decode cX0_countReadings 0 = .ok (.iconst 0, 1) := by decide +kernel
theorem dX0_countReadings_1 : decode cX0_countReadings 1 = .ok (.istore_n 1, 1) := by decide +kernel
theorem dX0_countReadings_2 : decode cX0_countReadings 2 = .ok (.iconst 0, 1) := by decide +kernel
theorem dX0_countReadings_3 : decode cX0_countReadings 3 = .ok (.istore_n 2, 1) := by decide +kernel
theorem dX0_countReadings_4 : decode cX0_countReadings 4 = .ok (.iload_n 2, 1) := by decide +kernel
theorem dX0_countReadings_5 : decode cX0_countReadings 5 = .ok (.aload_n 0, 1) := by decide +kernel
theorem dX0_countReadings_6 : decode cX0_countReadings 6 = .ok (.getfield 17, 3) := by decide +kernel
theorem dX0_countReadings_9 : decode cX0_countReadings 9 = .ok (.if_icmp .ge 30, 3) := by decide +kernel
theorem dX0_countReadings_12 : decode cX0_countReadings 12 = .ok (.aload_n 0, 1) := by decide +kernel
theorem dX0_countReadings_13 : decode cX0_countReadings 13 = .ok (.iload_n 2, 1) := by decide +kernel
theorem dX0_countReadings_14 : decode cX0_countReadings 14 = .ok (.invokevirtual 38, 3) := by decide +kernel
theorem dX0_countReadings_17 : decode cX0_countReadings 17 = .ok (.astore_n 3, 1) := by decide +kernel
theorem dX0_countReadings_18 : decode cX0_countReadings 18 = .ok (.iload_n 1, 1) := by decide +kernel
theorem dX0_countReadings_19 : decode cX0_countReadings 19 = .ok (.aload_n 3, 1) := by decide +kernel
theorem dX0_countReadings_20 : decode cX0_countReadings 20 = .ok (.ifnonnull 7, 3) := by decide +kernel
theorem dX0_countReadings_23 : decode cX0_countReadings 23 = .ok (.iconst 0, 1) := by decide +kernel
theorem dX0_countReadings_24 : decode cX0_countReadings 24 = .ok (.goto 7, 3) := by decide +kernel
theorem dX0_countReadings_27 : decode cX0_countReadings 27 = .ok (.aload_n 3, 1) := by decide +kernel
theorem dX0_countReadings_28 : decode cX0_countReadings 28 = .ok (.invokevirtual 53, 3) := by decide +kernel
theorem dX0_countReadings_31 : decode cX0_countReadings 31 = .ok (.iadd, 1) := by decide +kernel
theorem dX0_countReadings_32 : decode cX0_countReadings 32 = .ok (.istore_n 1, 1) := by decide +kernel
theorem dX0_countReadings_33 : decode cX0_countReadings 33 = .ok (.iinc 2 1, 3) := by decide +kernel
theorem dX0_countReadings_36 : decode cX0_countReadings 36 = .ok (.goto (-32), 3) := by decide +kernel
theorem dX0_countReadings_39 : decode cX0_countReadings 39 = .ok (.iload_n 1, 1) := by decide +kernel
theorem dX0_countReadings_40 : decode cX0_countReadings 40 = .ok (.ireturn, 1) := by decide +kernel
theorem dX0_countMendings_0 : decode cX0_countMendings 0 = .ok (.iconst 0, 1) := by decide +kernel
theorem dX0_countMendings_1 : decode cX0_countMendings 1 = .ok (.istore_n 1, 1) := by decide +kernel
theorem dX0_countMendings_2 : decode cX0_countMendings 2 = .ok (.iconst 0, 1) := by decide +kernel
theorem dX0_countMendings_3 : decode cX0_countMendings 3 = .ok (.istore_n 2, 1) := by decide +kernel
theorem dX0_countMendings_4 : decode cX0_countMendings 4 = .ok (.iload_n 2, 1) := by decide +kernel
theorem dX0_countMendings_5 : decode cX0_countMendings 5 = .ok (.aload_n 0, 1) := by decide +kernel
theorem dX0_countMendings_6 : decode cX0_countMendings 6 = .ok (.getfield 17, 3) := by decide +kernel
theorem dX0_countMendings_9 : decode cX0_countMendings 9 = .ok (.if_icmp .ge 30, 3) := by decide +kernel
theorem dX0_countMendings_12 : decode cX0_countMendings 12 = .ok (.aload_n 0, 1) := by decide +kernel
theorem dX0_countMendings_13 : decode cX0_countMendings 13 = .ok (.iload_n 2, 1) := by decide +kernel
theorem dX0_countMendings_14 : decode cX0_countMendings 14 = .ok (.invokevirtual 38, 3) := by decide +kernel
theorem dX0_countMendings_17 : decode cX0_countMendings 17 = .ok (.astore_n 3, 1) := by decide +kernel
theorem dX0_countMendings_18 : decode cX0_countMendings 18 = .ok (.iload_n 1, 1) := by decide +kernel
theorem dX0_countMendings_19 : decode cX0_countMendings 19 = .ok (.aload_n 3, 1) := by decide +kernel
theorem dX0_countMendings_20 : decode cX0_countMendings 20 = .ok (.ifnonnull 7, 3) := by decide +kernel
theorem dX0_countMendings_23 : decode cX0_countMendings 23 = .ok (.iconst 0, 1) := by decide +kernel
theorem dX0_countMendings_24 : decode cX0_countMendings 24 = .ok (.goto 7, 3) := by decide +kernel
theorem dX0_countMendings_27 : decode cX0_countMendings 27 = .ok (.aload_n 3, 1) := by decide +kernel
theorem dX0_countMendings_28 : decode cX0_countMendings 28 = .ok (.invokevirtual 57, 3) := by decide +kernel
theorem dX0_countMendings_31 : decode cX0_countMendings 31 = .ok (.iadd, 1) := by decide +kernel
theorem dX0_countMendings_32 : decode cX0_countMendings 32 = .ok (.istore_n 1, 1) := by decide +kernel
theorem dX0_countMendings_33 : decode cX0_countMendings 33 = .ok (.iinc 2 1, 3) := by decide +kernel
theorem dX0_countMendings_36 : decode cX0_countMendings 36 = .ok (.goto (-32), 3) := by decide +kernel
theorem dX0_countMendings_39 : decode cX0_countMendings 39 = .ok (.iload_n 1, 1) := by decide +kernel
theorem dX0_countMendings_40 : decode cX0_countMendings 40 = .ok (.ireturn, 1) := by decide +kernel
theorem dX0_readLevels_0 : decode cX0_readLevels 0 = .ok (.iconst 0, 1) := by decide +kernel
theorem dX0_readLevels_1 : decode cX0_readLevels 1 = .ok (.istore_n 2, 1) := by decide +kernel
theorem dX0_readLevels_2 : decode cX0_readLevels 2 = .ok (.iconst 0, 1) := by decide +kernel
theorem dX0_readLevels_3 : decode cX0_readLevels 3 = .ok (.istore_n 3, 1) := by decide +kernel
theorem dX0_readLevels_4 : decode cX0_readLevels 4 = .ok (.iload_n 3, 1) := by decide +kernel
theorem dX0_readLevels_5 : decode cX0_readLevels 5 = .ok (.aload_n 0, 1) := by decide +kernel
theorem dX0_readLevels_6 : decode cX0_readLevels 6 = .ok (.getfield 17, 3) := by decide +kernel
theorem dX0_readLevels_9 : decode cX0_readLevels 9 = .ok (.if_icmp .ge 65, 3) := by decide +kernel
theorem dX0_readLevels_12 : decode cX0_readLevels 12 = .ok (.aload_n 0, 1) := by decide +kernel
theorem dX0_readLevels_13 : decode cX0_readLevels 13 = .ok (.iload_n 3, 1) := by decide +kernel
theorem dX0_readLevels_14 : decode cX0_readLevels 14 = .ok (.invokevirtual 38, 3) := by decide +kernel
theorem dX0_readLevels_17 : decode cX0_readLevels 17 = .ok (.astore 4, 2) := by decide +kernel
theorem dX0_readLevels_19 : decode cX0_readLevels 19 = .ok (.aload_n 0, 1) := by decide +kernel
theorem dX0_readLevels_20 : decode cX0_readLevels 20 = .ok (.getfield 21, 3) := by decide +kernel
theorem dX0_readLevels_23 : decode cX0_readLevels 23 = .ok (.iload_n 3, 1) := by decide +kernel
theorem dX0_readLevels_24 : decode cX0_readLevels 24 = .ok (.aload 4, 2) := by decide +kernel
theorem dX0_readLevels_26 : decode cX0_readLevels 26 = .ok (.ifnull 21, 3) := by decide +kernel
theorem dX0_readLevels_29 : decode cX0_readLevels 29 = .ok (.aload 4, 2) := by decide +kernel
theorem dX0_readLevels_31 : decode cX0_readLevels 31 = .ok (.iload_n 1, 1) := by decide +kernel
theorem dX0_readLevels_32 : decode cX0_readLevels 32 = .ok (.invokevirtual 60, 3) := by decide +kernel
theorem dX0_readLevels_35 : decode cX0_readLevels 35 = .ok (.ifCond .eq 12, 3) := by decide +kernel
theorem dX0_readLevels_38 : decode cX0_readLevels 38 = .ok (.aload 4, 2) := by decide +kernel
theorem dX0_readLevels_40 : decode cX0_readLevels 40 = .ok (.iload_n 1, 1) := by decide +kernel
theorem dX0_readLevels_41 : decode cX0_readLevels 41 = .ok (.invokevirtual 64, 3) := by decide +kernel
theorem dX0_readLevels_44 : decode cX0_readLevels 44 = .ok (.goto 4, 3) := by decide +kernel
theorem dX0_readLevels_47 : decode cX0_readLevels 47 = .ok (.iconst 0, 1) := by decide +kernel
theorem dX0_readLevels_48 : decode cX0_readLevels 48 = .ok (.iastore, 1) := by decide +kernel
theorem dX0_readLevels_49 : decode cX0_readLevels 49 = .ok (.iload_n 2, 1) := by decide +kernel
theorem dX0_readLevels_50 : decode cX0_readLevels 50 = .ok (.ifCond .ne 12, 3) := by decide +kernel
theorem dX0_readLevels_53 : decode cX0_readLevels 53 = .ok (.aload_n 0, 1) := by decide +kernel
theorem dX0_readLevels_54 : decode cX0_readLevels 54 = .ok (.getfield 21, 3) := by decide +kernel
theorem dX0_readLevels_57 : decode cX0_readLevels 57 = .ok (.iload_n 3, 1) := by decide +kernel
theorem dX0_readLevels_58 : decode cX0_readLevels 58 = .ok (.iaload, 1) := by decide +kernel
theorem dX0_readLevels_59 : decode cX0_readLevels 59 = .ok (.ifCond .eq 7, 3) := by decide +kernel
theorem dX0_readLevels_62 : decode cX0_readLevels 62 = .ok (.iconst 1, 1) := by decide +kernel
theorem dX0_readLevels_63 : decode cX0_readLevels 63 = .ok (.goto 4, 3) := by decide +kernel
theorem dX0_readLevels_66 : decode cX0_readLevels 66 = .ok (.iconst 0, 1) := by decide +kernel
theorem dX0_readLevels_67 : decode cX0_readLevels 67 = .ok (.istore_n 2, 1) := by decide +kernel
theorem dX0_readLevels_68 : decode cX0_readLevels 68 = .ok (.iinc 3 1, 3) := by decide +kernel
theorem dX0_readLevels_71 : decode cX0_readLevels 71 = .ok (.goto (-67), 3) := by decide +kernel
theorem dX0_readLevels_74 : decode cX0_readLevels 74 = .ok (.iload_n 2, 1) := by decide +kernel
theorem dX0_readLevels_75 : decode cX0_readLevels 75 = .ok (.ireturn, 1) := by decide +kernel
theorem dX0_readHour_0 : decode cX0_readHour 0 = .ok (.aload_n 0, 1) := by decide +kernel
theorem dX0_readHour_1 : decode cX0_readHour 1 = .ok (.iconst 0, 1) := by decide +kernel
theorem dX0_readHour_2 : decode cX0_readHour 2 = .ok (.putfield 31, 3) := by decide +kernel
theorem dX0_readHour_5 : decode cX0_readHour 5 = .ok (.aload_n 0, 1) := by decide +kernel
theorem dX0_readHour_6 : decode cX0_readHour 6 = .ok (.iload_n 1, 1) := by decide +kernel
theorem dX0_readHour_7 : decode cX0_readHour 7 = .ok (.invokevirtual 68, 3) := by decide +kernel
theorem dX0_readHour_10 : decode cX0_readHour 10 = .ok (.ifCond .ne 5, 3) := by decide +kernel
theorem dX0_readHour_13 : decode cX0_readHour 13 = .ok (.iconst 0, 1) := by decide +kernel
theorem dX0_readHour_14 : decode cX0_readHour 14 = .ok (.ireturn, 1) := by decide +kernel
theorem dX0_readHour_15 : decode cX0_readHour 15 = .ok (.iconst 0, 1) := by decide +kernel
theorem dX0_readHour_16 : decode cX0_readHour 16 = .ok (.istore_n 2, 1) := by decide +kernel
theorem dX0_readHour_17 : decode cX0_readHour 17 = .ok (.iload_n 2, 1) := by decide +kernel
theorem dX0_readHour_18 : decode cX0_readHour 18 = .ok (.aload_n 0, 1) := by decide +kernel
theorem dX0_readHour_19 : decode cX0_readHour 19 = .ok (.getfield 25, 3) := by decide +kernel
theorem dX0_readHour_22 : decode cX0_readHour 22 = .ok (.arraylength, 1) := by decide +kernel
theorem dX0_readHour_23 : decode cX0_readHour 23 = .ok (.if_icmp .ge 29, 3) := by decide +kernel
theorem dX0_readHour_26 : decode cX0_readHour 26 = .ok (.aload_n 0, 1) := by decide +kernel
theorem dX0_readHour_27 : decode cX0_readHour 27 = .ok (.getfield 25, 3) := by decide +kernel
theorem dX0_readHour_30 : decode cX0_readHour 30 = .ok (.iload_n 2, 1) := by decide +kernel
theorem dX0_readHour_31 : decode cX0_readHour 31 = .ok (.aload_n 0, 1) := by decide +kernel
theorem dX0_readHour_32 : decode cX0_readHour 32 = .ok (.iload_n 2, 1) := by decide +kernel
theorem dX0_readHour_33 : decode cX0_readHour 33 = .ok (.bipush 8, 2) := by decide +kernel
theorem dX0_readHour_35 : decode cX0_readHour 35 = .ok (.irem, 1) := by decide +kernel
theorem dX0_readHour_36 : decode cX0_readHour 36 = .ok (.iload_n 2, 1) := by decide +kernel
theorem dX0_readHour_37 : decode cX0_readHour 37 = .ok (.bipush 8, 2) := by decide +kernel
theorem dX0_readHour_39 : decode cX0_readHour 39 = .ok (.idiv, 1) := by decide +kernel
theorem dX0_readHour_40 : decode cX0_readHour 40 = .ok (.bipush (-6), 2) := by decide +kernel
theorem dX0_readHour_42 : decode cX0_readHour 42 = .ok (.invokevirtual 71, 3) := by decide +kernel
theorem dX0_readHour_45 : decode cX0_readHour 45 = .ok (.iastore, 1) := by decide +kernel
theorem dX0_readHour_46 : decode cX0_readHour 46 = .ok (.iinc 2 1, 3) := by decide +kernel
theorem dX0_readHour_49 : decode cX0_readHour 49 = .ok (.goto (-32), 3) := by decide +kernel
theorem dX0_readHour_52 : decode cX0_readHour 52 = .ok (.iconst 0, 1) := by decide +kernel
theorem dX0_readHour_53 : decode cX0_readHour 53 = .ok (.istore_n 2, 1) := by decide +kernel
theorem dX0_readHour_54 : decode cX0_readHour 54 = .ok (.iload_n 2, 1) := by decide +kernel
theorem dX0_readHour_55 : decode cX0_readHour 55 = .ok (.aload_n 0, 1) := by decide +kernel
theorem dX0_readHour_56 : decode cX0_readHour 56 = .ok (.getfield 25, 3) := by decide +kernel
theorem dX0_readHour_59 : decode cX0_readHour 59 = .ok (.arraylength, 1) := by decide +kernel
theorem dX0_readHour_60 : decode cX0_readHour 60 = .ok (.if_icmp .ge 34, 3) := by decide +kernel
theorem dX0_readHour_63 : decode cX0_readHour 63 = .ok (.aload_n 0, 1) := by decide +kernel
theorem dX0_readHour_64 : decode cX0_readHour 64 = .ok (.iload_n 2, 1) := by decide +kernel
theorem dX0_readHour_65 : decode cX0_readHour 65 = .ok (.invokevirtual 75, 3) := by decide +kernel
theorem dX0_readHour_68 : decode cX0_readHour 68 = .ok (.ifCond .eq 20, 3) := by decide +kernel
theorem dX0_readHour_71 : decode cX0_readHour 71 = .ok (.aload_n 0, 1) := by decide +kernel
theorem dX0_readHour_72 : decode cX0_readHour 72 = .ok (.getfield 28, 3) := by decide +kernel
theorem dX0_readHour_75 : decode cX0_readHour 75 = .ok (.aload_n 0, 1) := by decide +kernel
theorem dX0_readHour_76 : decode cX0_readHour 76 = .ok (.dup, 1) := by decide +kernel
theorem dX0_readHour_77 : decode cX0_readHour 77 = .ok (.getfield 31, 3) := by decide +kernel
theorem dX0_readHour_80 : decode cX0_readHour 80 = .ok (.dup_x1, 1) := by decide +kernel
theorem dX0_readHour_81 : decode cX0_readHour 81 = .ok (.iconst 1, 1) := by decide +kernel
theorem dX0_readHour_82 : decode cX0_readHour 82 = .ok (.iadd, 1) := by decide +kernel
theorem dX0_readHour_83 : decode cX0_readHour 83 = .ok (.putfield 31, 3) := by decide +kernel
theorem dX0_readHour_86 : decode cX0_readHour 86 = .ok (.iload_n 2, 1) := by decide +kernel
theorem dX0_readHour_87 : decode cX0_readHour 87 = .ok (.iastore, 1) := by decide +kernel
theorem dX0_readHour_88 : decode cX0_readHour 88 = .ok (.iinc 2 1, 3) := by decide +kernel
theorem dX0_readHour_91 : decode cX0_readHour 91 = .ok (.goto (-37), 3) := by decide +kernel
theorem dX0_readHour_94 : decode cX0_readHour 94 = .ok (.iconst 1, 1) := by decide +kernel
theorem dX0_readHour_95 : decode cX0_readHour 95 = .ok (.ireturn, 1) := by decide +kernel
theorem dX0_fieldAt_0 : decode cX0_fieldAt 0 = .ok (.lconst 0, 1) := by decide +kernel
theorem dX0_fieldAt_1 : decode cX0_fieldAt 1 = .ok (.lstore 4, 2) := by decide +kernel
theorem dX0_fieldAt_3 : decode cX0_fieldAt 3 = .ok (.lconst 0, 1) := by decide +kernel
theorem dX0_fieldAt_4 : decode cX0_fieldAt 4 = .ok (.lstore 6, 2) := by decide +kernel
theorem dX0_fieldAt_6 : decode cX0_fieldAt 6 = .ok (.iconst 0, 1) := by decide +kernel
theorem dX0_fieldAt_7 : decode cX0_fieldAt 7 = .ok (.istore 8, 2) := by decide +kernel
theorem dX0_fieldAt_9 : decode cX0_fieldAt 9 = .ok (.iload 8, 2) := by decide +kernel
theorem dX0_fieldAt_11 : decode cX0_fieldAt 11 = .ok (.aload_n 0, 1) := by decide +kernel
theorem dX0_fieldAt_12 : decode cX0_fieldAt 12 = .ok (.getfield 17, 3) := by decide +kernel
theorem dX0_fieldAt_15 : decode cX0_fieldAt 15 = .ok (.if_icmp .ge 86, 3) := by decide +kernel
theorem dX0_fieldAt_18 : decode cX0_fieldAt 18 = .ok (.aload_n 0, 1) := by decide +kernel
theorem dX0_fieldAt_19 : decode cX0_fieldAt 19 = .ok (.iload 8, 2) := by decide +kernel
theorem dX0_fieldAt_21 : decode cX0_fieldAt 21 = .ok (.invokevirtual 38, 3) := by decide +kernel
theorem dX0_fieldAt_24 : decode cX0_fieldAt 24 = .ok (.astore 9, 2) := by decide +kernel
theorem dX0_fieldAt_26 : decode cX0_fieldAt 26 = .ok (.aload 9, 2) := by decide +kernel
theorem dX0_fieldAt_28 : decode cX0_fieldAt 28 = .ok (.ifnull 67, 3) := by decide +kernel
theorem dX0_fieldAt_31 : decode cX0_fieldAt 31 = .ok (.aload_n 0, 1) := by decide +kernel
theorem dX0_fieldAt_32 : decode cX0_fieldAt 32 = .ok (.getfield 21, 3) := by decide +kernel
theorem dX0_fieldAt_35 : decode cX0_fieldAt 35 = .ok (.iload 8, 2) := by decide +kernel
theorem dX0_fieldAt_37 : decode cX0_fieldAt 37 = .ok (.iaload, 1) := by decide +kernel
theorem dX0_fieldAt_38 : decode cX0_fieldAt 38 = .ok (.ifCond .eq 57, 3) := by decide +kernel
theorem dX0_fieldAt_41 : decode cX0_fieldAt 41 = .ok (.iload 8, 2) := by decide +kernel
theorem dX0_fieldAt_43 : decode cX0_fieldAt 43 = .ok (.iload_n 3, 1) := by decide +kernel
theorem dX0_fieldAt_44 : decode cX0_fieldAt 44 = .ok (.if_icmp .eq 51, 3) := by decide +kernel
theorem dX0_fieldAt_47 : decode cX0_fieldAt 47 = .ok (.sipush 1000, 3) := by decide +kernel
theorem dX0_fieldAt_50 : decode cX0_fieldAt 50 = .ok (.iconst 1, 1) := by decide +kernel
theorem dX0_fieldAt_51 : decode cX0_fieldAt 51 = .ok (.iload_n 1, 1) := by decide +kernel
theorem dX0_fieldAt_52 : decode cX0_fieldAt 52 = .ok (.iload_n 2, 1) := by decide +kernel
theorem dX0_fieldAt_53 : decode cX0_fieldAt 53 = .ok (.aload 9, 2) := by decide +kernel
theorem dX0_fieldAt_55 : decode cX0_fieldAt 55 = .ok (.getfield 78, 3) := by decide +kernel
theorem dX0_fieldAt_58 : decode cX0_fieldAt 58 = .ok (.aload 9, 2) := by decide +kernel
theorem dX0_fieldAt_60 : decode cX0_fieldAt 60 = .ok (.getfield 81, 3) := by decide +kernel
theorem dX0_fieldAt_63 : decode cX0_fieldAt 63 = .ok (.invokestatic 84, 3) := by decide +kernel
theorem dX0_fieldAt_66 : decode cX0_fieldAt 66 = .ok (.iadd, 1) := by decide +kernel
theorem dX0_fieldAt_67 : decode cX0_fieldAt 67 = .ok (.idiv, 1) := by decide +kernel
theorem dX0_fieldAt_68 : decode cX0_fieldAt 68 = .ok (.istore 10, 2) := by decide +kernel
theorem dX0_fieldAt_70 : decode cX0_fieldAt 70 = .ok (.lload 4, 2) := by decide +kernel
theorem dX0_fieldAt_72 : decode cX0_fieldAt 72 = .ok (.aload_n 0, 1) := by decide +kernel
theorem dX0_fieldAt_73 : decode cX0_fieldAt 73 = .ok (.getfield 21, 3) := by decide +kernel
theorem dX0_fieldAt_76 : decode cX0_fieldAt 76 = .ok (.iload 8, 2) := by decide +kernel
theorem dX0_fieldAt_78 : decode cX0_fieldAt 78 = .ok (.iaload, 1) := by decide +kernel
theorem dX0_fieldAt_79 : decode cX0_fieldAt 79 = .ok (.i2l, 1) := by decide +kernel
theorem dX0_fieldAt_80 : decode cX0_fieldAt 80 = .ok (.iload 10, 2) := by decide +kernel
theorem dX0_fieldAt_82 : decode cX0_fieldAt 82 = .ok (.i2l, 1) := by decide +kernel
theorem dX0_fieldAt_83 : decode cX0_fieldAt 83 = .ok (.lmul, 1) := by decide +kernel
theorem dX0_fieldAt_84 : decode cX0_fieldAt 84 = .ok (.ladd, 1) := by decide +kernel
theorem dX0_fieldAt_85 : decode cX0_fieldAt 85 = .ok (.lstore 4, 2) := by decide +kernel
theorem dX0_fieldAt_87 : decode cX0_fieldAt 87 = .ok (.lload 6, 2) := by decide +kernel
theorem dX0_fieldAt_89 : decode cX0_fieldAt 89 = .ok (.iload 10, 2) := by decide +kernel
theorem dX0_fieldAt_91 : decode cX0_fieldAt 91 = .ok (.i2l, 1) := by decide +kernel
theorem dX0_fieldAt_92 : decode cX0_fieldAt 92 = .ok (.ladd, 1) := by decide +kernel
theorem dX0_fieldAt_93 : decode cX0_fieldAt 93 = .ok (.lstore 6, 2) := by decide +kernel
theorem dX0_fieldAt_95 : decode cX0_fieldAt 95 = .ok (.iinc 8 1, 3) := by decide +kernel
theorem dX0_fieldAt_98 : decode cX0_fieldAt 98 = .ok (.goto (-89), 3) := by decide +kernel
theorem dX0_fieldAt_101 : decode cX0_fieldAt 101 = .ok (.lload 4, 2) := by decide +kernel
theorem dX0_fieldAt_103 : decode cX0_fieldAt 103 = .ok (.lload 6, 2) := by decide +kernel
theorem dX0_fieldAt_105 : decode cX0_fieldAt 105 = .ok (.invokestatic 88, 3) := by decide +kernel
theorem dX0_fieldAt_108 : decode cX0_fieldAt 108 = .ok (.l2i, 1) := by decide +kernel
theorem dX0_fieldAt_109 : decode cX0_fieldAt 109 = .ok (.ireturn, 1) := by decide +kernel
theorem dX0_excess_0 : decode cX0_excess 0 = .ok (.aload_n 0, 1) := by decide +kernel
theorem dX0_excess_1 : decode cX0_excess 1 = .ok (.iload_n 1, 1) := by decide +kernel
theorem dX0_excess_2 : decode cX0_excess 2 = .ok (.invokevirtual 38, 3) := by decide +kernel
theorem dX0_excess_5 : decode cX0_excess 5 = .ok (.astore_n 2, 1) := by decide +kernel
theorem dX0_excess_6 : decode cX0_excess 6 = .ok (.aload_n 2, 1) := by decide +kernel
theorem dX0_excess_7 : decode cX0_excess 7 = .ok (.ifnull 12, 3) := by decide +kernel
theorem dX0_excess_10 : decode cX0_excess 10 = .ok (.aload_n 0, 1) := by decide +kernel
theorem dX0_excess_11 : decode cX0_excess 11 = .ok (.getfield 21, 3) := by decide +kernel
theorem dX0_excess_14 : decode cX0_excess 14 = .ok (.iload_n 1, 1) := by decide +kernel
theorem dX0_excess_15 : decode cX0_excess 15 = .ok (.iaload, 1) := by decide +kernel
theorem dX0_excess_16 : decode cX0_excess 16 = .ok (.ifCond .ne 6, 3) := by decide +kernel
theorem dX0_excess_19 : decode cX0_excess 19 = .ok (.ldc 92, 2) := by decide +kernel
theorem dX0_excess_21 : decode cX0_excess 21 = .ok (.ireturn, 1) := by decide +kernel
theorem dX0_excess_22 : decode cX0_excess 22 = .ok (.aload_n 0, 1) := by decide +kernel
theorem dX0_excess_23 : decode cX0_excess 23 = .ok (.aload_n 2, 1) := by decide +kernel
theorem dX0_excess_24 : decode cX0_excess 24 = .ok (.getfield 78, 3) := by decide +kernel
theorem dX0_excess_27 : decode cX0_excess 27 = .ok (.aload_n 2, 1) := by decide +kernel
theorem dX0_excess_28 : decode cX0_excess 28 = .ok (.getfield 81, 3) := by decide +kernel
theorem dX0_excess_31 : decode cX0_excess 31 = .ok (.iload_n 1, 1) := by decide +kernel
theorem dX0_excess_32 : decode cX0_excess 32 = .ok (.invokevirtual 71, 3) := by decide +kernel
theorem dX0_excess_35 : decode cX0_excess 35 = .ok (.istore_n 3, 1) := by decide +kernel
theorem dX0_excess_36 : decode cX0_excess 36 = .ok (.iload_n 3, 1) := by decide +kernel
theorem dX0_excess_37 : decode cX0_excess 37 = .ok (.ifCond .ne 8, 3) := by decide +kernel
theorem dX0_excess_40 : decode cX0_excess 40 = .ok (.ldc 92, 2) := by decide +kernel
theorem dX0_excess_42 : decode cX0_excess 42 = .ok (.goto 11, 3) := by decide +kernel
theorem dX0_excess_45 : decode cX0_excess 45 = .ok (.aload_n 0, 1) := by decide +kernel
theorem dX0_excess_46 : decode cX0_excess 46 = .ok (.getfield 21, 3) := by decide +kernel
theorem dX0_excess_49 : decode cX0_excess 49 = .ok (.iload_n 1, 1) := by decide +kernel
theorem dX0_excess_50 : decode cX0_excess 50 = .ok (.iaload, 1) := by decide +kernel
theorem dX0_excess_51 : decode cX0_excess 51 = .ok (.iload_n 3, 1) := by decide +kernel
theorem dX0_excess_52 : decode cX0_excess 52 = .ok (.isub, 1) := by decide +kernel
theorem dX0_excess_53 : decode cX0_excess 53 = .ok (.ireturn, 1) := by decide +kernel
theorem dX0_fieldOf_0 : decode cX0_fieldOf 0 = .ok (.aload_n 0, 1) := by decide +kernel
theorem dX0_fieldOf_1 : decode cX0_fieldOf 1 = .ok (.getfield 25, 3) := by decide +kernel
theorem dX0_fieldOf_4 : decode cX0_fieldOf 4 = .ok (.iload_n 1, 1) := by decide +kernel
theorem dX0_fieldOf_5 : decode cX0_fieldOf 5 = .ok (.iaload, 1) := by decide +kernel
theorem dX0_fieldOf_6 : decode cX0_fieldOf 6 = .ok (.ireturn, 1) := by decide +kernel
theorem dX0_isLow_0 : decode cX0_isLow 0 = .ok (.iload_n 1, 1) := by decide +kernel
theorem dX0_isLow_1 : decode cX0_isLow 1 = .ok (.bipush 8, 2) := by decide +kernel
theorem dX0_isLow_3 : decode cX0_isLow 3 = .ok (.irem, 1) := by decide +kernel
theorem dX0_isLow_4 : decode cX0_isLow 4 = .ok (.istore_n 2, 1) := by decide +kernel
theorem dX0_isLow_5 : decode cX0_isLow 5 = .ok (.iload_n 1, 1) := by decide +kernel
theorem dX0_isLow_6 : decode cX0_isLow 6 = .ok (.bipush 8, 2) := by decide +kernel
theorem dX0_isLow_8 : decode cX0_isLow 8 = .ok (.idiv, 1) := by decide +kernel
theorem dX0_isLow_9 : decode cX0_isLow 9 = .ok (.istore_n 3, 1) := by decide +kernel
theorem dX0_isLow_10 : decode cX0_isLow 10 = .ok (.iconst 0, 1) := by decide +kernel
theorem dX0_isLow_11 : decode cX0_isLow 11 = .ok (.iload_n 3, 1) := by decide +kernel
theorem dX0_isLow_12 : decode cX0_isLow 12 = .ok (.iconst 1, 1) := by decide +kernel
theorem dX0_isLow_13 : decode cX0_isLow 13 = .ok (.isub, 1) := by decide +kernel
theorem dX0_isLow_14 : decode cX0_isLow 14 = .ok (.invokestatic 93, 3) := by decide +kernel
theorem dX0_isLow_17 : decode cX0_isLow 17 = .ok (.istore 4, 2) := by decide +kernel
theorem dX0_isLow_19 : decode cX0_isLow 19 = .ok (.iload 4, 2) := by decide +kernel
theorem dX0_isLow_21 : decode cX0_isLow 21 = .ok (.bipush 7, 2) := by decide +kernel
theorem dX0_isLow_23 : decode cX0_isLow 23 = .ok (.iload_n 3, 1) := by decide +kernel
theorem dX0_isLow_24 : decode cX0_isLow 24 = .ok (.iconst 1, 1) := by decide +kernel
theorem dX0_isLow_25 : decode cX0_isLow 25 = .ok (.iadd, 1) := by decide +kernel
theorem dX0_isLow_26 : decode cX0_isLow 26 = .ok (.invokestatic 99, 3) := by decide +kernel
theorem dX0_isLow_29 : decode cX0_isLow 29 = .ok (.if_icmp .gt 87, 3) := by decide +kernel
theorem dX0_isLow_32 : decode cX0_isLow 32 = .ok (.iconst 0, 1) := by decide +kernel
theorem dX0_isLow_33 : decode cX0_isLow 33 = .ok (.iload_n 2, 1) := by decide +kernel
theorem dX0_isLow_34 : decode cX0_isLow 34 = .ok (.iconst 1, 1) := by decide +kernel
theorem dX0_isLow_35 : decode cX0_isLow 35 = .ok (.isub, 1) := by decide +kernel
theorem dX0_isLow_36 : decode cX0_isLow 36 = .ok (.invokestatic 93, 3) := by decide +kernel
theorem dX0_isLow_39 : decode cX0_isLow 39 = .ok (.istore 5, 2) := by decide +kernel
theorem dX0_isLow_41 : decode cX0_isLow 41 = .ok (.iload 5, 2) := by decide +kernel
theorem dX0_isLow_43 : decode cX0_isLow 43 = .ok (.bipush 7, 2) := by decide +kernel
theorem dX0_isLow_45 : decode cX0_isLow 45 = .ok (.iload_n 2, 1) := by decide +kernel
theorem dX0_isLow_46 : decode cX0_isLow 46 = .ok (.iconst 1, 1) := by decide +kernel
theorem dX0_isLow_47 : decode cX0_isLow 47 = .ok (.iadd, 1) := by decide +kernel
theorem dX0_isLow_48 : decode cX0_isLow 48 = .ok (.invokestatic 99, 3) := by decide +kernel
theorem dX0_isLow_51 : decode cX0_isLow 51 = .ok (.if_icmp .gt 59, 3) := by decide +kernel
theorem dX0_isLow_54 : decode cX0_isLow 54 = .ok (.bipush 8, 2) := by decide +kernel
theorem dX0_isLow_56 : decode cX0_isLow 56 = .ok (.iload 4, 2) := by decide +kernel
theorem dX0_isLow_58 : decode cX0_isLow 58 = .ok (.imul, 1) := by decide +kernel
theorem dX0_isLow_59 : decode cX0_isLow 59 = .ok (.iload 5, 2) := by decide +kernel
theorem dX0_isLow_61 : decode cX0_isLow 61 = .ok (.iadd, 1) := by decide +kernel
theorem dX0_isLow_62 : decode cX0_isLow 62 = .ok (.istore 6, 2) := by decide +kernel
theorem dX0_isLow_64 : decode cX0_isLow 64 = .ok (.aload_n 0, 1) := by decide +kernel
theorem dX0_isLow_65 : decode cX0_isLow 65 = .ok (.getfield 25, 3) := by decide +kernel
theorem dX0_isLow_68 : decode cX0_isLow 68 = .ok (.iload 6, 2) := by decide +kernel
theorem dX0_isLow_70 : decode cX0_isLow 70 = .ok (.iaload, 1) := by decide +kernel
theorem dX0_isLow_71 : decode cX0_isLow 71 = .ok (.aload_n 0, 1) := by decide +kernel
theorem dX0_isLow_72 : decode cX0_isLow 72 = .ok (.getfield 25, 3) := by decide +kernel
theorem dX0_isLow_75 : decode cX0_isLow 75 = .ok (.iload_n 1, 1) := by decide +kernel
theorem dX0_isLow_76 : decode cX0_isLow 76 = .ok (.iaload, 1) := by decide +kernel
theorem dX0_isLow_77 : decode cX0_isLow 77 = .ok (.if_icmp .lt 25, 3) := by decide +kernel
theorem dX0_isLow_80 : decode cX0_isLow 80 = .ok (.iload 6, 2) := by decide +kernel
theorem dX0_isLow_82 : decode cX0_isLow 82 = .ok (.iload_n 1, 1) := by decide +kernel
theorem dX0_isLow_83 : decode cX0_isLow 83 = .ok (.if_icmp .ge 21, 3) := by decide +kernel
theorem dX0_isLow_86 : decode cX0_isLow 86 = .ok (.aload_n 0, 1) := by decide +kernel
theorem dX0_isLow_87 : decode cX0_isLow 87 = .ok (.getfield 25, 3) := by decide +kernel
theorem dX0_isLow_90 : decode cX0_isLow 90 = .ok (.iload 6, 2) := by decide +kernel
theorem dX0_isLow_92 : decode cX0_isLow 92 = .ok (.iaload, 1) := by decide +kernel
theorem dX0_isLow_93 : decode cX0_isLow 93 = .ok (.aload_n 0, 1) := by decide +kernel
theorem dX0_isLow_94 : decode cX0_isLow 94 = .ok (.getfield 25, 3) := by decide +kernel
theorem dX0_isLow_97 : decode cX0_isLow 97 = .ok (.iload_n 1, 1) := by decide +kernel
theorem dX0_isLow_98 : decode cX0_isLow 98 = .ok (.iaload, 1) := by decide +kernel
theorem dX0_isLow_99 : decode cX0_isLow 99 = .ok (.if_icmp .ne 5, 3) := by decide +kernel
theorem dX0_isLow_102 : decode cX0_isLow 102 = .ok (.iconst 0, 1) := by decide +kernel
theorem dX0_isLow_103 : decode cX0_isLow 103 = .ok (.ireturn, 1) := by decide +kernel
theorem dX0_isLow_104 : decode cX0_isLow 104 = .ok (.iinc 5 1, 3) := by decide +kernel
theorem dX0_isLow_107 : decode cX0_isLow 107 = .ok (.goto (-66), 3) := by decide +kernel
theorem dX0_isLow_110 : decode cX0_isLow 110 = .ok (.iinc 4 1, 3) := by decide +kernel
theorem dX0_isLow_113 : decode cX0_isLow 113 = .ok (.goto (-94), 3) := by decide +kernel
theorem dX0_isLow_116 : decode cX0_isLow 116 = .ok (.iconst 1, 1) := by decide +kernel
theorem dX0_isLow_117 : decode cX0_isLow 117 = .ok (.ireturn, 1) := by decide +kernel
theorem dX0_lowCount_0 : decode cX0_lowCount 0 = .ok (.aload_n 0, 1) := by decide +kernel
theorem dX0_lowCount_1 : decode cX0_lowCount 1 = .ok (.getfield 31, 3) := by decide +kernel
theorem dX0_lowCount_4 : decode cX0_lowCount 4 = .ok (.ireturn, 1) := by decide +kernel
theorem dX0_lowPoint_0 : decode cX0_lowPoint 0 = .ok (.iload_n 1, 1) := by decide +kernel
theorem dX0_lowPoint_1 : decode cX0_lowPoint 1 = .ok (.iconst 0, 1) := by decide +kernel
theorem dX0_lowPoint_2 : decode cX0_lowPoint 2 = .ok (.aload_n 0, 1) := by decide +kernel
theorem dX0_lowPoint_3 : decode cX0_lowPoint 3 = .ok (.getfield 31, 3) := by decide +kernel
theorem dX0_lowPoint_6 : decode cX0_lowPoint 6 = .ok (.iconst 1, 1) := by decide +kernel
theorem dX0_lowPoint_7 : decode cX0_lowPoint 7 = .ok (.isub, 1) := by decide +kernel
theorem dX0_lowPoint_8 : decode cX0_lowPoint 8 = .ok (.invokestatic 34, 3) := by decide +kernel
theorem dX0_lowPoint_11 : decode cX0_lowPoint 11 = .ok (.ifCond .eq 12, 3) := by decide +kernel
theorem dX0_lowPoint_14 : decode cX0_lowPoint 14 = .ok (.aload_n 0, 1) := by decide +kernel
theorem dX0_lowPoint_15 : decode cX0_lowPoint 15 = .ok (.getfield 28, 3) := by decide +kernel
theorem dX0_lowPoint_18 : decode cX0_lowPoint 18 = .ok (.iload_n 1, 1) := by decide +kernel
theorem dX0_lowPoint_19 : decode cX0_lowPoint 19 = .ok (.iaload, 1) := by decide +kernel
theorem dX0_lowPoint_20 : decode cX0_lowPoint 20 = .ok (.goto 5, 3) := by decide +kernel
theorem dX0_lowPoint_23 : decode cX0_lowPoint 23 = .ok (.bipush (-6), 2) := by decide +kernel
theorem dX0_lowPoint_25 : decode cX0_lowPoint 25 = .ok (.ireturn, 1) := by decide +kernel
theorem dX0_lowNear_0 : decode cX0_lowNear 0 = .ok (.bipush (-6), 2) := by decide +kernel
theorem dX0_lowNear_2 : decode cX0_lowNear 2 = .ok (.istore_n 2, 1) := by decide +kernel
theorem dX0_lowNear_3 : decode cX0_lowNear 3 = .ok (.bipush 9, 2) := by decide +kernel
theorem dX0_lowNear_5 : decode cX0_lowNear 5 = .ok (.istore_n 3, 1) := by decide +kernel
theorem dX0_lowNear_6 : decode cX0_lowNear 6 = .ok (.iconst 0, 1) := by decide +kernel
theorem dX0_lowNear_7 : decode cX0_lowNear 7 = .ok (.istore 4, 2) := by decide +kernel
theorem dX0_lowNear_9 : decode cX0_lowNear 9 = .ok (.iload 4, 2) := by decide +kernel
theorem dX0_lowNear_11 : decode cX0_lowNear 11 = .ok (.aload_n 0, 1) := by decide +kernel
theorem dX0_lowNear_12 : decode cX0_lowNear 12 = .ok (.getfield 31, 3) := by decide +kernel
theorem dX0_lowNear_15 : decode cX0_lowNear 15 = .ok (.if_icmp .ge 59, 3) := by decide +kernel
theorem dX0_lowNear_18 : decode cX0_lowNear 18 = .ok (.iload_n 1, 1) := by decide +kernel
theorem dX0_lowNear_19 : decode cX0_lowNear 19 = .ok (.bipush 8, 2) := by decide +kernel
theorem dX0_lowNear_21 : decode cX0_lowNear 21 = .ok (.irem, 1) := by decide +kernel
theorem dX0_lowNear_22 : decode cX0_lowNear 22 = .ok (.iload_n 1, 1) := by decide +kernel
theorem dX0_lowNear_23 : decode cX0_lowNear 23 = .ok (.bipush 8, 2) := by decide +kernel
theorem dX0_lowNear_25 : decode cX0_lowNear 25 = .ok (.idiv, 1) := by decide +kernel
theorem dX0_lowNear_26 : decode cX0_lowNear 26 = .ok (.aload_n 0, 1) := by decide +kernel
theorem dX0_lowNear_27 : decode cX0_lowNear 27 = .ok (.getfield 28, 3) := by decide +kernel
theorem dX0_lowNear_30 : decode cX0_lowNear 30 = .ok (.iload 4, 2) := by decide +kernel
theorem dX0_lowNear_32 : decode cX0_lowNear 32 = .ok (.iaload, 1) := by decide +kernel
theorem dX0_lowNear_33 : decode cX0_lowNear 33 = .ok (.bipush 8, 2) := by decide +kernel
theorem dX0_lowNear_35 : decode cX0_lowNear 35 = .ok (.irem, 1) := by decide +kernel
theorem dX0_lowNear_36 : decode cX0_lowNear 36 = .ok (.aload_n 0, 1) := by decide +kernel
theorem dX0_lowNear_37 : decode cX0_lowNear 37 = .ok (.getfield 28, 3) := by decide +kernel
theorem dX0_lowNear_40 : decode cX0_lowNear 40 = .ok (.iload 4, 2) := by decide +kernel
theorem dX0_lowNear_42 : decode cX0_lowNear 42 = .ok (.iaload, 1) := by decide +kernel
theorem dX0_lowNear_43 : decode cX0_lowNear 43 = .ok (.bipush 8, 2) := by decide +kernel
theorem dX0_lowNear_45 : decode cX0_lowNear 45 = .ok (.idiv, 1) := by decide +kernel
theorem dX0_lowNear_46 : decode cX0_lowNear 46 = .ok (.invokestatic 84, 3) := by decide +kernel
theorem dX0_lowNear_49 : decode cX0_lowNear 49 = .ok (.istore 5, 2) := by decide +kernel
theorem dX0_lowNear_51 : decode cX0_lowNear 51 = .ok (.iload 5, 2) := by decide +kernel
theorem dX0_lowNear_53 : decode cX0_lowNear 53 = .ok (.iload_n 3, 1) := by decide +kernel
theorem dX0_lowNear_54 : decode cX0_lowNear 54 = .ok (.if_icmp .ge 14, 3) := by decide +kernel
theorem dX0_lowNear_57 : decode cX0_lowNear 57 = .ok (.iload 5, 2) := by decide +kernel
theorem dX0_lowNear_59 : decode cX0_lowNear 59 = .ok (.istore_n 3, 1) := by decide +kernel
theorem dX0_lowNear_60 : decode cX0_lowNear 60 = .ok (.aload_n 0, 1) := by decide +kernel
theorem dX0_lowNear_61 : decode cX0_lowNear 61 = .ok (.getfield 28, 3) := by decide +kernel
theorem dX0_lowNear_64 : decode cX0_lowNear 64 = .ok (.iload 4, 2) := by decide +kernel
theorem dX0_lowNear_66 : decode cX0_lowNear 66 = .ok (.iaload, 1) := by decide +kernel
theorem dX0_lowNear_67 : decode cX0_lowNear 67 = .ok (.istore_n 2, 1) := by decide +kernel
theorem dX0_lowNear_68 : decode cX0_lowNear 68 = .ok (.iinc 4 1, 3) := by decide +kernel
theorem dX0_lowNear_71 : decode cX0_lowNear 71 = .ok (.goto (-62), 3) := by decide +kernel
theorem dX0_lowNear_74 : decode cX0_lowNear 74 = .ok (.iload_n 2, 1) := by decide +kernel
theorem dX0_lowNear_75 : decode cX0_lowNear 75 = .ok (.ireturn, 1) := by decide +kernel
theorem dX1_holds_0 : decode cX1_holds 0 = .ok (.iload_n 0, 1) := by decide +kernel
theorem dX1_holds_1 : decode cX1_holds 1 = .ok (.iconst 1, 1) := by decide +kernel
theorem dX1_holds_2 : decode cX1_holds 2 = .ok (.sipush 20000, 3) := by decide +kernel
theorem dX1_holds_5 : decode cX1_holds 5 = .ok (.invokestatic 9, 3) := by decide +kernel
theorem dX1_holds_8 : decode cX1_holds 8 = .ok (.ireturn, 1) := by decide +kernel
theorem dX1_held_0 : decode cX1_held 0 = .ok (.lconst 1, 1) := by decide +kernel
theorem dX1_held_1 : decode cX1_held 1 = .ok (.ldc2_w 15, 3) := by decide +kernel
theorem dX1_held_4 : decode cX1_held 4 = .ok (.lload_n 0, 1) := by decide +kernel
theorem dX1_held_5 : decode cX1_held 5 = .ok (.invokestatic 17, 3) := by decide +kernel
theorem dX1_held_8 : decode cX1_held 8 = .ok (.invokestatic 23, 3) := by decide +kernel
theorem dX1_held_11 : decode cX1_held 11 = .ok (.l2i, 1) := by decide +kernel
theorem dX1_held_12 : decode cX1_held 12 = .ok (.ireturn, 1) := by decide +kernel
theorem dX1_climb_0 : decode cX1_climb 0 = .ok (.iload_n 0, 1) := by decide +kernel
theorem dX1_climb_1 : decode cX1_climb 1 = .ok (.invokestatic 26, 3) := by decide +kernel
theorem dX1_climb_4 : decode cX1_climb 4 = .ok (.iload_n 1, 1) := by decide +kernel
theorem dX1_climb_5 : decode cX1_climb 5 = .ok (.invokestatic 26, 3) := by decide +kernel
theorem dX1_climb_8 : decode cX1_climb 8 = .ok (.isub, 1) := by decide +kernel
theorem dX1_climb_9 : decode cX1_climb 9 = .ok (.i2l, 1) := by decide +kernel
theorem dX1_climb_10 : decode cX1_climb 10 = .ok (.sipush 2730, 3) := by decide +kernel
theorem dX1_climb_13 : decode cX1_climb 13 = .ok (.bipush 10, 2) := by decide +kernel
theorem dX1_climb_15 : decode cX1_climb 15 = .ok (.iload_n 2, 1) := by decide +kernel
theorem dX1_climb_16 : decode cX1_climb 16 = .ok (.imul, 1) := by decide +kernel
theorem dX1_climb_17 : decode cX1_climb 17 = .ok (.iadd, 1) := by decide +kernel
theorem dX1_climb_18 : decode cX1_climb 18 = .ok (.i2l, 1) := by decide +kernel
theorem dX1_climb_19 : decode cX1_climb 19 = .ok (.lmul, 1) := by decide +kernel
theorem dX1_climb_20 : decode cX1_climb 20 = .ok (.ldc2_w 30, 3) := by decide +kernel
theorem dX1_climb_23 : decode cX1_climb 23 = .ok (.invokestatic 32, 3) := by decide +kernel
theorem dX1_climb_26 : decode cX1_climb 26 = .ok (.lreturn, 1) := by decide +kernel
theorem dX1_reduced_0 : decode cX1_reduced 0 = .ok (.iload_n 1, 1) := by decide +kernel
theorem dX1_reduced_1 : decode cX1_reduced 1 = .ok (.ifCond .ne 5, 3) := by decide +kernel
theorem dX1_reduced_4 : decode cX1_reduced 4 = .ok (.iload_n 0, 1) := by decide +kernel
theorem dX1_reduced_5 : decode cX1_reduced 5 = .ok (.ireturn, 1) := by decide +kernel
theorem dX1_reduced_6 : decode cX1_reduced 6 = .ok (.ldc2_w 35, 3) := by decide +kernel
theorem dX1_reduced_9 : decode cX1_reduced 9 = .ok (.iload_n 1, 1) := by decide +kernel
theorem dX1_reduced_10 : decode cX1_reduced 10 = .ok (.invokestatic 37, 3) := by decide +kernel
theorem dX1_reduced_13 : decode cX1_reduced 13 = .ok (.i2l, 1) := by decide +kernel
theorem dX1_reduced_14 : decode cX1_reduced 14 = .ok (.lmul, 1) := by decide +kernel
theorem dX1_reduced_15 : decode cX1_reduced 15 = .ok (.iload_n 2, 1) := by decide +kernel
theorem dX1_reduced_16 : decode cX1_reduced 16 = .ok (.invokestatic 40, 3) := by decide +kernel
theorem dX1_reduced_19 : decode cX1_reduced 19 = .ok (.istore_n 3, 1) := by decide +kernel
theorem dX1_reduced_20 : decode cX1_reduced 20 = .ok (.iload_n 1, 1) := by decide +kernel
theorem dX1_reduced_21 : decode cX1_reduced 21 = .ok (.ifCond .le 13, 3) := by decide +kernel
theorem dX1_reduced_24 : decode cX1_reduced 24 = .ok (.iload_n 0, 1) := by decide +kernel
theorem dX1_reduced_25 : decode cX1_reduced 25 = .ok (.invokestatic 26, 3) := by decide +kernel
theorem dX1_reduced_28 : decode cX1_reduced 28 = .ok (.iload_n 3, 1) := by decide +kernel
theorem dX1_reduced_29 : decode cX1_reduced 29 = .ok (.iadd, 1) := by decide +kernel
theorem dX1_reduced_30 : decode cX1_reduced 30 = .ok (.invokestatic 44, 3) := by decide +kernel
theorem dX1_reduced_33 : decode cX1_reduced 33 = .ok (.ireturn, 1) := by decide +kernel
theorem dX1_reduced_34 : decode cX1_reduced 34 = .ok (.iconst 1, 1) := by decide +kernel
theorem dX1_reduced_35 : decode cX1_reduced 35 = .ok (.iload_n 0, 1) := by decide +kernel
theorem dX1_reduced_36 : decode cX1_reduced 36 = .ok (.invokestatic 26, 3) := by decide +kernel
theorem dX1_reduced_39 : decode cX1_reduced 39 = .ok (.iload_n 3, 1) := by decide +kernel
theorem dX1_reduced_40 : decode cX1_reduced 40 = .ok (.isub, 1) := by decide +kernel
theorem dX1_reduced_41 : decode cX1_reduced 41 = .ok (.iconst 1, 1) := by decide +kernel
theorem dX1_reduced_42 : decode cX1_reduced 42 = .ok (.iadd, 1) := by decide +kernel
theorem dX1_reduced_43 : decode cX1_reduced 43 = .ok (.invokestatic 44, 3) := by decide +kernel
theorem dX1_reduced_46 : decode cX1_reduced 46 = .ok (.iconst 1, 1) := by decide +kernel
theorem dX1_reduced_47 : decode cX1_reduced 47 = .ok (.isub, 1) := by decide +kernel
theorem dX1_reduced_48 : decode cX1_reduced 48 = .ok (.invokestatic 47, 3) := by decide +kernel
theorem dX1_reduced_51 : decode cX1_reduced 51 = .ok (.ireturn, 1) := by decide +kernel
theorem dX1_sumNeeded_0 : decode cX1_sumNeeded 0 = .ok (.sipush 2730, 3) := by decide +kernel
theorem dX1_sumNeeded_3 : decode cX1_sumNeeded 3 = .ok (.bipush 10, 2) := by decide +kernel
theorem dX1_sumNeeded_5 : decode cX1_sumNeeded 5 = .ok (.iload_n 2, 1) := by decide +kernel
theorem dX1_sumNeeded_6 : decode cX1_sumNeeded 6 = .ok (.imul, 1) := by decide +kernel
theorem dX1_sumNeeded_7 : decode cX1_sumNeeded 7 = .ok (.iadd, 1) := by decide +kernel
theorem dX1_sumNeeded_8 : decode cX1_sumNeeded 8 = .ok (.istore_n 3, 1) := by decide +kernel
theorem dX1_sumNeeded_9 : decode cX1_sumNeeded 9 = .ok (.lload_n 0, 1) := by decide +kernel
theorem dX1_sumNeeded_10 : decode cX1_sumNeeded 10 = .ok (.ldc2_w 30, 3) := by decide +kernel
theorem dX1_sumNeeded_13 : decode cX1_sumNeeded 13 = .ok (.lmul, 1) := by decide +kernel
theorem dX1_sumNeeded_14 : decode cX1_sumNeeded 14 = .ok (.iload_n 3, 1) := by decide +kernel
theorem dX1_sumNeeded_15 : decode cX1_sumNeeded 15 = .ok (.i2l, 1) := by decide +kernel
theorem dX1_sumNeeded_16 : decode cX1_sumNeeded 16 = .ok (.ladd, 1) := by decide +kernel
theorem dX1_sumNeeded_17 : decode cX1_sumNeeded 17 = .ok (.lconst 1, 1) := by decide +kernel
theorem dX1_sumNeeded_18 : decode cX1_sumNeeded 18 = .ok (.lsub, 1) := by decide +kernel
theorem dX1_sumNeeded_19 : decode cX1_sumNeeded 19 = .ok (.iload_n 3, 1) := by decide +kernel
theorem dX1_sumNeeded_20 : decode cX1_sumNeeded 20 = .ok (.i2l, 1) := by decide +kernel
theorem dX1_sumNeeded_21 : decode cX1_sumNeeded 21 = .ok (.invokestatic 32, 3) := by decide +kernel
theorem dX1_sumNeeded_24 : decode cX1_sumNeeded 24 = .ok (.l2i, 1) := by decide +kernel
theorem dX1_sumNeeded_25 : decode cX1_sumNeeded 25 = .ok (.ireturn, 1) := by decide +kernel
theorem dX1_sumTo_0 : decode cX1_sumTo 0 = .ok (.iload_n 0, 1) := by decide +kernel
theorem dX1_sumTo_1 : decode cX1_sumTo 1 = .ok (.bipush 100, 2) := by decide +kernel
theorem dX1_sumTo_3 : decode cX1_sumTo 3 = .ok (.idiv, 1) := by decide +kernel
theorem dX1_sumTo_4 : decode cX1_sumTo 4 = .ok (.istore_n 1, 1) := by decide +kernel
theorem dX1_sumTo_5 : decode cX1_sumTo 5 = .ok (.getstatic 50, 3) := by decide +kernel
theorem dX1_sumTo_8 : decode cX1_sumTo 8 = .ok (.iload_n 1, 1) := by decide +kernel
theorem dX1_sumTo_9 : decode cX1_sumTo 9 = .ok (.iaload, 1) := by decide +kernel
theorem dX1_sumTo_10 : decode cX1_sumTo 10 = .ok (.istore_n 2, 1) := by decide +kernel
theorem dX1_sumTo_11 : decode cX1_sumTo 11 = .ok (.iload_n 1, 1) := by decide +kernel
theorem dX1_sumTo_12 : decode cX1_sumTo 12 = .ok (.bipush 100, 2) := by decide +kernel
theorem dX1_sumTo_14 : decode cX1_sumTo 14 = .ok (.imul, 1) := by decide +kernel
theorem dX1_sumTo_15 : decode cX1_sumTo 15 = .ok (.iconst 1, 1) := by decide +kernel
theorem dX1_sumTo_16 : decode cX1_sumTo 16 = .ok (.iadd, 1) := by decide +kernel
theorem dX1_sumTo_17 : decode cX1_sumTo 17 = .ok (.istore_n 3, 1) := by decide +kernel
theorem dX1_sumTo_18 : decode cX1_sumTo 18 = .ok (.iload_n 3, 1) := by decide +kernel
theorem dX1_sumTo_19 : decode cX1_sumTo 19 = .ok (.iload_n 0, 1) := by decide +kernel
theorem dX1_sumTo_20 : decode cX1_sumTo 20 = .ok (.if_icmp .gt 16, 3) := by decide +kernel
theorem dX1_sumTo_23 : decode cX1_sumTo 23 = .ok (.iload_n 2, 1) := by decide +kernel
theorem dX1_sumTo_24 : decode cX1_sumTo 24 = .ok (.ldc 54, 2) := by decide +kernel
theorem dX1_sumTo_26 : decode cX1_sumTo 26 = .ok (.iload_n 3, 1) := by decide +kernel
theorem dX1_sumTo_27 : decode cX1_sumTo 27 = .ok (.idiv, 1) := by decide +kernel
theorem dX1_sumTo_28 : decode cX1_sumTo 28 = .ok (.iadd, 1) := by decide +kernel
theorem dX1_sumTo_29 : decode cX1_sumTo 29 = .ok (.istore_n 2, 1) := by decide +kernel
theorem dX1_sumTo_30 : decode cX1_sumTo 30 = .ok (.iinc 3 1, 3) := by decide +kernel
theorem dX1_sumTo_33 : decode cX1_sumTo 33 = .ok (.goto (-15), 3) := by decide +kernel
theorem dX1_sumTo_36 : decode cX1_sumTo 36 = .ok (.iload_n 2, 1) := by decide +kernel
theorem dX1_sumTo_37 : decode cX1_sumTo 37 = .ok (.ireturn, 1) := by decide +kernel
theorem dX1_leastReaching_0 : decode cX1_leastReaching 0 = .ok (.iconst 0, 1) := by decide +kernel
theorem dX1_leastReaching_1 : decode cX1_leastReaching 1 = .ok (.istore_n 1, 1) := by decide +kernel
theorem dX1_leastReaching_2 : decode cX1_leastReaching 2 = .ok (.sipush 128, 3) := by decide +kernel
theorem dX1_leastReaching_5 : decode cX1_leastReaching 5 = .ok (.istore_n 2, 1) := by decide +kernel
theorem dX1_leastReaching_6 : decode cX1_leastReaching 6 = .ok (.iload_n 2, 1) := by decide +kernel
theorem dX1_leastReaching_7 : decode cX1_leastReaching 7 = .ok (.ifCond .le 35, 3) := by decide +kernel
theorem dX1_leastReaching_10 : decode cX1_leastReaching 10 = .ok (.iload_n 1, 1) := by decide +kernel
theorem dX1_leastReaching_11 : decode cX1_leastReaching 11 = .ok (.iload_n 2, 1) := by decide +kernel
theorem dX1_leastReaching_12 : decode cX1_leastReaching 12 = .ok (.iadd, 1) := by decide +kernel
theorem dX1_leastReaching_13 : decode cX1_leastReaching 13 = .ok (.getstatic 50, 3) := by decide +kernel
theorem dX1_leastReaching_16 : decode cX1_leastReaching 16 = .ok (.arraylength, 1) := by decide +kernel
theorem dX1_leastReaching_17 : decode cX1_leastReaching 17 = .ok (.if_icmp .ge 18, 3) := by decide +kernel
theorem dX1_leastReaching_20 : decode cX1_leastReaching 20 = .ok (.getstatic 50, 3) := by decide +kernel
theorem dX1_leastReaching_23 : decode cX1_leastReaching 23 = .ok (.iload_n 1, 1) := by decide +kernel
theorem dX1_leastReaching_24 : decode cX1_leastReaching 24 = .ok (.iload_n 2, 1) := by decide +kernel
theorem dX1_leastReaching_25 : decode cX1_leastReaching 25 = .ok (.iadd, 1) := by decide +kernel
theorem dX1_leastReaching_26 : decode cX1_leastReaching 26 = .ok (.iaload, 1) := by decide +kernel
theorem dX1_leastReaching_27 : decode cX1_leastReaching 27 = .ok (.iload_n 0, 1) := by decide +kernel
theorem dX1_leastReaching_28 : decode cX1_leastReaching 28 = .ok (.if_icmp .ge 7, 3) := by decide +kernel
theorem dX1_leastReaching_31 : decode cX1_leastReaching 31 = .ok (.iload_n 1, 1) := by decide +kernel
theorem dX1_leastReaching_32 : decode cX1_leastReaching 32 = .ok (.iload_n 2, 1) := by decide +kernel
theorem dX1_leastReaching_33 : decode cX1_leastReaching 33 = .ok (.iadd, 1) := by decide +kernel
theorem dX1_leastReaching_34 : decode cX1_leastReaching 34 = .ok (.istore_n 1, 1) := by decide +kernel
theorem dX1_leastReaching_35 : decode cX1_leastReaching 35 = .ok (.iload_n 2, 1) := by decide +kernel
theorem dX1_leastReaching_36 : decode cX1_leastReaching 36 = .ok (.iconst 2, 1) := by decide +kernel
theorem dX1_leastReaching_37 : decode cX1_leastReaching 37 = .ok (.idiv, 1) := by decide +kernel
theorem dX1_leastReaching_38 : decode cX1_leastReaching 38 = .ok (.istore_n 2, 1) := by decide +kernel
theorem dX1_leastReaching_39 : decode cX1_leastReaching 39 = .ok (.goto (-33), 3) := by decide +kernel
theorem dX1_leastReaching_42 : decode cX1_leastReaching 42 = .ok (.getstatic 50, 3) := by decide +kernel
theorem dX1_leastReaching_45 : decode cX1_leastReaching 45 = .ok (.iload_n 1, 1) := by decide +kernel
theorem dX1_leastReaching_46 : decode cX1_leastReaching 46 = .ok (.iaload, 1) := by decide +kernel
theorem dX1_leastReaching_47 : decode cX1_leastReaching 47 = .ok (.istore_n 2, 1) := by decide +kernel
theorem dX1_leastReaching_48 : decode cX1_leastReaching 48 = .ok (.iload_n 1, 1) := by decide +kernel
theorem dX1_leastReaching_49 : decode cX1_leastReaching 49 = .ok (.bipush 100, 2) := by decide +kernel
theorem dX1_leastReaching_51 : decode cX1_leastReaching 51 = .ok (.imul, 1) := by decide +kernel
theorem dX1_leastReaching_52 : decode cX1_leastReaching 52 = .ok (.iconst 1, 1) := by decide +kernel
theorem dX1_leastReaching_53 : decode cX1_leastReaching 53 = .ok (.iadd, 1) := by decide +kernel
theorem dX1_leastReaching_54 : decode cX1_leastReaching 54 = .ok (.istore_n 3, 1) := by decide +kernel
theorem dX1_leastReaching_55 : decode cX1_leastReaching 55 = .ok (.iload_n 3, 1) := by decide +kernel
theorem dX1_leastReaching_56 : decode cX1_leastReaching 56 = .ok (.sipush 20000, 3) := by decide +kernel
theorem dX1_leastReaching_59 : decode cX1_leastReaching 59 = .ok (.if_icmp .gt 23, 3) := by decide +kernel
theorem dX1_leastReaching_62 : decode cX1_leastReaching 62 = .ok (.iload_n 2, 1) := by decide +kernel
theorem dX1_leastReaching_63 : decode cX1_leastReaching 63 = .ok (.ldc 54, 2) := by decide +kernel
theorem dX1_leastReaching_65 : decode cX1_leastReaching 65 = .ok (.iload_n 3, 1) := by decide +kernel
theorem dX1_leastReaching_66 : decode cX1_leastReaching 66 = .ok (.idiv, 1) := by decide +kernel
theorem dX1_leastReaching_67 : decode cX1_leastReaching 67 = .ok (.iadd, 1) := by decide +kernel
theorem dX1_leastReaching_68 : decode cX1_leastReaching 68 = .ok (.istore_n 2, 1) := by decide +kernel
theorem dX1_leastReaching_69 : decode cX1_leastReaching 69 = .ok (.iload_n 2, 1) := by decide +kernel
theorem dX1_leastReaching_70 : decode cX1_leastReaching 70 = .ok (.iload_n 0, 1) := by decide +kernel
theorem dX1_leastReaching_71 : decode cX1_leastReaching 71 = .ok (.if_icmp .lt 5, 3) := by decide +kernel
theorem dX1_leastReaching_74 : decode cX1_leastReaching 74 = .ok (.iload_n 3, 1) := by decide +kernel
theorem dX1_leastReaching_75 : decode cX1_leastReaching 75 = .ok (.ireturn, 1) := by decide +kernel
theorem dX1_leastReaching_76 : decode cX1_leastReaching 76 = .ok (.iinc 3 1, 3) := by decide +kernel
theorem dX1_leastReaching_79 : decode cX1_leastReaching 79 = .ok (.goto (-24), 3) := by decide +kernel
theorem dX1_leastReaching_82 : decode cX1_leastReaching 82 = .ok (.sipush 20000, 3) := by decide +kernel
theorem dX1_leastReaching_85 : decode cX1_leastReaching 85 = .ok (.ireturn, 1) := by decide +kernel
theorem dX2_init_0 : decode cX2_init 0 = .ok (.aload_n 0, 1) := by decide +kernel
theorem dX2_init_1 : decode cX2_init 1 = .ok (.invokespecial 3, 3) := by decide +kernel
theorem dX2_init_4 : decode cX2_init 4 = .ok (.aload_n 0, 1) := by decide +kernel
theorem dX2_init_5 : decode cX2_init 5 = .ok (.bipush 64, 2) := by decide +kernel
theorem dX2_init_7 : decode cX2_init 7 = .ok (.newarray .boolean, 2) := by decide +kernel
theorem dX2_init_9 : decode cX2_init 9 = .ok (.putfield 9, 3) := by decide +kernel
theorem dX2_init_12 : decode cX2_init 12 = .ok (.aload_n 0, 1) := by decide +kernel
theorem dX2_init_13 : decode cX2_init 13 = .ok (.sipush 128, 3) := by decide +kernel
theorem dX2_init_16 : decode cX2_init 16 = .ok (.newarray .int, 2) := by decide +kernel
theorem dX2_init_18 : decode cX2_init 18 = .ok (.putfield 15, 3) := by decide +kernel
theorem dX2_init_21 : decode cX2_init 21 = .ok (.aload_n 0, 1) := by decide +kernel
theorem dX2_init_22 : decode cX2_init 22 = .ok (.sipush 128, 3) := by decide +kernel
theorem dX2_init_25 : decode cX2_init 25 = .ok (.newarray .int, 2) := by decide +kernel
theorem dX2_init_27 : decode cX2_init 27 = .ok (.putfield 19, 3) := by decide +kernel
theorem dX2_init_30 : decode cX2_init 30 = .ok (.aload_n 0, 1) := by decide +kernel
theorem dX2_init_31 : decode cX2_init 31 = .ok (.sipush 128, 3) := by decide +kernel
theorem dX2_init_34 : decode cX2_init 34 = .ok (.newarray .int, 2) := by decide +kernel
theorem dX2_init_36 : decode cX2_init 36 = .ok (.putfield 22, 3) := by decide +kernel
theorem dX2_init_39 : decode cX2_init 39 = .ok (.aload_n 0, 1) := by decide +kernel
theorem dX2_init_40 : decode cX2_init 40 = .ok (.sipush 128, 3) := by decide +kernel
theorem dX2_init_43 : decode cX2_init 43 = .ok (.newarray .boolean, 2) := by decide +kernel
theorem dX2_init_45 : decode cX2_init 45 = .ok (.putfield 25, 3) := by decide +kernel
theorem dX2_init_48 : decode cX2_init 48 = .ok (.aload_n 0, 1) := by decide +kernel
theorem dX2_init_49 : decode cX2_init 49 = .ok (.sipush 128, 3) := by decide +kernel
theorem dX2_init_52 : decode cX2_init 52 = .ok (.newarray .int, 2) := by decide +kernel
theorem dX2_init_54 : decode cX2_init 54 = .ok (.putfield 28, 3) := by decide +kernel
theorem dX2_init_57 : decode cX2_init 57 = .ok (.aload_n 0, 1) := by decide +kernel
theorem dX2_init_58 : decode cX2_init 58 = .ok (.iconst 0, 1) := by decide +kernel
theorem dX2_init_59 : decode cX2_init 59 = .ok (.putfield 31, 3) := by decide +kernel
theorem dX2_init_62 : decode cX2_init 62 = .ok (.aload_n 0, 1) := by decide +kernel
theorem dX2_init_63 : decode cX2_init 63 = .ok (.iconst 0, 1) := by decide +kernel
theorem dX2_init_64 : decode cX2_init 64 = .ok (.putfield 35, 3) := by decide +kernel
theorem dX2_init_67 : decode cX2_init 67 = .ok (.aload_n 0, 1) := by decide +kernel
theorem dX2_init_68 : decode cX2_init 68 = .ok (.iconst 0, 1) := by decide +kernel
theorem dX2_init_69 : decode cX2_init 69 = .ok (.putfield 38, 3) := by decide +kernel
theorem dX2_init_72 : decode cX2_init 72 = .ok (.aload_n 0, 1) := by decide +kernel
theorem dX2_init_73 : decode cX2_init 73 = .ok (.iconst 0, 1) := by decide +kernel
theorem dX2_init_74 : decode cX2_init 74 = .ok (.putfield 41, 3) := by decide +kernel
theorem dX2_init_77 : decode cX2_init 77 = .ok (.return_, 1) := by decide +kernel
theorem dX2_drawAt_0 : decode cX2_drawAt 0 = .ok (.aload_n 0, 1) := by decide +kernel
theorem dX2_drawAt_1 : decode cX2_drawAt 1 = .ok (.aload_n 1, 1) := by decide +kernel
theorem dX2_drawAt_2 : decode cX2_drawAt 2 = .ok (.iload_n 2, 1) := by decide +kernel
theorem dX2_drawAt_3 : decode cX2_drawAt 3 = .ok (.invokevirtual 44, 3) := by decide +kernel
theorem dX2_drawAt_6 : decode cX2_drawAt 6 = .ok (.aload_n 0, 1) := by decide +kernel
theorem dX2_drawAt_7 : decode cX2_drawAt 7 = .ok (.invokevirtual 48, 3) := by decide +kernel
theorem dX2_drawAt_10 : decode cX2_drawAt 10 = .ok (.iconst 0, 1) := by decide +kernel
theorem dX2_drawAt_11 : decode cX2_drawAt 11 = .ok (.istore_n 3, 1) := by decide +kernel
theorem dX2_drawAt_12 : decode cX2_drawAt 12 = .ok (.iload_n 3, 1) := by decide +kernel
theorem dX2_drawAt_13 : decode cX2_drawAt 13 = .ok (.bipush 7, 2) := by decide +kernel
theorem dX2_drawAt_15 : decode cX2_drawAt 15 = .ok (.if_icmp .ge 34, 3) := by decide +kernel
theorem dX2_drawAt_18 : decode cX2_drawAt 18 = .ok (.iconst 0, 1) := by decide +kernel
theorem dX2_drawAt_19 : decode cX2_drawAt 19 = .ok (.istore 4, 2) := by decide +kernel
theorem dX2_drawAt_21 : decode cX2_drawAt 21 = .ok (.iload 4, 2) := by decide +kernel
theorem dX2_drawAt_23 : decode cX2_drawAt 23 = .ok (.bipush 7, 2) := by decide +kernel
theorem dX2_drawAt_25 : decode cX2_drawAt 25 = .ok (.if_icmp .ge 18, 3) := by decide +kernel
theorem dX2_drawAt_28 : decode cX2_drawAt 28 = .ok (.aload_n 0, 1) := by decide +kernel
theorem dX2_drawAt_29 : decode cX2_drawAt 29 = .ok (.aload_n 1, 1) := by decide +kernel
theorem dX2_drawAt_30 : decode cX2_drawAt 30 = .ok (.iload_n 2, 1) := by decide +kernel
theorem dX2_drawAt_31 : decode cX2_drawAt 31 = .ok (.iload 4, 2) := by decide +kernel
theorem dX2_drawAt_33 : decode cX2_drawAt 33 = .ok (.iload_n 3, 1) := by decide +kernel
theorem dX2_drawAt_34 : decode cX2_drawAt 34 = .ok (.invokevirtual 51, 3) := by decide +kernel
theorem dX2_drawAt_37 : decode cX2_drawAt 37 = .ok (.iinc 4 1, 3) := by decide +kernel
theorem dX2_drawAt_40 : decode cX2_drawAt 40 = .ok (.goto (-19), 3) := by decide +kernel
theorem dX2_drawAt_43 : decode cX2_drawAt 43 = .ok (.iinc 3 1, 3) := by decide +kernel
theorem dX2_drawAt_46 : decode cX2_drawAt 46 = .ok (.goto (-34), 3) := by decide +kernel
theorem dX2_drawAt_49 : decode cX2_drawAt 49 = .ok (.aload_n 0, 1) := by decide +kernel
theorem dX2_drawAt_50 : decode cX2_drawAt 50 = .ok (.invokevirtual 55, 3) := by decide +kernel
theorem dX2_drawAt_53 : decode cX2_drawAt 53 = .ok (.return_, 1) := by decide +kernel
theorem dX2_sumOfAll_0 : decode cX2_sumOfAll 0 = .ok (.iload_n 1, 1) := by decide +kernel
theorem dX2_sumOfAll_1 : decode cX2_sumOfAll 1 = .ok (.tableswitch 42 0 2 #[27, 32, 37], 27) := by decide +kernel
theorem dX2_sumOfAll_28 : decode cX2_sumOfAll 28 = .ok (.aload_n 0, 1) := by decide +kernel
theorem dX2_sumOfAll_29 : decode cX2_sumOfAll 29 = .ok (.getfield 31, 3) := by decide +kernel
theorem dX2_sumOfAll_32 : decode cX2_sumOfAll 32 = .ok (.ireturn, 1) := by decide +kernel
theorem dX2_sumOfAll_33 : decode cX2_sumOfAll 33 = .ok (.aload_n 0, 1) := by decide +kernel
theorem dX2_sumOfAll_34 : decode cX2_sumOfAll 34 = .ok (.getfield 35, 3) := by decide +kernel
theorem dX2_sumOfAll_37 : decode cX2_sumOfAll 37 = .ok (.ireturn, 1) := by decide +kernel
theorem dX2_sumOfAll_38 : decode cX2_sumOfAll 38 = .ok (.aload_n 0, 1) := by decide +kernel
theorem dX2_sumOfAll_39 : decode cX2_sumOfAll 39 = .ok (.getfield 38, 3) := by decide +kernel
theorem dX2_sumOfAll_42 : decode cX2_sumOfAll 42 = .ok (.ireturn, 1) := by decide +kernel
theorem dX2_sumOfAll_43 : decode cX2_sumOfAll 43 = .ok (.aload_n 0, 1) := by decide +kernel
theorem dX2_sumOfAll_44 : decode cX2_sumOfAll 44 = .ok (.getfield 41, 3) := by decide +kernel
theorem dX2_sumOfAll_47 : decode cX2_sumOfAll 47 = .ok (.ireturn, 1) := by decide +kernel
theorem dX2_hasLine_0 : decode cX2_hasLine 0 = .ok (.iload_n 1, 1) := by decide +kernel
theorem dX2_hasLine_1 : decode cX2_hasLine 1 = .ok (.iconst 0, 1) := by decide +kernel
theorem dX2_hasLine_2 : decode cX2_hasLine 2 = .ok (.aload_n 0, 1) := by decide +kernel
theorem dX2_hasLine_3 : decode cX2_hasLine 3 = .ok (.getfield 31, 3) := by decide +kernel
theorem dX2_hasLine_6 : decode cX2_hasLine 6 = .ok (.iconst 1, 1) := by decide +kernel
theorem dX2_hasLine_7 : decode cX2_hasLine 7 = .ok (.isub, 1) := by decide +kernel
theorem dX2_hasLine_8 : decode cX2_hasLine 8 = .ok (.invokestatic 58, 3) := by decide +kernel
theorem dX2_hasLine_11 : decode cX2_hasLine 11 = .ok (.ireturn, 1) := by decide +kernel
theorem dX2_ofLine_0 : decode cX2_ofLine 0 = .ok (.aload_n 0, 1) := by decide +kernel
theorem dX2_ofLine_1 : decode cX2_ofLine 1 = .ok (.getfield 28, 3) := by decide +kernel
theorem dX2_ofLine_4 : decode cX2_ofLine 4 = .ok (.iload_n 1, 1) := by decide +kernel
theorem dX2_ofLine_5 : decode cX2_ofLine 5 = .ok (.iaload, 1) := by decide +kernel
theorem dX2_ofLine_6 : decode cX2_ofLine 6 = .ok (.istore_n 3, 1) := by decide +kernel
theorem dX2_ofLine_7 : decode cX2_ofLine 7 = .ok (.iload_n 2, 1) := by decide +kernel
theorem dX2_ofLine_8 : decode cX2_ofLine 8 = .ok (.tableswitch 52 0 2 #[28, 35, 50], 28) := by decide +kernel
theorem dX2_ofLine_36 : decode cX2_ofLine 36 = .ok (.aload_n 0, 1) := by decide +kernel
theorem dX2_ofLine_37 : decode cX2_ofLine 37 = .ok (.getfield 19, 3) := by decide +kernel
theorem dX2_ofLine_40 : decode cX2_ofLine 40 = .ok (.iload_n 3, 1) := by decide +kernel
theorem dX2_ofLine_41 : decode cX2_ofLine 41 = .ok (.iaload, 1) := by decide +kernel
theorem dX2_ofLine_42 : decode cX2_ofLine 42 = .ok (.ireturn, 1) := by decide +kernel
theorem dX2_ofLine_43 : decode cX2_ofLine 43 = .ok (.aload_n 0, 1) := by decide +kernel
theorem dX2_ofLine_44 : decode cX2_ofLine 44 = .ok (.getfield 25, 3) := by decide +kernel
theorem dX2_ofLine_47 : decode cX2_ofLine 47 = .ok (.iload_n 3, 1) := by decide +kernel
theorem dX2_ofLine_48 : decode cX2_ofLine 48 = .ok (.baload, 1) := by decide +kernel
theorem dX2_ofLine_49 : decode cX2_ofLine 49 = .ok (.ifCond .eq 7, 3) := by decide +kernel
theorem dX2_ofLine_52 : decode cX2_ofLine 52 = .ok (.iconst 1, 1) := by decide +kernel
theorem dX2_ofLine_53 : decode cX2_ofLine 53 = .ok (.goto 4, 3) := by decide +kernel
theorem dX2_ofLine_56 : decode cX2_ofLine 56 = .ok (.iconst 0, 1) := by decide +kernel
theorem dX2_ofLine_57 : decode cX2_ofLine 57 = .ok (.ireturn, 1) := by decide +kernel
theorem dX2_ofLine_58 : decode cX2_ofLine 58 = .ok (.iload_n 3, 1) := by decide +kernel
theorem dX2_ofLine_59 : decode cX2_ofLine 59 = .ok (.ireturn, 1) := by decide +kernel
theorem dX2_ofLine_60 : decode cX2_ofLine 60 = .ok (.aload_n 0, 1) := by decide +kernel
theorem dX2_ofLine_61 : decode cX2_ofLine 61 = .ok (.getfield 22, 3) := by decide +kernel
theorem dX2_ofLine_64 : decode cX2_ofLine 64 = .ok (.iload_n 3, 1) := by decide +kernel
theorem dX2_ofLine_65 : decode cX2_ofLine 65 = .ok (.iaload, 1) := by decide +kernel
theorem dX2_ofLine_66 : decode cX2_ofLine 66 = .ok (.ireturn, 1) := by decide +kernel
theorem dX2_markPoints_0 : decode cX2_markPoints 0 = .ok (.aload_n 0, 1) := by decide +kernel
theorem dX2_markPoints_1 : decode cX2_markPoints 1 = .ok (.iconst 0, 1) := by decide +kernel
theorem dX2_markPoints_2 : decode cX2_markPoints 2 = .ok (.putfield 41, 3) := by decide +kernel
theorem dX2_markPoints_5 : decode cX2_markPoints 5 = .ok (.iconst 0, 1) := by decide +kernel
theorem dX2_markPoints_6 : decode cX2_markPoints 6 = .ok (.istore_n 3, 1) := by decide +kernel
theorem dX2_markPoints_7 : decode cX2_markPoints 7 = .ok (.iload_n 3, 1) := by decide +kernel
theorem dX2_markPoints_8 : decode cX2_markPoints 8 = .ok (.aload_n 0, 1) := by decide +kernel
theorem dX2_markPoints_9 : decode cX2_markPoints 9 = .ok (.getfield 9, 3) := by decide +kernel
theorem dX2_markPoints_12 : decode cX2_markPoints 12 = .ok (.arraylength, 1) := by decide +kernel
theorem dX2_markPoints_13 : decode cX2_markPoints 13 = .ok (.if_icmp .ge 48, 3) := by decide +kernel
theorem dX2_markPoints_16 : decode cX2_markPoints 16 = .ok (.aload_n 0, 1) := by decide +kernel
theorem dX2_markPoints_17 : decode cX2_markPoints 17 = .ok (.getfield 9, 3) := by decide +kernel
theorem dX2_markPoints_20 : decode cX2_markPoints 20 = .ok (.iload_n 3, 1) := by decide +kernel
theorem dX2_markPoints_21 : decode cX2_markPoints 21 = .ok (.aload_n 1, 1) := by decide +kernel
theorem dX2_markPoints_22 : decode cX2_markPoints 22 = .ok (.iload_n 3, 1) := by decide +kernel
theorem dX2_markPoints_23 : decode cX2_markPoints 23 = .ok (.invokevirtual 62, 3) := by decide +kernel
theorem dX2_markPoints_26 : decode cX2_markPoints 26 = .ok (.iload_n 2, 1) := by decide +kernel
theorem dX2_markPoints_27 : decode cX2_markPoints 27 = .ok (.if_icmp .lt 7, 3) := by decide +kernel
theorem dX2_markPoints_30 : decode cX2_markPoints 30 = .ok (.iconst 1, 1) := by decide +kernel
theorem dX2_markPoints_31 : decode cX2_markPoints 31 = .ok (.goto 4, 3) := by decide +kernel
theorem dX2_markPoints_34 : decode cX2_markPoints 34 = .ok (.iconst 0, 1) := by decide +kernel
theorem dX2_markPoints_35 : decode cX2_markPoints 35 = .ok (.bastore, 1) := by decide +kernel
theorem dX2_markPoints_36 : decode cX2_markPoints 36 = .ok (.aload_n 0, 1) := by decide +kernel
theorem dX2_markPoints_37 : decode cX2_markPoints 37 = .ok (.getfield 9, 3) := by decide +kernel
theorem dX2_markPoints_40 : decode cX2_markPoints 40 = .ok (.iload_n 3, 1) := by decide +kernel
theorem dX2_markPoints_41 : decode cX2_markPoints 41 = .ok (.baload, 1) := by decide +kernel
theorem dX2_markPoints_42 : decode cX2_markPoints 42 = .ok (.ifCond .eq 13, 3) := by decide +kernel
theorem dX2_markPoints_45 : decode cX2_markPoints 45 = .ok (.aload_n 0, 1) := by decide +kernel
theorem dX2_markPoints_46 : decode cX2_markPoints 46 = .ok (.dup, 1) := by decide +kernel
theorem dX2_markPoints_47 : decode cX2_markPoints 47 = .ok (.getfield 41, 3) := by decide +kernel
theorem dX2_markPoints_50 : decode cX2_markPoints 50 = .ok (.iconst 1, 1) := by decide +kernel
theorem dX2_markPoints_51 : decode cX2_markPoints 51 = .ok (.iadd, 1) := by decide +kernel
theorem dX2_markPoints_52 : decode cX2_markPoints 52 = .ok (.putfield 41, 3) := by decide +kernel
theorem dX2_markPoints_55 : decode cX2_markPoints 55 = .ok (.iinc 3 1, 3) := by decide +kernel
theorem dX2_markPoints_58 : decode cX2_markPoints 58 = .ok (.goto (-51), 3) := by decide +kernel
theorem dX2_markPoints_61 : decode cX2_markPoints 61 = .ok (.return_, 1) := by decide +kernel
theorem dX2_cutSides_0 : decode cX2_cutSides 0 = .ok (.iconst 0, 1) := by decide +kernel
theorem dX2_cutSides_1 : decode cX2_cutSides 1 = .ok (.istore_n 1, 1) := by decide +kernel
theorem dX2_cutSides_2 : decode cX2_cutSides 2 = .ok (.iload_n 1, 1) := by decide +kernel
theorem dX2_cutSides_3 : decode cX2_cutSides 3 = .ok (.aload_n 0, 1) := by decide +kernel
theorem dX2_cutSides_4 : decode cX2_cutSides 4 = .ok (.getfield 9, 3) := by decide +kernel
theorem dX2_cutSides_7 : decode cX2_cutSides 7 = .ok (.arraylength, 1) := by decide +kernel
theorem dX2_cutSides_8 : decode cX2_cutSides 8 = .ok (.if_icmp .ge 118, 3) := by decide +kernel
theorem dX2_cutSides_11 : decode cX2_cutSides 11 = .ok (.iload_n 1, 1) := by decide +kernel
theorem dX2_cutSides_12 : decode cX2_cutSides 12 = .ok (.bipush 8, 2) := by decide +kernel
theorem dX2_cutSides_14 : decode cX2_cutSides 14 = .ok (.irem, 1) := by decide +kernel
theorem dX2_cutSides_15 : decode cX2_cutSides 15 = .ok (.bipush 7, 2) := by decide +kernel
theorem dX2_cutSides_17 : decode cX2_cutSides 17 = .ok (.if_icmp .ge 24, 3) := by decide +kernel
theorem dX2_cutSides_20 : decode cX2_cutSides 20 = .ok (.aload_n 0, 1) := by decide +kernel
theorem dX2_cutSides_21 : decode cX2_cutSides 21 = .ok (.getfield 9, 3) := by decide +kernel
theorem dX2_cutSides_24 : decode cX2_cutSides 24 = .ok (.iload_n 1, 1) := by decide +kernel
theorem dX2_cutSides_25 : decode cX2_cutSides 25 = .ok (.baload, 1) := by decide +kernel
theorem dX2_cutSides_26 : decode cX2_cutSides 26 = .ok (.aload_n 0, 1) := by decide +kernel
theorem dX2_cutSides_27 : decode cX2_cutSides 27 = .ok (.getfield 9, 3) := by decide +kernel
theorem dX2_cutSides_30 : decode cX2_cutSides 30 = .ok (.iload_n 1, 1) := by decide +kernel
theorem dX2_cutSides_31 : decode cX2_cutSides 31 = .ok (.iconst 1, 1) := by decide +kernel
theorem dX2_cutSides_32 : decode cX2_cutSides 32 = .ok (.iadd, 1) := by decide +kernel
theorem dX2_cutSides_33 : decode cX2_cutSides 33 = .ok (.baload, 1) := by decide +kernel
theorem dX2_cutSides_34 : decode cX2_cutSides 34 = .ok (.if_icmp .eq 7, 3) := by decide +kernel
theorem dX2_cutSides_37 : decode cX2_cutSides 37 = .ok (.iconst 1, 1) := by decide +kernel
theorem dX2_cutSides_38 : decode cX2_cutSides 38 = .ok (.goto 4, 3) := by decide +kernel
theorem dX2_cutSides_41 : decode cX2_cutSides 41 = .ok (.iconst 0, 1) := by decide +kernel
theorem dX2_cutSides_42 : decode cX2_cutSides 42 = .ok (.istore_n 2, 1) := by decide +kernel
theorem dX2_cutSides_43 : decode cX2_cutSides 43 = .ok (.iload_n 1, 1) := by decide +kernel
theorem dX2_cutSides_44 : decode cX2_cutSides 44 = .ok (.bipush 8, 2) := by decide +kernel
theorem dX2_cutSides_46 : decode cX2_cutSides 46 = .ok (.idiv, 1) := by decide +kernel
theorem dX2_cutSides_47 : decode cX2_cutSides 47 = .ok (.bipush 7, 2) := by decide +kernel
theorem dX2_cutSides_49 : decode cX2_cutSides 49 = .ok (.if_icmp .ge 25, 3) := by decide +kernel
theorem dX2_cutSides_52 : decode cX2_cutSides 52 = .ok (.aload_n 0, 1) := by decide +kernel
theorem dX2_cutSides_53 : decode cX2_cutSides 53 = .ok (.getfield 9, 3) := by decide +kernel
theorem dX2_cutSides_56 : decode cX2_cutSides 56 = .ok (.iload_n 1, 1) := by decide +kernel
theorem dX2_cutSides_57 : decode cX2_cutSides 57 = .ok (.baload, 1) := by decide +kernel
theorem dX2_cutSides_58 : decode cX2_cutSides 58 = .ok (.aload_n 0, 1) := by decide +kernel
theorem dX2_cutSides_59 : decode cX2_cutSides 59 = .ok (.getfield 9, 3) := by decide +kernel
theorem dX2_cutSides_62 : decode cX2_cutSides 62 = .ok (.iload_n 1, 1) := by decide +kernel
theorem dX2_cutSides_63 : decode cX2_cutSides 63 = .ok (.bipush 8, 2) := by decide +kernel
theorem dX2_cutSides_65 : decode cX2_cutSides 65 = .ok (.iadd, 1) := by decide +kernel
theorem dX2_cutSides_66 : decode cX2_cutSides 66 = .ok (.baload, 1) := by decide +kernel
theorem dX2_cutSides_67 : decode cX2_cutSides 67 = .ok (.if_icmp .eq 7, 3) := by decide +kernel
theorem dX2_cutSides_70 : decode cX2_cutSides 70 = .ok (.iconst 1, 1) := by decide +kernel
theorem dX2_cutSides_71 : decode cX2_cutSides 71 = .ok (.goto 4, 3) := by decide +kernel
theorem dX2_cutSides_74 : decode cX2_cutSides 74 = .ok (.iconst 0, 1) := by decide +kernel
theorem dX2_cutSides_75 : decode cX2_cutSides 75 = .ok (.istore_n 3, 1) := by decide +kernel
theorem dX2_cutSides_76 : decode cX2_cutSides 76 = .ok (.aload_n 0, 1) := by decide +kernel
theorem dX2_cutSides_77 : decode cX2_cutSides 77 = .ok (.getfield 15, 3) := by decide +kernel
theorem dX2_cutSides_80 : decode cX2_cutSides 80 = .ok (.iconst 2, 1) := by decide +kernel
theorem dX2_cutSides_81 : decode cX2_cutSides 81 = .ok (.iload_n 1, 1) := by decide +kernel
theorem dX2_cutSides_82 : decode cX2_cutSides 82 = .ok (.imul, 1) := by decide +kernel
theorem dX2_cutSides_83 : decode cX2_cutSides 83 = .ok (.iload_n 2, 1) := by decide +kernel
theorem dX2_cutSides_84 : decode cX2_cutSides 84 = .ok (.ifCond .eq 9, 3) := by decide +kernel
theorem dX2_cutSides_87 : decode cX2_cutSides 87 = .ok (.iconst 2, 1) := by decide +kernel
theorem dX2_cutSides_88 : decode cX2_cutSides 88 = .ok (.iload_n 1, 1) := by decide +kernel
theorem dX2_cutSides_89 : decode cX2_cutSides 89 = .ok (.imul, 1) := by decide +kernel
theorem dX2_cutSides_90 : decode cX2_cutSides 90 = .ok (.goto 5, 3) := by decide +kernel
theorem dX2_cutSides_93 : decode cX2_cutSides 93 = .ok (.bipush (-6), 2) := by decide +kernel
theorem dX2_cutSides_95 : decode cX2_cutSides 95 = .ok (.iastore, 1) := by decide +kernel
theorem dX2_cutSides_96 : decode cX2_cutSides 96 = .ok (.aload_n 0, 1) := by decide +kernel
theorem dX2_cutSides_97 : decode cX2_cutSides 97 = .ok (.getfield 15, 3) := by decide +kernel
theorem dX2_cutSides_100 : decode cX2_cutSides 100 = .ok (.iconst 2, 1) := by decide +kernel
theorem dX2_cutSides_101 : decode cX2_cutSides 101 = .ok (.iload_n 1, 1) := by decide +kernel
theorem dX2_cutSides_102 : decode cX2_cutSides 102 = .ok (.imul, 1) := by decide +kernel
theorem dX2_cutSides_103 : decode cX2_cutSides 103 = .ok (.iconst 1, 1) := by decide +kernel
theorem dX2_cutSides_104 : decode cX2_cutSides 104 = .ok (.iadd, 1) := by decide +kernel
theorem dX2_cutSides_105 : decode cX2_cutSides 105 = .ok (.iload_n 3, 1) := by decide +kernel
theorem dX2_cutSides_106 : decode cX2_cutSides 106 = .ok (.ifCond .eq 11, 3) := by decide +kernel
theorem dX2_cutSides_109 : decode cX2_cutSides 109 = .ok (.iconst 2, 1) := by decide +kernel
theorem dX2_cutSides_110 : decode cX2_cutSides 110 = .ok (.iload_n 1, 1) := by decide +kernel
theorem dX2_cutSides_111 : decode cX2_cutSides 111 = .ok (.imul, 1) := by decide +kernel
theorem dX2_cutSides_112 : decode cX2_cutSides 112 = .ok (.iconst 1, 1) := by decide +kernel
theorem dX2_cutSides_113 : decode cX2_cutSides 113 = .ok (.iadd, 1) := by decide +kernel
theorem dX2_cutSides_114 : decode cX2_cutSides 114 = .ok (.goto 5, 3) := by decide +kernel
theorem dX2_cutSides_117 : decode cX2_cutSides 117 = .ok (.bipush (-6), 2) := by decide +kernel
theorem dX2_cutSides_119 : decode cX2_cutSides 119 = .ok (.iastore, 1) := by decide +kernel
theorem dX2_cutSides_120 : decode cX2_cutSides 120 = .ok (.iinc 1 1, 3) := by decide +kernel
theorem dX2_cutSides_123 : decode cX2_cutSides 123 = .ok (.goto (-121), 3) := by decide +kernel
theorem dX2_cutSides_126 : decode cX2_cutSides 126 = .ok (.return_, 1) := by decide +kernel
theorem dX2_crossSquare_0 : decode cX2_crossSquare 0 = .ok (.bipush 8, 2) := by decide +kernel
theorem dX2_crossSquare_2 : decode cX2_crossSquare 2 = .ok (.iload 4, 2) := by decide +kernel
theorem dX2_crossSquare_4 : decode cX2_crossSquare 4 = .ok (.imul, 1) := by decide +kernel
theorem dX2_crossSquare_5 : decode cX2_crossSquare 5 = .ok (.iload_n 3, 1) := by decide +kernel
theorem dX2_crossSquare_6 : decode cX2_crossSquare 6 = .ok (.iadd, 1) := by decide +kernel
theorem dX2_crossSquare_7 : decode cX2_crossSquare 7 = .ok (.istore 5, 2) := by decide +kernel
theorem dX2_crossSquare_9 : decode cX2_crossSquare 9 = .ok (.iconst 2, 1) := by decide +kernel
theorem dX2_crossSquare_10 : decode cX2_crossSquare 10 = .ok (.iload 5, 2) := by decide +kernel
theorem dX2_crossSquare_12 : decode cX2_crossSquare 12 = .ok (.imul, 1) := by decide +kernel
theorem dX2_crossSquare_13 : decode cX2_crossSquare 13 = .ok (.istore 6, 2) := by decide +kernel
theorem dX2_crossSquare_15 : decode cX2_crossSquare 15 = .ok (.iload 6, 2) := by decide +kernel
theorem dX2_crossSquare_17 : decode cX2_crossSquare 17 = .ok (.iconst 1, 1) := by decide +kernel
theorem dX2_crossSquare_18 : decode cX2_crossSquare 18 = .ok (.iadd, 1) := by decide +kernel
theorem dX2_crossSquare_19 : decode cX2_crossSquare 19 = .ok (.istore 7, 2) := by decide +kernel
theorem dX2_crossSquare_21 : decode cX2_crossSquare 21 = .ok (.iload 7, 2) := by decide +kernel
theorem dX2_crossSquare_23 : decode cX2_crossSquare 23 = .ok (.iconst 2, 1) := by decide +kernel
theorem dX2_crossSquare_24 : decode cX2_crossSquare 24 = .ok (.iadd, 1) := by decide +kernel
theorem dX2_crossSquare_25 : decode cX2_crossSquare 25 = .ok (.istore 8, 2) := by decide +kernel
theorem dX2_crossSquare_27 : decode cX2_crossSquare 27 = .ok (.iload 6, 2) := by decide +kernel
theorem dX2_crossSquare_29 : decode cX2_crossSquare 29 = .ok (.bipush 16, 2) := by decide +kernel
theorem dX2_crossSquare_31 : decode cX2_crossSquare 31 = .ok (.iadd, 1) := by decide +kernel
theorem dX2_crossSquare_32 : decode cX2_crossSquare 32 = .ok (.istore 9, 2) := by decide +kernel
theorem dX2_crossSquare_34 : decode cX2_crossSquare 34 = .ok (.aload_n 0, 1) := by decide +kernel
theorem dX2_crossSquare_35 : decode cX2_crossSquare 35 = .ok (.iload 6, 2) := by decide +kernel
theorem dX2_crossSquare_37 : decode cX2_crossSquare 37 = .ok (.invokevirtual 68, 3) := by decide +kernel
theorem dX2_crossSquare_40 : decode cX2_crossSquare 40 = .ok (.ifCond .eq 132, 3) := by decide +kernel
theorem dX2_crossSquare_43 : decode cX2_crossSquare 43 = .ok (.aload_n 0, 1) := by decide +kernel
theorem dX2_crossSquare_44 : decode cX2_crossSquare 44 = .ok (.iload 7, 2) := by decide +kernel
theorem dX2_crossSquare_46 : decode cX2_crossSquare 46 = .ok (.invokevirtual 68, 3) := by decide +kernel
end
section
theorem dX2_crossSquare_49 : decode cX2_crossSquare 49 = .ok (.ifCond .eq 123, 3) := by decide +kernel
theorem dX2_crossSquare_52 : decode cX2_crossSquare 52 = .ok (.aload_n 0, 1) := by decide +kernel
theorem dX2_crossSquare_53 : decode cX2_crossSquare 53 = .ok (.iload 8, 2) := by decide +kernel
theorem dX2_crossSquare_55 : decode cX2_crossSquare 55 = .ok (.invokevirtual 68, 3) := by decide +kernel
theorem dX2_crossSquare_58 : decode cX2_crossSquare 58 = .ok (.ifCond .eq 114, 3) := by decide +kernel
theorem dX2_crossSquare_61 : decode cX2_crossSquare 61 = .ok (.aload_n 0, 1) := by decide +kernel
theorem dX2_crossSquare_62 : decode cX2_crossSquare 62 = .ok (.iload 9, 2) := by decide +kernel
theorem dX2_crossSquare_64 : decode cX2_crossSquare 64 = .ok (.invokevirtual 68, 3) := by decide +kernel
theorem dX2_crossSquare_67 : decode cX2_crossSquare 67 = .ok (.ifCond .eq 105, 3) := by decide +kernel
theorem dX2_crossSquare_70 : decode cX2_crossSquare 70 = .ok (.aload_n 1, 1) := by decide +kernel
theorem dX2_crossSquare_71 : decode cX2_crossSquare 71 = .ok (.iload 5, 2) := by decide +kernel
theorem dX2_crossSquare_73 : decode cX2_crossSquare 73 = .ok (.invokevirtual 62, 3) := by decide +kernel
theorem dX2_crossSquare_76 : decode cX2_crossSquare 76 = .ok (.aload_n 1, 1) := by decide +kernel
theorem dX2_crossSquare_77 : decode cX2_crossSquare 77 = .ok (.iload 5, 2) := by decide +kernel
theorem dX2_crossSquare_79 : decode cX2_crossSquare 79 = .ok (.iconst 1, 1) := by decide +kernel
theorem dX2_crossSquare_80 : decode cX2_crossSquare 80 = .ok (.iadd, 1) := by decide +kernel
theorem dX2_crossSquare_81 : decode cX2_crossSquare 81 = .ok (.invokevirtual 62, 3) := by decide +kernel
theorem dX2_crossSquare_84 : decode cX2_crossSquare 84 = .ok (.iadd, 1) := by decide +kernel
theorem dX2_crossSquare_85 : decode cX2_crossSquare 85 = .ok (.aload_n 1, 1) := by decide +kernel
theorem dX2_crossSquare_86 : decode cX2_crossSquare 86 = .ok (.iload 5, 2) := by decide +kernel
theorem dX2_crossSquare_88 : decode cX2_crossSquare 88 = .ok (.bipush 8, 2) := by decide +kernel
theorem dX2_crossSquare_90 : decode cX2_crossSquare 90 = .ok (.iadd, 1) := by decide +kernel
theorem dX2_crossSquare_91 : decode cX2_crossSquare 91 = .ok (.invokevirtual 62, 3) := by decide +kernel
theorem dX2_crossSquare_94 : decode cX2_crossSquare 94 = .ok (.iadd, 1) := by decide +kernel
theorem dX2_crossSquare_95 : decode cX2_crossSquare 95 = .ok (.aload_n 1, 1) := by decide +kernel
theorem dX2_crossSquare_96 : decode cX2_crossSquare 96 = .ok (.iload 5, 2) := by decide +kernel
theorem dX2_crossSquare_98 : decode cX2_crossSquare 98 = .ok (.bipush 8, 2) := by decide +kernel
theorem dX2_crossSquare_100 : decode cX2_crossSquare 100 = .ok (.iadd, 1) := by decide +kernel
theorem dX2_crossSquare_101 : decode cX2_crossSquare 101 = .ok (.iconst 1, 1) := by decide +kernel
theorem dX2_crossSquare_102 : decode cX2_crossSquare 102 = .ok (.iadd, 1) := by decide +kernel
theorem dX2_crossSquare_103 : decode cX2_crossSquare 103 = .ok (.invokevirtual 62, 3) := by decide +kernel
theorem dX2_crossSquare_106 : decode cX2_crossSquare 106 = .ok (.iadd, 1) := by decide +kernel
theorem dX2_crossSquare_107 : decode cX2_crossSquare 107 = .ok (.istore 10, 2) := by decide +kernel
theorem dX2_crossSquare_109 : decode cX2_crossSquare 109 = .ok (.iload 10, 2) := by decide +kernel
theorem dX2_crossSquare_111 : decode cX2_crossSquare 111 = .ok (.iconst 4, 1) := by decide +kernel
theorem dX2_crossSquare_112 : decode cX2_crossSquare 112 = .ok (.iload_n 2, 1) := by decide +kernel
theorem dX2_crossSquare_113 : decode cX2_crossSquare 113 = .ok (.imul, 1) := by decide +kernel
theorem dX2_crossSquare_114 : decode cX2_crossSquare 114 = .ok (.if_icmp .ge 7, 3) := by decide +kernel
theorem dX2_crossSquare_117 : decode cX2_crossSquare 117 = .ok (.iconst 1, 1) := by decide +kernel
theorem dX2_crossSquare_118 : decode cX2_crossSquare 118 = .ok (.goto 4, 3) := by decide +kernel
theorem dX2_crossSquare_121 : decode cX2_crossSquare 121 = .ok (.iconst 0, 1) := by decide +kernel
theorem dX2_crossSquare_122 : decode cX2_crossSquare 122 = .ok (.istore 11, 2) := by decide +kernel
theorem dX2_crossSquare_124 : decode cX2_crossSquare 124 = .ok (.aload_n 0, 1) := by decide +kernel
theorem dX2_crossSquare_125 : decode cX2_crossSquare 125 = .ok (.getfield 9, 3) := by decide +kernel
theorem dX2_crossSquare_128 : decode cX2_crossSquare 128 = .ok (.iload 5, 2) := by decide +kernel
theorem dX2_crossSquare_130 : decode cX2_crossSquare 130 = .ok (.baload, 1) := by decide +kernel
theorem dX2_crossSquare_131 : decode cX2_crossSquare 131 = .ok (.iload 11, 2) := by decide +kernel
theorem dX2_crossSquare_133 : decode cX2_crossSquare 133 = .ok (.if_icmp .ne 22, 3) := by decide +kernel
theorem dX2_crossSquare_136 : decode cX2_crossSquare 136 = .ok (.aload_n 0, 1) := by decide +kernel
theorem dX2_crossSquare_137 : decode cX2_crossSquare 137 = .ok (.iload 6, 2) := by decide +kernel
theorem dX2_crossSquare_139 : decode cX2_crossSquare 139 = .ok (.iload 7, 2) := by decide +kernel
theorem dX2_crossSquare_141 : decode cX2_crossSquare 141 = .ok (.invokevirtual 72, 3) := by decide +kernel
theorem dX2_crossSquare_144 : decode cX2_crossSquare 144 = .ok (.aload_n 0, 1) := by decide +kernel
theorem dX2_crossSquare_145 : decode cX2_crossSquare 145 = .ok (.iload 8, 2) := by decide +kernel
theorem dX2_crossSquare_147 : decode cX2_crossSquare 147 = .ok (.iload 9, 2) := by decide +kernel
theorem dX2_crossSquare_149 : decode cX2_crossSquare 149 = .ok (.invokevirtual 72, 3) := by decide +kernel
theorem dX2_crossSquare_152 : decode cX2_crossSquare 152 = .ok (.goto 19, 3) := by decide +kernel
theorem dX2_crossSquare_155 : decode cX2_crossSquare 155 = .ok (.aload_n 0, 1) := by decide +kernel
theorem dX2_crossSquare_156 : decode cX2_crossSquare 156 = .ok (.iload 6, 2) := by decide +kernel
theorem dX2_crossSquare_158 : decode cX2_crossSquare 158 = .ok (.iload 8, 2) := by decide +kernel
theorem dX2_crossSquare_160 : decode cX2_crossSquare 160 = .ok (.invokevirtual 72, 3) := by decide +kernel
theorem dX2_crossSquare_163 : decode cX2_crossSquare 163 = .ok (.aload_n 0, 1) := by decide +kernel
theorem dX2_crossSquare_164 : decode cX2_crossSquare 164 = .ok (.iload 7, 2) := by decide +kernel
theorem dX2_crossSquare_166 : decode cX2_crossSquare 166 = .ok (.iload 9, 2) := by decide +kernel
theorem dX2_crossSquare_168 : decode cX2_crossSquare 168 = .ok (.invokevirtual 72, 3) := by decide +kernel
theorem dX2_crossSquare_171 : decode cX2_crossSquare 171 = .ok (.return_, 1) := by decide +kernel
theorem dX2_crossSquare_172 : decode cX2_crossSquare 172 = .ok (.aload_n 0, 1) := by decide +kernel
theorem dX2_crossSquare_173 : decode cX2_crossSquare 173 = .ok (.iload 6, 2) := by decide +kernel
theorem dX2_crossSquare_175 : decode cX2_crossSquare 175 = .ok (.iload 7, 2) := by decide +kernel
theorem dX2_crossSquare_177 : decode cX2_crossSquare 177 = .ok (.invokevirtual 72, 3) := by decide +kernel
theorem dX2_crossSquare_180 : decode cX2_crossSquare 180 = .ok (.aload_n 0, 1) := by decide +kernel
theorem dX2_crossSquare_181 : decode cX2_crossSquare 181 = .ok (.iload 6, 2) := by decide +kernel
theorem dX2_crossSquare_183 : decode cX2_crossSquare 183 = .ok (.iload 8, 2) := by decide +kernel
theorem dX2_crossSquare_185 : decode cX2_crossSquare 185 = .ok (.invokevirtual 72, 3) := by decide +kernel
theorem dX2_crossSquare_188 : decode cX2_crossSquare 188 = .ok (.aload_n 0, 1) := by decide +kernel
theorem dX2_crossSquare_189 : decode cX2_crossSquare 189 = .ok (.iload 6, 2) := by decide +kernel
theorem dX2_crossSquare_191 : decode cX2_crossSquare 191 = .ok (.iload 9, 2) := by decide +kernel
theorem dX2_crossSquare_193 : decode cX2_crossSquare 193 = .ok (.invokevirtual 72, 3) := by decide +kernel
theorem dX2_crossSquare_196 : decode cX2_crossSquare 196 = .ok (.aload_n 0, 1) := by decide +kernel
theorem dX2_crossSquare_197 : decode cX2_crossSquare 197 = .ok (.iload 7, 2) := by decide +kernel
theorem dX2_crossSquare_199 : decode cX2_crossSquare 199 = .ok (.iload 8, 2) := by decide +kernel
theorem dX2_crossSquare_201 : decode cX2_crossSquare 201 = .ok (.invokevirtual 72, 3) := by decide +kernel
theorem dX2_crossSquare_204 : decode cX2_crossSquare 204 = .ok (.aload_n 0, 1) := by decide +kernel
theorem dX2_crossSquare_205 : decode cX2_crossSquare 205 = .ok (.iload 7, 2) := by decide +kernel
theorem dX2_crossSquare_207 : decode cX2_crossSquare 207 = .ok (.iload 9, 2) := by decide +kernel
theorem dX2_crossSquare_209 : decode cX2_crossSquare 209 = .ok (.invokevirtual 72, 3) := by decide +kernel
theorem dX2_crossSquare_212 : decode cX2_crossSquare 212 = .ok (.aload_n 0, 1) := by decide +kernel
theorem dX2_crossSquare_213 : decode cX2_crossSquare 213 = .ok (.iload 8, 2) := by decide +kernel
theorem dX2_crossSquare_215 : decode cX2_crossSquare 215 = .ok (.iload 9, 2) := by decide +kernel
theorem dX2_crossSquare_217 : decode cX2_crossSquare 217 = .ok (.invokevirtual 72, 3) := by decide +kernel
theorem dX2_crossSquare_220 : decode cX2_crossSquare 220 = .ok (.return_, 1) := by decide +kernel
theorem dX2_isCut_0 : decode cX2_isCut 0 = .ok (.aload_n 0, 1) := by decide +kernel
theorem dX2_isCut_1 : decode cX2_isCut 1 = .ok (.getfield 15, 3) := by decide +kernel
theorem dX2_isCut_4 : decode cX2_isCut 4 = .ok (.iload_n 1, 1) := by decide +kernel
theorem dX2_isCut_5 : decode cX2_isCut 5 = .ok (.iaload, 1) := by decide +kernel
theorem dX2_isCut_6 : decode cX2_isCut 6 = .ok (.bipush (-6), 2) := by decide +kernel
theorem dX2_isCut_8 : decode cX2_isCut 8 = .ok (.if_icmp .eq 7, 3) := by decide +kernel
theorem dX2_isCut_11 : decode cX2_isCut 11 = .ok (.iconst 1, 1) := by decide +kernel
theorem dX2_isCut_12 : decode cX2_isCut 12 = .ok (.goto 4, 3) := by decide +kernel
theorem dX2_isCut_15 : decode cX2_isCut 15 = .ok (.iconst 0, 1) := by decide +kernel
theorem dX2_isCut_16 : decode cX2_isCut 16 = .ok (.ireturn, 1) := by decide +kernel
theorem dX2_join_0 : decode cX2_join 0 = .ok (.aload_n 0, 1) := by decide +kernel
theorem dX2_join_1 : decode cX2_join 1 = .ok (.iload_n 1, 1) := by decide +kernel
theorem dX2_join_2 : decode cX2_join 2 = .ok (.invokevirtual 68, 3) := by decide +kernel
theorem dX2_join_5 : decode cX2_join 5 = .ok (.ifCond .eq 41, 3) := by decide +kernel
theorem dX2_join_8 : decode cX2_join 8 = .ok (.aload_n 0, 1) := by decide +kernel
theorem dX2_join_9 : decode cX2_join 9 = .ok (.iload_n 2, 1) := by decide +kernel
theorem dX2_join_10 : decode cX2_join 10 = .ok (.invokevirtual 68, 3) := by decide +kernel
theorem dX2_join_13 : decode cX2_join 13 = .ok (.ifCond .eq 33, 3) := by decide +kernel
theorem dX2_join_16 : decode cX2_join 16 = .ok (.aload_n 0, 1) := by decide +kernel
theorem dX2_join_17 : decode cX2_join 17 = .ok (.iload_n 1, 1) := by decide +kernel
theorem dX2_join_18 : decode cX2_join 18 = .ok (.invokevirtual 76, 3) := by decide +kernel
theorem dX2_join_21 : decode cX2_join 21 = .ok (.istore_n 3, 1) := by decide +kernel
theorem dX2_join_22 : decode cX2_join 22 = .ok (.aload_n 0, 1) := by decide +kernel
theorem dX2_join_23 : decode cX2_join 23 = .ok (.iload_n 2, 1) := by decide +kernel
theorem dX2_join_24 : decode cX2_join 24 = .ok (.invokevirtual 76, 3) := by decide +kernel
theorem dX2_join_27 : decode cX2_join 27 = .ok (.istore 4, 2) := by decide +kernel
theorem dX2_join_29 : decode cX2_join 29 = .ok (.aload_n 0, 1) := by decide +kernel
theorem dX2_join_30 : decode cX2_join 30 = .ok (.getfield 15, 3) := by decide +kernel
theorem dX2_join_33 : decode cX2_join 33 = .ok (.iload_n 3, 1) := by decide +kernel
theorem dX2_join_34 : decode cX2_join 34 = .ok (.iload 4, 2) := by decide +kernel
theorem dX2_join_36 : decode cX2_join 36 = .ok (.invokestatic 79, 3) := by decide +kernel
theorem dX2_join_39 : decode cX2_join 39 = .ok (.iload_n 3, 1) := by decide +kernel
theorem dX2_join_40 : decode cX2_join 40 = .ok (.iload 4, 2) := by decide +kernel
theorem dX2_join_42 : decode cX2_join 42 = .ok (.invokestatic 85, 3) := by decide +kernel
theorem dX2_join_45 : decode cX2_join 45 = .ok (.iastore, 1) := by decide +kernel
theorem dX2_join_46 : decode cX2_join 46 = .ok (.return_, 1) := by decide +kernel
theorem dX2_leastOf_0 : decode cX2_leastOf 0 = .ok (.iload_n 1, 1) := by decide +kernel
theorem dX2_leastOf_1 : decode cX2_leastOf 1 = .ok (.istore_n 2, 1) := by decide +kernel
theorem dX2_leastOf_2 : decode cX2_leastOf 2 = .ok (.iconst 0, 1) := by decide +kernel
theorem dX2_leastOf_3 : decode cX2_leastOf 3 = .ok (.istore_n 3, 1) := by decide +kernel
theorem dX2_leastOf_4 : decode cX2_leastOf 4 = .ok (.iload_n 3, 1) := by decide +kernel
theorem dX2_leastOf_5 : decode cX2_leastOf 5 = .ok (.sipush 128, 3) := by decide +kernel
theorem dX2_leastOf_8 : decode cX2_leastOf 8 = .ok (.if_icmp .ge 26, 3) := by decide +kernel
theorem dX2_leastOf_11 : decode cX2_leastOf 11 = .ok (.aload_n 0, 1) := by decide +kernel
theorem dX2_leastOf_12 : decode cX2_leastOf 12 = .ok (.getfield 15, 3) := by decide +kernel
theorem dX2_leastOf_15 : decode cX2_leastOf 15 = .ok (.iload_n 2, 1) := by decide +kernel
theorem dX2_leastOf_16 : decode cX2_leastOf 16 = .ok (.iaload, 1) := by decide +kernel
theorem dX2_leastOf_17 : decode cX2_leastOf 17 = .ok (.iload_n 2, 1) := by decide +kernel
theorem dX2_leastOf_18 : decode cX2_leastOf 18 = .ok (.if_icmp .eq 16, 3) := by decide +kernel
theorem dX2_leastOf_21 : decode cX2_leastOf 21 = .ok (.aload_n 0, 1) := by decide +kernel
theorem dX2_leastOf_22 : decode cX2_leastOf 22 = .ok (.getfield 15, 3) := by decide +kernel
theorem dX2_leastOf_25 : decode cX2_leastOf 25 = .ok (.iload_n 2, 1) := by decide +kernel
theorem dX2_leastOf_26 : decode cX2_leastOf 26 = .ok (.iaload, 1) := by decide +kernel
theorem dX2_leastOf_27 : decode cX2_leastOf 27 = .ok (.istore_n 2, 1) := by decide +kernel
theorem dX2_leastOf_28 : decode cX2_leastOf 28 = .ok (.iinc 3 1, 3) := by decide +kernel
theorem dX2_leastOf_31 : decode cX2_leastOf 31 = .ok (.goto (-27), 3) := by decide +kernel
theorem dX2_leastOf_34 : decode cX2_leastOf 34 = .ok (.iload_n 2, 1) := by decide +kernel
theorem dX2_leastOf_35 : decode cX2_leastOf 35 = .ok (.ireturn, 1) := by decide +kernel
theorem dX2_gatherLines_0 : decode cX2_gatherLines 0 = .ok (.aload_n 0, 1) := by decide +kernel
theorem dX2_gatherLines_1 : decode cX2_gatherLines 1 = .ok (.iconst 0, 1) := by decide +kernel
theorem dX2_gatherLines_2 : decode cX2_gatherLines 2 = .ok (.putfield 31, 3) := by decide +kernel
theorem dX2_gatherLines_5 : decode cX2_gatherLines 5 = .ok (.aload_n 0, 1) := by decide +kernel
theorem dX2_gatherLines_6 : decode cX2_gatherLines 6 = .ok (.iconst 0, 1) := by decide +kernel
theorem dX2_gatherLines_7 : decode cX2_gatherLines 7 = .ok (.putfield 38, 3) := by decide +kernel
theorem dX2_gatherLines_10 : decode cX2_gatherLines 10 = .ok (.aload_n 0, 1) := by decide +kernel
theorem dX2_gatherLines_11 : decode cX2_gatherLines 11 = .ok (.iconst 0, 1) := by decide +kernel
theorem dX2_gatherLines_12 : decode cX2_gatherLines 12 = .ok (.putfield 35, 3) := by decide +kernel
theorem dX2_gatherLines_15 : decode cX2_gatherLines 15 = .ok (.iconst 0, 1) := by decide +kernel
theorem dX2_gatherLines_16 : decode cX2_gatherLines 16 = .ok (.istore_n 1, 1) := by decide +kernel
theorem dX2_gatherLines_17 : decode cX2_gatherLines 17 = .ok (.iload_n 1, 1) := by decide +kernel
theorem dX2_gatherLines_18 : decode cX2_gatherLines 18 = .ok (.sipush 128, 3) := by decide +kernel
theorem dX2_gatherLines_21 : decode cX2_gatherLines 21 = .ok (.if_icmp .ge 37, 3) := by decide +kernel
theorem dX2_gatherLines_24 : decode cX2_gatherLines 24 = .ok (.aload_n 0, 1) := by decide +kernel
theorem dX2_gatherLines_25 : decode cX2_gatherLines 25 = .ok (.iload_n 1, 1) := by decide +kernel
theorem dX2_gatherLines_26 : decode cX2_gatherLines 26 = .ok (.invokevirtual 68, 3) := by decide +kernel
theorem dX2_gatherLines_29 : decode cX2_gatherLines 29 = .ok (.ifCond .eq 23, 3) := by decide +kernel
theorem dX2_gatherLines_32 : decode cX2_gatherLines 32 = .ok (.aload_n 0, 1) := by decide +kernel
theorem dX2_gatherLines_33 : decode cX2_gatherLines 33 = .ok (.aload_n 0, 1) := by decide +kernel
theorem dX2_gatherLines_34 : decode cX2_gatherLines 34 = .ok (.iload_n 1, 1) := by decide +kernel
theorem dX2_gatherLines_35 : decode cX2_gatherLines 35 = .ok (.invokevirtual 76, 3) := by decide +kernel
theorem dX2_gatherLines_38 : decode cX2_gatherLines 38 = .ok (.iload_n 1, 1) := by decide +kernel
theorem dX2_gatherLines_39 : decode cX2_gatherLines 39 = .ok (.invokevirtual 88, 3) := by decide +kernel
theorem dX2_gatherLines_42 : decode cX2_gatherLines 42 = .ok (.aload_n 0, 1) := by decide +kernel
theorem dX2_gatherLines_43 : decode cX2_gatherLines 43 = .ok (.dup, 1) := by decide +kernel
theorem dX2_gatherLines_44 : decode cX2_gatherLines 44 = .ok (.getfield 38, 3) := by decide +kernel
theorem dX2_gatherLines_47 : decode cX2_gatherLines 47 = .ok (.iconst 1, 1) := by decide +kernel
theorem dX2_gatherLines_48 : decode cX2_gatherLines 48 = .ok (.iadd, 1) := by decide +kernel
theorem dX2_gatherLines_49 : decode cX2_gatherLines 49 = .ok (.putfield 38, 3) := by decide +kernel
theorem dX2_gatherLines_52 : decode cX2_gatherLines 52 = .ok (.iinc 1 1, 3) := by decide +kernel
theorem dX2_gatherLines_55 : decode cX2_gatherLines 55 = .ok (.goto (-38), 3) := by decide +kernel
theorem dX2_gatherLines_58 : decode cX2_gatherLines 58 = .ok (.iconst 0, 1) := by decide +kernel
theorem dX2_gatherLines_59 : decode cX2_gatherLines 59 = .ok (.istore_n 1, 1) := by decide +kernel
theorem dX2_gatherLines_60 : decode cX2_gatherLines 60 = .ok (.iload_n 1, 1) := by decide +kernel
theorem dX2_gatherLines_61 : decode cX2_gatherLines 61 = .ok (.aload_n 0, 1) := by decide +kernel
theorem dX2_gatherLines_62 : decode cX2_gatherLines 62 = .ok (.getfield 31, 3) := by decide +kernel
theorem dX2_gatherLines_65 : decode cX2_gatherLines 65 = .ok (.if_icmp .ge 33, 3) := by decide +kernel
theorem dX2_gatherLines_68 : decode cX2_gatherLines 68 = .ok (.aload_n 0, 1) := by decide +kernel
theorem dX2_gatherLines_69 : decode cX2_gatherLines 69 = .ok (.getfield 25, 3) := by decide +kernel
theorem dX2_gatherLines_72 : decode cX2_gatherLines 72 = .ok (.aload_n 0, 1) := by decide +kernel
theorem dX2_gatherLines_73 : decode cX2_gatherLines 73 = .ok (.getfield 28, 3) := by decide +kernel
theorem dX2_gatherLines_76 : decode cX2_gatherLines 76 = .ok (.iload_n 1, 1) := by decide +kernel
theorem dX2_gatherLines_77 : decode cX2_gatherLines 77 = .ok (.iaload, 1) := by decide +kernel
theorem dX2_gatherLines_78 : decode cX2_gatherLines 78 = .ok (.baload, 1) := by decide +kernel
theorem dX2_gatherLines_79 : decode cX2_gatherLines 79 = .ok (.ifCond .eq 13, 3) := by decide +kernel
theorem dX2_gatherLines_82 : decode cX2_gatherLines 82 = .ok (.aload_n 0, 1) := by decide +kernel
theorem dX2_gatherLines_83 : decode cX2_gatherLines 83 = .ok (.dup, 1) := by decide +kernel
theorem dX2_gatherLines_84 : decode cX2_gatherLines 84 = .ok (.getfield 35, 3) := by decide +kernel
theorem dX2_gatherLines_87 : decode cX2_gatherLines 87 = .ok (.iconst 1, 1) := by decide +kernel
theorem dX2_gatherLines_88 : decode cX2_gatherLines 88 = .ok (.iadd, 1) := by decide +kernel
theorem dX2_gatherLines_89 : decode cX2_gatherLines 89 = .ok (.putfield 35, 3) := by decide +kernel
theorem dX2_gatherLines_92 : decode cX2_gatherLines 92 = .ok (.iinc 1 1, 3) := by decide +kernel
theorem dX2_gatherLines_95 : decode cX2_gatherLines 95 = .ok (.goto (-35), 3) := by decide +kernel
theorem dX2_gatherLines_98 : decode cX2_gatherLines 98 = .ok (.return_, 1) := by decide +kernel
theorem dX2_addToLine_0 : decode cX2_addToLine 0 = .ok (.iload_n 2, 1) := by decide +kernel
theorem dX2_addToLine_1 : decode cX2_addToLine 1 = .ok (.iload_n 1, 1) := by decide +kernel
theorem dX2_addToLine_2 : decode cX2_addToLine 2 = .ok (.if_icmp .ne 34, 3) := by decide +kernel
theorem dX2_addToLine_5 : decode cX2_addToLine 5 = .ok (.aload_n 0, 1) := by decide +kernel
theorem dX2_addToLine_6 : decode cX2_addToLine 6 = .ok (.getfield 28, 3) := by decide +kernel
theorem dX2_addToLine_9 : decode cX2_addToLine 9 = .ok (.aload_n 0, 1) := by decide +kernel
theorem dX2_addToLine_10 : decode cX2_addToLine 10 = .ok (.dup, 1) := by decide +kernel
theorem dX2_addToLine_11 : decode cX2_addToLine 11 = .ok (.getfield 31, 3) := by decide +kernel
theorem dX2_addToLine_14 : decode cX2_addToLine 14 = .ok (.dup_x1, 1) := by decide +kernel
theorem dX2_addToLine_15 : decode cX2_addToLine 15 = .ok (.iconst 1, 1) := by decide +kernel
theorem dX2_addToLine_16 : decode cX2_addToLine 16 = .ok (.iadd, 1) := by decide +kernel
theorem dX2_addToLine_17 : decode cX2_addToLine 17 = .ok (.putfield 31, 3) := by decide +kernel
theorem dX2_addToLine_20 : decode cX2_addToLine 20 = .ok (.iload_n 1, 1) := by decide +kernel
theorem dX2_addToLine_21 : decode cX2_addToLine 21 = .ok (.iastore, 1) := by decide +kernel
theorem dX2_addToLine_22 : decode cX2_addToLine 22 = .ok (.aload_n 0, 1) := by decide +kernel
theorem dX2_addToLine_23 : decode cX2_addToLine 23 = .ok (.getfield 19, 3) := by decide +kernel
theorem dX2_addToLine_26 : decode cX2_addToLine 26 = .ok (.iload_n 1, 1) := by decide +kernel
theorem dX2_addToLine_27 : decode cX2_addToLine 27 = .ok (.iconst 0, 1) := by decide +kernel
theorem dX2_addToLine_28 : decode cX2_addToLine 28 = .ok (.iastore, 1) := by decide +kernel
theorem dX2_addToLine_29 : decode cX2_addToLine 29 = .ok (.aload_n 0, 1) := by decide +kernel
theorem dX2_addToLine_30 : decode cX2_addToLine 30 = .ok (.getfield 25, 3) := by decide +kernel
theorem dX2_addToLine_33 : decode cX2_addToLine 33 = .ok (.iload_n 1, 1) := by decide +kernel
theorem dX2_addToLine_34 : decode cX2_addToLine 34 = .ok (.iconst 1, 1) := by decide +kernel
theorem dX2_addToLine_35 : decode cX2_addToLine 35 = .ok (.bastore, 1) := by decide +kernel
theorem dX2_addToLine_36 : decode cX2_addToLine 36 = .ok (.aload_n 0, 1) := by decide +kernel
theorem dX2_addToLine_37 : decode cX2_addToLine 37 = .ok (.getfield 19, 3) := by decide +kernel
theorem dX2_addToLine_40 : decode cX2_addToLine 40 = .ok (.iload_n 1, 1) := by decide +kernel
theorem dX2_addToLine_41 : decode cX2_addToLine 41 = .ok (.dup2, 1) := by decide +kernel
theorem dX2_addToLine_42 : decode cX2_addToLine 42 = .ok (.iaload, 1) := by decide +kernel
theorem dX2_addToLine_43 : decode cX2_addToLine 43 = .ok (.iconst 1, 1) := by decide +kernel
theorem dX2_addToLine_44 : decode cX2_addToLine 44 = .ok (.iadd, 1) := by decide +kernel
theorem dX2_addToLine_45 : decode cX2_addToLine 45 = .ok (.iastore, 1) := by decide +kernel
theorem dX2_addToLine_46 : decode cX2_addToLine 46 = .ok (.aload_n 0, 1) := by decide +kernel
theorem dX2_addToLine_47 : decode cX2_addToLine 47 = .ok (.getfield 22, 3) := by decide +kernel
theorem dX2_addToLine_50 : decode cX2_addToLine 50 = .ok (.iload_n 1, 1) := by decide +kernel
theorem dX2_addToLine_51 : decode cX2_addToLine 51 = .ok (.iload_n 2, 1) := by decide +kernel
theorem dX2_addToLine_52 : decode cX2_addToLine 52 = .ok (.iastore, 1) := by decide +kernel
theorem dX2_addToLine_53 : decode cX2_addToLine 53 = .ok (.iload_n 2, 1) := by decide +kernel
theorem dX2_addToLine_54 : decode cX2_addToLine 54 = .ok (.invokestatic 91, 3) := by decide +kernel
theorem dX2_addToLine_57 : decode cX2_addToLine 57 = .ok (.ifCond .eq 10, 3) := by decide +kernel
theorem dX2_addToLine_60 : decode cX2_addToLine 60 = .ok (.aload_n 0, 1) := by decide +kernel
theorem dX2_addToLine_61 : decode cX2_addToLine 61 = .ok (.getfield 25, 3) := by decide +kernel
theorem dX2_addToLine_64 : decode cX2_addToLine 64 = .ok (.iload_n 1, 1) := by decide +kernel
theorem dX2_addToLine_65 : decode cX2_addToLine 65 = .ok (.iconst 0, 1) := by decide +kernel
theorem dX2_addToLine_66 : decode cX2_addToLine 66 = .ok (.bastore, 1) := by decide +kernel
theorem dX2_addToLine_67 : decode cX2_addToLine 67 = .ok (.return_, 1) := by decide +kernel
theorem dX2_isAtBorder_0 : decode cX2_isAtBorder 0 = .ok (.iload_n 0, 1) := by decide +kernel
theorem dX2_isAtBorder_1 : decode cX2_isAtBorder 1 = .ok (.iconst 2, 1) := by decide +kernel
theorem dX2_isAtBorder_2 : decode cX2_isAtBorder 2 = .ok (.irem, 1) := by decide +kernel
theorem dX2_isAtBorder_3 : decode cX2_isAtBorder 3 = .ok (.ifCond .ne 12, 3) := by decide +kernel
theorem dX2_isAtBorder_6 : decode cX2_isAtBorder 6 = .ok (.iload_n 0, 1) := by decide +kernel
theorem dX2_isAtBorder_7 : decode cX2_isAtBorder 7 = .ok (.iconst 2, 1) := by decide +kernel
theorem dX2_isAtBorder_8 : decode cX2_isAtBorder 8 = .ok (.idiv, 1) := by decide +kernel
theorem dX2_isAtBorder_9 : decode cX2_isAtBorder 9 = .ok (.bipush 8, 2) := by decide +kernel
theorem dX2_isAtBorder_11 : decode cX2_isAtBorder 11 = .ok (.idiv, 1) := by decide +kernel
theorem dX2_isAtBorder_12 : decode cX2_isAtBorder 12 = .ok (.goto 9, 3) := by decide +kernel
theorem dX2_isAtBorder_15 : decode cX2_isAtBorder 15 = .ok (.iload_n 0, 1) := by decide +kernel
theorem dX2_isAtBorder_16 : decode cX2_isAtBorder 16 = .ok (.iconst 2, 1) := by decide +kernel
theorem dX2_isAtBorder_17 : decode cX2_isAtBorder 17 = .ok (.idiv, 1) := by decide +kernel
theorem dX2_isAtBorder_18 : decode cX2_isAtBorder 18 = .ok (.bipush 8, 2) := by decide +kernel
theorem dX2_isAtBorder_20 : decode cX2_isAtBorder 20 = .ok (.irem, 1) := by decide +kernel
theorem dX2_isAtBorder_21 : decode cX2_isAtBorder 21 = .ok (.istore_n 1, 1) := by decide +kernel
theorem dX2_isAtBorder_22 : decode cX2_isAtBorder 22 = .ok (.iload_n 1, 1) := by decide +kernel
theorem dX2_isAtBorder_23 : decode cX2_isAtBorder 23 = .ok (.ifCond .eq 9, 3) := by decide +kernel
theorem dX2_isAtBorder_26 : decode cX2_isAtBorder 26 = .ok (.iload_n 1, 1) := by decide +kernel
theorem dX2_isAtBorder_27 : decode cX2_isAtBorder 27 = .ok (.bipush 7, 2) := by decide +kernel
theorem dX2_isAtBorder_29 : decode cX2_isAtBorder 29 = .ok (.if_icmp .ne 7, 3) := by decide +kernel
theorem dX2_isAtBorder_32 : decode cX2_isAtBorder 32 = .ok (.iconst 1, 1) := by decide +kernel
theorem dX2_isAtBorder_33 : decode cX2_isAtBorder 33 = .ok (.goto 4, 3) := by decide +kernel
theorem dX2_isAtBorder_36 : decode cX2_isAtBorder 36 = .ok (.iconst 0, 1) := by decide +kernel
theorem dX2_isAtBorder_37 : decode cX2_isAtBorder 37 = .ok (.ireturn, 1) := by decide +kernel
theorem dX3_init_0 : decode cX3_init 0 = .ok (.aload_n 0, 1) := by decide +kernel
theorem dX3_init_1 : decode cX3_init 1 = .ok (.invokespecial 3, 3) := by decide +kernel
theorem dX3_init_4 : decode cX3_init 4 = .ok (.aload_n 0, 1) := by decide +kernel
theorem dX3_init_5 : decode cX3_init 5 = .ok (.bipush 48, 2) := by decide +kernel
theorem dX3_init_7 : decode cX3_init 7 = .ok (.newarray .int, 2) := by decide +kernel
theorem dX3_init_9 : decode cX3_init 9 = .ok (.putfield 9, 3) := by decide +kernel
theorem dX3_init_12 : decode cX3_init 12 = .ok (.aload_n 0, 1) := by decide +kernel
theorem dX3_init_13 : decode cX3_init 13 = .ok (.bipush 48, 2) := by decide +kernel
theorem dX3_init_15 : decode cX3_init 15 = .ok (.newarray .int, 2) := by decide +kernel
theorem dX3_init_17 : decode cX3_init 17 = .ok (.putfield 15, 3) := by decide +kernel
theorem dX3_init_20 : decode cX3_init 20 = .ok (.aload_n 0, 1) := by decide +kernel
theorem dX3_init_21 : decode cX3_init 21 = .ok (.iconst 0, 1) := by decide +kernel
theorem dX3_init_22 : decode cX3_init 22 = .ok (.putfield 18, 3) := by decide +kernel
theorem dX3_init_25 : decode cX3_init 25 = .ok (.aload_n 0, 1) := by decide +kernel
theorem dX3_init_26 : decode cX3_init 26 = .ok (.iconst 0, 1) := by decide +kernel
theorem dX3_init_27 : decode cX3_init 27 = .ok (.putfield 22, 3) := by decide +kernel
theorem dX3_init_30 : decode cX3_init 30 = .ok (.aload_n 0, 1) := by decide +kernel
theorem dX3_init_31 : decode cX3_init 31 = .ok (.lconst 0, 1) := by decide +kernel
theorem dX3_init_32 : decode cX3_init 32 = .ok (.putfield 25, 3) := by decide +kernel
theorem dX3_init_35 : decode cX3_init 35 = .ok (.aload_n 0, 1) := by decide +kernel
theorem dX3_init_36 : decode cX3_init 36 = .ok (.lconst 1, 1) := by decide +kernel
theorem dX3_init_37 : decode cX3_init 37 = .ok (.putfield 29, 3) := by decide +kernel
theorem dX3_init_40 : decode cX3_init 40 = .ok (.return_, 1) := by decide +kernel
theorem dX3_hour_0 : decode cX3_hour 0 = .ok (.aload_n 0, 1) := by decide +kernel
theorem dX3_hour_1 : decode cX3_hour 1 = .ok (.getfield 22, 3) := by decide +kernel
theorem dX3_hour_4 : decode cX3_hour 4 = .ok (.ireturn, 1) := by decide +kernel
theorem dX3_top_0 : decode cX3_top 0 = .ok (.aload_n 0, 1) := by decide +kernel
theorem dX3_top_1 : decode cX3_top 1 = .ok (.getfield 25, 3) := by decide +kernel
theorem dX3_top_4 : decode cX3_top 4 = .ok (.lreturn, 1) := by decide +kernel
theorem dX3_bottom_0 : decode cX3_bottom 0 = .ok (.aload_n 0, 1) := by decide +kernel
theorem dX3_bottom_1 : decode cX3_bottom 1 = .ok (.getfield 29, 3) := by decide +kernel
theorem dX3_bottom_4 : decode cX3_bottom 4 = .ok (.lreturn, 1) := by decide +kernel
theorem dX3_compare_0 : decode cX3_compare 0 = .ok (.aload_n 0, 1) := by decide +kernel
theorem dX3_compare_1 : decode cX3_compare 1 = .ok (.iconst 0, 1) := by decide +kernel
theorem dX3_compare_2 : decode cX3_compare 2 = .ok (.putfield 18, 3) := by decide +kernel
theorem dX3_compare_5 : decode cX3_compare 5 = .ok (.iconst 0, 1) := by decide +kernel
theorem dX3_compare_6 : decode cX3_compare 6 = .ok (.istore_n 3, 1) := by decide +kernel
theorem dX3_compare_7 : decode cX3_compare 7 = .ok (.iload_n 3, 1) := by decide +kernel
theorem dX3_compare_8 : decode cX3_compare 8 = .ok (.bipush 48, 2) := by decide +kernel
theorem dX3_compare_10 : decode cX3_compare 10 = .ok (.if_icmp .ge 60, 3) := by decide +kernel
theorem dX3_compare_13 : decode cX3_compare 13 = .ok (.aload_n 1, 1) := by decide +kernel
theorem dX3_compare_14 : decode cX3_compare 14 = .ok (.iload_n 3, 1) := by decide +kernel
theorem dX3_compare_15 : decode cX3_compare 15 = .ok (.invokevirtual 32, 3) := by decide +kernel
theorem dX3_compare_18 : decode cX3_compare 18 = .ok (.pop, 1) := by decide +kernel
theorem dX3_compare_19 : decode cX3_compare 19 = .ok (.aload_n 1, 1) := by decide +kernel
theorem dX3_compare_20 : decode cX3_compare 20 = .ok (.iload_n 2, 1) := by decide +kernel
theorem dX3_compare_21 : decode cX3_compare 21 = .ok (.invokevirtual 38, 3) := by decide +kernel
theorem dX3_compare_24 : decode cX3_compare 24 = .ok (.istore 4, 2) := by decide +kernel
theorem dX3_compare_26 : decode cX3_compare 26 = .ok (.iload 4, 2) := by decide +kernel
theorem dX3_compare_28 : decode cX3_compare 28 = .ok (.ldc 42, 2) := by decide +kernel
theorem dX3_compare_30 : decode cX3_compare 30 = .ok (.if_icmp .eq 34, 3) := by decide +kernel
theorem dX3_compare_33 : decode cX3_compare 33 = .ok (.aload_n 0, 1) := by decide +kernel
theorem dX3_compare_34 : decode cX3_compare 34 = .ok (.getfield 9, 3) := by decide +kernel
theorem dX3_compare_37 : decode cX3_compare 37 = .ok (.aload_n 0, 1) := by decide +kernel
theorem dX3_compare_38 : decode cX3_compare 38 = .ok (.getfield 18, 3) := by decide +kernel
theorem dX3_compare_41 : decode cX3_compare 41 = .ok (.iload_n 3, 1) := by decide +kernel
theorem dX3_compare_42 : decode cX3_compare 42 = .ok (.iastore, 1) := by decide +kernel
theorem dX3_compare_43 : decode cX3_compare 43 = .ok (.aload_n 0, 1) := by decide +kernel
theorem dX3_compare_44 : decode cX3_compare 44 = .ok (.getfield 15, 3) := by decide +kernel
theorem dX3_compare_47 : decode cX3_compare 47 = .ok (.aload_n 0, 1) := by decide +kernel
theorem dX3_compare_48 : decode cX3_compare 48 = .ok (.getfield 18, 3) := by decide +kernel
theorem dX3_compare_51 : decode cX3_compare 51 = .ok (.iload 4, 2) := by decide +kernel
theorem dX3_compare_53 : decode cX3_compare 53 = .ok (.iastore, 1) := by decide +kernel
theorem dX3_compare_54 : decode cX3_compare 54 = .ok (.aload_n 0, 1) := by decide +kernel
theorem dX3_compare_55 : decode cX3_compare 55 = .ok (.dup, 1) := by decide +kernel
theorem dX3_compare_56 : decode cX3_compare 56 = .ok (.getfield 18, 3) := by decide +kernel
theorem dX3_compare_59 : decode cX3_compare 59 = .ok (.iconst 1, 1) := by decide +kernel
theorem dX3_compare_60 : decode cX3_compare 60 = .ok (.iadd, 1) := by decide +kernel
theorem dX3_compare_61 : decode cX3_compare 61 = .ok (.putfield 18, 3) := by decide +kernel
theorem dX3_compare_64 : decode cX3_compare 64 = .ok (.iinc 3 1, 3) := by decide +kernel
theorem dX3_compare_67 : decode cX3_compare 67 = .ok (.goto (-60), 3) := by decide +kernel
theorem dX3_compare_70 : decode cX3_compare 70 = .ok (.return_, 1) := by decide +kernel
theorem dX3_search_0 : decode cX3_search 0 = .ok (.lconst 0, 1) := by decide +kernel
theorem dX3_search_1 : decode cX3_search 1 = .ok (.lstore_n 1, 1) := by decide +kernel
theorem dX3_search_2 : decode cX3_search 2 = .ok (.iconst 0, 1) := by decide +kernel
theorem dX3_search_3 : decode cX3_search 3 = .ok (.istore_n 3, 1) := by decide +kernel
theorem dX3_search_4 : decode cX3_search 4 = .ok (.iload_n 3, 1) := by decide +kernel
theorem dX3_search_5 : decode cX3_search 5 = .ok (.aload_n 0, 1) := by decide +kernel
theorem dX3_search_6 : decode cX3_search 6 = .ok (.getfield 18, 3) := by decide +kernel
theorem dX3_search_9 : decode cX3_search 9 = .ok (.if_icmp .ge 19, 3) := by decide +kernel
theorem dX3_search_12 : decode cX3_search 12 = .ok (.lload_n 1, 1) := by decide +kernel
theorem dX3_search_13 : decode cX3_search 13 = .ok (.aload_n 0, 1) := by decide +kernel
theorem dX3_search_14 : decode cX3_search 14 = .ok (.getfield 15, 3) := by decide +kernel
theorem dX3_search_17 : decode cX3_search 17 = .ok (.iload_n 3, 1) := by decide +kernel
theorem dX3_search_18 : decode cX3_search 18 = .ok (.iaload, 1) := by decide +kernel
theorem dX3_search_19 : decode cX3_search 19 = .ok (.i2l, 1) := by decide +kernel
theorem dX3_search_20 : decode cX3_search 20 = .ok (.ladd, 1) := by decide +kernel
theorem dX3_search_21 : decode cX3_search 21 = .ok (.lstore_n 1, 1) := by decide +kernel
theorem dX3_search_22 : decode cX3_search 22 = .ok (.iinc 3 1, 3) := by decide +kernel
theorem dX3_search_25 : decode cX3_search 25 = .ok (.goto (-21), 3) := by decide +kernel
theorem dX3_search_28 : decode cX3_search 28 = .ok (.lconst 0, 1) := by decide +kernel
theorem dX3_search_29 : decode cX3_search 29 = .ok (.lstore_n 3, 1) := by decide +kernel
theorem dX3_search_30 : decode cX3_search 30 = .ok (.iconst 0, 1) := by decide +kernel
theorem dX3_search_31 : decode cX3_search 31 = .ok (.istore 5, 2) := by decide +kernel
theorem dX3_search_33 : decode cX3_search 33 = .ok (.iconst 0, 1) := by decide +kernel
theorem dX3_search_34 : decode cX3_search 34 = .ok (.istore 6, 2) := by decide +kernel
theorem dX3_search_36 : decode cX3_search 36 = .ok (.iload 6, 2) := by decide +kernel
theorem dX3_search_38 : decode cX3_search 38 = .ok (.aload_n 0, 1) := by decide +kernel
theorem dX3_search_39 : decode cX3_search 39 = .ok (.getfield 18, 3) := by decide +kernel
theorem dX3_search_42 : decode cX3_search 42 = .ok (.if_icmp .ge 92, 3) := by decide +kernel
theorem dX3_search_45 : decode cX3_search 45 = .ok (.iload 6, 2) := by decide +kernel
theorem dX3_search_47 : decode cX3_search 47 = .ok (.iconst 2, 1) := by decide +kernel
theorem dX3_search_48 : decode cX3_search 48 = .ok (.if_icmp .lt 58, 3) := by decide +kernel
theorem dX3_search_51 : decode cX3_search 51 = .ok (.aload_n 0, 1) := by decide +kernel
theorem dX3_search_52 : decode cX3_search 52 = .ok (.getfield 18, 3) := by decide +kernel
theorem dX3_search_55 : decode cX3_search 55 = .ok (.iload 6, 2) := by decide +kernel
theorem dX3_search_57 : decode cX3_search 57 = .ok (.isub, 1) := by decide +kernel
theorem dX3_search_58 : decode cX3_search 58 = .ok (.iconst 2, 1) := by decide +kernel
theorem dX3_search_59 : decode cX3_search 59 = .ok (.if_icmp .lt 47, 3) := by decide +kernel
theorem dX3_search_62 : decode cX3_search 62 = .ok (.aload_n 0, 1) := by decide +kernel
theorem dX3_search_63 : decode cX3_search 63 = .ok (.iload 5, 2) := by decide +kernel
theorem dX3_search_65 : decode cX3_search 65 = .ok (.aload_n 0, 1) := by decide +kernel
theorem dX3_search_66 : decode cX3_search 66 = .ok (.getfield 9, 3) := by decide +kernel
theorem dX3_search_69 : decode cX3_search 69 = .ok (.iload 6, 2) := by decide +kernel
theorem dX3_search_71 : decode cX3_search 71 = .ok (.iaload, 1) := by decide +kernel
theorem dX3_search_72 : decode cX3_search 72 = .ok (.lload_n 1, 1) := by decide +kernel
theorem dX3_search_73 : decode cX3_search 73 = .ok (.iload 6, 2) := by decide +kernel
theorem dX3_search_75 : decode cX3_search 75 = .ok (.i2l, 1) := by decide +kernel
theorem dX3_search_76 : decode cX3_search 76 = .ok (.lmul, 1) := by decide +kernel
theorem dX3_search_77 : decode cX3_search 77 = .ok (.lload_n 3, 1) := by decide +kernel
theorem dX3_search_78 : decode cX3_search 78 = .ok (.aload_n 0, 1) := by decide +kernel
theorem dX3_search_79 : decode cX3_search 79 = .ok (.getfield 18, 3) := by decide +kernel
theorem dX3_search_82 : decode cX3_search 82 = .ok (.iload 6, 2) := by decide +kernel
theorem dX3_search_84 : decode cX3_search 84 = .ok (.isub, 1) := by decide +kernel
theorem dX3_search_85 : decode cX3_search 85 = .ok (.i2l, 1) := by decide +kernel
theorem dX3_search_86 : decode cX3_search 86 = .ok (.lmul, 1) := by decide +kernel
theorem dX3_search_87 : decode cX3_search 87 = .ok (.lsub, 1) := by decide +kernel
theorem dX3_search_88 : decode cX3_search 88 = .ok (.iload 6, 2) := by decide +kernel
theorem dX3_search_90 : decode cX3_search 90 = .ok (.i2l, 1) := by decide +kernel
theorem dX3_search_91 : decode cX3_search 91 = .ok (.aload_n 0, 1) := by decide +kernel
theorem dX3_search_92 : decode cX3_search 92 = .ok (.getfield 18, 3) := by decide +kernel
theorem dX3_search_95 : decode cX3_search 95 = .ok (.iload 6, 2) := by decide +kernel
theorem dX3_search_97 : decode cX3_search 97 = .ok (.isub, 1) := by decide +kernel
theorem dX3_search_98 : decode cX3_search 98 = .ok (.i2l, 1) := by decide +kernel
theorem dX3_search_99 : decode cX3_search 99 = .ok (.lmul, 1) := by decide +kernel
theorem dX3_search_100 : decode cX3_search 100 = .ok (.invokevirtual 43, 3) := by decide +kernel
theorem dX3_search_103 : decode cX3_search 103 = .ok (.iconst 1, 1) := by decide +kernel
theorem dX3_search_104 : decode cX3_search 104 = .ok (.istore 5, 2) := by decide +kernel
theorem dX3_search_106 : decode cX3_search 106 = .ok (.lload_n 3, 1) := by decide +kernel
theorem dX3_search_107 : decode cX3_search 107 = .ok (.aload_n 0, 1) := by decide +kernel
theorem dX3_search_108 : decode cX3_search 108 = .ok (.getfield 15, 3) := by decide +kernel
theorem dX3_search_111 : decode cX3_search 111 = .ok (.iload 6, 2) := by decide +kernel
theorem dX3_search_113 : decode cX3_search 113 = .ok (.iaload, 1) := by decide +kernel
theorem dX3_search_114 : decode cX3_search 114 = .ok (.i2l, 1) := by decide +kernel
theorem dX3_search_115 : decode cX3_search 115 = .ok (.ladd, 1) := by decide +kernel
theorem dX3_search_116 : decode cX3_search 116 = .ok (.lstore_n 3, 1) := by decide +kernel
theorem dX3_search_117 : decode cX3_search 117 = .ok (.lload_n 1, 1) := by decide +kernel
theorem dX3_search_118 : decode cX3_search 118 = .ok (.aload_n 0, 1) := by decide +kernel
theorem dX3_search_119 : decode cX3_search 119 = .ok (.getfield 15, 3) := by decide +kernel
theorem dX3_search_122 : decode cX3_search 122 = .ok (.iload 6, 2) := by decide +kernel
theorem dX3_search_124 : decode cX3_search 124 = .ok (.iaload, 1) := by decide +kernel
theorem dX3_search_125 : decode cX3_search 125 = .ok (.i2l, 1) := by decide +kernel
theorem dX3_search_126 : decode cX3_search 126 = .ok (.lsub, 1) := by decide +kernel
theorem dX3_search_127 : decode cX3_search 127 = .ok (.lstore_n 1, 1) := by decide +kernel
theorem dX3_search_128 : decode cX3_search 128 = .ok (.iinc 6 1, 3) := by decide +kernel
theorem dX3_search_131 : decode cX3_search 131 = .ok (.goto (-95), 3) := by decide +kernel
theorem dX3_search_134 : decode cX3_search 134 = .ok (.iload 5, 2) := by decide +kernel
theorem dX3_search_136 : decode cX3_search 136 = .ok (.ireturn, 1) := by decide +kernel
theorem dX3_take_0 : decode cX3_take 0 = .ok (.iload_n 1, 1) := by decide +kernel
theorem dX3_take_1 : decode cX3_take 1 = .ok (.ifCond .eq 26, 3) := by decide +kernel
theorem dX3_take_4 : decode cX3_take 4 = .ok (.lload_n 3, 1) := by decide +kernel
theorem dX3_take_5 : decode cX3_take 5 = .ok (.invokestatic 47, 3) := by decide +kernel
theorem dX3_take_8 : decode cX3_take 8 = .ok (.aload_n 0, 1) := by decide +kernel
theorem dX3_take_9 : decode cX3_take 9 = .ok (.getfield 29, 3) := by decide +kernel
theorem dX3_take_12 : decode cX3_take 12 = .ok (.lmul, 1) := by decide +kernel
theorem dX3_take_13 : decode cX3_take 13 = .ok (.aload_n 0, 1) := by decide +kernel
theorem dX3_take_14 : decode cX3_take 14 = .ok (.getfield 25, 3) := by decide +kernel
theorem dX3_take_17 : decode cX3_take 17 = .ok (.invokestatic 47, 3) := by decide +kernel
theorem dX3_take_20 : decode cX3_take 20 = .ok (.lload 5, 2) := by decide +kernel
theorem dX3_take_22 : decode cX3_take 22 = .ok (.lmul, 1) := by decide +kernel
theorem dX3_take_23 : decode cX3_take 23 = .ok (.lcmp, 1) := by decide +kernel
theorem dX3_take_24 : decode cX3_take 24 = .ok (.ifCond .le 19, 3) := by decide +kernel
theorem dX3_take_27 : decode cX3_take 27 = .ok (.aload_n 0, 1) := by decide +kernel
theorem dX3_take_28 : decode cX3_take 28 = .ok (.iload_n 2, 1) := by decide +kernel
theorem dX3_take_29 : decode cX3_take 29 = .ok (.putfield 22, 3) := by decide +kernel
theorem dX3_take_32 : decode cX3_take 32 = .ok (.aload_n 0, 1) := by decide +kernel
theorem dX3_take_33 : decode cX3_take 33 = .ok (.lload_n 3, 1) := by decide +kernel
theorem dX3_take_34 : decode cX3_take 34 = .ok (.putfield 25, 3) := by decide +kernel
theorem dX3_take_37 : decode cX3_take 37 = .ok (.aload_n 0, 1) := by decide +kernel
theorem dX3_take_38 : decode cX3_take 38 = .ok (.lload 5, 2) := by decide +kernel
theorem dX3_take_40 : decode cX3_take 40 = .ok (.putfield 29, 3) := by decide +kernel
theorem dX3_take_43 : decode cX3_take 43 = .ok (.return_, 1) := by decide +kernel
theorem dX4_init_0 : decode cX4_init 0 = .ok (.aload_n 0, 1) := by decide +kernel
theorem dX4_init_1 : decode cX4_init 1 = .ok (.invokespecial 3, 3) := by decide +kernel
theorem dX4_init_4 : decode cX4_init 4 = .ok (.aload_n 0, 1) := by decide +kernel
theorem dX4_init_5 : decode cX4_init 5 = .ok (.getstatic 9, 3) := by decide +kernel
theorem dX4_init_8 : decode cX4_init 8 = .ok (.invokevirtual 15, 3) := by decide +kernel
theorem dX4_init_11 : decode cX4_init 11 = .ok (.checkcast 16, 3) := by decide +kernel
theorem dX4_init_14 : decode cX4_init 14 = .ok (.putfield 20, 3) := by decide +kernel
theorem dX4_init_17 : decode cX4_init 17 = .ok (.aload_n 0, 1) := by decide +kernel
theorem dX4_init_18 : decode cX4_init 18 = .ok (.lconst 0, 1) := by decide +kernel
theorem dX4_init_19 : decode cX4_init 19 = .ok (.putfield 23, 3) := by decide +kernel
theorem dX4_init_22 : decode cX4_init 22 = .ok (.aload_n 0, 1) := by decide +kernel
theorem dX4_init_23 : decode cX4_init 23 = .ok (.lconst 1, 1) := by decide +kernel
theorem dX4_init_24 : decode cX4_init 24 = .ok (.putfield 27, 3) := by decide +kernel
theorem dX4_init_27 : decode cX4_init 27 = .ok (.return_, 1) := by decide +kernel
theorem dX4_hasNumber_0 : decode cX4_hasNumber 0 = .ok (.iload_n 0, 1) := by decide +kernel
theorem dX4_hasNumber_1 : decode cX4_hasNumber 1 = .ok (.iconst 0, 1) := by decide +kernel
theorem dX4_hasNumber_2 : decode cX4_hasNumber 2 = .ok (.getstatic 9, 3) := by decide +kernel
theorem dX4_hasNumber_5 : decode cX4_hasNumber 5 = .ok (.arraylength, 1) := by decide +kernel
theorem dX4_hasNumber_6 : decode cX4_hasNumber 6 = .ok (.iconst 1, 1) := by decide +kernel
theorem dX4_hasNumber_7 : decode cX4_hasNumber 7 = .ok (.isub, 1) := by decide +kernel
theorem dX4_hasNumber_8 : decode cX4_hasNumber 8 = .ok (.invokestatic 30, 3) := by decide +kernel
theorem dX4_hasNumber_11 : decode cX4_hasNumber 11 = .ok (.ireturn, 1) := by decide +kernel
theorem dX4_allows_0 : decode cX4_allows 0 = .ok (.iload_n 1, 1) := by decide +kernel
theorem dX4_allows_1 : decode cX4_allows 1 = .ok (.getstatic 34, 3) := by decide +kernel
theorem dX4_allows_4 : decode cX4_allows 4 = .ok (.iload_n 0, 1) := by decide +kernel
theorem dX4_allows_5 : decode cX4_allows 5 = .ok (.iaload, 1) := by decide +kernel
theorem dX4_allows_6 : decode cX4_allows 6 = .ok (.getstatic 37, 3) := by decide +kernel
theorem dX4_allows_9 : decode cX4_allows 9 = .ok (.iload_n 0, 1) := by decide +kernel
theorem dX4_allows_10 : decode cX4_allows 10 = .ok (.iaload, 1) := by decide +kernel
theorem dX4_allows_11 : decode cX4_allows 11 = .ok (.invokestatic 30, 3) := by decide +kernel
theorem dX4_allows_14 : decode cX4_allows 14 = .ok (.ireturn, 1) := by decide +kernel
theorem dX4_number_0 : decode cX4_number 0 = .ok (.aload_n 0, 1) := by decide +kernel
theorem dX4_number_1 : decode cX4_number 1 = .ok (.getfield 20, 3) := by decide +kernel
theorem dX4_number_4 : decode cX4_number 4 = .ok (.iload_n 1, 1) := by decide +kernel
theorem dX4_number_5 : decode cX4_number 5 = .ok (.iaload, 1) := by decide +kernel
theorem dX4_number_6 : decode cX4_number 6 = .ok (.ireturn, 1) := by decide +kernel
theorem dX4_putNumber_0 : decode cX4_putNumber 0 = .ok (.aload_n 0, 1) := by decide +kernel
theorem dX4_putNumber_1 : decode cX4_putNumber 1 = .ok (.getfield 20, 3) := by decide +kernel
theorem dX4_putNumber_4 : decode cX4_putNumber 4 = .ok (.iload_n 1, 1) := by decide +kernel
theorem dX4_putNumber_5 : decode cX4_putNumber 5 = .ok (.iload_n 2, 1) := by decide +kernel
theorem dX4_putNumber_6 : decode cX4_putNumber 6 = .ok (.iastore, 1) := by decide +kernel
theorem dX4_putNumber_7 : decode cX4_putNumber 7 = .ok (.return_, 1) := by decide +kernel
theorem dX4_findAir_0 : decode cX4_findAir 0 = .ok (.iload_n 1, 1) := by decide +kernel
theorem dX4_findAir_1 : decode cX4_findAir 1 = .ok (.iload_n 3, 1) := by decide +kernel
theorem dX4_findAir_2 : decode cX4_findAir 2 = .ok (.isub, 1) := by decide +kernel
theorem dX4_findAir_3 : decode cX4_findAir 3 = .ok (.i2l, 1) := by decide +kernel
theorem dX4_findAir_4 : decode cX4_findAir 4 = .ok (.iload_n 2, 1) := by decide +kernel
theorem dX4_findAir_5 : decode cX4_findAir 5 = .ok (.i2l, 1) := by decide +kernel
theorem dX4_findAir_6 : decode cX4_findAir 6 = .ok (.lmul, 1) := by decide +kernel
theorem dX4_findAir_7 : decode cX4_findAir 7 = .ok (.iload 4, 2) := by decide +kernel
theorem dX4_findAir_9 : decode cX4_findAir 9 = .ok (.i2l, 1) := by decide +kernel
theorem dX4_findAir_10 : decode cX4_findAir 10 = .ok (.lmul, 1) := by decide +kernel
theorem dX4_findAir_11 : decode cX4_findAir 11 = .ok (.lstore 5, 2) := by decide +kernel
theorem dX4_findAir_13 : decode cX4_findAir 13 = .ok (.iload_n 2, 1) := by decide +kernel
theorem dX4_findAir_14 : decode cX4_findAir 14 = .ok (.iload 4, 2) := by decide +kernel
theorem dX4_findAir_16 : decode cX4_findAir 16 = .ok (.if_icmp .ge 8, 3) := by decide +kernel
theorem dX4_findAir_19 : decode cX4_findAir 19 = .ok (.lload 5, 2) := by decide +kernel
theorem dX4_findAir_21 : decode cX4_findAir 21 = .ok (.lneg, 1) := by decide +kernel
theorem dX4_findAir_22 : decode cX4_findAir 22 = .ok (.lstore 5, 2) := by decide +kernel
theorem dX4_findAir_24 : decode cX4_findAir 24 = .ok (.lload 5, 2) := by decide +kernel
theorem dX4_findAir_26 : decode cX4_findAir 26 = .ok (.lconst 0, 1) := by decide +kernel
theorem dX4_findAir_27 : decode cX4_findAir 27 = .ok (.lcmp, 1) := by decide +kernel
theorem dX4_findAir_28 : decode cX4_findAir 28 = .ok (.ifCond .ge 6, 3) := by decide +kernel
theorem dX4_findAir_31 : decode cX4_findAir 31 = .ok (.bipush (-5), 2) := by decide +kernel
theorem dX4_findAir_33 : decode cX4_findAir 33 = .ok (.ireturn, 1) := by decide +kernel
theorem dX4_findAir_34 : decode cX4_findAir 34 = .ok (.aload_n 0, 1) := by decide +kernel
theorem dX4_findAir_35 : decode cX4_findAir 35 = .ok (.lload 5, 2) := by decide +kernel
theorem dX4_findAir_37 : decode cX4_findAir 37 = .ok (.putfield 23, 3) := by decide +kernel
theorem dX4_findAir_40 : decode cX4_findAir 40 = .ok (.aload_n 0, 1) := by decide +kernel
theorem dX4_findAir_41 : decode cX4_findAir 41 = .ok (.iload_n 2, 1) := by decide +kernel
theorem dX4_findAir_42 : decode cX4_findAir 42 = .ok (.iload 4, 2) := by decide +kernel
theorem dX4_findAir_44 : decode cX4_findAir 44 = .ok (.isub, 1) := by decide +kernel
theorem dX4_findAir_45 : decode cX4_findAir 45 = .ok (.invokestatic 40, 3) := by decide +kernel
theorem dX4_findAir_48 : decode cX4_findAir 48 = .ok (.i2l, 1) := by decide +kernel
theorem dX4_findAir_49 : decode cX4_findAir 49 = .ok (.putfield 27, 3) := by decide +kernel
theorem dX4_findAir_52 : decode cX4_findAir 52 = .ok (.lload 5, 2) := by decide +kernel
theorem dX4_findAir_54 : decode cX4_findAir 54 = .ok (.lconst 0, 1) := by decide +kernel
theorem dX4_findAir_55 : decode cX4_findAir 55 = .ok (.lcmp, 1) := by decide +kernel
theorem dX4_findAir_56 : decode cX4_findAir 56 = .ok (.ifCond .le 7, 3) := by decide +kernel
theorem dX4_findAir_59 : decode cX4_findAir 59 = .ok (.iconst 1, 1) := by decide +kernel
theorem dX4_findAir_60 : decode cX4_findAir 60 = .ok (.goto 4, 3) := by decide +kernel
theorem dX4_findAir_63 : decode cX4_findAir 63 = .ok (.iconst 0, 1) := by decide +kernel
theorem dX4_findAir_64 : decode cX4_findAir 64 = .ok (.ireturn, 1) := by decide +kernel
theorem dX4_airPart_0 : decode cX4_airPart 0 = .ok (.aload_n 0, 1) := by decide +kernel
theorem dX4_airPart_1 : decode cX4_airPart 1 = .ok (.getfield 23, 3) := by decide +kernel
theorem dX4_airPart_4 : decode cX4_airPart 4 = .ok (.aload_n 0, 1) := by decide +kernel
theorem dX4_airPart_5 : decode cX4_airPart 5 = .ok (.getfield 27, 3) := by decide +kernel
theorem dX4_airPart_8 : decode cX4_airPart 8 = .ok (.iload_n 1, 1) := by decide +kernel
theorem dX4_airPart_9 : decode cX4_airPart 9 = .ok (.invokestatic 46, 3) := by decide +kernel
theorem dX4_airPart_12 : decode cX4_airPart 12 = .ok (.lreturn, 1) := by decide +kernel
theorem dX4_corrected_0 : decode cX4_corrected 0 = .ok (.iload_n 1, 1) := by decide +kernel
theorem dX4_corrected_1 : decode cX4_corrected 1 = .ok (.aload_n 0, 1) := by decide +kernel
theorem dX4_corrected_2 : decode cX4_corrected 2 = .ok (.getfield 20, 3) := by decide +kernel
theorem dX4_corrected_5 : decode cX4_corrected 5 = .ok (.iconst 0, 1) := by decide +kernel
theorem dX4_corrected_6 : decode cX4_corrected 6 = .ok (.iaload, 1) := by decide +kernel
theorem dX4_corrected_7 : decode cX4_corrected 7 = .ok (.iadd, 1) := by decide +kernel
theorem dX4_corrected_8 : decode cX4_corrected 8 = .ok (.i2l, 1) := by decide +kernel
theorem dX4_corrected_9 : decode cX4_corrected 9 = .ok (.lstore_n 3, 1) := by decide +kernel
theorem dX4_corrected_10 : decode cX4_corrected 10 = .ok (.lload_n 3, 1) := by decide +kernel
theorem dX4_corrected_11 : decode cX4_corrected 11 = .ok (.lload_n 3, 1) := by decide +kernel
theorem dX4_corrected_12 : decode cX4_corrected 12 = .ok (.aload_n 0, 1) := by decide +kernel
theorem dX4_corrected_13 : decode cX4_corrected 13 = .ok (.getfield 20, 3) := by decide +kernel
theorem dX4_corrected_16 : decode cX4_corrected 16 = .ok (.iconst 2, 1) := by decide +kernel
theorem dX4_corrected_17 : decode cX4_corrected 17 = .ok (.iaload, 1) := by decide +kernel
theorem dX4_corrected_18 : decode cX4_corrected 18 = .ok (.i2l, 1) := by decide +kernel
theorem dX4_corrected_19 : decode cX4_corrected 19 = .ok (.lsub, 1) := by decide +kernel
theorem dX4_corrected_20 : decode cX4_corrected 20 = .ok (.aload_n 0, 1) := by decide +kernel
theorem dX4_corrected_21 : decode cX4_corrected 21 = .ok (.getfield 20, 3) := by decide +kernel
theorem dX4_corrected_24 : decode cX4_corrected 24 = .ok (.iconst 1, 1) := by decide +kernel
theorem dX4_corrected_25 : decode cX4_corrected 25 = .ok (.iaload, 1) := by decide +kernel
theorem dX4_corrected_26 : decode cX4_corrected 26 = .ok (.i2l, 1) := by decide +kernel
theorem dX4_corrected_27 : decode cX4_corrected 27 = .ok (.invokestatic 50, 3) := by decide +kernel
theorem dX4_corrected_30 : decode cX4_corrected 30 = .ok (.ladd, 1) := by decide +kernel
theorem dX4_corrected_31 : decode cX4_corrected 31 = .ok (.lstore 5, 2) := by decide +kernel
theorem dX4_corrected_33 : decode cX4_corrected 33 = .ok (.lload 5, 2) := by decide +kernel
theorem dX4_corrected_35 : decode cX4_corrected 35 = .ok (.getstatic 54, 3) := by decide +kernel
theorem dX4_corrected_38 : decode cX4_corrected 38 = .ok (.aload_n 0, 1) := by decide +kernel
theorem dX4_corrected_39 : decode cX4_corrected 39 = .ok (.getfield 20, 3) := by decide +kernel
theorem dX4_corrected_42 : decode cX4_corrected 42 = .ok (.iconst 3, 1) := by decide +kernel
theorem dX4_corrected_43 : decode cX4_corrected 43 = .ok (.iaload, 1) := by decide +kernel
theorem dX4_corrected_44 : decode cX4_corrected 44 = .ok (.iconst 1, 1) := by decide +kernel
theorem dX4_corrected_45 : decode cX4_corrected 45 = .ok (.isub, 1) := by decide +kernel
theorem dX4_corrected_46 : decode cX4_corrected 46 = .ok (.iaload, 1) := by decide +kernel
theorem dX4_corrected_47 : decode cX4_corrected 47 = .ok (.i2l, 1) := by decide +kernel
theorem dX4_corrected_48 : decode cX4_corrected 48 = .ok (.ladd, 1) := by decide +kernel
theorem dX4_corrected_49 : decode cX4_corrected 49 = .ok (.lstore 7, 2) := by decide +kernel
theorem dX4_corrected_51 : decode cX4_corrected 51 = .ok (.lload 7, 2) := by decide +kernel
theorem dX4_corrected_53 : decode cX4_corrected 53 = .ok (.ldc 57, 2) := by decide +kernel
theorem dX4_corrected_55 : decode cX4_corrected 55 = .ok (.aload_n 0, 1) := by decide +kernel
theorem dX4_corrected_56 : decode cX4_corrected 56 = .ok (.getfield 20, 3) := by decide +kernel
theorem dX4_corrected_59 : decode cX4_corrected 59 = .ok (.iconst 4, 1) := by decide +kernel
theorem dX4_corrected_60 : decode cX4_corrected 60 = .ok (.iaload, 1) := by decide +kernel
theorem dX4_corrected_61 : decode cX4_corrected 61 = .ok (.iload_n 2, 1) := by decide +kernel
theorem dX4_corrected_62 : decode cX4_corrected 62 = .ok (.imul, 1) := by decide +kernel
theorem dX4_corrected_63 : decode cX4_corrected 63 = .ok (.iadd, 1) := by decide +kernel
theorem dX4_corrected_64 : decode cX4_corrected 64 = .ok (.i2l, 1) := by decide +kernel
theorem dX4_corrected_65 : decode cX4_corrected 65 = .ok (.lmul, 1) := by decide +kernel
theorem dX4_corrected_66 : decode cX4_corrected 66 = .ok (.ldc 57, 2) := by decide +kernel
theorem dX4_corrected_68 : decode cX4_corrected 68 = .ok (.bipush 18, 2) := by decide +kernel
theorem dX4_corrected_70 : decode cX4_corrected 70 = .ok (.iload_n 2, 1) := by decide +kernel
theorem dX4_corrected_71 : decode cX4_corrected 71 = .ok (.imul, 1) := by decide +kernel
theorem dX4_corrected_72 : decode cX4_corrected 72 = .ok (.iadd, 1) := by decide +kernel
theorem dX4_corrected_73 : decode cX4_corrected 73 = .ok (.i2l, 1) := by decide +kernel
theorem dX4_corrected_74 : decode cX4_corrected 74 = .ok (.invokestatic 50, 3) := by decide +kernel
theorem dX4_corrected_77 : decode cX4_corrected 77 = .ok (.lstore 9, 2) := by decide +kernel
theorem dX4_corrected_79 : decode cX4_corrected 79 = .ok (.aload_n 0, 1) := by decide +kernel
theorem dX4_corrected_80 : decode cX4_corrected 80 = .ok (.getfield 20, 3) := by decide +kernel
theorem dX4_corrected_83 : decode cX4_corrected 83 = .ok (.iconst 5, 1) := by decide +kernel
theorem dX4_corrected_84 : decode cX4_corrected 84 = .ok (.iaload, 1) := by decide +kernel
theorem dX4_corrected_85 : decode cX4_corrected 85 = .ok (.i2l, 1) := by decide +kernel
theorem dX4_corrected_86 : decode cX4_corrected 86 = .ok (.lload 9, 2) := by decide +kernel
theorem dX4_corrected_88 : decode cX4_corrected 88 = .ok (.lsub, 1) := by decide +kernel
theorem dX4_corrected_89 : decode cX4_corrected 89 = .ok (.lstore 11, 2) := by decide +kernel
theorem dX4_corrected_91 : decode cX4_corrected 91 = .ok (.lload 11, 2) := by decide +kernel
theorem dX4_corrected_93 : decode cX4_corrected 93 = .ok (.lconst 0, 1) := by decide +kernel
theorem dX4_corrected_94 : decode cX4_corrected 94 = .ok (.lcmp, 1) := by decide +kernel
theorem dX4_corrected_95 : decode cX4_corrected 95 = .ok (.ifCond .gt 6, 3) := by decide +kernel
theorem dX4_corrected_98 : decode cX4_corrected 98 = .ok (.lload 9, 2) := by decide +kernel
theorem dX4_corrected_100 : decode cX4_corrected 100 = .ok (.lreturn, 1) := by decide +kernel
theorem dX4_corrected_101 : decode cX4_corrected 101 = .ok (.lload 9, 2) := by decide +kernel
theorem dX4_corrected_103 : decode cX4_corrected 103 = .ok (.lload 11, 2) := by decide +kernel
theorem dX4_corrected_105 : decode cX4_corrected 105 = .ok (.lmul, 1) := by decide +kernel
theorem dX4_corrected_106 : decode cX4_corrected 106 = .ok (.aload_n 0, 1) := by decide +kernel
theorem dX4_corrected_107 : decode cX4_corrected 107 = .ok (.getfield 27, 3) := by decide +kernel
theorem dX4_corrected_110 : decode cX4_corrected 110 = .ok (.lmul, 1) := by decide +kernel
theorem dX4_corrected_111 : decode cX4_corrected 111 = .ok (.aload_n 0, 1) := by decide +kernel
theorem dX4_corrected_112 : decode cX4_corrected 112 = .ok (.getfield 23, 3) := by decide +kernel
theorem dX4_corrected_115 : decode cX4_corrected 115 = .ok (.ladd, 1) := by decide +kernel
theorem dX4_corrected_116 : decode cX4_corrected 116 = .ok (.lload 11, 2) := by decide +kernel
theorem dX4_corrected_118 : decode cX4_corrected 118 = .ok (.aload_n 0, 1) := by decide +kernel
theorem dX4_corrected_119 : decode cX4_corrected 119 = .ok (.getfield 27, 3) := by decide +kernel
theorem dX4_corrected_122 : decode cX4_corrected 122 = .ok (.lmul, 1) := by decide +kernel
theorem dX4_corrected_123 : decode cX4_corrected 123 = .ok (.invokestatic 50, 3) := by decide +kernel
theorem dX4_corrected_126 : decode cX4_corrected 126 = .ok (.lreturn, 1) := by decide +kernel
theorem dX5_init_0 : decode cX5_init 0 = .ok (.aload_n 0, 1) := by decide +kernel
theorem dX5_init_1 : decode cX5_init 1 = .ok (.invokespecial 3, 3) := by decide +kernel
theorem dX5_init_4 : decode cX5_init 4 = .ok (.aload_n 0, 1) := by decide +kernel
theorem dX5_init_5 : decode cX5_init 5 = .ok (.bipush 48, 2) := by decide +kernel
theorem dX5_init_7 : decode cX5_init 7 = .ok (.newarray .int, 2) := by decide +kernel
theorem dX5_init_9 : decode cX5_init 9 = .ok (.putfield 9, 3) := by decide +kernel
theorem dX5_init_12 : decode cX5_init 12 = .ok (.aload_n 0, 1) := by decide +kernel
theorem dX5_init_13 : decode cX5_init 13 = .ok (.bipush 48, 2) := by decide +kernel
theorem dX5_init_15 : decode cX5_init 15 = .ok (.newarray .int, 2) := by decide +kernel
theorem dX5_init_17 : decode cX5_init 17 = .ok (.putfield 15, 3) := by decide +kernel
theorem dX5_init_20 : decode cX5_init 20 = .ok (.aload_n 0, 1) := by decide +kernel
theorem dX5_init_21 : decode cX5_init 21 = .ok (.iconst 3, 1) := by decide +kernel
theorem dX5_init_22 : decode cX5_init 22 = .ok (.newarray .int, 2) := by decide +kernel
theorem dX5_init_24 : decode cX5_init 24 = .ok (.putfield 18, 3) := by decide +kernel
theorem dX5_init_27 : decode cX5_init 27 = .ok (.aload_n 0, 1) := by decide +kernel
theorem dX5_init_28 : decode cX5_init 28 = .ok (.iconst 3, 1) := by decide +kernel
theorem dX5_init_29 : decode cX5_init 29 = .ok (.newarray .long, 2) := by decide +kernel
theorem dX5_init_31 : decode cX5_init 31 = .ok (.putfield 21, 3) := by decide +kernel
theorem dX5_init_34 : decode cX5_init 34 = .ok (.aload_n 0, 1) := by decide +kernel
theorem dX5_init_35 : decode cX5_init 35 = .ok (.iconst 0, 1) := by decide +kernel
theorem dX5_init_36 : decode cX5_init 36 = .ok (.putfield 25, 3) := by decide +kernel
theorem dX5_init_39 : decode cX5_init 39 = .ok (.aload_n 0, 1) := by decide +kernel
theorem dX5_init_40 : decode cX5_init 40 = .ok (.iload_n 1, 1) := by decide +kernel
theorem dX5_init_41 : decode cX5_init 41 = .ok (.putfield 29, 3) := by decide +kernel
theorem dX5_init_44 : decode cX5_init 44 = .ok (.aload_n 0, 1) := by decide +kernel
theorem dX5_init_45 : decode cX5_init 45 = .ok (.iload_n 2, 1) := by decide +kernel
theorem dX5_init_46 : decode cX5_init 46 = .ok (.putfield 32, 3) := by decide +kernel
theorem dX5_init_49 : decode cX5_init 49 = .ok (.aload_n 0, 1) := by decide +kernel
theorem dX5_init_50 : decode cX5_init 50 = .ok (.iload_n 3, 1) := by decide +kernel
theorem dX5_init_51 : decode cX5_init 51 = .ok (.putfield 35, 3) := by decide +kernel
theorem dX5_init_54 : decode cX5_init 54 = .ok (.aload_n 0, 1) := by decide +kernel
theorem dX5_init_55 : decode cX5_init 55 = .ok (.aload 4, 2) := by decide +kernel
theorem dX5_init_57 : decode cX5_init 57 = .ok (.putfield 38, 3) := by decide +kernel
theorem dX5_init_60 : decode cX5_init 60 = .ok (.return_, 1) := by decide +kernel
theorem dX5_isAt_0 : decode cX5_isAt 0 = .ok (.aload_n 0, 1) := by decide +kernel
theorem dX5_isAt_1 : decode cX5_isAt 1 = .ok (.getfield 29, 3) := by decide +kernel
theorem dX5_isAt_4 : decode cX5_isAt 4 = .ok (.iload_n 1, 1) := by decide +kernel
theorem dX5_isAt_5 : decode cX5_isAt 5 = .ok (.if_icmp .ne 15, 3) := by decide +kernel
theorem dX5_isAt_8 : decode cX5_isAt 8 = .ok (.aload_n 0, 1) := by decide +kernel
theorem dX5_isAt_9 : decode cX5_isAt 9 = .ok (.getfield 32, 3) := by decide +kernel
theorem dX5_isAt_12 : decode cX5_isAt 12 = .ok (.iload_n 2, 1) := by decide +kernel
theorem dX5_isAt_13 : decode cX5_isAt 13 = .ok (.if_icmp .ne 7, 3) := by decide +kernel
theorem dX5_isAt_16 : decode cX5_isAt 16 = .ok (.iconst 1, 1) := by decide +kernel
theorem dX5_isAt_17 : decode cX5_isAt 17 = .ok (.goto 4, 3) := by decide +kernel
theorem dX5_isAt_20 : decode cX5_isAt 20 = .ok (.iconst 0, 1) := by decide +kernel
theorem dX5_isAt_21 : decode cX5_isAt 21 = .ok (.ireturn, 1) := by decide +kernel
theorem dX5_hasReading_0 : decode cX5_hasReading 0 = .ok (.aload_n 0, 1) := by decide +kernel
theorem dX5_hasReading_1 : decode cX5_hasReading 1 = .ok (.getfield 9, 3) := by decide +kernel
theorem dX5_hasReading_4 : decode cX5_hasReading 4 = .ok (.iload_n 1, 1) := by decide +kernel
theorem dX5_hasReading_5 : decode cX5_hasReading 5 = .ok (.iaload, 1) := by decide +kernel
theorem dX5_hasReading_6 : decode cX5_hasReading 6 = .ok (.ifCond .eq 7, 3) := by decide +kernel
theorem dX5_hasReading_9 : decode cX5_hasReading 9 = .ok (.iconst 1, 1) := by decide +kernel
theorem dX5_hasReading_10 : decode cX5_hasReading 10 = .ok (.goto 4, 3) := by decide +kernel
theorem dX5_hasReading_13 : decode cX5_hasReading 13 = .ok (.iconst 0, 1) := by decide +kernel
theorem dX5_hasReading_14 : decode cX5_hasReading 14 = .ok (.ireturn, 1) := by decide +kernel
theorem dX5_putReading_0 : decode cX5_putReading 0 = .ok (.aload_n 0, 1) := by decide +kernel
theorem dX5_putReading_1 : decode cX5_putReading 1 = .ok (.getfield 9, 3) := by decide +kernel
theorem dX5_putReading_4 : decode cX5_putReading 4 = .ok (.iload_n 1, 1) := by decide +kernel
theorem dX5_putReading_5 : decode cX5_putReading 5 = .ok (.iload_n 2, 1) := by decide +kernel
theorem dX5_putReading_6 : decode cX5_putReading 6 = .ok (.iastore, 1) := by decide +kernel
theorem dX5_putReading_7 : decode cX5_putReading 7 = .ok (.aload_n 0, 1) := by decide +kernel
theorem dX5_putReading_8 : decode cX5_putReading 8 = .ok (.getfield 15, 3) := by decide +kernel
theorem dX5_putReading_11 : decode cX5_putReading 11 = .ok (.iload_n 1, 1) := by decide +kernel
theorem dX5_putReading_12 : decode cX5_putReading 12 = .ok (.iload_n 3, 1) := by decide +kernel
theorem dX5_putReading_13 : decode cX5_putReading 13 = .ok (.iastore, 1) := by decide +kernel
theorem dX5_putReading_14 : decode cX5_putReading 14 = .ok (.return_, 1) := by decide +kernel
theorem dX5_clearReading_0 : decode cX5_clearReading 0 = .ok (.aload_n 0, 1) := by decide +kernel
theorem dX5_clearReading_1 : decode cX5_clearReading 1 = .ok (.getfield 9, 3) := by decide +kernel
theorem dX5_clearReading_4 : decode cX5_clearReading 4 = .ok (.iload_n 1, 1) := by decide +kernel
theorem dX5_clearReading_5 : decode cX5_clearReading 5 = .ok (.iconst 0, 1) := by decide +kernel
theorem dX5_clearReading_6 : decode cX5_clearReading 6 = .ok (.iastore, 1) := by decide +kernel
theorem dX5_clearReading_7 : decode cX5_clearReading 7 = .ok (.return_, 1) := by decide +kernel
theorem dX5_countReadings_0 : decode cX5_countReadings 0 = .ok (.iconst 0, 1) := by decide +kernel
theorem dX5_countReadings_1 : decode cX5_countReadings 1 = .ok (.istore_n 1, 1) := by decide +kernel
theorem dX5_countReadings_2 : decode cX5_countReadings 2 = .ok (.iconst 0, 1) := by decide +kernel
theorem dX5_countReadings_3 : decode cX5_countReadings 3 = .ok (.istore_n 2, 1) := by decide +kernel
theorem dX5_countReadings_4 : decode cX5_countReadings 4 = .ok (.iload_n 2, 1) := by decide +kernel
theorem dX5_countReadings_5 : decode cX5_countReadings 5 = .ok (.bipush 48, 2) := by decide +kernel
theorem dX5_countReadings_7 : decode cX5_countReadings 7 = .ok (.if_icmp .ge 20, 3) := by decide +kernel
theorem dX5_countReadings_10 : decode cX5_countReadings 10 = .ok (.aload_n 0, 1) := by decide +kernel
theorem dX5_countReadings_11 : decode cX5_countReadings 11 = .ok (.iload_n 2, 1) := by decide +kernel
theorem dX5_countReadings_12 : decode cX5_countReadings 12 = .ok (.invokevirtual 42, 3) := by decide +kernel
theorem dX5_countReadings_15 : decode cX5_countReadings 15 = .ok (.ifCond .eq 6, 3) := by decide +kernel
theorem dX5_countReadings_18 : decode cX5_countReadings 18 = .ok (.iinc 1 1, 3) := by decide +kernel
theorem dX5_countReadings_21 : decode cX5_countReadings 21 = .ok (.iinc 2 1, 3) := by decide +kernel
theorem dX5_countReadings_24 : decode cX5_countReadings 24 = .ok (.goto (-20), 3) := by decide +kernel
theorem dX5_countReadings_27 : decode cX5_countReadings 27 = .ok (.iload_n 1, 1) := by decide +kernel
theorem dX5_countReadings_28 : decode cX5_countReadings 28 = .ok (.ireturn, 1) := by decide +kernel
theorem dX5_warmth_0 : decode cX5_warmth 0 = .ok (.aload_n 0, 1) := by decide +kernel
theorem dX5_warmth_1 : decode cX5_warmth 1 = .ok (.getfield 15, 3) := by decide +kernel
theorem dX5_warmth_4 : decode cX5_warmth 4 = .ok (.iload_n 1, 1) := by decide +kernel
theorem dX5_warmth_5 : decode cX5_warmth 5 = .ok (.iaload, 1) := by decide +kernel
theorem dX5_warmth_6 : decode cX5_warmth 6 = .ok (.ireturn, 1) := by decide +kernel
theorem dX5_mendings_0 : decode cX5_mendings 0 = .ok (.aload_n 0, 1) := by decide +kernel
theorem dX5_mendings_1 : decode cX5_mendings 1 = .ok (.getfield 25, 3) := by decide +kernel
theorem dX5_mendings_4 : decode cX5_mendings 4 = .ok (.ireturn, 1) := by decide +kernel
theorem dX5_addMending_0 : decode cX5_addMending 0 = .ok (.aload_n 0, 1) := by decide +kernel
theorem dX5_addMending_1 : decode cX5_addMending 1 = .ok (.getfield 25, 3) := by decide +kernel
theorem dX5_addMending_4 : decode cX5_addMending 4 = .ok (.iconst 3, 1) := by decide +kernel
theorem dX5_addMending_5 : decode cX5_addMending 5 = .ok (.if_icmp .ge 33, 3) := by decide +kernel
theorem dX5_addMending_8 : decode cX5_addMending 8 = .ok (.aload_n 0, 1) := by decide +kernel
theorem dX5_addMending_9 : decode cX5_addMending 9 = .ok (.getfield 18, 3) := by decide +kernel
theorem dX5_addMending_12 : decode cX5_addMending 12 = .ok (.aload_n 0, 1) := by decide +kernel
theorem dX5_addMending_13 : decode cX5_addMending 13 = .ok (.getfield 25, 3) := by decide +kernel
theorem dX5_addMending_16 : decode cX5_addMending 16 = .ok (.iload_n 1, 1) := by decide +kernel
theorem dX5_addMending_17 : decode cX5_addMending 17 = .ok (.iastore, 1) := by decide +kernel
theorem dX5_addMending_18 : decode cX5_addMending 18 = .ok (.aload_n 0, 1) := by decide +kernel
theorem dX5_addMending_19 : decode cX5_addMending 19 = .ok (.getfield 21, 3) := by decide +kernel
theorem dX5_addMending_22 : decode cX5_addMending 22 = .ok (.aload_n 0, 1) := by decide +kernel
theorem dX5_addMending_23 : decode cX5_addMending 23 = .ok (.getfield 25, 3) := by decide +kernel
theorem dX5_addMending_26 : decode cX5_addMending 26 = .ok (.lload_n 2, 1) := by decide +kernel
theorem dX5_addMending_27 : decode cX5_addMending 27 = .ok (.lastore, 1) := by decide +kernel
theorem dX5_addMending_28 : decode cX5_addMending 28 = .ok (.aload_n 0, 1) := by decide +kernel
theorem dX5_addMending_29 : decode cX5_addMending 29 = .ok (.dup, 1) := by decide +kernel
theorem dX5_addMending_30 : decode cX5_addMending 30 = .ok (.getfield 25, 3) := by decide +kernel
theorem dX5_addMending_33 : decode cX5_addMending 33 = .ok (.iconst 1, 1) := by decide +kernel
theorem dX5_addMending_34 : decode cX5_addMending 34 = .ok (.iadd, 1) := by decide +kernel
theorem dX5_addMending_35 : decode cX5_addMending 35 = .ok (.putfield 25, 3) := by decide +kernel
theorem dX5_addMending_38 : decode cX5_addMending 38 = .ok (.return_, 1) := by decide +kernel
theorem dX5_toldOf_0 : decode cX5_toldOf 0 = .ok (.iload_n 2, 1) := by decide +kernel
theorem dX5_toldOf_1 : decode cX5_toldOf 1 = .ok (.tableswitch 73 0 3 #[31, 39, 47, 67], 31) := by decide +kernel
theorem dX5_toldOf_32 : decode cX5_toldOf 32 = .ok (.aload_n 0, 1) := by decide +kernel
theorem dX5_toldOf_33 : decode cX5_toldOf 33 = .ok (.getfield 9, 3) := by decide +kernel
theorem dX5_toldOf_36 : decode cX5_toldOf 36 = .ok (.iload_n 1, 1) := by decide +kernel
theorem dX5_toldOf_37 : decode cX5_toldOf 37 = .ok (.iaload, 1) := by decide +kernel
theorem dX5_toldOf_38 : decode cX5_toldOf 38 = .ok (.i2l, 1) := by decide +kernel
theorem dX5_toldOf_39 : decode cX5_toldOf 39 = .ok (.lreturn, 1) := by decide +kernel
theorem dX5_toldOf_40 : decode cX5_toldOf 40 = .ok (.aload_n 0, 1) := by decide +kernel
theorem dX5_toldOf_41 : decode cX5_toldOf 41 = .ok (.getfield 15, 3) := by decide +kernel
theorem dX5_toldOf_44 : decode cX5_toldOf 44 = .ok (.iload_n 1, 1) := by decide +kernel
theorem dX5_toldOf_45 : decode cX5_toldOf 45 = .ok (.iaload, 1) := by decide +kernel
theorem dX5_toldOf_46 : decode cX5_toldOf 46 = .ok (.i2l, 1) := by decide +kernel
theorem dX5_toldOf_47 : decode cX5_toldOf 47 = .ok (.lreturn, 1) := by decide +kernel
theorem dX5_toldOf_48 : decode cX5_toldOf 48 = .ok (.aload_n 0, 1) := by decide +kernel
theorem dX5_toldOf_49 : decode cX5_toldOf 49 = .ok (.getfield 38, 3) := by decide +kernel
theorem dX5_toldOf_52 : decode cX5_toldOf 52 = .ok (.aload_n 0, 1) := by decide +kernel
theorem dX5_toldOf_53 : decode cX5_toldOf 53 = .ok (.getfield 9, 3) := by decide +kernel
theorem dX5_toldOf_56 : decode cX5_toldOf 56 = .ok (.iload_n 1, 1) := by decide +kernel
theorem dX5_toldOf_57 : decode cX5_toldOf 57 = .ok (.iaload, 1) := by decide +kernel
theorem dX5_toldOf_58 : decode cX5_toldOf 58 = .ok (.aload_n 0, 1) := by decide +kernel
theorem dX5_toldOf_59 : decode cX5_toldOf 59 = .ok (.getfield 15, 3) := by decide +kernel
theorem dX5_toldOf_62 : decode cX5_toldOf 62 = .ok (.iload_n 1, 1) := by decide +kernel
theorem dX5_toldOf_63 : decode cX5_toldOf 63 = .ok (.iaload, 1) := by decide +kernel
theorem dX5_toldOf_64 : decode cX5_toldOf 64 = .ok (.invokevirtual 46, 3) := by decide +kernel
theorem dX5_toldOf_67 : decode cX5_toldOf 67 = .ok (.lreturn, 1) := by decide +kernel
theorem dX5_toldOf_68 : decode cX5_toldOf 68 = .ok (.aload_n 0, 1) := by decide +kernel
theorem dX5_toldOf_69 : decode cX5_toldOf 69 = .ok (.iload_n 1, 1) := by decide +kernel
theorem dX5_toldOf_70 : decode cX5_toldOf 70 = .ok (.invokevirtual 52, 3) := by decide +kernel
theorem dX5_toldOf_73 : decode cX5_toldOf 73 = .ok (.lreturn, 1) := by decide +kernel
theorem dX5_toldOf_74 : decode cX5_toldOf 74 = .ok (.aload_n 0, 1) := by decide +kernel
theorem dX5_toldOf_75 : decode cX5_toldOf 75 = .ok (.iload_n 1, 1) := by decide +kernel
theorem dX5_toldOf_76 : decode cX5_toldOf 76 = .ok (.invokevirtual 56, 3) := by decide +kernel
theorem dX5_toldOf_79 : decode cX5_toldOf 79 = .ok (.i2l, 1) := by decide +kernel
theorem dX5_toldOf_80 : decode cX5_toldOf 80 = .ok (.lreturn, 1) := by decide +kernel
theorem dX5_mended_0 : decode cX5_mended 0 = .ok (.aload_n 0, 1) := by decide +kernel
theorem dX5_mended_1 : decode cX5_mended 1 = .ok (.getfield 38, 3) := by decide +kernel
theorem dX5_mended_4 : decode cX5_mended 4 = .ok (.aload_n 0, 1) := by decide +kernel
theorem dX5_mended_5 : decode cX5_mended 5 = .ok (.getfield 9, 3) := by decide +kernel
theorem dX5_mended_8 : decode cX5_mended 8 = .ok (.iload_n 1, 1) := by decide +kernel
theorem dX5_mended_9 : decode cX5_mended 9 = .ok (.iaload, 1) := by decide +kernel
theorem dX5_mended_10 : decode cX5_mended 10 = .ok (.aload_n 0, 1) := by decide +kernel
theorem dX5_mended_11 : decode cX5_mended 11 = .ok (.getfield 15, 3) := by decide +kernel
theorem dX5_mended_14 : decode cX5_mended 14 = .ok (.iload_n 1, 1) := by decide +kernel
theorem dX5_mended_15 : decode cX5_mended 15 = .ok (.iaload, 1) := by decide +kernel
theorem dX5_mended_16 : decode cX5_mended 16 = .ok (.invokevirtual 46, 3) := by decide +kernel
theorem dX5_mended_19 : decode cX5_mended 19 = .ok (.lstore_n 2, 1) := by decide +kernel
theorem dX5_mended_20 : decode cX5_mended 20 = .ok (.iconst 0, 1) := by decide +kernel
theorem dX5_mended_21 : decode cX5_mended 21 = .ok (.istore 4, 2) := by decide +kernel
theorem dX5_mended_23 : decode cX5_mended 23 = .ok (.iload 4, 2) := by decide +kernel
theorem dX5_mended_25 : decode cX5_mended 25 = .ok (.aload_n 0, 1) := by decide +kernel
theorem dX5_mended_26 : decode cX5_mended 26 = .ok (.getfield 25, 3) := by decide +kernel
theorem dX5_mended_29 : decode cX5_mended 29 = .ok (.if_icmp .ge 30, 3) := by decide +kernel
theorem dX5_mended_32 : decode cX5_mended 32 = .ok (.iload_n 1, 1) := by decide +kernel
theorem dX5_mended_33 : decode cX5_mended 33 = .ok (.aload_n 0, 1) := by decide +kernel
theorem dX5_mended_34 : decode cX5_mended 34 = .ok (.getfield 18, 3) := by decide +kernel
theorem dX5_mended_37 : decode cX5_mended 37 = .ok (.iload 4, 2) := by decide +kernel
theorem dX5_mended_39 : decode cX5_mended 39 = .ok (.iaload, 1) := by decide +kernel
theorem dX5_mended_40 : decode cX5_mended 40 = .ok (.if_icmp .lt 13, 3) := by decide +kernel
theorem dX5_mended_43 : decode cX5_mended 43 = .ok (.lload_n 2, 1) := by decide +kernel
theorem dX5_mended_44 : decode cX5_mended 44 = .ok (.aload_n 0, 1) := by decide +kernel
theorem dX5_mended_45 : decode cX5_mended 45 = .ok (.getfield 21, 3) := by decide +kernel
theorem dX5_mended_48 : decode cX5_mended 48 = .ok (.iload 4, 2) := by decide +kernel
theorem dX5_mended_50 : decode cX5_mended 50 = .ok (.laload, 1) := by decide +kernel
theorem dX5_mended_51 : decode cX5_mended 51 = .ok (.lsub, 1) := by decide +kernel
theorem dX5_mended_52 : decode cX5_mended 52 = .ok (.lstore_n 2, 1) := by decide +kernel
theorem dX5_mended_53 : decode cX5_mended 53 = .ok (.iinc 4 1, 3) := by decide +kernel
theorem dX5_mended_56 : decode cX5_mended 56 = .ok (.goto (-33), 3) := by decide +kernel
theorem dX5_mended_59 : decode cX5_mended 59 = .ok (.lload_n 2, 1) := by decide +kernel
theorem dX5_mended_60 : decode cX5_mended 60 = .ok (.lreturn, 1) := by decide +kernel
theorem dX5_levelAt_0 : decode cX5_levelAt 0 = .ok (.aload_n 0, 1) := by decide +kernel
theorem dX5_levelAt_1 : decode cX5_levelAt 1 = .ok (.iload_n 1, 1) := by decide +kernel
theorem dX5_levelAt_2 : decode cX5_levelAt 2 = .ok (.invokevirtual 52, 3) := by decide +kernel
theorem dX5_levelAt_5 : decode cX5_levelAt 5 = .ok (.invokestatic 60, 3) := by decide +kernel
theorem dX5_levelAt_8 : decode cX5_levelAt 8 = .ok (.aload_n 0, 1) := by decide +kernel
theorem dX5_levelAt_9 : decode cX5_levelAt 9 = .ok (.getfield 35, 3) := by decide +kernel
theorem dX5_levelAt_12 : decode cX5_levelAt 12 = .ok (.aload_n 0, 1) := by decide +kernel
theorem dX5_levelAt_13 : decode cX5_levelAt 13 = .ok (.getfield 15, 3) := by decide +kernel
theorem dX5_levelAt_16 : decode cX5_levelAt 16 = .ok (.iload_n 1, 1) := by decide +kernel
theorem dX5_levelAt_17 : decode cX5_levelAt 17 = .ok (.iaload, 1) := by decide +kernel
theorem dX5_levelAt_18 : decode cX5_levelAt 18 = .ok (.invokestatic 66, 3) := by decide +kernel
theorem dX5_levelAt_21 : decode cX5_levelAt 21 = .ok (.ireturn, 1) := by decide +kernel
theorem dX6_init_0 : decode cX6_init 0 = .ok (.aload_n 0, 1) := by decide +kernel
theorem dX6_init_1 : decode cX6_init 1 = .ok (.invokespecial 3, 3) := by decide +kernel
theorem dX6_init_4 : decode cX6_init 4 = .ok (.aload_n 0, 1) := by decide +kernel
theorem dX6_init_5 : decode cX6_init 5 = .ok (.iconst 3, 1) := by decide +kernel
theorem dX6_init_6 : decode cX6_init 6 = .ok (.putfield 9, 3) := by decide +kernel
theorem dX6_init_9 : decode cX6_init 9 = .ok (.aload_n 0, 1) := by decide +kernel
theorem dX6_init_10 : decode cX6_init 10 = .ok (.iconst 0, 1) := by decide +kernel
theorem dX6_init_11 : decode cX6_init 11 = .ok (.putfield 15, 3) := by decide +kernel
theorem dX6_init_14 : decode cX6_init 14 = .ok (.aload_n 0, 1) := by decide +kernel
theorem dX6_init_15 : decode cX6_init 15 = .ok (.bipush 12, 2) := by decide +kernel
theorem dX6_init_17 : decode cX6_init 17 = .ok (.newarray .int, 2) := by decide +kernel
theorem dX6_init_19 : decode cX6_init 19 = .ok (.putfield 18, 3) := by decide +kernel
theorem dX6_init_22 : decode cX6_init 22 = .ok (.aload_n 0, 1) := by decide +kernel
theorem dX6_init_23 : decode cX6_init 23 = .ok (.bipush 12, 2) := by decide +kernel
theorem dX6_init_25 : decode cX6_init 25 = .ok (.newarray .int, 2) := by decide +kernel
theorem dX6_init_27 : decode cX6_init 27 = .ok (.putfield 22, 3) := by decide +kernel
theorem dX6_init_30 : decode cX6_init 30 = .ok (.aload_n 0, 1) := by decide +kernel
theorem dX6_init_31 : decode cX6_init 31 = .ok (.bipush 12, 2) := by decide +kernel
theorem dX6_init_33 : decode cX6_init 33 = .ok (.newarray .int, 2) := by decide +kernel
theorem dX6_init_35 : decode cX6_init 35 = .ok (.putfield 25, 3) := by decide +kernel
theorem dX6_init_38 : decode cX6_init 38 = .ok (.aload_n 0, 1) := by decide +kernel
theorem dX6_init_39 : decode cX6_init 39 = .ok (.bipush 12, 2) := by decide +kernel
theorem dX6_init_41 : decode cX6_init 41 = .ok (.newarray .int, 2) := by decide +kernel
theorem dX6_init_43 : decode cX6_init 43 = .ok (.putfield 28, 3) := by decide +kernel
theorem dX6_init_46 : decode cX6_init 46 = .ok (.aload_n 0, 1) := by decide +kernel
theorem dX6_init_47 : decode cX6_init 47 = .ok (.iconst 5, 1) := by decide +kernel
theorem dX6_init_48 : decode cX6_init 48 = .ok (.bipush 6, 2) := by decide +kernel
theorem dX6_init_50 : decode cX6_init 50 = .ok (.multianewarray 31 2, 4) := by decide +kernel
theorem dX6_init_54 : decode cX6_init 54 = .ok (.putfield 33, 3) := by decide +kernel
theorem dX6_init_57 : decode cX6_init 57 = .ok (.aload_n 0, 1) := by decide +kernel
theorem dX6_init_58 : decode cX6_init 58 = .ok (.bipush 6, 2) := by decide +kernel
theorem dX6_init_60 : decode cX6_init 60 = .ok (.newarray .long, 2) := by decide +kernel
theorem dX6_init_62 : decode cX6_init 62 = .ok (.putfield 36, 3) := by decide +kernel
theorem dX6_init_65 : decode cX6_init 65 = .ok (.aload_n 0, 1) := by decide +kernel
theorem dX6_init_66 : decode cX6_init 66 = .ok (.lconst 0, 1) := by decide +kernel
theorem dX6_init_67 : decode cX6_init 67 = .ok (.putfield 40, 3) := by decide +kernel
theorem dX6_init_70 : decode cX6_init 70 = .ok (.aload_n 0, 1) := by decide +kernel
theorem dX6_init_71 : decode cX6_init 71 = .ok (.iconst 0, 1) := by decide +kernel
theorem dX6_init_72 : decode cX6_init 72 = .ok (.putfield 44, 3) := by decide +kernel
theorem dX6_init_75 : decode cX6_init 75 = .ok (.return_, 1) := by decide +kernel
theorem dX6_benchCount_0 : decode cX6_benchCount 0 = .ok (.aload_n 0, 1) := by decide +kernel
theorem dX6_benchCount_1 : decode cX6_benchCount 1 = .ok (.getfield 9, 3) := by decide +kernel
theorem dX6_benchCount_4 : decode cX6_benchCount 4 = .ok (.ireturn, 1) := by decide +kernel
theorem dX6_count_0 : decode cX6_count 0 = .ok (.aload_n 0, 1) := by decide +kernel
theorem dX6_count_1 : decode cX6_count 1 = .ok (.getfield 15, 3) := by decide +kernel
theorem dX6_count_4 : decode cX6_count 4 = .ok (.ireturn, 1) := by decide +kernel
theorem dX6_hasBench_0 : decode cX6_hasBench 0 = .ok (.iload_n 1, 1) := by decide +kernel
theorem dX6_hasBench_1 : decode cX6_hasBench 1 = .ok (.iconst 0, 1) := by decide +kernel
theorem dX6_hasBench_2 : decode cX6_hasBench 2 = .ok (.aload_n 0, 1) := by decide +kernel
theorem dX6_hasBench_3 : decode cX6_hasBench 3 = .ok (.getfield 9, 3) := by decide +kernel
theorem dX6_hasBench_6 : decode cX6_hasBench 6 = .ok (.iconst 1, 1) := by decide +kernel
theorem dX6_hasBench_7 : decode cX6_hasBench 7 = .ok (.isub, 1) := by decide +kernel
theorem dX6_hasBench_8 : decode cX6_hasBench 8 = .ok (.invokestatic 48, 3) := by decide +kernel
theorem dX6_hasBench_11 : decode cX6_hasBench 11 = .ok (.ireturn, 1) := by decide +kernel
theorem dX6_hasDifference_0 : decode cX6_hasDifference 0 = .ok (.iload_n 1, 1) := by decide +kernel
theorem dX6_hasDifference_1 : decode cX6_hasDifference 1 = .ok (.iconst 0, 1) := by decide +kernel
theorem dX6_hasDifference_2 : decode cX6_hasDifference 2 = .ok (.aload_n 0, 1) := by decide +kernel
theorem dX6_hasDifference_3 : decode cX6_hasDifference 3 = .ok (.getfield 15, 3) := by decide +kernel
theorem dX6_hasDifference_6 : decode cX6_hasDifference 6 = .ok (.iconst 1, 1) := by decide +kernel
theorem dX6_hasDifference_7 : decode cX6_hasDifference 7 = .ok (.isub, 1) := by decide +kernel
theorem dX6_hasDifference_8 : decode cX6_hasDifference 8 = .ok (.invokestatic 48, 3) := by decide +kernel
theorem dX6_hasDifference_11 : decode cX6_hasDifference 11 = .ok (.ireturn, 1) := by decide +kernel
theorem dX6_startAnew_0 : decode cX6_startAnew 0 = .ok (.aload_n 0, 1) := by decide +kernel
theorem dX6_startAnew_1 : decode cX6_startAnew 1 = .ok (.iload_n 1, 1) := by decide +kernel
theorem dX6_startAnew_2 : decode cX6_startAnew 2 = .ok (.putfield 9, 3) := by decide +kernel
theorem dX6_startAnew_5 : decode cX6_startAnew 5 = .ok (.aload_n 0, 1) := by decide +kernel
theorem dX6_startAnew_6 : decode cX6_startAnew 6 = .ok (.iconst 0, 1) := by decide +kernel
theorem dX6_startAnew_7 : decode cX6_startAnew 7 = .ok (.putfield 15, 3) := by decide +kernel
end
section
theorem dX6_startAnew_10 : decode cX6_startAnew 10 = .ok (.aload_n 0, 1) := by decide +kernel
theorem dX6_startAnew_11 : decode cX6_startAnew 11 = .ok (.iconst 0, 1) := by decide +kernel
theorem dX6_startAnew_12 : decode cX6_startAnew 12 = .ok (.putfield 44, 3) := by decide +kernel
theorem dX6_startAnew_15 : decode cX6_startAnew 15 = .ok (.return_, 1) := by decide +kernel
theorem dX6_add_0 : decode cX6_add 0 = .ok (.aload_n 0, 1) := by decide +kernel
theorem dX6_add_1 : decode cX6_add 1 = .ok (.getfield 15, 3) := by decide +kernel
theorem dX6_add_4 : decode cX6_add 4 = .ok (.bipush 12, 2) := by decide +kernel
theorem dX6_add_6 : decode cX6_add 6 = .ok (.if_icmp .lt 6, 3) := by decide +kernel
theorem dX6_add_9 : decode cX6_add 9 = .ok (.bipush (-4), 2) := by decide +kernel
theorem dX6_add_11 : decode cX6_add 11 = .ok (.ireturn, 1) := by decide +kernel
theorem dX6_add_12 : decode cX6_add 12 = .ok (.aload_n 0, 1) := by decide +kernel
theorem dX6_add_13 : decode cX6_add 13 = .ok (.getfield 18, 3) := by decide +kernel
theorem dX6_add_16 : decode cX6_add 16 = .ok (.aload_n 0, 1) := by decide +kernel
theorem dX6_add_17 : decode cX6_add 17 = .ok (.getfield 15, 3) := by decide +kernel
theorem dX6_add_20 : decode cX6_add 20 = .ok (.iload_n 1, 1) := by decide +kernel
theorem dX6_add_21 : decode cX6_add 21 = .ok (.iastore, 1) := by decide +kernel
theorem dX6_add_22 : decode cX6_add 22 = .ok (.aload_n 0, 1) := by decide +kernel
theorem dX6_add_23 : decode cX6_add 23 = .ok (.getfield 22, 3) := by decide +kernel
theorem dX6_add_26 : decode cX6_add 26 = .ok (.aload_n 0, 1) := by decide +kernel
theorem dX6_add_27 : decode cX6_add 27 = .ok (.getfield 15, 3) := by decide +kernel
theorem dX6_add_30 : decode cX6_add 30 = .ok (.iload_n 2, 1) := by decide +kernel
theorem dX6_add_31 : decode cX6_add 31 = .ok (.iastore, 1) := by decide +kernel
theorem dX6_add_32 : decode cX6_add 32 = .ok (.aload_n 0, 1) := by decide +kernel
theorem dX6_add_33 : decode cX6_add 33 = .ok (.getfield 25, 3) := by decide +kernel
theorem dX6_add_36 : decode cX6_add 36 = .ok (.aload_n 0, 1) := by decide +kernel
theorem dX6_add_37 : decode cX6_add 37 = .ok (.getfield 15, 3) := by decide +kernel
theorem dX6_add_40 : decode cX6_add 40 = .ok (.iload_n 3, 1) := by decide +kernel
theorem dX6_add_41 : decode cX6_add 41 = .ok (.iastore, 1) := by decide +kernel
theorem dX6_add_42 : decode cX6_add 42 = .ok (.aload_n 0, 1) := by decide +kernel
theorem dX6_add_43 : decode cX6_add 43 = .ok (.getfield 28, 3) := by decide +kernel
theorem dX6_add_46 : decode cX6_add 46 = .ok (.aload_n 0, 1) := by decide +kernel
theorem dX6_add_47 : decode cX6_add 47 = .ok (.getfield 15, 3) := by decide +kernel
theorem dX6_add_50 : decode cX6_add 50 = .ok (.iload 4, 2) := by decide +kernel
theorem dX6_add_52 : decode cX6_add 52 = .ok (.iastore, 1) := by decide +kernel
theorem dX6_add_53 : decode cX6_add 53 = .ok (.aload_n 0, 1) := by decide +kernel
theorem dX6_add_54 : decode cX6_add 54 = .ok (.iconst 0, 1) := by decide +kernel
theorem dX6_add_55 : decode cX6_add 55 = .ok (.putfield 44, 3) := by decide +kernel
theorem dX6_add_58 : decode cX6_add 58 = .ok (.aload_n 0, 1) := by decide +kernel
theorem dX6_add_59 : decode cX6_add 59 = .ok (.dup, 1) := by decide +kernel
theorem dX6_add_60 : decode cX6_add 60 = .ok (.getfield 15, 3) := by decide +kernel
theorem dX6_add_63 : decode cX6_add 63 = .ok (.dup_x1, 1) := by decide +kernel
theorem dX6_add_64 : decode cX6_add 64 = .ok (.iconst 1, 1) := by decide +kernel
theorem dX6_add_65 : decode cX6_add 65 = .ok (.iadd, 1) := by decide +kernel
theorem dX6_add_66 : decode cX6_add 66 = .ok (.putfield 15, 3) := by decide +kernel
theorem dX6_add_69 : decode cX6_add 69 = .ok (.ireturn, 1) := by decide +kernel
theorem dX6_removeLatest_0 : decode cX6_removeLatest 0 = .ok (.aload_n 0, 1) := by decide +kernel
theorem dX6_removeLatest_1 : decode cX6_removeLatest 1 = .ok (.getfield 15, 3) := by decide +kernel
theorem dX6_removeLatest_4 : decode cX6_removeLatest 4 = .ok (.ifCond .ne 5, 3) := by decide +kernel
theorem dX6_removeLatest_7 : decode cX6_removeLatest 7 = .ok (.iconst (-1), 1) := by decide +kernel
theorem dX6_removeLatest_8 : decode cX6_removeLatest 8 = .ok (.ireturn, 1) := by decide +kernel
theorem dX6_removeLatest_9 : decode cX6_removeLatest 9 = .ok (.aload_n 0, 1) := by decide +kernel
theorem dX6_removeLatest_10 : decode cX6_removeLatest 10 = .ok (.iconst 0, 1) := by decide +kernel
theorem dX6_removeLatest_11 : decode cX6_removeLatest 11 = .ok (.putfield 44, 3) := by decide +kernel
theorem dX6_removeLatest_14 : decode cX6_removeLatest 14 = .ok (.aload_n 0, 1) := by decide +kernel
theorem dX6_removeLatest_15 : decode cX6_removeLatest 15 = .ok (.dup, 1) := by decide +kernel
theorem dX6_removeLatest_16 : decode cX6_removeLatest 16 = .ok (.getfield 15, 3) := by decide +kernel
theorem dX6_removeLatest_19 : decode cX6_removeLatest 19 = .ok (.iconst 1, 1) := by decide +kernel
theorem dX6_removeLatest_20 : decode cX6_removeLatest 20 = .ok (.isub, 1) := by decide +kernel
theorem dX6_removeLatest_21 : decode cX6_removeLatest 21 = .ok (.dup_x1, 1) := by decide +kernel
theorem dX6_removeLatest_22 : decode cX6_removeLatest 22 = .ok (.putfield 15, 3) := by decide +kernel
theorem dX6_removeLatest_25 : decode cX6_removeLatest 25 = .ok (.ireturn, 1) := by decide +kernel
theorem dX6_joins_0 : decode cX6_joins 0 = .ok (.aload_n 0, 1) := by decide +kernel
theorem dX6_joins_1 : decode cX6_joins 1 = .ok (.iload_n 1, 1) := by decide +kernel
theorem dX6_joins_2 : decode cX6_joins 2 = .ok (.iload_n 2, 1) := by decide +kernel
theorem dX6_joins_3 : decode cX6_joins 3 = .ok (.invokevirtual 52, 3) := by decide +kernel
theorem dX6_joins_6 : decode cX6_joins 6 = .ok (.bipush (-6), 2) := by decide +kernel
theorem dX6_joins_8 : decode cX6_joins 8 = .ok (.if_icmp .eq 7, 3) := by decide +kernel
theorem dX6_joins_11 : decode cX6_joins 11 = .ok (.iconst 1, 1) := by decide +kernel
theorem dX6_joins_12 : decode cX6_joins 12 = .ok (.goto 4, 3) := by decide +kernel
theorem dX6_joins_15 : decode cX6_joins 15 = .ok (.iconst 0, 1) := by decide +kernel
theorem dX6_joins_16 : decode cX6_joins 16 = .ok (.ireturn, 1) := by decide +kernel
theorem dX6_firstUp_0 : decode cX6_firstUp 0 = .ok (.aload_n 0, 1) := by decide +kernel
theorem dX6_firstUp_1 : decode cX6_firstUp 1 = .ok (.iload_n 1, 1) := by decide +kernel
theorem dX6_firstUp_2 : decode cX6_firstUp 2 = .ok (.iload_n 2, 1) := by decide +kernel
theorem dX6_firstUp_3 : decode cX6_firstUp 3 = .ok (.invokevirtual 52, 3) := by decide +kernel
theorem dX6_firstUp_6 : decode cX6_firstUp 6 = .ok (.istore_n 3, 1) := by decide +kernel
theorem dX6_firstUp_7 : decode cX6_firstUp 7 = .ok (.iload_n 3, 1) := by decide +kernel
theorem dX6_firstUp_8 : decode cX6_firstUp 8 = .ok (.bipush (-6), 2) := by decide +kernel
theorem dX6_firstUp_10 : decode cX6_firstUp 10 = .ok (.if_icmp .ne 5, 3) := by decide +kernel
theorem dX6_firstUp_13 : decode cX6_firstUp 13 = .ok (.lconst 0, 1) := by decide +kernel
theorem dX6_firstUp_14 : decode cX6_firstUp 14 = .ok (.lreturn, 1) := by decide +kernel
theorem dX6_firstUp_15 : decode cX6_firstUp 15 = .ok (.aload_n 0, 1) := by decide +kernel
theorem dX6_firstUp_16 : decode cX6_firstUp 16 = .ok (.getfield 18, 3) := by decide +kernel
theorem dX6_firstUp_19 : decode cX6_firstUp 19 = .ok (.iload_n 3, 1) := by decide +kernel
theorem dX6_firstUp_20 : decode cX6_firstUp 20 = .ok (.iaload, 1) := by decide +kernel
theorem dX6_firstUp_21 : decode cX6_firstUp 21 = .ok (.iload_n 1, 1) := by decide +kernel
theorem dX6_firstUp_22 : decode cX6_firstUp 22 = .ok (.if_icmp .ne 13, 3) := by decide +kernel
theorem dX6_firstUp_25 : decode cX6_firstUp 25 = .ok (.aload_n 0, 1) := by decide +kernel
theorem dX6_firstUp_26 : decode cX6_firstUp 26 = .ok (.getfield 25, 3) := by decide +kernel
theorem dX6_firstUp_29 : decode cX6_firstUp 29 = .ok (.iload_n 3, 1) := by decide +kernel
theorem dX6_firstUp_30 : decode cX6_firstUp 30 = .ok (.iaload, 1) := by decide +kernel
theorem dX6_firstUp_31 : decode cX6_firstUp 31 = .ok (.i2l, 1) := by decide +kernel
theorem dX6_firstUp_32 : decode cX6_firstUp 32 = .ok (.goto 11, 3) := by decide +kernel
theorem dX6_firstUp_35 : decode cX6_firstUp 35 = .ok (.aload_n 0, 1) := by decide +kernel
theorem dX6_firstUp_36 : decode cX6_firstUp 36 = .ok (.getfield 25, 3) := by decide +kernel
theorem dX6_firstUp_39 : decode cX6_firstUp 39 = .ok (.iload_n 3, 1) := by decide +kernel
theorem dX6_firstUp_40 : decode cX6_firstUp 40 = .ok (.iaload, 1) := by decide +kernel
theorem dX6_firstUp_41 : decode cX6_firstUp 41 = .ok (.ineg, 1) := by decide +kernel
theorem dX6_firstUp_42 : decode cX6_firstUp 42 = .ok (.i2l, 1) := by decide +kernel
theorem dX6_firstUp_43 : decode cX6_firstUp 43 = .ok (.lreturn, 1) := by decide +kernel
theorem dX6_firstBetween_0 : decode cX6_firstBetween 0 = .ok (.iconst 0, 1) := by decide +kernel
theorem dX6_firstBetween_1 : decode cX6_firstBetween 1 = .ok (.istore_n 3, 1) := by decide +kernel
theorem dX6_firstBetween_2 : decode cX6_firstBetween 2 = .ok (.iload_n 3, 1) := by decide +kernel
theorem dX6_firstBetween_3 : decode cX6_firstBetween 3 = .ok (.aload_n 0, 1) := by decide +kernel
theorem dX6_firstBetween_4 : decode cX6_firstBetween 4 = .ok (.getfield 15, 3) := by decide +kernel
theorem dX6_firstBetween_7 : decode cX6_firstBetween 7 = .ok (.if_icmp .ge 51, 3) := by decide +kernel
theorem dX6_firstBetween_10 : decode cX6_firstBetween 10 = .ok (.aload_n 0, 1) := by decide +kernel
theorem dX6_firstBetween_11 : decode cX6_firstBetween 11 = .ok (.getfield 18, 3) := by decide +kernel
theorem dX6_firstBetween_14 : decode cX6_firstBetween 14 = .ok (.iload_n 3, 1) := by decide +kernel
theorem dX6_firstBetween_15 : decode cX6_firstBetween 15 = .ok (.iaload, 1) := by decide +kernel
theorem dX6_firstBetween_16 : decode cX6_firstBetween 16 = .ok (.iload_n 1, 1) := by decide +kernel
theorem dX6_firstBetween_17 : decode cX6_firstBetween 17 = .ok (.if_icmp .ne 13, 3) := by decide +kernel
theorem dX6_firstBetween_20 : decode cX6_firstBetween 20 = .ok (.aload_n 0, 1) := by decide +kernel
theorem dX6_firstBetween_21 : decode cX6_firstBetween 21 = .ok (.getfield 22, 3) := by decide +kernel
theorem dX6_firstBetween_24 : decode cX6_firstBetween 24 = .ok (.iload_n 3, 1) := by decide +kernel
theorem dX6_firstBetween_25 : decode cX6_firstBetween 25 = .ok (.iaload, 1) := by decide +kernel
theorem dX6_firstBetween_26 : decode cX6_firstBetween 26 = .ok (.iload_n 2, 1) := by decide +kernel
theorem dX6_firstBetween_27 : decode cX6_firstBetween 27 = .ok (.if_icmp .eq 23, 3) := by decide +kernel
theorem dX6_firstBetween_30 : decode cX6_firstBetween 30 = .ok (.aload_n 0, 1) := by decide +kernel
theorem dX6_firstBetween_31 : decode cX6_firstBetween 31 = .ok (.getfield 18, 3) := by decide +kernel
theorem dX6_firstBetween_34 : decode cX6_firstBetween 34 = .ok (.iload_n 3, 1) := by decide +kernel
theorem dX6_firstBetween_35 : decode cX6_firstBetween 35 = .ok (.iaload, 1) := by decide +kernel
theorem dX6_firstBetween_36 : decode cX6_firstBetween 36 = .ok (.iload_n 2, 1) := by decide +kernel
theorem dX6_firstBetween_37 : decode cX6_firstBetween 37 = .ok (.if_icmp .ne 15, 3) := by decide +kernel
theorem dX6_firstBetween_40 : decode cX6_firstBetween 40 = .ok (.aload_n 0, 1) := by decide +kernel
theorem dX6_firstBetween_41 : decode cX6_firstBetween 41 = .ok (.getfield 22, 3) := by decide +kernel
theorem dX6_firstBetween_44 : decode cX6_firstBetween 44 = .ok (.iload_n 3, 1) := by decide +kernel
theorem dX6_firstBetween_45 : decode cX6_firstBetween 45 = .ok (.iaload, 1) := by decide +kernel
theorem dX6_firstBetween_46 : decode cX6_firstBetween 46 = .ok (.iload_n 1, 1) := by decide +kernel
theorem dX6_firstBetween_47 : decode cX6_firstBetween 47 = .ok (.if_icmp .ne 5, 3) := by decide +kernel
theorem dX6_firstBetween_50 : decode cX6_firstBetween 50 = .ok (.iload_n 3, 1) := by decide +kernel
theorem dX6_firstBetween_51 : decode cX6_firstBetween 51 = .ok (.ireturn, 1) := by decide +kernel
theorem dX6_firstBetween_52 : decode cX6_firstBetween 52 = .ok (.iinc 3 1, 3) := by decide +kernel
theorem dX6_firstBetween_55 : decode cX6_firstBetween 55 = .ok (.goto (-53), 3) := by decide +kernel
theorem dX6_firstBetween_58 : decode cX6_firstBetween 58 = .ok (.bipush (-6), 2) := by decide +kernel
theorem dX6_firstBetween_60 : decode cX6_firstBetween 60 = .ok (.ireturn, 1) := by decide +kernel
theorem dX6_heightTop_0 : decode cX6_heightTop 0 = .ok (.aload_n 0, 1) := by decide +kernel
theorem dX6_heightTop_1 : decode cX6_heightTop 1 = .ok (.getfield 36, 3) := by decide +kernel
theorem dX6_heightTop_4 : decode cX6_heightTop 4 = .ok (.iload_n 1, 1) := by decide +kernel
theorem dX6_heightTop_5 : decode cX6_heightTop 5 = .ok (.laload, 1) := by decide +kernel
theorem dX6_heightTop_6 : decode cX6_heightTop 6 = .ok (.lreturn, 1) := by decide +kernel
theorem dX6_misfitTop_0 : decode cX6_misfitTop 0 = .ok (.aload_n 0, 1) := by decide +kernel
theorem dX6_misfitTop_1 : decode cX6_misfitTop 1 = .ok (.getfield 36, 3) := by decide +kernel
theorem dX6_misfitTop_4 : decode cX6_misfitTop 4 = .ok (.aload_n 0, 1) := by decide +kernel
theorem dX6_misfitTop_5 : decode cX6_misfitTop 5 = .ok (.getfield 22, 3) := by decide +kernel
theorem dX6_misfitTop_8 : decode cX6_misfitTop 8 = .ok (.iload_n 1, 1) := by decide +kernel
theorem dX6_misfitTop_9 : decode cX6_misfitTop 9 = .ok (.iaload, 1) := by decide +kernel
theorem dX6_misfitTop_10 : decode cX6_misfitTop 10 = .ok (.laload, 1) := by decide +kernel
theorem dX6_misfitTop_11 : decode cX6_misfitTop 11 = .ok (.aload_n 0, 1) := by decide +kernel
theorem dX6_misfitTop_12 : decode cX6_misfitTop 12 = .ok (.getfield 36, 3) := by decide +kernel
theorem dX6_misfitTop_15 : decode cX6_misfitTop 15 = .ok (.aload_n 0, 1) := by decide +kernel
theorem dX6_misfitTop_16 : decode cX6_misfitTop 16 = .ok (.getfield 18, 3) := by decide +kernel
theorem dX6_misfitTop_19 : decode cX6_misfitTop 19 = .ok (.iload_n 1, 1) := by decide +kernel
theorem dX6_misfitTop_20 : decode cX6_misfitTop 20 = .ok (.iaload, 1) := by decide +kernel
theorem dX6_misfitTop_21 : decode cX6_misfitTop 21 = .ok (.laload, 1) := by decide +kernel
theorem dX6_misfitTop_22 : decode cX6_misfitTop 22 = .ok (.lsub, 1) := by decide +kernel
theorem dX6_misfitTop_23 : decode cX6_misfitTop 23 = .ok (.aload_n 0, 1) := by decide +kernel
theorem dX6_misfitTop_24 : decode cX6_misfitTop 24 = .ok (.getfield 25, 3) := by decide +kernel
theorem dX6_misfitTop_27 : decode cX6_misfitTop 27 = .ok (.iload_n 1, 1) := by decide +kernel
theorem dX6_misfitTop_28 : decode cX6_misfitTop 28 = .ok (.iaload, 1) := by decide +kernel
theorem dX6_misfitTop_29 : decode cX6_misfitTop 29 = .ok (.i2l, 1) := by decide +kernel
theorem dX6_misfitTop_30 : decode cX6_misfitTop 30 = .ok (.aload_n 0, 1) := by decide +kernel
theorem dX6_misfitTop_31 : decode cX6_misfitTop 31 = .ok (.getfield 40, 3) := by decide +kernel
theorem dX6_misfitTop_34 : decode cX6_misfitTop 34 = .ok (.lmul, 1) := by decide +kernel
theorem dX6_misfitTop_35 : decode cX6_misfitTop 35 = .ok (.lsub, 1) := by decide +kernel
theorem dX6_misfitTop_36 : decode cX6_misfitTop 36 = .ok (.lreturn, 1) := by decide +kernel
theorem dX6_bottom_0 : decode cX6_bottom 0 = .ok (.aload_n 0, 1) := by decide +kernel
theorem dX6_bottom_1 : decode cX6_bottom 1 = .ok (.getfield 40, 3) := by decide +kernel
theorem dX6_bottom_4 : decode cX6_bottom 4 = .ok (.lreturn, 1) := by decide +kernel
theorem dX6_greatestMisfit_0 : decode cX6_greatestMisfit 0 = .ok (.iconst 0, 1) := by decide +kernel
theorem dX6_greatestMisfit_1 : decode cX6_greatestMisfit 1 = .ok (.istore_n 1, 1) := by decide +kernel
theorem dX6_greatestMisfit_2 : decode cX6_greatestMisfit 2 = .ok (.iconst 1, 1) := by decide +kernel
theorem dX6_greatestMisfit_3 : decode cX6_greatestMisfit 3 = .ok (.istore_n 2, 1) := by decide +kernel
theorem dX6_greatestMisfit_4 : decode cX6_greatestMisfit 4 = .ok (.iload_n 2, 1) := by decide +kernel
theorem dX6_greatestMisfit_5 : decode cX6_greatestMisfit 5 = .ok (.aload_n 0, 1) := by decide +kernel
theorem dX6_greatestMisfit_6 : decode cX6_greatestMisfit 6 = .ok (.getfield 15, 3) := by decide +kernel
theorem dX6_greatestMisfit_9 : decode cX6_greatestMisfit 9 = .ok (.if_icmp .ge 31, 3) := by decide +kernel
theorem dX6_greatestMisfit_12 : decode cX6_greatestMisfit 12 = .ok (.aload_n 0, 1) := by decide +kernel
theorem dX6_greatestMisfit_13 : decode cX6_greatestMisfit 13 = .ok (.iload_n 2, 1) := by decide +kernel
theorem dX6_greatestMisfit_14 : decode cX6_greatestMisfit 14 = .ok (.invokevirtual 56, 3) := by decide +kernel
theorem dX6_greatestMisfit_17 : decode cX6_greatestMisfit 17 = .ok (.invokestatic 60, 3) := by decide +kernel
theorem dX6_greatestMisfit_20 : decode cX6_greatestMisfit 20 = .ok (.aload_n 0, 1) := by decide +kernel
theorem dX6_greatestMisfit_21 : decode cX6_greatestMisfit 21 = .ok (.iload_n 1, 1) := by decide +kernel
theorem dX6_greatestMisfit_22 : decode cX6_greatestMisfit 22 = .ok (.invokevirtual 56, 3) := by decide +kernel
theorem dX6_greatestMisfit_25 : decode cX6_greatestMisfit 25 = .ok (.invokestatic 60, 3) := by decide +kernel
theorem dX6_greatestMisfit_28 : decode cX6_greatestMisfit 28 = .ok (.lcmp, 1) := by decide +kernel
theorem dX6_greatestMisfit_29 : decode cX6_greatestMisfit 29 = .ok (.ifCond .le 5, 3) := by decide +kernel
theorem dX6_greatestMisfit_32 : decode cX6_greatestMisfit 32 = .ok (.iload_n 2, 1) := by decide +kernel
theorem dX6_greatestMisfit_33 : decode cX6_greatestMisfit 33 = .ok (.istore_n 1, 1) := by decide +kernel
theorem dX6_greatestMisfit_34 : decode cX6_greatestMisfit 34 = .ok (.iinc 2 1, 3) := by decide +kernel
theorem dX6_greatestMisfit_37 : decode cX6_greatestMisfit 37 = .ok (.goto (-33), 3) := by decide +kernel
theorem dX6_greatestMisfit_40 : decode cX6_greatestMisfit 40 = .ok (.iload_n 1, 1) := by decide +kernel
theorem dX6_greatestMisfit_41 : decode cX6_greatestMisfit 41 = .ok (.ireturn, 1) := by decide +kernel
theorem dX6_solve_0 : decode cX6_solve 0 = .ok (.aload_n 0, 1) := by decide +kernel
theorem dX6_solve_1 : decode cX6_solve 1 = .ok (.getfield 44, 3) := by decide +kernel
theorem dX6_solve_4 : decode cX6_solve 4 = .ok (.ifCond .ne 75, 3) := by decide +kernel
theorem dX6_solve_7 : decode cX6_solve 7 = .ok (.aload_n 0, 1) := by decide +kernel
theorem dX6_solve_8 : decode cX6_solve 8 = .ok (.getfield 9, 3) := by decide +kernel
theorem dX6_solve_11 : decode cX6_solve 11 = .ok (.iconst 1, 1) := by decide +kernel
theorem dX6_solve_12 : decode cX6_solve 12 = .ok (.isub, 1) := by decide +kernel
theorem dX6_solve_13 : decode cX6_solve 13 = .ok (.istore_n 1, 1) := by decide +kernel
theorem dX6_solve_14 : decode cX6_solve 14 = .ok (.aload_n 0, 1) := by decide +kernel
theorem dX6_solve_15 : decode cX6_solve 15 = .ok (.iload_n 1, 1) := by decide +kernel
theorem dX6_solve_16 : decode cX6_solve 16 = .ok (.invokevirtual 66, 3) := by decide +kernel
theorem dX6_solve_19 : decode cX6_solve 19 = .ok (.aload_n 0, 1) := by decide +kernel
theorem dX6_solve_20 : decode cX6_solve 20 = .ok (.aload_n 0, 1) := by decide +kernel
theorem dX6_solve_21 : decode cX6_solve 21 = .ok (.getfield 33, 3) := by decide +kernel
theorem dX6_solve_24 : decode cX6_solve 24 = .ok (.iload_n 1, 1) := by decide +kernel
theorem dX6_solve_25 : decode cX6_solve 25 = .ok (.bipush (-6), 2) := by decide +kernel
theorem dX6_solve_27 : decode cX6_solve 27 = .ok (.iconst 0, 1) := by decide +kernel
theorem dX6_solve_28 : decode cX6_solve 28 = .ok (.iconst 0, 1) := by decide +kernel
theorem dX6_solve_29 : decode cX6_solve 29 = .ok (.invokestatic 70, 3) := by decide +kernel
theorem dX6_solve_32 : decode cX6_solve 32 = .ok (.putfield 40, 3) := by decide +kernel
theorem dX6_solve_35 : decode cX6_solve 35 = .ok (.aload_n 0, 1) := by decide +kernel
theorem dX6_solve_36 : decode cX6_solve 36 = .ok (.getfield 36, 3) := by decide +kernel
theorem dX6_solve_39 : decode cX6_solve 39 = .ok (.iconst 0, 1) := by decide +kernel
theorem dX6_solve_40 : decode cX6_solve 40 = .ok (.lconst 0, 1) := by decide +kernel
theorem dX6_solve_41 : decode cX6_solve 41 = .ok (.lastore, 1) := by decide +kernel
theorem dX6_solve_42 : decode cX6_solve 42 = .ok (.iconst 0, 1) := by decide +kernel
theorem dX6_solve_43 : decode cX6_solve 43 = .ok (.istore_n 2, 1) := by decide +kernel
theorem dX6_solve_44 : decode cX6_solve 44 = .ok (.iload_n 2, 1) := by decide +kernel
theorem dX6_solve_45 : decode cX6_solve 45 = .ok (.iload_n 1, 1) := by decide +kernel
theorem dX6_solve_46 : decode cX6_solve 46 = .ok (.if_icmp .ge 28, 3) := by decide +kernel
theorem dX6_solve_49 : decode cX6_solve 49 = .ok (.aload_n 0, 1) := by decide +kernel
theorem dX6_solve_50 : decode cX6_solve 50 = .ok (.getfield 36, 3) := by decide +kernel
theorem dX6_solve_53 : decode cX6_solve 53 = .ok (.iload_n 2, 1) := by decide +kernel
theorem dX6_solve_54 : decode cX6_solve 54 = .ok (.iconst 1, 1) := by decide +kernel
theorem dX6_solve_55 : decode cX6_solve 55 = .ok (.iadd, 1) := by decide +kernel
theorem dX6_solve_56 : decode cX6_solve 56 = .ok (.aload_n 0, 1) := by decide +kernel
theorem dX6_solve_57 : decode cX6_solve 57 = .ok (.getfield 33, 3) := by decide +kernel
theorem dX6_solve_60 : decode cX6_solve 60 = .ok (.iload_n 1, 1) := by decide +kernel
theorem dX6_solve_61 : decode cX6_solve 61 = .ok (.iload_n 2, 1) := by decide +kernel
theorem dX6_solve_62 : decode cX6_solve 62 = .ok (.iconst 0, 1) := by decide +kernel
theorem dX6_solve_63 : decode cX6_solve 63 = .ok (.iconst 0, 1) := by decide +kernel
theorem dX6_solve_64 : decode cX6_solve 64 = .ok (.invokestatic 70, 3) := by decide +kernel
theorem dX6_solve_67 : decode cX6_solve 67 = .ok (.lastore, 1) := by decide +kernel
theorem dX6_solve_68 : decode cX6_solve 68 = .ok (.iinc 2 1, 3) := by decide +kernel
theorem dX6_solve_71 : decode cX6_solve 71 = .ok (.goto (-27), 3) := by decide +kernel
theorem dX6_solve_74 : decode cX6_solve 74 = .ok (.aload_n 0, 1) := by decide +kernel
theorem dX6_solve_75 : decode cX6_solve 75 = .ok (.iconst 1, 1) := by decide +kernel
theorem dX6_solve_76 : decode cX6_solve 76 = .ok (.putfield 44, 3) := by decide +kernel
theorem dX6_solve_79 : decode cX6_solve 79 = .ok (.aload_n 0, 1) := by decide +kernel
theorem dX6_solve_80 : decode cX6_solve 80 = .ok (.getfield 40, 3) := by decide +kernel
theorem dX6_solve_83 : decode cX6_solve 83 = .ok (.lconst 0, 1) := by decide +kernel
theorem dX6_solve_84 : decode cX6_solve 84 = .ok (.lcmp, 1) := by decide +kernel
theorem dX6_solve_85 : decode cX6_solve 85 = .ok (.ifCond .le 7, 3) := by decide +kernel
theorem dX6_solve_88 : decode cX6_solve 88 = .ok (.iconst 1, 1) := by decide +kernel
theorem dX6_solve_89 : decode cX6_solve 89 = .ok (.goto 4, 3) := by decide +kernel
theorem dX6_solve_92 : decode cX6_solve 92 = .ok (.iconst 0, 1) := by decide +kernel
theorem dX6_solve_93 : decode cX6_solve 93 = .ok (.ireturn, 1) := by decide +kernel
theorem dX6_fillRows_0 : decode cX6_fillRows 0 = .ok (.iconst 0, 1) := by decide +kernel
theorem dX6_fillRows_1 : decode cX6_fillRows 1 = .ok (.istore_n 2, 1) := by decide +kernel
theorem dX6_fillRows_2 : decode cX6_fillRows 2 = .ok (.iload_n 2, 1) := by decide +kernel
theorem dX6_fillRows_3 : decode cX6_fillRows 3 = .ok (.iload_n 1, 1) := by decide +kernel
theorem dX6_fillRows_4 : decode cX6_fillRows 4 = .ok (.if_icmp .ge 31, 3) := by decide +kernel
theorem dX6_fillRows_7 : decode cX6_fillRows 7 = .ok (.iconst 0, 1) := by decide +kernel
theorem dX6_fillRows_8 : decode cX6_fillRows 8 = .ok (.istore_n 3, 1) := by decide +kernel
theorem dX6_fillRows_9 : decode cX6_fillRows 9 = .ok (.iload_n 3, 1) := by decide +kernel
theorem dX6_fillRows_10 : decode cX6_fillRows 10 = .ok (.iload_n 1, 1) := by decide +kernel
theorem dX6_fillRows_11 : decode cX6_fillRows 11 = .ok (.if_icmp .gt 18, 3) := by decide +kernel
theorem dX6_fillRows_14 : decode cX6_fillRows 14 = .ok (.aload_n 0, 1) := by decide +kernel
theorem dX6_fillRows_15 : decode cX6_fillRows 15 = .ok (.getfield 33, 3) := by decide +kernel
theorem dX6_fillRows_18 : decode cX6_fillRows 18 = .ok (.iload_n 2, 1) := by decide +kernel
theorem dX6_fillRows_19 : decode cX6_fillRows 19 = .ok (.aaload, 1) := by decide +kernel
theorem dX6_fillRows_20 : decode cX6_fillRows 20 = .ok (.iload_n 3, 1) := by decide +kernel
theorem dX6_fillRows_21 : decode cX6_fillRows 21 = .ok (.lconst 0, 1) := by decide +kernel
theorem dX6_fillRows_22 : decode cX6_fillRows 22 = .ok (.lastore, 1) := by decide +kernel
theorem dX6_fillRows_23 : decode cX6_fillRows 23 = .ok (.iinc 3 1, 3) := by decide +kernel
theorem dX6_fillRows_26 : decode cX6_fillRows 26 = .ok (.goto (-17), 3) := by decide +kernel
theorem dX6_fillRows_29 : decode cX6_fillRows 29 = .ok (.iinc 2 1, 3) := by decide +kernel
theorem dX6_fillRows_32 : decode cX6_fillRows 32 = .ok (.goto (-30), 3) := by decide +kernel
theorem dX6_fillRows_35 : decode cX6_fillRows 35 = .ok (.iconst 0, 1) := by decide +kernel
theorem dX6_fillRows_36 : decode cX6_fillRows 36 = .ok (.istore_n 2, 1) := by decide +kernel
theorem dX6_fillRows_37 : decode cX6_fillRows 37 = .ok (.iload_n 2, 1) := by decide +kernel
theorem dX6_fillRows_38 : decode cX6_fillRows 38 = .ok (.aload_n 0, 1) := by decide +kernel
theorem dX6_fillRows_39 : decode cX6_fillRows 39 = .ok (.getfield 15, 3) := by decide +kernel
theorem dX6_fillRows_42 : decode cX6_fillRows 42 = .ok (.if_icmp .ge 92, 3) := by decide +kernel
theorem dX6_fillRows_45 : decode cX6_fillRows 45 = .ok (.aload_n 0, 1) := by decide +kernel
theorem dX6_fillRows_46 : decode cX6_fillRows 46 = .ok (.aload_n 0, 1) := by decide +kernel
theorem dX6_fillRows_47 : decode cX6_fillRows 47 = .ok (.getfield 22, 3) := by decide +kernel
theorem dX6_fillRows_50 : decode cX6_fillRows 50 = .ok (.iload_n 2, 1) := by decide +kernel
theorem dX6_fillRows_51 : decode cX6_fillRows 51 = .ok (.iaload, 1) := by decide +kernel
theorem dX6_fillRows_52 : decode cX6_fillRows 52 = .ok (.iconst 1, 1) := by decide +kernel
theorem dX6_fillRows_53 : decode cX6_fillRows 53 = .ok (.isub, 1) := by decide +kernel
theorem dX6_fillRows_54 : decode cX6_fillRows 54 = .ok (.aload_n 0, 1) := by decide +kernel
theorem dX6_fillRows_55 : decode cX6_fillRows 55 = .ok (.getfield 18, 3) := by decide +kernel
theorem dX6_fillRows_58 : decode cX6_fillRows 58 = .ok (.iload_n 2, 1) := by decide +kernel
theorem dX6_fillRows_59 : decode cX6_fillRows 59 = .ok (.iaload, 1) := by decide +kernel
theorem dX6_fillRows_60 : decode cX6_fillRows 60 = .ok (.iconst 1, 1) := by decide +kernel
theorem dX6_fillRows_61 : decode cX6_fillRows 61 = .ok (.isub, 1) := by decide +kernel
theorem dX6_fillRows_62 : decode cX6_fillRows 62 = .ok (.aload_n 0, 1) := by decide +kernel
theorem dX6_fillRows_63 : decode cX6_fillRows 63 = .ok (.getfield 28, 3) := by decide +kernel
theorem dX6_fillRows_66 : decode cX6_fillRows 66 = .ok (.iload_n 2, 1) := by decide +kernel
theorem dX6_fillRows_67 : decode cX6_fillRows 67 = .ok (.iaload, 1) := by decide +kernel
theorem dX6_fillRows_68 : decode cX6_fillRows 68 = .ok (.aload_n 0, 1) := by decide +kernel
theorem dX6_fillRows_69 : decode cX6_fillRows 69 = .ok (.getfield 28, 3) := by decide +kernel
theorem dX6_fillRows_72 : decode cX6_fillRows 72 = .ok (.iload_n 2, 1) := by decide +kernel
theorem dX6_fillRows_73 : decode cX6_fillRows 73 = .ok (.iaload, 1) := by decide +kernel
theorem dX6_fillRows_74 : decode cX6_fillRows 74 = .ok (.i2l, 1) := by decide +kernel
theorem dX6_fillRows_75 : decode cX6_fillRows 75 = .ok (.aload_n 0, 1) := by decide +kernel
theorem dX6_fillRows_76 : decode cX6_fillRows 76 = .ok (.getfield 25, 3) := by decide +kernel
theorem dX6_fillRows_79 : decode cX6_fillRows 79 = .ok (.iload_n 2, 1) := by decide +kernel
theorem dX6_fillRows_80 : decode cX6_fillRows 80 = .ok (.iaload, 1) := by decide +kernel
theorem dX6_fillRows_81 : decode cX6_fillRows 81 = .ok (.i2l, 1) := by decide +kernel
theorem dX6_fillRows_82 : decode cX6_fillRows 82 = .ok (.lmul, 1) := by decide +kernel
theorem dX6_fillRows_83 : decode cX6_fillRows 83 = .ok (.invokevirtual 74, 3) := by decide +kernel
theorem dX6_fillRows_86 : decode cX6_fillRows 86 = .ok (.aload_n 0, 1) := by decide +kernel
theorem dX6_fillRows_87 : decode cX6_fillRows 87 = .ok (.aload_n 0, 1) := by decide +kernel
theorem dX6_fillRows_88 : decode cX6_fillRows 88 = .ok (.getfield 18, 3) := by decide +kernel
theorem dX6_fillRows_91 : decode cX6_fillRows 91 = .ok (.iload_n 2, 1) := by decide +kernel
theorem dX6_fillRows_92 : decode cX6_fillRows 92 = .ok (.iaload, 1) := by decide +kernel
theorem dX6_fillRows_93 : decode cX6_fillRows 93 = .ok (.iconst 1, 1) := by decide +kernel
theorem dX6_fillRows_94 : decode cX6_fillRows 94 = .ok (.isub, 1) := by decide +kernel
theorem dX6_fillRows_95 : decode cX6_fillRows 95 = .ok (.aload_n 0, 1) := by decide +kernel
theorem dX6_fillRows_96 : decode cX6_fillRows 96 = .ok (.getfield 22, 3) := by decide +kernel
theorem dX6_fillRows_99 : decode cX6_fillRows 99 = .ok (.iload_n 2, 1) := by decide +kernel
theorem dX6_fillRows_100 : decode cX6_fillRows 100 = .ok (.iaload, 1) := by decide +kernel
theorem dX6_fillRows_101 : decode cX6_fillRows 101 = .ok (.iconst 1, 1) := by decide +kernel
theorem dX6_fillRows_102 : decode cX6_fillRows 102 = .ok (.isub, 1) := by decide +kernel
theorem dX6_fillRows_103 : decode cX6_fillRows 103 = .ok (.aload_n 0, 1) := by decide +kernel
theorem dX6_fillRows_104 : decode cX6_fillRows 104 = .ok (.getfield 28, 3) := by decide +kernel
theorem dX6_fillRows_107 : decode cX6_fillRows 107 = .ok (.iload_n 2, 1) := by decide +kernel
theorem dX6_fillRows_108 : decode cX6_fillRows 108 = .ok (.iaload, 1) := by decide +kernel
theorem dX6_fillRows_109 : decode cX6_fillRows 109 = .ok (.aload_n 0, 1) := by decide +kernel
theorem dX6_fillRows_110 : decode cX6_fillRows 110 = .ok (.getfield 28, 3) := by decide +kernel
theorem dX6_fillRows_113 : decode cX6_fillRows 113 = .ok (.iload_n 2, 1) := by decide +kernel
theorem dX6_fillRows_114 : decode cX6_fillRows 114 = .ok (.iaload, 1) := by decide +kernel
theorem dX6_fillRows_115 : decode cX6_fillRows 115 = .ok (.i2l, 1) := by decide +kernel
theorem dX6_fillRows_116 : decode cX6_fillRows 116 = .ok (.lneg, 1) := by decide +kernel
theorem dX6_fillRows_117 : decode cX6_fillRows 117 = .ok (.aload_n 0, 1) := by decide +kernel
theorem dX6_fillRows_118 : decode cX6_fillRows 118 = .ok (.getfield 25, 3) := by decide +kernel
theorem dX6_fillRows_121 : decode cX6_fillRows 121 = .ok (.iload_n 2, 1) := by decide +kernel
theorem dX6_fillRows_122 : decode cX6_fillRows 122 = .ok (.iaload, 1) := by decide +kernel
theorem dX6_fillRows_123 : decode cX6_fillRows 123 = .ok (.i2l, 1) := by decide +kernel
theorem dX6_fillRows_124 : decode cX6_fillRows 124 = .ok (.lmul, 1) := by decide +kernel
theorem dX6_fillRows_125 : decode cX6_fillRows 125 = .ok (.invokevirtual 74, 3) := by decide +kernel
theorem dX6_fillRows_128 : decode cX6_fillRows 128 = .ok (.iinc 2 1, 3) := by decide +kernel
theorem dX6_fillRows_131 : decode cX6_fillRows 131 = .ok (.goto (-94), 3) := by decide +kernel
theorem dX6_fillRows_134 : decode cX6_fillRows 134 = .ok (.return_, 1) := by decide +kernel
theorem dX6_addToRow_0 : decode cX6_addToRow 0 = .ok (.iload_n 1, 1) := by decide +kernel
theorem dX6_addToRow_1 : decode cX6_addToRow 1 = .ok (.ifCond .ge 4, 3) := by decide +kernel
theorem dX6_addToRow_4 : decode cX6_addToRow 4 = .ok (.return_, 1) := by decide +kernel
theorem dX6_addToRow_5 : decode cX6_addToRow 5 = .ok (.aload_n 0, 1) := by decide +kernel
theorem dX6_addToRow_6 : decode cX6_addToRow 6 = .ok (.getfield 33, 3) := by decide +kernel
theorem dX6_addToRow_9 : decode cX6_addToRow 9 = .ok (.iload_n 1, 1) := by decide +kernel
theorem dX6_addToRow_10 : decode cX6_addToRow 10 = .ok (.aaload, 1) := by decide +kernel
theorem dX6_addToRow_11 : decode cX6_addToRow 11 = .ok (.iload_n 1, 1) := by decide +kernel
theorem dX6_addToRow_12 : decode cX6_addToRow 12 = .ok (.dup2, 1) := by decide +kernel
theorem dX6_addToRow_13 : decode cX6_addToRow 13 = .ok (.laload, 1) := by decide +kernel
theorem dX6_addToRow_14 : decode cX6_addToRow 14 = .ok (.iload_n 3, 1) := by decide +kernel
theorem dX6_addToRow_15 : decode cX6_addToRow 15 = .ok (.i2l, 1) := by decide +kernel
theorem dX6_addToRow_16 : decode cX6_addToRow 16 = .ok (.ladd, 1) := by decide +kernel
theorem dX6_addToRow_17 : decode cX6_addToRow 17 = .ok (.lastore, 1) := by decide +kernel
theorem dX6_addToRow_18 : decode cX6_addToRow 18 = .ok (.aload_n 0, 1) := by decide +kernel
theorem dX6_addToRow_19 : decode cX6_addToRow 19 = .ok (.getfield 33, 3) := by decide +kernel
theorem dX6_addToRow_22 : decode cX6_addToRow 22 = .ok (.iload_n 1, 1) := by decide +kernel
theorem dX6_addToRow_23 : decode cX6_addToRow 23 = .ok (.aaload, 1) := by decide +kernel
theorem dX6_addToRow_24 : decode cX6_addToRow 24 = .ok (.aload_n 0, 1) := by decide +kernel
theorem dX6_addToRow_25 : decode cX6_addToRow 25 = .ok (.getfield 9, 3) := by decide +kernel
theorem dX6_addToRow_28 : decode cX6_addToRow 28 = .ok (.iconst 1, 1) := by decide +kernel
theorem dX6_addToRow_29 : decode cX6_addToRow 29 = .ok (.isub, 1) := by decide +kernel
theorem dX6_addToRow_30 : decode cX6_addToRow 30 = .ok (.dup2, 1) := by decide +kernel
theorem dX6_addToRow_31 : decode cX6_addToRow 31 = .ok (.laload, 1) := by decide +kernel
theorem dX6_addToRow_32 : decode cX6_addToRow 32 = .ok (.lload 4, 2) := by decide +kernel
theorem dX6_addToRow_34 : decode cX6_addToRow 34 = .ok (.ladd, 1) := by decide +kernel
theorem dX6_addToRow_35 : decode cX6_addToRow 35 = .ok (.lastore, 1) := by decide +kernel
theorem dX6_addToRow_36 : decode cX6_addToRow 36 = .ok (.iload_n 2, 1) := by decide +kernel
theorem dX6_addToRow_37 : decode cX6_addToRow 37 = .ok (.ifCond .lt 16, 3) := by decide +kernel
theorem dX6_addToRow_40 : decode cX6_addToRow 40 = .ok (.aload_n 0, 1) := by decide +kernel
theorem dX6_addToRow_41 : decode cX6_addToRow 41 = .ok (.getfield 33, 3) := by decide +kernel
theorem dX6_addToRow_44 : decode cX6_addToRow 44 = .ok (.iload_n 1, 1) := by decide +kernel
theorem dX6_addToRow_45 : decode cX6_addToRow 45 = .ok (.aaload, 1) := by decide +kernel
theorem dX6_addToRow_46 : decode cX6_addToRow 46 = .ok (.iload_n 2, 1) := by decide +kernel
theorem dX6_addToRow_47 : decode cX6_addToRow 47 = .ok (.dup2, 1) := by decide +kernel
theorem dX6_addToRow_48 : decode cX6_addToRow 48 = .ok (.laload, 1) := by decide +kernel
theorem dX6_addToRow_49 : decode cX6_addToRow 49 = .ok (.iload_n 3, 1) := by decide +kernel
theorem dX6_addToRow_50 : decode cX6_addToRow 50 = .ok (.i2l, 1) := by decide +kernel
theorem dX6_addToRow_51 : decode cX6_addToRow 51 = .ok (.lsub, 1) := by decide +kernel
theorem dX6_addToRow_52 : decode cX6_addToRow 52 = .ok (.lastore, 1) := by decide +kernel
theorem dX6_addToRow_53 : decode cX6_addToRow 53 = .ok (.return_, 1) := by decide +kernel
theorem dX6_determinant_0 : decode cX6_determinant 0 = .ok (.iload_n 3, 1) := by decide +kernel
theorem dX6_determinant_1 : decode cX6_determinant 1 = .ok (.iload_n 1, 1) := by decide +kernel
theorem dX6_determinant_2 : decode cX6_determinant 2 = .ok (.if_icmp .lt 5, 3) := by decide +kernel
theorem dX6_determinant_5 : decode cX6_determinant 5 = .ok (.lconst 1, 1) := by decide +kernel
theorem dX6_determinant_6 : decode cX6_determinant 6 = .ok (.lreturn, 1) := by decide +kernel
theorem dX6_determinant_7 : decode cX6_determinant 7 = .ok (.lconst 0, 1) := by decide +kernel
theorem dX6_determinant_8 : decode cX6_determinant 8 = .ok (.lstore 5, 2) := by decide +kernel
theorem dX6_determinant_10 : decode cX6_determinant 10 = .ok (.iconst 1, 1) := by decide +kernel
theorem dX6_determinant_11 : decode cX6_determinant 11 = .ok (.istore 7, 2) := by decide +kernel
theorem dX6_determinant_13 : decode cX6_determinant 13 = .ok (.iconst 0, 1) := by decide +kernel
theorem dX6_determinant_14 : decode cX6_determinant 14 = .ok (.istore 8, 2) := by decide +kernel
theorem dX6_determinant_16 : decode cX6_determinant 16 = .ok (.iload 8, 2) := by decide +kernel
theorem dX6_determinant_18 : decode cX6_determinant 18 = .ok (.iload_n 1, 1) := by decide +kernel
theorem dX6_determinant_19 : decode cX6_determinant 19 = .ok (.if_icmp .ge 76, 3) := by decide +kernel
theorem dX6_determinant_22 : decode cX6_determinant 22 = .ok (.iload 4, 2) := by decide +kernel
theorem dX6_determinant_24 : decode cX6_determinant 24 = .ok (.iload 8, 2) := by decide +kernel
theorem dX6_determinant_26 : decode cX6_determinant 26 = .ok (.ishr, 1) := by decide +kernel
theorem dX6_determinant_27 : decode cX6_determinant 27 = .ok (.iconst 1, 1) := by decide +kernel
theorem dX6_determinant_28 : decode cX6_determinant 28 = .ok (.iand, 1) := by decide +kernel
theorem dX6_determinant_29 : decode cX6_determinant 29 = .ok (.ifCond .ne 60, 3) := by decide +kernel
theorem dX6_determinant_32 : decode cX6_determinant 32 = .ok (.aload_n 0, 1) := by decide +kernel
theorem dX6_determinant_33 : decode cX6_determinant 33 = .ok (.iload 8, 2) := by decide +kernel
theorem dX6_determinant_35 : decode cX6_determinant 35 = .ok (.aaload, 1) := by decide +kernel
theorem dX6_determinant_36 : decode cX6_determinant 36 = .ok (.iload_n 3, 1) := by decide +kernel
theorem dX6_determinant_37 : decode cX6_determinant 37 = .ok (.iload_n 2, 1) := by decide +kernel
theorem dX6_determinant_38 : decode cX6_determinant 38 = .ok (.if_icmp .ne 7, 3) := by decide +kernel
theorem dX6_determinant_41 : decode cX6_determinant 41 = .ok (.iload_n 1, 1) := by decide +kernel
theorem dX6_determinant_42 : decode cX6_determinant 42 = .ok (.goto 4, 3) := by decide +kernel
theorem dX6_determinant_45 : decode cX6_determinant 45 = .ok (.iload_n 3, 1) := by decide +kernel
theorem dX6_determinant_46 : decode cX6_determinant 46 = .ok (.laload, 1) := by decide +kernel
theorem dX6_determinant_47 : decode cX6_determinant 47 = .ok (.lstore 9, 2) := by decide +kernel
theorem dX6_determinant_49 : decode cX6_determinant 49 = .ok (.lload 9, 2) := by decide +kernel
theorem dX6_determinant_51 : decode cX6_determinant 51 = .ok (.lconst 0, 1) := by decide +kernel
theorem dX6_determinant_52 : decode cX6_determinant 52 = .ok (.lcmp, 1) := by decide +kernel
theorem dX6_determinant_53 : decode cX6_determinant 53 = .ok (.ifCond .eq 31, 3) := by decide +kernel
theorem dX6_determinant_56 : decode cX6_determinant 56 = .ok (.lload 5, 2) := by decide +kernel
theorem dX6_determinant_58 : decode cX6_determinant 58 = .ok (.iload 7, 2) := by decide +kernel
theorem dX6_determinant_60 : decode cX6_determinant 60 = .ok (.i2l, 1) := by decide +kernel
theorem dX6_determinant_61 : decode cX6_determinant 61 = .ok (.lload 9, 2) := by decide +kernel
theorem dX6_determinant_63 : decode cX6_determinant 63 = .ok (.lmul, 1) := by decide +kernel
theorem dX6_determinant_64 : decode cX6_determinant 64 = .ok (.aload_n 0, 1) := by decide +kernel
theorem dX6_determinant_65 : decode cX6_determinant 65 = .ok (.iload_n 1, 1) := by decide +kernel
theorem dX6_determinant_66 : decode cX6_determinant 66 = .ok (.iload_n 2, 1) := by decide +kernel
theorem dX6_determinant_67 : decode cX6_determinant 67 = .ok (.iload_n 3, 1) := by decide +kernel
theorem dX6_determinant_68 : decode cX6_determinant 68 = .ok (.iconst 1, 1) := by decide +kernel
theorem dX6_determinant_69 : decode cX6_determinant 69 = .ok (.iadd, 1) := by decide +kernel
theorem dX6_determinant_70 : decode cX6_determinant 70 = .ok (.iload 4, 2) := by decide +kernel
theorem dX6_determinant_72 : decode cX6_determinant 72 = .ok (.iconst 1, 1) := by decide +kernel
theorem dX6_determinant_73 : decode cX6_determinant 73 = .ok (.iload 8, 2) := by decide +kernel
theorem dX6_determinant_75 : decode cX6_determinant 75 = .ok (.ishl, 1) := by decide +kernel
theorem dX6_determinant_76 : decode cX6_determinant 76 = .ok (.ior, 1) := by decide +kernel
theorem dX6_determinant_77 : decode cX6_determinant 77 = .ok (.invokestatic 70, 3) := by decide +kernel
theorem dX6_determinant_80 : decode cX6_determinant 80 = .ok (.lmul, 1) := by decide +kernel
theorem dX6_determinant_81 : decode cX6_determinant 81 = .ok (.ladd, 1) := by decide +kernel
theorem dX6_determinant_82 : decode cX6_determinant 82 = .ok (.lstore 5, 2) := by decide +kernel
theorem dX6_determinant_84 : decode cX6_determinant 84 = .ok (.iload 7, 2) := by decide +kernel
theorem dX6_determinant_86 : decode cX6_determinant 86 = .ok (.ineg, 1) := by decide +kernel
theorem dX6_determinant_87 : decode cX6_determinant 87 = .ok (.istore 7, 2) := by decide +kernel
theorem dX6_determinant_89 : decode cX6_determinant 89 = .ok (.iinc 8 1, 3) := by decide +kernel
theorem dX6_determinant_92 : decode cX6_determinant 92 = .ok (.goto (-76), 3) := by decide +kernel
theorem dX6_determinant_95 : decode cX6_determinant 95 = .ok (.lload 5, 2) := by decide +kernel
theorem dX6_determinant_97 : decode cX6_determinant 97 = .ok (.lreturn, 1) := by decide +kernel
theorem dX7_init_0 : decode cX7_init 0 = .ok (.aload_n 0, 1) := by decide +kernel
theorem dX7_init_1 : decode cX7_init 1 = .ok (.invokespecial 1, 3) := by decide +kernel
theorem dX7_init_4 : decode cX7_init 4 = .ok (.aload_n 0, 1) := by decide +kernel
theorem dX7_init_5 : decode cX7_init 5 = .ok (.bipush 6, 2) := by decide +kernel
theorem dX7_init_7 : decode cX7_init 7 = .ok (.anewarray 9, 3) := by decide +kernel
theorem dX7_init_10 : decode cX7_init 10 = .ok (.putfield 11, 3) := by decide +kernel
theorem dX7_init_13 : decode cX7_init 13 = .ok (.aload_n 0, 1) := by decide +kernel
theorem dX7_init_14 : decode cX7_init 14 = .ok (.new 15, 3) := by decide +kernel
theorem dX7_init_17 : decode cX7_init 17 = .ok (.dup, 1) := by decide +kernel
theorem dX7_init_18 : decode cX7_init 18 = .ok (.invokespecial 17, 3) := by decide +kernel
theorem dX7_init_21 : decode cX7_init 21 = .ok (.putfield 18, 3) := by decide +kernel
theorem dX7_init_24 : decode cX7_init 24 = .ok (.aload_n 0, 1) := by decide +kernel
theorem dX7_init_25 : decode cX7_init 25 = .ok (.new 22, 3) := by decide +kernel
theorem dX7_init_28 : decode cX7_init 28 = .ok (.dup, 1) := by decide +kernel
theorem dX7_init_29 : decode cX7_init 29 = .ok (.invokespecial 24, 3) := by decide +kernel
theorem dX7_init_32 : decode cX7_init 32 = .ok (.putfield 25, 3) := by decide +kernel
theorem dX7_init_35 : decode cX7_init 35 = .ok (.aload_n 0, 1) := by decide +kernel
theorem dX7_init_36 : decode cX7_init 36 = .ok (.new 29, 3) := by decide +kernel
theorem dX7_init_39 : decode cX7_init 39 = .ok (.dup, 1) := by decide +kernel
theorem dX7_init_40 : decode cX7_init 40 = .ok (.invokespecial 31, 3) := by decide +kernel
theorem dX7_init_43 : decode cX7_init 43 = .ok (.putfield 32, 3) := by decide +kernel
theorem dX7_init_46 : decode cX7_init 46 = .ok (.aload_n 0, 1) := by decide +kernel
theorem dX7_init_47 : decode cX7_init 47 = .ok (.new 36, 3) := by decide +kernel
theorem dX7_init_50 : decode cX7_init 50 = .ok (.dup, 1) := by decide +kernel
theorem dX7_init_51 : decode cX7_init 51 = .ok (.invokespecial 38, 3) := by decide +kernel
theorem dX7_init_54 : decode cX7_init 54 = .ok (.putfield 39, 3) := by decide +kernel
theorem dX7_init_57 : decode cX7_init 57 = .ok (.iconst 0, 1) := by decide +kernel
theorem dX7_init_58 : decode cX7_init 58 = .ok (.istore_n 1, 1) := by decide +kernel
theorem dX7_init_59 : decode cX7_init 59 = .ok (.iload_n 1, 1) := by decide +kernel
theorem dX7_init_60 : decode cX7_init 60 = .ok (.bipush 6, 2) := by decide +kernel
theorem dX7_init_62 : decode cX7_init 62 = .ok (.if_icmp .ge 22, 3) := by decide +kernel
theorem dX7_init_65 : decode cX7_init 65 = .ok (.aload_n 0, 1) := by decide +kernel
theorem dX7_init_66 : decode cX7_init 66 = .ok (.getfield 11, 3) := by decide +kernel
theorem dX7_init_69 : decode cX7_init 69 = .ok (.iload_n 1, 1) := by decide +kernel
theorem dX7_init_70 : decode cX7_init 70 = .ok (.new 9, 3) := by decide +kernel
theorem dX7_init_73 : decode cX7_init 73 = .ok (.dup, 1) := by decide +kernel
theorem dX7_init_74 : decode cX7_init 74 = .ok (.invokespecial 43, 3) := by decide +kernel
theorem dX7_init_77 : decode cX7_init 77 = .ok (.aastore, 1) := by decide +kernel
theorem dX7_init_78 : decode cX7_init 78 = .ok (.iinc 1 1, 3) := by decide +kernel
theorem dX7_init_81 : decode cX7_init 81 = .ok (.goto (-22), 3) := by decide +kernel
theorem dX7_init_84 : decode cX7_init 84 = .ok (.return_, 1) := by decide +kernel
theorem dX7_set_0 : decode cX7_set 0 = .ok (.aload_n 0, 1) := by decide +kernel
theorem dX7_set_1 : decode cX7_set 1 = .ok (.iload_n 1, 1) := by decide +kernel
theorem dX7_set_2 : decode cX7_set 2 = .ok (.invokevirtual 44, 3) := by decide +kernel
theorem dX7_set_5 : decode cX7_set 5 = .ok (.astore 4, 2) := by decide +kernel
theorem dX7_set_7 : decode cX7_set 7 = .ok (.aload 4, 2) := by decide +kernel
theorem dX7_set_9 : decode cX7_set 9 = .ok (.ifnonnull 6, 3) := by decide +kernel
theorem dX7_set_12 : decode cX7_set 12 = .ok (.bipush (-101), 2) := by decide +kernel
theorem dX7_set_14 : decode cX7_set 14 = .ok (.ireturn, 1) := by decide +kernel
theorem dX7_set_15 : decode cX7_set 15 = .ok (.iload_n 2, 1) := by decide +kernel
theorem dX7_set_16 : decode cX7_set 16 = .ok (.invokestatic 48, 3) := by decide +kernel
theorem dX7_set_19 : decode cX7_set 19 = .ok (.ifCond .eq 11, 3) := by decide +kernel
theorem dX7_set_22 : decode cX7_set 22 = .ok (.iload_n 2, 1) := by decide +kernel
theorem dX7_set_23 : decode cX7_set 23 = .ok (.iload_n 3, 1) := by decide +kernel
theorem dX7_set_24 : decode cX7_set 24 = .ok (.invokestatic 52, 3) := by decide +kernel
theorem dX7_set_27 : decode cX7_set 27 = .ok (.ifCond .ne 6, 3) := by decide +kernel
theorem dX7_set_30 : decode cX7_set 30 = .ok (.bipush (-102), 2) := by decide +kernel
theorem dX7_set_32 : decode cX7_set 32 = .ok (.ireturn, 1) := by decide +kernel
theorem dX7_set_33 : decode cX7_set 33 = .ok (.aload 4, 2) := by decide +kernel
theorem dX7_set_35 : decode cX7_set 35 = .ok (.iload_n 2, 1) := by decide +kernel
theorem dX7_set_36 : decode cX7_set 36 = .ok (.invokevirtual 56, 3) := by decide +kernel
theorem dX7_set_39 : decode cX7_set 39 = .ok (.istore 5, 2) := by decide +kernel
theorem dX7_set_41 : decode cX7_set 41 = .ok (.aload 4, 2) := by decide +kernel
theorem dX7_set_43 : decode cX7_set 43 = .ok (.iload_n 2, 1) := by decide +kernel
theorem dX7_set_44 : decode cX7_set 44 = .ok (.iload_n 3, 1) := by decide +kernel
theorem dX7_set_45 : decode cX7_set 45 = .ok (.invokevirtual 60, 3) := by decide +kernel
theorem dX7_set_48 : decode cX7_set 48 = .ok (.iload 5, 2) := by decide +kernel
theorem dX7_set_50 : decode cX7_set 50 = .ok (.ireturn, 1) := by decide +kernel
theorem dX7_glass_0 : decode cX7_glass 0 = .ok (.aload_n 0, 1) := by decide +kernel
theorem dX7_glass_1 : decode cX7_glass 1 = .ok (.iload_n 1, 1) := by decide +kernel
theorem dX7_glass_2 : decode cX7_glass 2 = .ok (.invokevirtual 44, 3) := by decide +kernel
theorem dX7_glass_5 : decode cX7_glass 5 = .ok (.astore_n 3, 1) := by decide +kernel
theorem dX7_glass_6 : decode cX7_glass 6 = .ok (.aload_n 3, 1) := by decide +kernel
theorem dX7_glass_7 : decode cX7_glass 7 = .ok (.ifnonnull 6, 3) := by decide +kernel
theorem dX7_glass_10 : decode cX7_glass 10 = .ok (.bipush (-101), 2) := by decide +kernel
theorem dX7_glass_12 : decode cX7_glass 12 = .ok (.ireturn, 1) := by decide +kernel
theorem dX7_glass_13 : decode cX7_glass 13 = .ok (.iload_n 2, 1) := by decide +kernel
theorem dX7_glass_14 : decode cX7_glass 14 = .ok (.invokestatic 48, 3) := by decide +kernel
theorem dX7_glass_17 : decode cX7_glass 17 = .ok (.ifCond .eq 11, 3) := by decide +kernel
theorem dX7_glass_20 : decode cX7_glass 20 = .ok (.aload_n 3, 1) := by decide +kernel
theorem dX7_glass_21 : decode cX7_glass 21 = .ok (.iload_n 2, 1) := by decide +kernel
theorem dX7_glass_22 : decode cX7_glass 22 = .ok (.invokevirtual 56, 3) := by decide +kernel
theorem dX7_glass_25 : decode cX7_glass 25 = .ok (.goto 5, 3) := by decide +kernel
theorem dX7_glass_28 : decode cX7_glass 28 = .ok (.bipush (-102), 2) := by decide +kernel
theorem dX7_glass_30 : decode cX7_glass 30 = .ok (.ireturn, 1) := by decide +kernel
theorem dX7_seal_0 : decode cX7_seal 0 = .ok (.aload_n 0, 1) := by decide +kernel
theorem dX7_seal_1 : decode cX7_seal 1 = .ok (.iload_n 1, 1) := by decide +kernel
theorem dX7_seal_2 : decode cX7_seal 2 = .ok (.invokevirtual 44, 3) := by decide +kernel
theorem dX7_seal_5 : decode cX7_seal 5 = .ok (.astore 6, 2) := by decide +kernel
theorem dX7_seal_7 : decode cX7_seal 7 = .ok (.aload 6, 2) := by decide +kernel
theorem dX7_seal_9 : decode cX7_seal 9 = .ok (.ifnonnull 5, 3) := by decide +kernel
theorem dX7_seal_12 : decode cX7_seal 12 = .ok (.iconst (-1), 1) := by decide +kernel
theorem dX7_seal_13 : decode cX7_seal 13 = .ok (.ireturn, 1) := by decide +kernel
theorem dX7_seal_14 : decode cX7_seal 14 = .ok (.iload_n 2, 1) := by decide +kernel
theorem dX7_seal_15 : decode cX7_seal 15 = .ok (.invokestatic 64, 3) := by decide +kernel
theorem dX7_seal_18 : decode cX7_seal 18 = .ok (.ifCond .eq 32, 3) := by decide +kernel
theorem dX7_seal_21 : decode cX7_seal 21 = .ok (.iload 4, 2) := by decide +kernel
theorem dX7_seal_23 : decode cX7_seal 23 = .ok (.invokestatic 64, 3) := by decide +kernel
theorem dX7_seal_26 : decode cX7_seal 26 = .ok (.ifCond .eq 24, 3) := by decide +kernel
theorem dX7_seal_29 : decode cX7_seal 29 = .ok (.iload_n 3, 1) := by decide +kernel
theorem dX7_seal_30 : decode cX7_seal 30 = .ok (.invokestatic 67, 3) := by decide +kernel
theorem dX7_seal_33 : decode cX7_seal 33 = .ok (.ifCond .eq 17, 3) := by decide +kernel
theorem dX7_seal_36 : decode cX7_seal 36 = .ok (.iload 5, 2) := by decide +kernel
theorem dX7_seal_38 : decode cX7_seal 38 = .ok (.invokestatic 67, 3) := by decide +kernel
theorem dX7_seal_41 : decode cX7_seal 41 = .ok (.ifCond .eq 9, 3) := by decide +kernel
theorem dX7_seal_44 : decode cX7_seal 44 = .ok (.iload_n 3, 1) := by decide +kernel
theorem dX7_seal_45 : decode cX7_seal 45 = .ok (.iload 5, 2) := by decide +kernel
theorem dX7_seal_47 : decode cX7_seal 47 = .ok (.if_icmp .ne 6, 3) := by decide +kernel
theorem dX7_seal_50 : decode cX7_seal 50 = .ok (.bipush (-2), 2) := by decide +kernel
theorem dX7_seal_52 : decode cX7_seal 52 = .ok (.ireturn, 1) := by decide +kernel
theorem dX7_seal_53 : decode cX7_seal 53 = .ok (.aload 6, 2) := by decide +kernel
theorem dX7_seal_55 : decode cX7_seal 55 = .ok (.iload_n 2, 1) := by decide +kernel
theorem dX7_seal_56 : decode cX7_seal 56 = .ok (.iload_n 3, 1) := by decide +kernel
theorem dX7_seal_57 : decode cX7_seal 57 = .ok (.iload 4, 2) := by decide +kernel
theorem dX7_seal_59 : decode cX7_seal 59 = .ok (.iload 5, 2) := by decide +kernel
theorem dX7_seal_61 : decode cX7_seal 61 = .ok (.invokevirtual 70, 3) := by decide +kernel
theorem dX7_seal_64 : decode cX7_seal 64 = .ok (.ireturn, 1) := by decide +kernel
theorem dX7_air_0 : decode cX7_air 0 = .ok (.aload_n 0, 1) := by decide +kernel
theorem dX7_air_1 : decode cX7_air 1 = .ok (.iload_n 1, 1) := by decide +kernel
theorem dX7_air_2 : decode cX7_air 2 = .ok (.invokevirtual 44, 3) := by decide +kernel
theorem dX7_air_5 : decode cX7_air 5 = .ok (.astore_n 3, 1) := by decide +kernel
theorem dX7_air_6 : decode cX7_air 6 = .ok (.aload_n 3, 1) := by decide +kernel
theorem dX7_air_7 : decode cX7_air 7 = .ok (.ifnonnull 7, 3) := by decide +kernel
theorem dX7_air_10 : decode cX7_air 10 = .ok (.ldc2_w 74, 3) := by decide +kernel
theorem dX7_air_13 : decode cX7_air 13 = .ok (.lreturn, 1) := by decide +kernel
theorem dX7_air_14 : decode cX7_air 14 = .ok (.iload_n 2, 1) := by decide +kernel
theorem dX7_air_15 : decode cX7_air 15 = .ok (.invokestatic 76, 3) := by decide +kernel
theorem dX7_air_18 : decode cX7_air 18 = .ok (.ifCond .eq 11, 3) := by decide +kernel
theorem dX7_air_21 : decode cX7_air 21 = .ok (.aload_n 3, 1) := by decide +kernel
theorem dX7_air_22 : decode cX7_air 22 = .ok (.iload_n 2, 1) := by decide +kernel
theorem dX7_air_23 : decode cX7_air 23 = .ok (.invokevirtual 79, 3) := by decide +kernel
theorem dX7_air_26 : decode cX7_air 26 = .ok (.goto 6, 3) := by decide +kernel
theorem dX7_air_29 : decode cX7_air 29 = .ok (.ldc2_w 83, 3) := by decide +kernel
theorem dX7_air_32 : decode cX7_air 32 = .ok (.lreturn, 1) := by decide +kernel
theorem dX7_right_0 : decode cX7_right 0 = .ok (.aload_n 0, 1) := by decide +kernel
theorem dX7_right_1 : decode cX7_right 1 = .ok (.iload_n 1, 1) := by decide +kernel
theorem dX7_right_2 : decode cX7_right 2 = .ok (.invokevirtual 44, 3) := by decide +kernel
theorem dX7_right_5 : decode cX7_right 5 = .ok (.astore 4, 2) := by decide +kernel
theorem dX7_right_7 : decode cX7_right 7 = .ok (.aload 4, 2) := by decide +kernel
theorem dX7_right_9 : decode cX7_right 9 = .ok (.ifnonnull 7, 3) := by decide +kernel
theorem dX7_right_12 : decode cX7_right 12 = .ok (.ldc2_w 74, 3) := by decide +kernel
theorem dX7_right_15 : decode cX7_right 15 = .ok (.lreturn, 1) := by decide +kernel
theorem dX7_right_16 : decode cX7_right 16 = .ok (.iload_n 2, 1) := by decide +kernel
theorem dX7_right_17 : decode cX7_right 17 = .ok (.invokestatic 64, 3) := by decide +kernel
theorem dX7_right_20 : decode cX7_right 20 = .ok (.ifCond .eq 20, 3) := by decide +kernel
theorem dX7_right_23 : decode cX7_right 23 = .ok (.iload_n 3, 1) := by decide +kernel
theorem dX7_right_24 : decode cX7_right 24 = .ok (.invokestatic 85, 3) := by decide +kernel
theorem dX7_right_27 : decode cX7_right 27 = .ok (.ifCond .eq 13, 3) := by decide +kernel
theorem dX7_right_30 : decode cX7_right 30 = .ok (.aload 4, 2) := by decide +kernel
theorem dX7_right_32 : decode cX7_right 32 = .ok (.iload_n 2, 1) := by decide +kernel
theorem dX7_right_33 : decode cX7_right 33 = .ok (.iload_n 3, 1) := by decide +kernel
theorem dX7_right_34 : decode cX7_right 34 = .ok (.invokevirtual 88, 3) := by decide +kernel
theorem dX7_right_37 : decode cX7_right 37 = .ok (.goto 6, 3) := by decide +kernel
theorem dX7_right_40 : decode cX7_right 40 = .ok (.ldc2_w 83, 3) := by decide +kernel
theorem dX7_right_43 : decode cX7_right 43 = .ok (.lreturn, 1) := by decide +kernel
theorem dX7_station_0 : decode cX7_station 0 = .ok (.aload_n 0, 1) := by decide +kernel
theorem dX7_station_1 : decode cX7_station 1 = .ok (.iload 4, 2) := by decide +kernel
theorem dX7_station_3 : decode cX7_station 3 = .ok (.invokevirtual 44, 3) := by decide +kernel
theorem dX7_station_6 : decode cX7_station 6 = .ok (.astore 5, 2) := by decide +kernel
theorem dX7_station_8 : decode cX7_station 8 = .ok (.aload 5, 2) := by decide +kernel
theorem dX7_station_10 : decode cX7_station 10 = .ok (.ifnonnull 5, 3) := by decide +kernel
theorem dX7_station_13 : decode cX7_station 13 = .ok (.iconst (-1), 1) := by decide +kernel
theorem dX7_station_14 : decode cX7_station 14 = .ok (.ireturn, 1) := by decide +kernel
theorem dX7_station_15 : decode cX7_station 15 = .ok (.iload_n 1, 1) := by decide +kernel
theorem dX7_station_16 : decode cX7_station 16 = .ok (.invokestatic 92, 3) := by decide +kernel
theorem dX7_station_19 : decode cX7_station 19 = .ok (.ifCond .eq 23, 3) := by decide +kernel
theorem dX7_station_22 : decode cX7_station 22 = .ok (.iload_n 2, 1) := by decide +kernel
theorem dX7_station_23 : decode cX7_station 23 = .ok (.invokestatic 92, 3) := by decide +kernel
theorem dX7_station_26 : decode cX7_station 26 = .ok (.ifCond .eq 16, 3) := by decide +kernel
theorem dX7_station_29 : decode cX7_station 29 = .ok (.iload_n 3, 1) := by decide +kernel
theorem dX7_station_30 : decode cX7_station 30 = .ok (.sipush (-400), 3) := by decide +kernel
theorem dX7_station_33 : decode cX7_station 33 = .ok (.sipush 4000, 3) := by decide +kernel
theorem dX7_station_36 : decode cX7_station 36 = .ok (.invokestatic 95, 3) := by decide +kernel
theorem dX7_station_39 : decode cX7_station 39 = .ok (.ifCond .ne 6, 3) := by decide +kernel
theorem dX7_station_42 : decode cX7_station 42 = .ok (.bipush (-2), 2) := by decide +kernel
theorem dX7_station_44 : decode cX7_station 44 = .ok (.ireturn, 1) := by decide +kernel
theorem dX7_station_45 : decode cX7_station 45 = .ok (.aload_n 0, 1) := by decide +kernel
theorem dX7_station_46 : decode cX7_station 46 = .ok (.getfield 18, 3) := by decide +kernel
theorem dX7_station_49 : decode cX7_station 49 = .ok (.invokevirtual 99, 3) := by decide +kernel
theorem dX7_station_52 : decode cX7_station 52 = .ok (.ifCond .eq 6, 3) := by decide +kernel
theorem dX7_station_55 : decode cX7_station 55 = .ok (.bipush (-4), 2) := by decide +kernel
theorem dX7_station_57 : decode cX7_station 57 = .ok (.ireturn, 1) := by decide +kernel
theorem dX7_station_58 : decode cX7_station 58 = .ok (.aload_n 0, 1) := by decide +kernel
theorem dX7_station_59 : decode cX7_station 59 = .ok (.getfield 18, 3) := by decide +kernel
theorem dX7_station_62 : decode cX7_station 62 = .ok (.iload_n 1, 1) := by decide +kernel
theorem dX7_station_63 : decode cX7_station 63 = .ok (.iload_n 2, 1) := by decide +kernel
theorem dX7_station_64 : decode cX7_station 64 = .ok (.invokevirtual 103, 3) := by decide +kernel
theorem dX7_station_67 : decode cX7_station 67 = .ok (.ifCond .eq 8, 3) := by decide +kernel
theorem dX7_station_70 : decode cX7_station 70 = .ok (.bipush (-5), 2) := by decide +kernel
theorem dX7_station_72 : decode cX7_station 72 = .ok (.goto 15, 3) := by decide +kernel
theorem dX7_station_75 : decode cX7_station 75 = .ok (.aload_n 0, 1) := by decide +kernel
theorem dX7_station_76 : decode cX7_station 76 = .ok (.getfield 18, 3) := by decide +kernel
theorem dX7_station_79 : decode cX7_station 79 = .ok (.iload_n 1, 1) := by decide +kernel
theorem dX7_station_80 : decode cX7_station 80 = .ok (.iload_n 2, 1) := by decide +kernel
theorem dX7_station_81 : decode cX7_station 81 = .ok (.iload_n 3, 1) := by decide +kernel
theorem dX7_station_82 : decode cX7_station 82 = .ok (.aload 5, 2) := by decide +kernel
theorem dX7_station_84 : decode cX7_station 84 = .ok (.invokevirtual 106, 3) := by decide +kernel
theorem dX7_station_87 : decode cX7_station 87 = .ok (.ireturn, 1) := by decide +kernel
theorem dX7_tell_0 : decode cX7_tell 0 = .ok (.aload_n 0, 1) := by decide +kernel
theorem dX7_tell_1 : decode cX7_tell 1 = .ok (.getfield 18, 3) := by decide +kernel
theorem dX7_tell_4 : decode cX7_tell 4 = .ok (.iload_n 1, 1) := by decide +kernel
theorem dX7_tell_5 : decode cX7_tell 5 = .ok (.invokevirtual 110, 3) := by decide +kernel
theorem dX7_tell_8 : decode cX7_tell 8 = .ok (.astore 5, 2) := by decide +kernel
theorem dX7_tell_10 : decode cX7_tell 10 = .ok (.aload 5, 2) := by decide +kernel
theorem dX7_tell_12 : decode cX7_tell 12 = .ok (.ifnonnull 5, 3) := by decide +kernel
theorem dX7_tell_15 : decode cX7_tell 15 = .ok (.iconst (-1), 1) := by decide +kernel
theorem dX7_tell_16 : decode cX7_tell 16 = .ok (.ireturn, 1) := by decide +kernel
theorem dX7_tell_17 : decode cX7_tell 17 = .ok (.iload_n 2, 1) := by decide +kernel
theorem dX7_tell_18 : decode cX7_tell 18 = .ok (.invokestatic 114, 3) := by decide +kernel
theorem dX7_tell_21 : decode cX7_tell 21 = .ok (.ifCond .eq 18, 3) := by decide +kernel
theorem dX7_tell_24 : decode cX7_tell 24 = .ok (.iload_n 3, 1) := by decide +kernel
theorem dX7_tell_25 : decode cX7_tell 25 = .ok (.invokestatic 64, 3) := by decide +kernel
theorem dX7_tell_28 : decode cX7_tell 28 = .ok (.ifCond .eq 11, 3) := by decide +kernel
theorem dX7_tell_31 : decode cX7_tell 31 = .ok (.iload 4, 2) := by decide +kernel
theorem dX7_tell_33 : decode cX7_tell 33 = .ok (.invokestatic 85, 3) := by decide +kernel
theorem dX7_tell_36 : decode cX7_tell 36 = .ok (.ifCond .ne 6, 3) := by decide +kernel
theorem dX7_tell_39 : decode cX7_tell 39 = .ok (.bipush (-2), 2) := by decide +kernel
theorem dX7_tell_41 : decode cX7_tell 41 = .ok (.ireturn, 1) := by decide +kernel
theorem dX7_tell_42 : decode cX7_tell 42 = .ok (.aload 5, 2) := by decide +kernel
theorem dX7_tell_44 : decode cX7_tell 44 = .ok (.iload_n 2, 1) := by decide +kernel
theorem dX7_tell_45 : decode cX7_tell 45 = .ok (.invokevirtual 117, 3) := by decide +kernel
theorem dX7_tell_48 : decode cX7_tell 48 = .ok (.ifCond .eq 7, 3) := by decide +kernel
theorem dX7_tell_51 : decode cX7_tell 51 = .ok (.iconst 2, 1) := by decide +kernel
theorem dX7_tell_52 : decode cX7_tell 52 = .ok (.goto 4, 3) := by decide +kernel
theorem dX7_tell_55 : decode cX7_tell 55 = .ok (.iconst 1, 1) := by decide +kernel
theorem dX7_tell_56 : decode cX7_tell 56 = .ok (.istore 6, 2) := by decide +kernel
theorem dX7_tell_58 : decode cX7_tell 58 = .ok (.aload 5, 2) := by decide +kernel
theorem dX7_tell_60 : decode cX7_tell 60 = .ok (.iload_n 2, 1) := by decide +kernel
theorem dX7_tell_61 : decode cX7_tell 61 = .ok (.iload_n 3, 1) := by decide +kernel
theorem dX7_tell_62 : decode cX7_tell 62 = .ok (.iload 4, 2) := by decide +kernel
theorem dX7_tell_64 : decode cX7_tell 64 = .ok (.invokevirtual 122, 3) := by decide +kernel
theorem dX7_tell_67 : decode cX7_tell 67 = .ok (.iload 6, 2) := by decide +kernel
theorem dX7_tell_69 : decode cX7_tell 69 = .ok (.ireturn, 1) := by decide +kernel
theorem dX7_gap_0 : decode cX7_gap 0 = .ok (.aload_n 0, 1) := by decide +kernel
theorem dX7_gap_1 : decode cX7_gap 1 = .ok (.getfield 18, 3) := by decide +kernel
theorem dX7_gap_4 : decode cX7_gap 4 = .ok (.iload_n 1, 1) := by decide +kernel
theorem dX7_gap_5 : decode cX7_gap 5 = .ok (.invokevirtual 110, 3) := by decide +kernel
theorem dX7_gap_8 : decode cX7_gap 8 = .ok (.astore_n 3, 1) := by decide +kernel
theorem dX7_gap_9 : decode cX7_gap 9 = .ok (.aload_n 3, 1) := by decide +kernel
theorem dX7_gap_10 : decode cX7_gap 10 = .ok (.ifnonnull 5, 3) := by decide +kernel
theorem dX7_gap_13 : decode cX7_gap 13 = .ok (.iconst (-1), 1) := by decide +kernel
theorem dX7_gap_14 : decode cX7_gap 14 = .ok (.ireturn, 1) := by decide +kernel
theorem dX7_gap_15 : decode cX7_gap 15 = .ok (.iload_n 2, 1) := by decide +kernel
theorem dX7_gap_16 : decode cX7_gap 16 = .ok (.invokestatic 114, 3) := by decide +kernel
theorem dX7_gap_19 : decode cX7_gap 19 = .ok (.ifCond .ne 6, 3) := by decide +kernel
theorem dX7_gap_22 : decode cX7_gap 22 = .ok (.bipush (-2), 2) := by decide +kernel
theorem dX7_gap_24 : decode cX7_gap 24 = .ok (.ireturn, 1) := by decide +kernel
theorem dX7_gap_25 : decode cX7_gap 25 = .ok (.aload_n 3, 1) := by decide +kernel
theorem dX7_gap_26 : decode cX7_gap 26 = .ok (.iload_n 2, 1) := by decide +kernel
theorem dX7_gap_27 : decode cX7_gap 27 = .ok (.invokevirtual 117, 3) := by decide +kernel
theorem dX7_gap_30 : decode cX7_gap 30 = .ok (.ifCond .eq 7, 3) := by decide +kernel
theorem dX7_gap_33 : decode cX7_gap 33 = .ok (.iconst 1, 1) := by decide +kernel
theorem dX7_gap_34 : decode cX7_gap 34 = .ok (.goto 4, 3) := by decide +kernel
theorem dX7_gap_37 : decode cX7_gap 37 = .ok (.iconst 0, 1) := by decide +kernel
theorem dX7_gap_38 : decode cX7_gap 38 = .ok (.istore 4, 2) := by decide +kernel
theorem dX7_gap_40 : decode cX7_gap 40 = .ok (.aload_n 3, 1) := by decide +kernel
theorem dX7_gap_41 : decode cX7_gap 41 = .ok (.iload_n 2, 1) := by decide +kernel
theorem dX7_gap_42 : decode cX7_gap 42 = .ok (.invokevirtual 126, 3) := by decide +kernel
theorem dX7_gap_45 : decode cX7_gap 45 = .ok (.iload 4, 2) := by decide +kernel
theorem dX7_gap_47 : decode cX7_gap 47 = .ok (.ireturn, 1) := by decide +kernel
theorem dX7_reading_0 : decode cX7_reading 0 = .ok (.aload_n 0, 1) := by decide +kernel
theorem dX7_reading_1 : decode cX7_reading 1 = .ok (.getfield 18, 3) := by decide +kernel
theorem dX7_reading_4 : decode cX7_reading 4 = .ok (.iload_n 1, 1) := by decide +kernel
theorem dX7_reading_5 : decode cX7_reading 5 = .ok (.invokevirtual 110, 3) := by decide +kernel
theorem dX7_reading_8 : decode cX7_reading 8 = .ok (.astore 4, 2) := by decide +kernel
theorem dX7_reading_10 : decode cX7_reading 10 = .ok (.aload 4, 2) := by decide +kernel
theorem dX7_reading_12 : decode cX7_reading 12 = .ok (.ifnonnull 7, 3) := by decide +kernel
theorem dX7_reading_15 : decode cX7_reading 15 = .ok (.ldc2_w 74, 3) := by decide +kernel
theorem dX7_reading_18 : decode cX7_reading 18 = .ok (.lreturn, 1) := by decide +kernel
theorem dX7_reading_19 : decode cX7_reading 19 = .ok (.iload_n 2, 1) := by decide +kernel
theorem dX7_reading_20 : decode cX7_reading 20 = .ok (.invokestatic 114, 3) := by decide +kernel
theorem dX7_reading_23 : decode cX7_reading 23 = .ok (.ifCond .eq 12, 3) := by decide +kernel
theorem dX7_reading_26 : decode cX7_reading 26 = .ok (.iload_n 3, 1) := by decide +kernel
theorem dX7_reading_27 : decode cX7_reading 27 = .ok (.iconst 0, 1) := by decide +kernel
theorem dX7_reading_28 : decode cX7_reading 28 = .ok (.iconst 4, 1) := by decide +kernel
theorem dX7_reading_29 : decode cX7_reading 29 = .ok (.invokestatic 95, 3) := by decide +kernel
theorem dX7_reading_32 : decode cX7_reading 32 = .ok (.ifCond .ne 7, 3) := by decide +kernel
theorem dX7_reading_35 : decode cX7_reading 35 = .ok (.ldc2_w 83, 3) := by decide +kernel
theorem dX7_reading_38 : decode cX7_reading 38 = .ok (.lreturn, 1) := by decide +kernel
theorem dX7_reading_39 : decode cX7_reading 39 = .ok (.aload 4, 2) := by decide +kernel
theorem dX7_reading_41 : decode cX7_reading 41 = .ok (.iload_n 2, 1) := by decide +kernel
theorem dX7_reading_42 : decode cX7_reading 42 = .ok (.invokevirtual 117, 3) := by decide +kernel
theorem dX7_reading_45 : decode cX7_reading 45 = .ok (.ifCond .eq 13, 3) := by decide +kernel
theorem dX7_reading_48 : decode cX7_reading 48 = .ok (.aload 4, 2) := by decide +kernel
theorem dX7_reading_50 : decode cX7_reading 50 = .ok (.iload_n 2, 1) := by decide +kernel
theorem dX7_reading_51 : decode cX7_reading 51 = .ok (.iload_n 3, 1) := by decide +kernel
theorem dX7_reading_52 : decode cX7_reading 52 = .ok (.invokevirtual 130, 3) := by decide +kernel
theorem dX7_reading_55 : decode cX7_reading 55 = .ok (.goto 6, 3) := by decide +kernel
theorem dX7_reading_58 : decode cX7_reading 58 = .ok (.ldc2_w 133, 3) := by decide +kernel
theorem dX7_reading_61 : decode cX7_reading 61 = .ok (.lreturn, 1) := by decide +kernel
theorem dX7_rise_0 : decode cX7_rise 0 = .ok (.iload_n 1, 1) := by decide +kernel
theorem dX7_rise_1 : decode cX7_rise 1 = .ok (.invokestatic 135, 3) := by decide +kernel
theorem dX7_rise_4 : decode cX7_rise 4 = .ok (.ifCond .eq 22, 3) := by decide +kernel
theorem dX7_rise_7 : decode cX7_rise 7 = .ok (.iload_n 2, 1) := by decide +kernel
theorem dX7_rise_8 : decode cX7_rise 8 = .ok (.invokestatic 135, 3) := by decide +kernel
theorem dX7_rise_11 : decode cX7_rise 11 = .ok (.ifCond .eq 15, 3) := by decide +kernel
theorem dX7_rise_14 : decode cX7_rise 14 = .ok (.iload_n 3, 1) := by decide +kernel
theorem dX7_rise_15 : decode cX7_rise 15 = .ok (.invokestatic 85, 3) := by decide +kernel
theorem dX7_rise_18 : decode cX7_rise 18 = .ok (.ifCond .eq 8, 3) := by decide +kernel
theorem dX7_rise_21 : decode cX7_rise 21 = .ok (.iload_n 2, 1) := by decide +kernel
theorem dX7_rise_22 : decode cX7_rise 22 = .ok (.iload_n 1, 1) := by decide +kernel
theorem dX7_rise_23 : decode cX7_rise 23 = .ok (.if_icmp .lt 7, 3) := by decide +kernel
theorem dX7_rise_26 : decode cX7_rise 26 = .ok (.ldc2_w 83, 3) := by decide +kernel
theorem dX7_rise_29 : decode cX7_rise 29 = .ok (.lreturn, 1) := by decide +kernel
theorem dX7_rise_30 : decode cX7_rise 30 = .ok (.iload_n 1, 1) := by decide +kernel
theorem dX7_rise_31 : decode cX7_rise 31 = .ok (.iload_n 2, 1) := by decide +kernel
theorem dX7_rise_32 : decode cX7_rise 32 = .ok (.iload_n 3, 1) := by decide +kernel
theorem dX7_rise_33 : decode cX7_rise 33 = .ok (.invokestatic 140, 3) := by decide +kernel
theorem dX7_rise_36 : decode cX7_rise 36 = .ok (.lreturn, 1) := by decide +kernel
theorem dX7_between_0 : decode cX7_between 0 = .ok (.aload_n 0, 1) := by decide +kernel
theorem dX7_between_1 : decode cX7_between 1 = .ok (.getfield 18, 3) := by decide +kernel
theorem dX7_between_4 : decode cX7_between 4 = .ok (.iload_n 1, 1) := by decide +kernel
theorem dX7_between_5 : decode cX7_between 5 = .ok (.invokevirtual 110, 3) := by decide +kernel
theorem dX7_between_8 : decode cX7_between 8 = .ok (.astore 4, 2) := by decide +kernel
theorem dX7_between_10 : decode cX7_between 10 = .ok (.aload_n 0, 1) := by decide +kernel
theorem dX7_between_11 : decode cX7_between 11 = .ok (.getfield 18, 3) := by decide +kernel
theorem dX7_between_14 : decode cX7_between 14 = .ok (.iload_n 2, 1) := by decide +kernel
theorem dX7_between_15 : decode cX7_between 15 = .ok (.invokevirtual 110, 3) := by decide +kernel
theorem dX7_between_18 : decode cX7_between 18 = .ok (.astore 5, 2) := by decide +kernel
theorem dX7_between_20 : decode cX7_between 20 = .ok (.aload 4, 2) := by decide +kernel
theorem dX7_between_22 : decode cX7_between 22 = .ok (.ifnull 8, 3) := by decide +kernel
theorem dX7_between_25 : decode cX7_between 25 = .ok (.aload 5, 2) := by decide +kernel
theorem dX7_between_27 : decode cX7_between 27 = .ok (.ifnonnull 7, 3) := by decide +kernel
theorem dX7_between_30 : decode cX7_between 30 = .ok (.ldc2_w 74, 3) := by decide +kernel
theorem dX7_between_33 : decode cX7_between 33 = .ok (.lreturn, 1) := by decide +kernel
theorem dX7_between_34 : decode cX7_between 34 = .ok (.iload_n 3, 1) := by decide +kernel
theorem dX7_between_35 : decode cX7_between 35 = .ok (.invokestatic 114, 3) := by decide +kernel
theorem dX7_between_38 : decode cX7_between 38 = .ok (.ifCond .ne 7, 3) := by decide +kernel
theorem dX7_between_41 : decode cX7_between 41 = .ok (.ldc2_w 83, 3) := by decide +kernel
theorem dX7_between_44 : decode cX7_between 44 = .ok (.lreturn, 1) := by decide +kernel
theorem dX7_between_45 : decode cX7_between 45 = .ok (.aload 4, 2) := by decide +kernel
theorem dX7_between_47 : decode cX7_between 47 = .ok (.iload_n 3, 1) := by decide +kernel
theorem dX7_between_48 : decode cX7_between 48 = .ok (.invokevirtual 117, 3) := by decide +kernel
theorem dX7_between_51 : decode cX7_between 51 = .ok (.ifCond .eq 12, 3) := by decide +kernel
theorem dX7_between_54 : decode cX7_between 54 = .ok (.aload 5, 2) := by decide +kernel
theorem dX7_between_56 : decode cX7_between 56 = .ok (.iload_n 3, 1) := by decide +kernel
theorem dX7_between_57 : decode cX7_between 57 = .ok (.invokevirtual 117, 3) := by decide +kernel
theorem dX7_between_60 : decode cX7_between 60 = .ok (.ifCond .ne 7, 3) := by decide +kernel
theorem dX7_between_63 : decode cX7_between 63 = .ok (.ldc2_w 133, 3) := by decide +kernel
theorem dX7_between_66 : decode cX7_between 66 = .ok (.lreturn, 1) := by decide +kernel
theorem dX7_between_67 : decode cX7_between 67 = .ok (.aload 4, 2) := by decide +kernel
theorem dX7_between_69 : decode cX7_between 69 = .ok (.iload_n 3, 1) := by decide +kernel
theorem dX7_between_70 : decode cX7_between 70 = .ok (.invokevirtual 144, 3) := by decide +kernel
theorem dX7_between_73 : decode cX7_between 73 = .ok (.invokestatic 147, 3) := by decide +kernel
theorem dX7_between_76 : decode cX7_between 76 = .ok (.istore 6, 2) := by decide +kernel
theorem dX7_between_78 : decode cX7_between 78 = .ok (.aload 5, 2) := by decide +kernel
theorem dX7_between_80 : decode cX7_between 80 = .ok (.iload_n 3, 1) := by decide +kernel
theorem dX7_between_81 : decode cX7_between 81 = .ok (.invokevirtual 144, 3) := by decide +kernel
theorem dX7_between_84 : decode cX7_between 84 = .ok (.invokestatic 147, 3) := by decide +kernel
theorem dX7_between_87 : decode cX7_between 87 = .ok (.istore 7, 2) := by decide +kernel
theorem dX7_between_89 : decode cX7_between 89 = .ok (.aload 4, 2) := by decide +kernel
theorem dX7_between_91 : decode cX7_between 91 = .ok (.iload_n 3, 1) := by decide +kernel
theorem dX7_between_92 : decode cX7_between 92 = .ok (.invokevirtual 151, 3) := by decide +kernel
theorem dX7_between_95 : decode cX7_between 95 = .ok (.aload 5, 2) := by decide +kernel
theorem dX7_between_97 : decode cX7_between 97 = .ok (.iload_n 3, 1) := by decide +kernel
theorem dX7_between_98 : decode cX7_between 98 = .ok (.invokevirtual 151, 3) := by decide +kernel
theorem dX7_between_101 : decode cX7_between 101 = .ok (.iadd, 1) := by decide +kernel
theorem dX7_between_102 : decode cX7_between 102 = .ok (.iconst 2, 1) := by decide +kernel
theorem dX7_between_103 : decode cX7_between 103 = .ok (.idiv, 1) := by decide +kernel
theorem dX7_between_104 : decode cX7_between 104 = .ok (.istore 8, 2) := by decide +kernel
theorem dX7_between_106 : decode cX7_between 106 = .ok (.iload 6, 2) := by decide +kernel
theorem dX7_between_108 : decode cX7_between 108 = .ok (.iload 7, 2) := by decide +kernel
theorem dX7_between_110 : decode cX7_between 110 = .ok (.if_icmp .lt 15, 3) := by decide +kernel
theorem dX7_between_113 : decode cX7_between 113 = .ok (.iload 6, 2) := by decide +kernel
theorem dX7_between_115 : decode cX7_between 115 = .ok (.iload 7, 2) := by decide +kernel
theorem dX7_between_117 : decode cX7_between 117 = .ok (.iload 8, 2) := by decide +kernel
theorem dX7_between_119 : decode cX7_between 119 = .ok (.invokestatic 140, 3) := by decide +kernel
theorem dX7_between_122 : decode cX7_between 122 = .ok (.goto 13, 3) := by decide +kernel
theorem dX7_between_125 : decode cX7_between 125 = .ok (.iload 7, 2) := by decide +kernel
theorem dX7_between_127 : decode cX7_between 127 = .ok (.iload 6, 2) := by decide +kernel
theorem dX7_between_129 : decode cX7_between 129 = .ok (.iload 8, 2) := by decide +kernel
theorem dX7_between_131 : decode cX7_between 131 = .ok (.invokestatic 140, 3) := by decide +kernel
theorem dX7_between_134 : decode cX7_between 134 = .ok (.lneg, 1) := by decide +kernel
theorem dX7_between_135 : decode cX7_between 135 = .ok (.lreturn, 1) := by decide +kernel
theorem dX7_benches_0 : decode cX7_benches 0 = .ok (.iload_n 1, 1) := by decide +kernel
theorem dX7_benches_1 : decode cX7_benches 1 = .ok (.iconst 2, 1) := by decide +kernel
theorem dX7_benches_2 : decode cX7_benches 2 = .ok (.bipush 6, 2) := by decide +kernel
theorem dX7_benches_4 : decode cX7_benches 4 = .ok (.invokestatic 95, 3) := by decide +kernel
theorem dX7_benches_7 : decode cX7_benches 7 = .ok (.ifCond .ne 6, 3) := by decide +kernel
theorem dX7_benches_10 : decode cX7_benches 10 = .ok (.bipush (-2), 2) := by decide +kernel
theorem dX7_benches_12 : decode cX7_benches 12 = .ok (.ireturn, 1) := by decide +kernel
theorem dX7_benches_13 : decode cX7_benches 13 = .ok (.aload_n 0, 1) := by decide +kernel
theorem dX7_benches_14 : decode cX7_benches 14 = .ok (.getfield 32, 3) := by decide +kernel
theorem dX7_benches_17 : decode cX7_benches 17 = .ok (.invokevirtual 154, 3) := by decide +kernel
theorem dX7_benches_20 : decode cX7_benches 20 = .ok (.istore_n 2, 1) := by decide +kernel
theorem dX7_benches_21 : decode cX7_benches 21 = .ok (.aload_n 0, 1) := by decide +kernel
theorem dX7_benches_22 : decode cX7_benches 22 = .ok (.getfield 32, 3) := by decide +kernel
theorem dX7_benches_25 : decode cX7_benches 25 = .ok (.iload_n 1, 1) := by decide +kernel
theorem dX7_benches_26 : decode cX7_benches 26 = .ok (.invokevirtual 158, 3) := by decide +kernel
theorem dX7_benches_29 : decode cX7_benches 29 = .ok (.iload_n 2, 1) := by decide +kernel
theorem dX7_benches_30 : decode cX7_benches 30 = .ok (.ireturn, 1) := by decide +kernel
theorem dX7_difference_0 : decode cX7_difference 0 = .ok (.aload_n 0, 1) := by decide +kernel
theorem dX7_difference_1 : decode cX7_difference 1 = .ok (.getfield 32, 3) := by decide +kernel
theorem dX7_difference_4 : decode cX7_difference 4 = .ok (.iload_n 1, 1) := by decide +kernel
theorem dX7_difference_5 : decode cX7_difference 5 = .ok (.invokevirtual 161, 3) := by decide +kernel
theorem dX7_difference_8 : decode cX7_difference 8 = .ok (.ifCond .eq 19, 3) := by decide +kernel
theorem dX7_difference_11 : decode cX7_difference 11 = .ok (.aload_n 0, 1) := by decide +kernel
theorem dX7_difference_12 : decode cX7_difference 12 = .ok (.getfield 32, 3) := by decide +kernel
theorem dX7_difference_15 : decode cX7_difference 15 = .ok (.iload_n 2, 1) := by decide +kernel
theorem dX7_difference_16 : decode cX7_difference 16 = .ok (.invokevirtual 161, 3) := by decide +kernel
theorem dX7_difference_19 : decode cX7_difference 19 = .ok (.ifCond .eq 8, 3) := by decide +kernel
theorem dX7_difference_22 : decode cX7_difference 22 = .ok (.iload_n 1, 1) := by decide +kernel
theorem dX7_difference_23 : decode cX7_difference 23 = .ok (.iload_n 2, 1) := by decide +kernel
theorem dX7_difference_24 : decode cX7_difference 24 = .ok (.if_icmp .ne 5, 3) := by decide +kernel
theorem dX7_difference_27 : decode cX7_difference 27 = .ok (.iconst (-1), 1) := by decide +kernel
theorem dX7_difference_28 : decode cX7_difference 28 = .ok (.ireturn, 1) := by decide +kernel
theorem dX7_difference_29 : decode cX7_difference 29 = .ok (.iload_n 3, 1) := by decide +kernel
theorem dX7_difference_30 : decode cX7_difference 30 = .ok (.ldc 164, 2) := by decide +kernel
theorem dX7_difference_32 : decode cX7_difference 32 = .ok (.ldc 165, 2) := by decide +kernel
theorem dX7_difference_34 : decode cX7_difference 34 = .ok (.invokestatic 95, 3) := by decide +kernel
theorem dX7_difference_37 : decode cX7_difference 37 = .ok (.ifCond .eq 14, 3) := by decide +kernel
theorem dX7_difference_40 : decode cX7_difference 40 = .ok (.iload 4, 2) := by decide +kernel
theorem dX7_difference_42 : decode cX7_difference 42 = .ok (.iconst 1, 1) := by decide +kernel
theorem dX7_difference_43 : decode cX7_difference 43 = .ok (.bipush 9, 2) := by decide +kernel
theorem dX7_difference_45 : decode cX7_difference 45 = .ok (.invokestatic 95, 3) := by decide +kernel
theorem dX7_difference_48 : decode cX7_difference 48 = .ok (.ifCond .ne 6, 3) := by decide +kernel
theorem dX7_difference_51 : decode cX7_difference 51 = .ok (.bipush (-2), 2) := by decide +kernel
theorem dX7_difference_53 : decode cX7_difference 53 = .ok (.ireturn, 1) := by decide +kernel
theorem dX7_difference_54 : decode cX7_difference 54 = .ok (.aload_n 0, 1) := by decide +kernel
theorem dX7_difference_55 : decode cX7_difference 55 = .ok (.getfield 32, 3) := by decide +kernel
theorem dX7_difference_58 : decode cX7_difference 58 = .ok (.iload_n 1, 1) := by decide +kernel
theorem dX7_difference_59 : decode cX7_difference 59 = .ok (.iload_n 2, 1) := by decide +kernel
theorem dX7_difference_60 : decode cX7_difference 60 = .ok (.iload_n 3, 1) := by decide +kernel
theorem dX7_difference_61 : decode cX7_difference 61 = .ok (.iload 4, 2) := by decide +kernel
theorem dX7_difference_63 : decode cX7_difference 63 = .ok (.invokevirtual 166, 3) := by decide +kernel
theorem dX7_difference_66 : decode cX7_difference 66 = .ok (.ireturn, 1) := by decide +kernel
theorem dX7_drop_0 : decode cX7_drop 0 = .ok (.aload_n 0, 1) := by decide +kernel
theorem dX7_drop_1 : decode cX7_drop 1 = .ok (.getfield 32, 3) := by decide +kernel
theorem dX7_drop_4 : decode cX7_drop 4 = .ok (.invokevirtual 168, 3) := by decide +kernel
theorem dX7_drop_7 : decode cX7_drop 7 = .ok (.ireturn, 1) := by decide +kernel
theorem dX7_height_0 : decode cX7_height 0 = .ok (.aload_n 0, 1) := by decide +kernel
theorem dX7_height_1 : decode cX7_height 1 = .ok (.getfield 32, 3) := by decide +kernel
theorem dX7_height_4 : decode cX7_height 4 = .ok (.iload_n 1, 1) := by decide +kernel
theorem dX7_height_5 : decode cX7_height 5 = .ok (.invokevirtual 161, 3) := by decide +kernel
theorem dX7_height_8 : decode cX7_height 8 = .ok (.ifCond .ne 7, 3) := by decide +kernel
theorem dX7_height_11 : decode cX7_height 11 = .ok (.ldc2_w 74, 3) := by decide +kernel
theorem dX7_height_14 : decode cX7_height 14 = .ok (.lreturn, 1) := by decide +kernel
theorem dX7_height_15 : decode cX7_height 15 = .ok (.iload_n 2, 1) := by decide +kernel
theorem dX7_height_16 : decode cX7_height 16 = .ok (.invokestatic 76, 3) := by decide +kernel
theorem dX7_height_19 : decode cX7_height 19 = .ok (.ifCond .ne 7, 3) := by decide +kernel
theorem dX7_height_22 : decode cX7_height 22 = .ok (.ldc2_w 83, 3) := by decide +kernel
theorem dX7_height_25 : decode cX7_height 25 = .ok (.lreturn, 1) := by decide +kernel
theorem dX7_height_26 : decode cX7_height 26 = .ok (.aload_n 0, 1) := by decide +kernel
theorem dX7_height_27 : decode cX7_height 27 = .ok (.getfield 32, 3) := by decide +kernel
theorem dX7_height_30 : decode cX7_height 30 = .ok (.invokevirtual 171, 3) := by decide +kernel
theorem dX7_height_33 : decode cX7_height 33 = .ok (.ifCond .eq 25, 3) := by decide +kernel
theorem dX7_height_36 : decode cX7_height 36 = .ok (.aload_n 0, 1) := by decide +kernel
theorem dX7_height_37 : decode cX7_height 37 = .ok (.getfield 32, 3) := by decide +kernel
theorem dX7_height_40 : decode cX7_height 40 = .ok (.iload_n 1, 1) := by decide +kernel
theorem dX7_height_41 : decode cX7_height 41 = .ok (.invokevirtual 174, 3) := by decide +kernel
theorem dX7_height_44 : decode cX7_height 44 = .ok (.aload_n 0, 1) := by decide +kernel
theorem dX7_height_45 : decode cX7_height 45 = .ok (.getfield 32, 3) := by decide +kernel
theorem dX7_height_48 : decode cX7_height 48 = .ok (.invokevirtual 177, 3) := by decide +kernel
theorem dX7_height_51 : decode cX7_height 51 = .ok (.iload_n 2, 1) := by decide +kernel
theorem dX7_height_52 : decode cX7_height 52 = .ok (.invokestatic 181, 3) := by decide +kernel
theorem dX7_height_55 : decode cX7_height 55 = .ok (.goto 6, 3) := by decide +kernel
theorem dX7_height_58 : decode cX7_height 58 = .ok (.ldc2_w 185, 3) := by decide +kernel
theorem dX7_height_61 : decode cX7_height 61 = .ok (.lreturn, 1) := by decide +kernel
end
section
theorem dX7_off_0 : decode cX7_off 0 = .ok (.aload_n 0, 1) := by decide +kernel
theorem dX7_off_1 : decode cX7_off 1 = .ok (.getfield 32, 3) := by decide +kernel
theorem dX7_off_4 : decode cX7_off 4 = .ok (.iload_n 1, 1) := by decide +kernel
theorem dX7_off_5 : decode cX7_off 5 = .ok (.invokevirtual 187, 3) := by decide +kernel
theorem dX7_off_8 : decode cX7_off 8 = .ok (.ifCond .ne 7, 3) := by decide +kernel
theorem dX7_off_11 : decode cX7_off 11 = .ok (.ldc2_w 74, 3) := by decide +kernel
theorem dX7_off_14 : decode cX7_off 14 = .ok (.lreturn, 1) := by decide +kernel
theorem dX7_off_15 : decode cX7_off 15 = .ok (.iload_n 2, 1) := by decide +kernel
theorem dX7_off_16 : decode cX7_off 16 = .ok (.invokestatic 76, 3) := by decide +kernel
theorem dX7_off_19 : decode cX7_off 19 = .ok (.ifCond .ne 7, 3) := by decide +kernel
theorem dX7_off_22 : decode cX7_off 22 = .ok (.ldc2_w 83, 3) := by decide +kernel
theorem dX7_off_25 : decode cX7_off 25 = .ok (.lreturn, 1) := by decide +kernel
theorem dX7_off_26 : decode cX7_off 26 = .ok (.aload_n 0, 1) := by decide +kernel
theorem dX7_off_27 : decode cX7_off 27 = .ok (.getfield 32, 3) := by decide +kernel
theorem dX7_off_30 : decode cX7_off 30 = .ok (.invokevirtual 171, 3) := by decide +kernel
theorem dX7_off_33 : decode cX7_off 33 = .ok (.ifCond .eq 25, 3) := by decide +kernel
theorem dX7_off_36 : decode cX7_off 36 = .ok (.aload_n 0, 1) := by decide +kernel
theorem dX7_off_37 : decode cX7_off 37 = .ok (.getfield 32, 3) := by decide +kernel
theorem dX7_off_40 : decode cX7_off 40 = .ok (.iload_n 1, 1) := by decide +kernel
theorem dX7_off_41 : decode cX7_off 41 = .ok (.invokevirtual 190, 3) := by decide +kernel
theorem dX7_off_44 : decode cX7_off 44 = .ok (.aload_n 0, 1) := by decide +kernel
theorem dX7_off_45 : decode cX7_off 45 = .ok (.getfield 32, 3) := by decide +kernel
theorem dX7_off_48 : decode cX7_off 48 = .ok (.invokevirtual 177, 3) := by decide +kernel
theorem dX7_off_51 : decode cX7_off 51 = .ok (.iload_n 2, 1) := by decide +kernel
theorem dX7_off_52 : decode cX7_off 52 = .ok (.invokestatic 181, 3) := by decide +kernel
theorem dX7_off_55 : decode cX7_off 55 = .ok (.goto 6, 3) := by decide +kernel
theorem dX7_off_58 : decode cX7_off 58 = .ok (.ldc2_w 185, 3) := by decide +kernel
theorem dX7_off_61 : decode cX7_off 61 = .ok (.lreturn, 1) := by decide +kernel
theorem dX7_worst_0 : decode cX7_worst 0 = .ok (.aload_n 0, 1) := by decide +kernel
theorem dX7_worst_1 : decode cX7_worst 1 = .ok (.getfield 32, 3) := by decide +kernel
theorem dX7_worst_4 : decode cX7_worst 4 = .ok (.invokevirtual 193, 3) := by decide +kernel
theorem dX7_worst_7 : decode cX7_worst 7 = .ok (.ifCond .ne 6, 3) := by decide +kernel
theorem dX7_worst_10 : decode cX7_worst 10 = .ok (.bipush (-6), 2) := by decide +kernel
theorem dX7_worst_12 : decode cX7_worst 12 = .ok (.ireturn, 1) := by decide +kernel
theorem dX7_worst_13 : decode cX7_worst 13 = .ok (.aload_n 0, 1) := by decide +kernel
theorem dX7_worst_14 : decode cX7_worst 14 = .ok (.getfield 32, 3) := by decide +kernel
theorem dX7_worst_17 : decode cX7_worst 17 = .ok (.invokevirtual 171, 3) := by decide +kernel
theorem dX7_worst_20 : decode cX7_worst 20 = .ok (.ifCond .eq 13, 3) := by decide +kernel
theorem dX7_worst_23 : decode cX7_worst 23 = .ok (.aload_n 0, 1) := by decide +kernel
theorem dX7_worst_24 : decode cX7_worst 24 = .ok (.getfield 32, 3) := by decide +kernel
theorem dX7_worst_27 : decode cX7_worst 27 = .ok (.invokevirtual 196, 3) := by decide +kernel
theorem dX7_worst_30 : decode cX7_worst 30 = .ok (.goto 5, 3) := by decide +kernel
theorem dX7_worst_33 : decode cX7_worst 33 = .ok (.bipush (-5), 2) := by decide +kernel
theorem dX7_worst_35 : decode cX7_worst 35 = .ok (.ireturn, 1) := by decide +kernel
theorem dX7_closing_0 : decode cX7_closing 0 = .ok (.aload_n 0, 1) := by decide +kernel
theorem dX7_closing_1 : decode cX7_closing 1 = .ok (.getfield 32, 3) := by decide +kernel
theorem dX7_closing_4 : decode cX7_closing 4 = .ok (.iload_n 1, 1) := by decide +kernel
theorem dX7_closing_5 : decode cX7_closing 5 = .ok (.invokevirtual 161, 3) := by decide +kernel
theorem dX7_closing_8 : decode cX7_closing 8 = .ok (.ifCond .eq 40, 3) := by decide +kernel
theorem dX7_closing_11 : decode cX7_closing 11 = .ok (.aload_n 0, 1) := by decide +kernel
theorem dX7_closing_12 : decode cX7_closing 12 = .ok (.getfield 32, 3) := by decide +kernel
theorem dX7_closing_15 : decode cX7_closing 15 = .ok (.iload_n 2, 1) := by decide +kernel
theorem dX7_closing_16 : decode cX7_closing 16 = .ok (.invokevirtual 161, 3) := by decide +kernel
theorem dX7_closing_19 : decode cX7_closing 19 = .ok (.ifCond .eq 29, 3) := by decide +kernel
theorem dX7_closing_22 : decode cX7_closing 22 = .ok (.aload_n 0, 1) := by decide +kernel
theorem dX7_closing_23 : decode cX7_closing 23 = .ok (.getfield 32, 3) := by decide +kernel
theorem dX7_closing_26 : decode cX7_closing 26 = .ok (.iload_n 3, 1) := by decide +kernel
theorem dX7_closing_27 : decode cX7_closing 27 = .ok (.invokevirtual 161, 3) := by decide +kernel
theorem dX7_closing_30 : decode cX7_closing 30 = .ok (.ifCond .eq 18, 3) := by decide +kernel
theorem dX7_closing_33 : decode cX7_closing 33 = .ok (.iload_n 1, 1) := by decide +kernel
theorem dX7_closing_34 : decode cX7_closing 34 = .ok (.iload_n 2, 1) := by decide +kernel
theorem dX7_closing_35 : decode cX7_closing 35 = .ok (.if_icmp .eq 13, 3) := by decide +kernel
theorem dX7_closing_38 : decode cX7_closing 38 = .ok (.iload_n 2, 1) := by decide +kernel
theorem dX7_closing_39 : decode cX7_closing 39 = .ok (.iload_n 3, 1) := by decide +kernel
theorem dX7_closing_40 : decode cX7_closing 40 = .ok (.if_icmp .eq 8, 3) := by decide +kernel
theorem dX7_closing_43 : decode cX7_closing 43 = .ok (.iload_n 3, 1) := by decide +kernel
theorem dX7_closing_44 : decode cX7_closing 44 = .ok (.iload_n 1, 1) := by decide +kernel
theorem dX7_closing_45 : decode cX7_closing 45 = .ok (.if_icmp .ne 7, 3) := by decide +kernel
theorem dX7_closing_48 : decode cX7_closing 48 = .ok (.ldc2_w 74, 3) := by decide +kernel
theorem dX7_closing_51 : decode cX7_closing 51 = .ok (.lreturn, 1) := by decide +kernel
theorem dX7_closing_52 : decode cX7_closing 52 = .ok (.aload_n 0, 1) := by decide +kernel
theorem dX7_closing_53 : decode cX7_closing 53 = .ok (.getfield 32, 3) := by decide +kernel
theorem dX7_closing_56 : decode cX7_closing 56 = .ok (.iload_n 1, 1) := by decide +kernel
theorem dX7_closing_57 : decode cX7_closing 57 = .ok (.iload_n 2, 1) := by decide +kernel
theorem dX7_closing_58 : decode cX7_closing 58 = .ok (.invokevirtual 199, 3) := by decide +kernel
theorem dX7_closing_61 : decode cX7_closing 61 = .ok (.ifCond .eq 27, 3) := by decide +kernel
theorem dX7_closing_64 : decode cX7_closing 64 = .ok (.aload_n 0, 1) := by decide +kernel
theorem dX7_closing_65 : decode cX7_closing 65 = .ok (.getfield 32, 3) := by decide +kernel
theorem dX7_closing_68 : decode cX7_closing 68 = .ok (.iload_n 2, 1) := by decide +kernel
theorem dX7_closing_69 : decode cX7_closing 69 = .ok (.iload_n 3, 1) := by decide +kernel
theorem dX7_closing_70 : decode cX7_closing 70 = .ok (.invokevirtual 199, 3) := by decide +kernel
theorem dX7_closing_73 : decode cX7_closing 73 = .ok (.ifCond .eq 15, 3) := by decide +kernel
theorem dX7_closing_76 : decode cX7_closing 76 = .ok (.aload_n 0, 1) := by decide +kernel
theorem dX7_closing_77 : decode cX7_closing 77 = .ok (.getfield 32, 3) := by decide +kernel
theorem dX7_closing_80 : decode cX7_closing 80 = .ok (.iload_n 3, 1) := by decide +kernel
theorem dX7_closing_81 : decode cX7_closing 81 = .ok (.iload_n 1, 1) := by decide +kernel
theorem dX7_closing_82 : decode cX7_closing 82 = .ok (.invokevirtual 199, 3) := by decide +kernel
theorem dX7_closing_85 : decode cX7_closing 85 = .ok (.ifCond .ne 7, 3) := by decide +kernel
theorem dX7_closing_88 : decode cX7_closing 88 = .ok (.ldc2_w 133, 3) := by decide +kernel
theorem dX7_closing_91 : decode cX7_closing 91 = .ok (.lreturn, 1) := by decide +kernel
theorem dX7_closing_92 : decode cX7_closing 92 = .ok (.aload_n 0, 1) := by decide +kernel
theorem dX7_closing_93 : decode cX7_closing 93 = .ok (.getfield 32, 3) := by decide +kernel
theorem dX7_closing_96 : decode cX7_closing 96 = .ok (.iload_n 1, 1) := by decide +kernel
theorem dX7_closing_97 : decode cX7_closing 97 = .ok (.iload_n 2, 1) := by decide +kernel
theorem dX7_closing_98 : decode cX7_closing 98 = .ok (.invokevirtual 202, 3) := by decide +kernel
theorem dX7_closing_101 : decode cX7_closing 101 = .ok (.aload_n 0, 1) := by decide +kernel
theorem dX7_closing_102 : decode cX7_closing 102 = .ok (.getfield 32, 3) := by decide +kernel
theorem dX7_closing_105 : decode cX7_closing 105 = .ok (.iload_n 2, 1) := by decide +kernel
theorem dX7_closing_106 : decode cX7_closing 106 = .ok (.iload_n 3, 1) := by decide +kernel
theorem dX7_closing_107 : decode cX7_closing 107 = .ok (.invokevirtual 202, 3) := by decide +kernel
theorem dX7_closing_110 : decode cX7_closing 110 = .ok (.ladd, 1) := by decide +kernel
theorem dX7_closing_111 : decode cX7_closing 111 = .ok (.aload_n 0, 1) := by decide +kernel
theorem dX7_closing_112 : decode cX7_closing 112 = .ok (.getfield 32, 3) := by decide +kernel
theorem dX7_closing_115 : decode cX7_closing 115 = .ok (.iload_n 3, 1) := by decide +kernel
theorem dX7_closing_116 : decode cX7_closing 116 = .ok (.iload_n 1, 1) := by decide +kernel
theorem dX7_closing_117 : decode cX7_closing 117 = .ok (.invokevirtual 202, 3) := by decide +kernel
theorem dX7_closing_120 : decode cX7_closing 120 = .ok (.ladd, 1) := by decide +kernel
theorem dX7_closing_121 : decode cX7_closing 121 = .ok (.lreturn, 1) := by decide +kernel
theorem dX7_field_0 : decode cX7_field 0 = .ok (.iload_n 1, 1) := by decide +kernel
theorem dX7_field_1 : decode cX7_field 1 = .ok (.invokestatic 114, 3) := by decide +kernel
theorem dX7_field_4 : decode cX7_field 4 = .ok (.ifCond .eq 17, 3) := by decide +kernel
theorem dX7_field_7 : decode cX7_field 7 = .ok (.iload_n 2, 1) := by decide +kernel
theorem dX7_field_8 : decode cX7_field 8 = .ok (.invokestatic 92, 3) := by decide +kernel
theorem dX7_field_11 : decode cX7_field 11 = .ok (.ifCond .eq 10, 3) := by decide +kernel
theorem dX7_field_14 : decode cX7_field 14 = .ok (.iload_n 3, 1) := by decide +kernel
theorem dX7_field_15 : decode cX7_field 15 = .ok (.invokestatic 92, 3) := by decide +kernel
theorem dX7_field_18 : decode cX7_field 18 = .ok (.ifCond .ne 7, 3) := by decide +kernel
theorem dX7_field_21 : decode cX7_field 21 = .ok (.ldc2_w 83, 3) := by decide +kernel
theorem dX7_field_24 : decode cX7_field 24 = .ok (.lreturn, 1) := by decide +kernel
theorem dX7_field_25 : decode cX7_field 25 = .ok (.aload_n 0, 1) := by decide +kernel
theorem dX7_field_26 : decode cX7_field 26 = .ok (.getfield 18, 3) := by decide +kernel
theorem dX7_field_29 : decode cX7_field 29 = .ok (.iload_n 1, 1) := by decide +kernel
theorem dX7_field_30 : decode cX7_field 30 = .ok (.invokevirtual 205, 3) := by decide +kernel
theorem dX7_field_33 : decode cX7_field 33 = .ok (.ifCond .eq 18, 3) := by decide +kernel
theorem dX7_field_36 : decode cX7_field 36 = .ok (.aload_n 0, 1) := by decide +kernel
theorem dX7_field_37 : decode cX7_field 37 = .ok (.getfield 18, 3) := by decide +kernel
theorem dX7_field_40 : decode cX7_field 40 = .ok (.iload_n 2, 1) := by decide +kernel
theorem dX7_field_41 : decode cX7_field 41 = .ok (.iload_n 3, 1) := by decide +kernel
theorem dX7_field_42 : decode cX7_field 42 = .ok (.bipush (-6), 2) := by decide +kernel
theorem dX7_field_44 : decode cX7_field 44 = .ok (.invokevirtual 208, 3) := by decide +kernel
theorem dX7_field_47 : decode cX7_field 47 = .ok (.i2l, 1) := by decide +kernel
theorem dX7_field_48 : decode cX7_field 48 = .ok (.goto 6, 3) := by decide +kernel
theorem dX7_field_51 : decode cX7_field 51 = .ok (.ldc2_w 133, 3) := by decide +kernel
theorem dX7_field_54 : decode cX7_field 54 = .ok (.lreturn, 1) := by decide +kernel
theorem dX7_low_0 : decode cX7_low 0 = .ok (.iload_n 1, 1) := by decide +kernel
theorem dX7_low_1 : decode cX7_low 1 = .ok (.invokestatic 114, 3) := by decide +kernel
theorem dX7_low_4 : decode cX7_low 4 = .ok (.ifCond .ne 6, 3) := by decide +kernel
theorem dX7_low_7 : decode cX7_low 7 = .ok (.bipush (-2), 2) := by decide +kernel
theorem dX7_low_9 : decode cX7_low 9 = .ok (.ireturn, 1) := by decide +kernel
theorem dX7_low_10 : decode cX7_low 10 = .ok (.aload_n 0, 1) := by decide +kernel
theorem dX7_low_11 : decode cX7_low 11 = .ok (.getfield 18, 3) := by decide +kernel
theorem dX7_low_14 : decode cX7_low 14 = .ok (.iload_n 1, 1) := by decide +kernel
theorem dX7_low_15 : decode cX7_low 15 = .ok (.invokevirtual 212, 3) := by decide +kernel
theorem dX7_low_18 : decode cX7_low 18 = .ok (.pop, 1) := by decide +kernel
theorem dX7_low_19 : decode cX7_low 19 = .ok (.iload_n 2, 1) := by decide +kernel
theorem dX7_low_20 : decode cX7_low 20 = .ok (.iconst (-1), 1) := by decide +kernel
theorem dX7_low_21 : decode cX7_low 21 = .ok (.if_icmp .ne 13, 3) := by decide +kernel
theorem dX7_low_24 : decode cX7_low 24 = .ok (.aload_n 0, 1) := by decide +kernel
theorem dX7_low_25 : decode cX7_low 25 = .ok (.getfield 18, 3) := by decide +kernel
theorem dX7_low_28 : decode cX7_low 28 = .ok (.invokevirtual 215, 3) := by decide +kernel
theorem dX7_low_31 : decode cX7_low 31 = .ok (.goto 11, 3) := by decide +kernel
theorem dX7_low_34 : decode cX7_low 34 = .ok (.aload_n 0, 1) := by decide +kernel
theorem dX7_low_35 : decode cX7_low 35 = .ok (.getfield 18, 3) := by decide +kernel
theorem dX7_low_38 : decode cX7_low 38 = .ok (.iload_n 2, 1) := by decide +kernel
theorem dX7_low_39 : decode cX7_low 39 = .ok (.invokevirtual 218, 3) := by decide +kernel
theorem dX7_low_42 : decode cX7_low 42 = .ok (.ireturn, 1) := by decide +kernel
theorem dX7_follow_0 : decode cX7_follow 0 = .ok (.iload_n 1, 1) := by decide +kernel
theorem dX7_follow_1 : decode cX7_follow 1 = .ok (.invokestatic 114, 3) := by decide +kernel
theorem dX7_follow_4 : decode cX7_follow 4 = .ok (.ifCond .eq 13, 3) := by decide +kernel
theorem dX7_follow_7 : decode cX7_follow 7 = .ok (.iload_n 3, 1) := by decide +kernel
theorem dX7_follow_8 : decode cX7_follow 8 = .ok (.iconst 0, 1) := by decide +kernel
theorem dX7_follow_9 : decode cX7_follow 9 = .ok (.bipush 47, 2) := by decide +kernel
theorem dX7_follow_11 : decode cX7_follow 11 = .ok (.invokestatic 95, 3) := by decide +kernel
theorem dX7_follow_14 : decode cX7_follow 14 = .ok (.ifCond .ne 6, 3) := by decide +kernel
theorem dX7_follow_17 : decode cX7_follow 17 = .ok (.bipush (-2), 2) := by decide +kernel
theorem dX7_follow_19 : decode cX7_follow 19 = .ok (.ireturn, 1) := by decide +kernel
theorem dX7_follow_20 : decode cX7_follow 20 = .ok (.aload_n 0, 1) := by decide +kernel
theorem dX7_follow_21 : decode cX7_follow 21 = .ok (.getfield 18, 3) := by decide +kernel
theorem dX7_follow_24 : decode cX7_follow 24 = .ok (.iload_n 1, 1) := by decide +kernel
theorem dX7_follow_25 : decode cX7_follow 25 = .ok (.invokevirtual 212, 3) := by decide +kernel
theorem dX7_follow_28 : decode cX7_follow 28 = .ok (.pop, 1) := by decide +kernel
theorem dX7_follow_29 : decode cX7_follow 29 = .ok (.aload_n 0, 1) := by decide +kernel
theorem dX7_follow_30 : decode cX7_follow 30 = .ok (.getfield 18, 3) := by decide +kernel
theorem dX7_follow_33 : decode cX7_follow 33 = .ok (.iload_n 2, 1) := by decide +kernel
theorem dX7_follow_34 : decode cX7_follow 34 = .ok (.invokevirtual 218, 3) := by decide +kernel
theorem dX7_follow_37 : decode cX7_follow 37 = .ok (.istore 4, 2) := by decide +kernel
theorem dX7_follow_39 : decode cX7_follow 39 = .ok (.iload_n 1, 1) := by decide +kernel
theorem dX7_follow_40 : decode cX7_follow 40 = .ok (.iconst 1, 1) := by decide +kernel
theorem dX7_follow_41 : decode cX7_follow 41 = .ok (.iadd, 1) := by decide +kernel
theorem dX7_follow_42 : decode cX7_follow 42 = .ok (.istore 5, 2) := by decide +kernel
theorem dX7_follow_44 : decode cX7_follow 44 = .ok (.iload 5, 2) := by decide +kernel
theorem dX7_follow_46 : decode cX7_follow 46 = .ok (.iload_n 1, 1) := by decide +kernel
theorem dX7_follow_47 : decode cX7_follow 47 = .ok (.iload_n 3, 1) := by decide +kernel
theorem dX7_follow_48 : decode cX7_follow 48 = .ok (.iadd, 1) := by decide +kernel
theorem dX7_follow_49 : decode cX7_follow 49 = .ok (.if_icmp .gt 47, 3) := by decide +kernel
theorem dX7_follow_52 : decode cX7_follow 52 = .ok (.iload 4, 2) := by decide +kernel
theorem dX7_follow_54 : decode cX7_follow 54 = .ok (.bipush (-6), 2) := by decide +kernel
theorem dX7_follow_56 : decode cX7_follow 56 = .ok (.if_icmp .eq 40, 3) := by decide +kernel
theorem dX7_follow_59 : decode cX7_follow 59 = .ok (.iload 5, 2) := by decide +kernel
theorem dX7_follow_61 : decode cX7_follow 61 = .ok (.bipush 48, 2) := by decide +kernel
theorem dX7_follow_63 : decode cX7_follow 63 = .ok (.if_icmp .lt 6, 3) := by decide +kernel
theorem dX7_follow_66 : decode cX7_follow 66 = .ok (.bipush (-6), 2) := by decide +kernel
theorem dX7_follow_68 : decode cX7_follow 68 = .ok (.ireturn, 1) := by decide +kernel
theorem dX7_follow_69 : decode cX7_follow 69 = .ok (.aload_n 0, 1) := by decide +kernel
theorem dX7_follow_70 : decode cX7_follow 70 = .ok (.getfield 18, 3) := by decide +kernel
theorem dX7_follow_73 : decode cX7_follow 73 = .ok (.iload 5, 2) := by decide +kernel
theorem dX7_follow_75 : decode cX7_follow 75 = .ok (.invokevirtual 212, 3) := by decide +kernel
theorem dX7_follow_78 : decode cX7_follow 78 = .ok (.pop, 1) := by decide +kernel
theorem dX7_follow_79 : decode cX7_follow 79 = .ok (.aload_n 0, 1) := by decide +kernel
theorem dX7_follow_80 : decode cX7_follow 80 = .ok (.getfield 18, 3) := by decide +kernel
theorem dX7_follow_83 : decode cX7_follow 83 = .ok (.iload 4, 2) := by decide +kernel
theorem dX7_follow_85 : decode cX7_follow 85 = .ok (.invokevirtual 221, 3) := by decide +kernel
theorem dX7_follow_88 : decode cX7_follow 88 = .ok (.istore 4, 2) := by decide +kernel
theorem dX7_follow_90 : decode cX7_follow 90 = .ok (.iinc 5 1, 3) := by decide +kernel
theorem dX7_follow_93 : decode cX7_follow 93 = .ok (.goto (-49), 3) := by decide +kernel
theorem dX7_follow_96 : decode cX7_follow 96 = .ok (.iload 4, 2) := by decide +kernel
theorem dX7_follow_98 : decode cX7_follow 98 = .ok (.ireturn, 1) := by decide +kernel
theorem dX7_lines_0 : decode cX7_lines 0 = .ok (.iload_n 1, 1) := by decide +kernel
theorem dX7_lines_1 : decode cX7_lines 1 = .ok (.invokestatic 114, 3) := by decide +kernel
theorem dX7_lines_4 : decode cX7_lines 4 = .ok (.ifCond .eq 19, 3) := by decide +kernel
theorem dX7_lines_7 : decode cX7_lines 7 = .ok (.iload_n 2, 1) := by decide +kernel
theorem dX7_lines_8 : decode cX7_lines 8 = .ok (.invokestatic 135, 3) := by decide +kernel
theorem dX7_lines_11 : decode cX7_lines 11 = .ok (.ifCond .eq 12, 3) := by decide +kernel
theorem dX7_lines_14 : decode cX7_lines 14 = .ok (.iload_n 3, 1) := by decide +kernel
theorem dX7_lines_15 : decode cX7_lines 15 = .ok (.iconst 0, 1) := by decide +kernel
theorem dX7_lines_16 : decode cX7_lines 16 = .ok (.iconst 3, 1) := by decide +kernel
theorem dX7_lines_17 : decode cX7_lines 17 = .ok (.invokestatic 95, 3) := by decide +kernel
theorem dX7_lines_20 : decode cX7_lines 20 = .ok (.ifCond .ne 6, 3) := by decide +kernel
theorem dX7_lines_23 : decode cX7_lines 23 = .ok (.bipush (-2), 2) := by decide +kernel
theorem dX7_lines_25 : decode cX7_lines 25 = .ok (.ireturn, 1) := by decide +kernel
theorem dX7_lines_26 : decode cX7_lines 26 = .ok (.aload_n 0, 1) := by decide +kernel
theorem dX7_lines_27 : decode cX7_lines 27 = .ok (.getfield 18, 3) := by decide +kernel
theorem dX7_lines_30 : decode cX7_lines 30 = .ok (.iload_n 1, 1) := by decide +kernel
theorem dX7_lines_31 : decode cX7_lines 31 = .ok (.invokevirtual 212, 3) := by decide +kernel
theorem dX7_lines_34 : decode cX7_lines 34 = .ok (.ifCond .ne 6, 3) := by decide +kernel
theorem dX7_lines_37 : decode cX7_lines 37 = .ok (.bipush (-3), 2) := by decide +kernel
theorem dX7_lines_39 : decode cX7_lines 39 = .ok (.ireturn, 1) := by decide +kernel
theorem dX7_lines_40 : decode cX7_lines 40 = .ok (.aload_n 0, 1) := by decide +kernel
theorem dX7_lines_41 : decode cX7_lines 41 = .ok (.getfield 25, 3) := by decide +kernel
theorem dX7_lines_44 : decode cX7_lines 44 = .ok (.aload_n 0, 1) := by decide +kernel
theorem dX7_lines_45 : decode cX7_lines 45 = .ok (.getfield 18, 3) := by decide +kernel
theorem dX7_lines_48 : decode cX7_lines 48 = .ok (.iload_n 2, 1) := by decide +kernel
theorem dX7_lines_49 : decode cX7_lines 49 = .ok (.invokevirtual 224, 3) := by decide +kernel
theorem dX7_lines_52 : decode cX7_lines 52 = .ok (.aload_n 0, 1) := by decide +kernel
theorem dX7_lines_53 : decode cX7_lines 53 = .ok (.getfield 25, 3) := by decide +kernel
theorem dX7_lines_56 : decode cX7_lines 56 = .ok (.iload_n 3, 1) := by decide +kernel
theorem dX7_lines_57 : decode cX7_lines 57 = .ok (.invokevirtual 228, 3) := by decide +kernel
theorem dX7_lines_60 : decode cX7_lines 60 = .ok (.ireturn, 1) := by decide +kernel
theorem dX7_line_0 : decode cX7_line 0 = .ok (.iload_n 1, 1) := by decide +kernel
theorem dX7_line_1 : decode cX7_line 1 = .ok (.invokestatic 114, 3) := by decide +kernel
theorem dX7_line_4 : decode cX7_line 4 = .ok (.ifCond .eq 20, 3) := by decide +kernel
theorem dX7_line_7 : decode cX7_line 7 = .ok (.iload_n 2, 1) := by decide +kernel
theorem dX7_line_8 : decode cX7_line 8 = .ok (.invokestatic 135, 3) := by decide +kernel
theorem dX7_line_11 : decode cX7_line 11 = .ok (.ifCond .eq 13, 3) := by decide +kernel
theorem dX7_line_14 : decode cX7_line 14 = .ok (.iload 4, 2) := by decide +kernel
theorem dX7_line_16 : decode cX7_line 16 = .ok (.iconst 0, 1) := by decide +kernel
theorem dX7_line_17 : decode cX7_line 17 = .ok (.iconst 3, 1) := by decide +kernel
theorem dX7_line_18 : decode cX7_line 18 = .ok (.invokestatic 95, 3) := by decide +kernel
theorem dX7_line_21 : decode cX7_line 21 = .ok (.ifCond .ne 6, 3) := by decide +kernel
theorem dX7_line_24 : decode cX7_line 24 = .ok (.bipush (-2), 2) := by decide +kernel
theorem dX7_line_26 : decode cX7_line 26 = .ok (.ireturn, 1) := by decide +kernel
theorem dX7_line_27 : decode cX7_line 27 = .ok (.aload_n 0, 1) := by decide +kernel
theorem dX7_line_28 : decode cX7_line 28 = .ok (.getfield 18, 3) := by decide +kernel
theorem dX7_line_31 : decode cX7_line 31 = .ok (.iload_n 1, 1) := by decide +kernel
theorem dX7_line_32 : decode cX7_line 32 = .ok (.invokevirtual 212, 3) := by decide +kernel
theorem dX7_line_35 : decode cX7_line 35 = .ok (.ifCond .ne 6, 3) := by decide +kernel
theorem dX7_line_38 : decode cX7_line 38 = .ok (.bipush (-3), 2) := by decide +kernel
theorem dX7_line_40 : decode cX7_line 40 = .ok (.ireturn, 1) := by decide +kernel
theorem dX7_line_41 : decode cX7_line 41 = .ok (.aload_n 0, 1) := by decide +kernel
theorem dX7_line_42 : decode cX7_line 42 = .ok (.getfield 25, 3) := by decide +kernel
theorem dX7_line_45 : decode cX7_line 45 = .ok (.aload_n 0, 1) := by decide +kernel
theorem dX7_line_46 : decode cX7_line 46 = .ok (.getfield 18, 3) := by decide +kernel
theorem dX7_line_49 : decode cX7_line 49 = .ok (.iload_n 2, 1) := by decide +kernel
theorem dX7_line_50 : decode cX7_line 50 = .ok (.invokevirtual 224, 3) := by decide +kernel
theorem dX7_line_53 : decode cX7_line 53 = .ok (.aload_n 0, 1) := by decide +kernel
theorem dX7_line_54 : decode cX7_line 54 = .ok (.getfield 25, 3) := by decide +kernel
theorem dX7_line_57 : decode cX7_line 57 = .ok (.iload_n 3, 1) := by decide +kernel
theorem dX7_line_58 : decode cX7_line 58 = .ok (.invokevirtual 231, 3) := by decide +kernel
theorem dX7_line_61 : decode cX7_line 61 = .ok (.ifCond .eq 16, 3) := by decide +kernel
theorem dX7_line_64 : decode cX7_line 64 = .ok (.aload_n 0, 1) := by decide +kernel
theorem dX7_line_65 : decode cX7_line 65 = .ok (.getfield 25, 3) := by decide +kernel
theorem dX7_line_68 : decode cX7_line 68 = .ok (.iload_n 3, 1) := by decide +kernel
theorem dX7_line_69 : decode cX7_line 69 = .ok (.iload 4, 2) := by decide +kernel
theorem dX7_line_71 : decode cX7_line 71 = .ok (.invokevirtual 234, 3) := by decide +kernel
theorem dX7_line_74 : decode cX7_line 74 = .ok (.goto 4, 3) := by decide +kernel
theorem dX7_line_77 : decode cX7_line 77 = .ok (.iconst (-1), 1) := by decide +kernel
theorem dX7_line_78 : decode cX7_line 78 = .ok (.ireturn, 1) := by decide +kernel
theorem dX7_drift_0 : decode cX7_drift 0 = .ok (.aload_n 0, 1) := by decide +kernel
theorem dX7_drift_1 : decode cX7_drift 1 = .ok (.getfield 18, 3) := by decide +kernel
theorem dX7_drift_4 : decode cX7_drift 4 = .ok (.iload_n 1, 1) := by decide +kernel
theorem dX7_drift_5 : decode cX7_drift 5 = .ok (.invokevirtual 110, 3) := by decide +kernel
theorem dX7_drift_8 : decode cX7_drift 8 = .ok (.ifnonnull 7, 3) := by decide +kernel
theorem dX7_drift_11 : decode cX7_drift 11 = .ok (.ldc2_w 74, 3) := by decide +kernel
theorem dX7_drift_14 : decode cX7_drift 14 = .ok (.lreturn, 1) := by decide +kernel
theorem dX7_drift_15 : decode cX7_drift 15 = .ok (.iload_n 2, 1) := by decide +kernel
theorem dX7_drift_16 : decode cX7_drift 16 = .ok (.iconst 0, 1) := by decide +kernel
theorem dX7_drift_17 : decode cX7_drift 17 = .ok (.iconst 2, 1) := by decide +kernel
theorem dX7_drift_18 : decode cX7_drift 18 = .ok (.invokestatic 95, 3) := by decide +kernel
theorem dX7_drift_21 : decode cX7_drift 21 = .ok (.ifCond .ne 7, 3) := by decide +kernel
theorem dX7_drift_24 : decode cX7_drift 24 = .ok (.ldc2_w 83, 3) := by decide +kernel
theorem dX7_drift_27 : decode cX7_drift 27 = .ok (.lreturn, 1) := by decide +kernel
theorem dX7_drift_28 : decode cX7_drift 28 = .ok (.aload_n 0, 1) := by decide +kernel
theorem dX7_drift_29 : decode cX7_drift 29 = .ok (.getfield 39, 3) := by decide +kernel
theorem dX7_drift_32 : decode cX7_drift 32 = .ok (.aload_n 0, 1) := by decide +kernel
theorem dX7_drift_33 : decode cX7_drift 33 = .ok (.getfield 18, 3) := by decide +kernel
theorem dX7_drift_36 : decode cX7_drift 36 = .ok (.iload_n 1, 1) := by decide +kernel
theorem dX7_drift_37 : decode cX7_drift 37 = .ok (.invokevirtual 238, 3) := by decide +kernel
theorem dX7_drift_40 : decode cX7_drift 40 = .ok (.aload_n 0, 1) := by decide +kernel
theorem dX7_drift_41 : decode cX7_drift 41 = .ok (.getfield 39, 3) := by decide +kernel
theorem dX7_drift_44 : decode cX7_drift 44 = .ok (.invokevirtual 241, 3) := by decide +kernel
theorem dX7_drift_47 : decode cX7_drift 47 = .ok (.ifCond .ne 7, 3) := by decide +kernel
theorem dX7_drift_50 : decode cX7_drift 50 = .ok (.ldc2_w 133, 3) := by decide +kernel
theorem dX7_drift_53 : decode cX7_drift 53 = .ok (.lreturn, 1) := by decide +kernel
theorem dX7_drift_54 : decode cX7_drift 54 = .ok (.iload_n 2, 1) := by decide +kernel
theorem dX7_drift_55 : decode cX7_drift 55 = .ok (.ifCond .ne 14, 3) := by decide +kernel
theorem dX7_drift_58 : decode cX7_drift 58 = .ok (.aload_n 0, 1) := by decide +kernel
theorem dX7_drift_59 : decode cX7_drift 59 = .ok (.getfield 39, 3) := by decide +kernel
theorem dX7_drift_62 : decode cX7_drift 62 = .ok (.invokevirtual 244, 3) := by decide +kernel
theorem dX7_drift_65 : decode cX7_drift 65 = .ok (.i2l, 1) := by decide +kernel
theorem dX7_drift_66 : decode cX7_drift 66 = .ok (.goto 23, 3) := by decide +kernel
theorem dX7_drift_69 : decode cX7_drift 69 = .ok (.aload_n 0, 1) := by decide +kernel
theorem dX7_drift_70 : decode cX7_drift 70 = .ok (.getfield 39, 3) := by decide +kernel
theorem dX7_drift_73 : decode cX7_drift 73 = .ok (.invokevirtual 247, 3) := by decide +kernel
theorem dX7_drift_76 : decode cX7_drift 76 = .ok (.aload_n 0, 1) := by decide +kernel
theorem dX7_drift_77 : decode cX7_drift 77 = .ok (.getfield 39, 3) := by decide +kernel
theorem dX7_drift_80 : decode cX7_drift 80 = .ok (.invokevirtual 250, 3) := by decide +kernel
theorem dX7_drift_83 : decode cX7_drift 83 = .ok (.iload_n 2, 1) := by decide +kernel
theorem dX7_drift_84 : decode cX7_drift 84 = .ok (.iconst 1, 1) := by decide +kernel
theorem dX7_drift_85 : decode cX7_drift 85 = .ok (.isub, 1) := by decide +kernel
theorem dX7_drift_86 : decode cX7_drift 86 = .ok (.invokestatic 181, 3) := by decide +kernel
theorem dX7_drift_89 : decode cX7_drift 89 = .ok (.lreturn, 1) := by decide +kernel
theorem dX7_mend_0 : decode cX7_mend 0 = .ok (.aload_n 0, 1) := by decide +kernel
theorem dX7_mend_1 : decode cX7_mend 1 = .ok (.getfield 18, 3) := by decide +kernel
theorem dX7_mend_4 : decode cX7_mend 4 = .ok (.iload_n 1, 1) := by decide +kernel
theorem dX7_mend_5 : decode cX7_mend 5 = .ok (.invokevirtual 110, 3) := by decide +kernel
theorem dX7_mend_8 : decode cX7_mend 8 = .ok (.astore_n 2, 1) := by decide +kernel
theorem dX7_mend_9 : decode cX7_mend 9 = .ok (.aload_n 2, 1) := by decide +kernel
theorem dX7_mend_10 : decode cX7_mend 10 = .ok (.ifnonnull 7, 3) := by decide +kernel
theorem dX7_mend_13 : decode cX7_mend 13 = .ok (.ldc2_w 74, 3) := by decide +kernel
theorem dX7_mend_16 : decode cX7_mend 16 = .ok (.lreturn, 1) := by decide +kernel
theorem dX7_mend_17 : decode cX7_mend 17 = .ok (.aload_n 2, 1) := by decide +kernel
theorem dX7_mend_18 : decode cX7_mend 18 = .ok (.invokevirtual 251, 3) := by decide +kernel
theorem dX7_mend_21 : decode cX7_mend 21 = .ok (.iconst 3, 1) := by decide +kernel
theorem dX7_mend_22 : decode cX7_mend 22 = .ok (.if_icmp .lt 7, 3) := by decide +kernel
theorem dX7_mend_25 : decode cX7_mend 25 = .ok (.ldc2_w 254, 3) := by decide +kernel
theorem dX7_mend_28 : decode cX7_mend 28 = .ok (.lreturn, 1) := by decide +kernel
theorem dX7_mend_29 : decode cX7_mend 29 = .ok (.aload_n 0, 1) := by decide +kernel
theorem dX7_mend_30 : decode cX7_mend 30 = .ok (.getfield 39, 3) := by decide +kernel
theorem dX7_mend_33 : decode cX7_mend 33 = .ok (.aload_n 0, 1) := by decide +kernel
theorem dX7_mend_34 : decode cX7_mend 34 = .ok (.getfield 18, 3) := by decide +kernel
theorem dX7_mend_37 : decode cX7_mend 37 = .ok (.iload_n 1, 1) := by decide +kernel
theorem dX7_mend_38 : decode cX7_mend 38 = .ok (.invokevirtual 238, 3) := by decide +kernel
theorem dX7_mend_41 : decode cX7_mend 41 = .ok (.aload_n 0, 1) := by decide +kernel
theorem dX7_mend_42 : decode cX7_mend 42 = .ok (.getfield 39, 3) := by decide +kernel
theorem dX7_mend_45 : decode cX7_mend 45 = .ok (.invokevirtual 241, 3) := by decide +kernel
theorem dX7_mend_48 : decode cX7_mend 48 = .ok (.ifCond .ne 7, 3) := by decide +kernel
theorem dX7_mend_51 : decode cX7_mend 51 = .ok (.ldc2_w 133, 3) := by decide +kernel
theorem dX7_mend_54 : decode cX7_mend 54 = .ok (.lreturn, 1) := by decide +kernel
theorem dX7_mend_55 : decode cX7_mend 55 = .ok (.aload_n 0, 1) := by decide +kernel
theorem dX7_mend_56 : decode cX7_mend 56 = .ok (.getfield 39, 3) := by decide +kernel
theorem dX7_mend_59 : decode cX7_mend 59 = .ok (.invokevirtual 247, 3) := by decide +kernel
theorem dX7_mend_62 : decode cX7_mend 62 = .ok (.aload_n 0, 1) := by decide +kernel
theorem dX7_mend_63 : decode cX7_mend 63 = .ok (.getfield 39, 3) := by decide +kernel
theorem dX7_mend_66 : decode cX7_mend 66 = .ok (.invokevirtual 250, 3) := by decide +kernel
theorem dX7_mend_69 : decode cX7_mend 69 = .ok (.invokestatic 256, 3) := by decide +kernel
theorem dX7_mend_72 : decode cX7_mend 72 = .ok (.lstore_n 3, 1) := by decide +kernel
theorem dX7_mend_73 : decode cX7_mend 73 = .ok (.aload_n 2, 1) := by decide +kernel
theorem dX7_mend_74 : decode cX7_mend 74 = .ok (.aload_n 0, 1) := by decide +kernel
theorem dX7_mend_75 : decode cX7_mend 75 = .ok (.getfield 39, 3) := by decide +kernel
theorem dX7_mend_78 : decode cX7_mend 78 = .ok (.invokevirtual 244, 3) := by decide +kernel
theorem dX7_mend_81 : decode cX7_mend 81 = .ok (.lload_n 3, 1) := by decide +kernel
theorem dX7_mend_82 : decode cX7_mend 82 = .ok (.invokevirtual 260, 3) := by decide +kernel
theorem dX7_mend_85 : decode cX7_mend 85 = .ok (.lload_n 3, 1) := by decide +kernel
theorem dX7_mend_86 : decode cX7_mend 86 = .ok (.lreturn, 1) := by decide +kernel
theorem dX7_told_0 : decode cX7_told 0 = .ok (.iload_n 1, 1) := by decide +kernel
theorem dX7_told_1 : decode cX7_told 1 = .ok (.tableswitch 75 0 4 #[35, 43, 51, 59, 67], 35) := by decide +kernel
theorem dX7_told_36 : decode cX7_told 36 = .ok (.aload_n 0, 1) := by decide +kernel
theorem dX7_told_37 : decode cX7_told 37 = .ok (.getfield 18, 3) := by decide +kernel
theorem dX7_told_40 : decode cX7_told 40 = .ok (.invokevirtual 264, 3) := by decide +kernel
theorem dX7_told_43 : decode cX7_told 43 = .ok (.ireturn, 1) := by decide +kernel
theorem dX7_told_44 : decode cX7_told 44 = .ok (.aload_n 0, 1) := by decide +kernel
theorem dX7_told_45 : decode cX7_told 45 = .ok (.getfield 18, 3) := by decide +kernel
theorem dX7_told_48 : decode cX7_told 48 = .ok (.invokevirtual 267, 3) := by decide +kernel
theorem dX7_told_51 : decode cX7_told 51 = .ok (.ireturn, 1) := by decide +kernel
theorem dX7_told_52 : decode cX7_told 52 = .ok (.aload_n 0, 1) := by decide +kernel
theorem dX7_told_53 : decode cX7_told 53 = .ok (.getfield 32, 3) := by decide +kernel
theorem dX7_told_56 : decode cX7_told 56 = .ok (.invokevirtual 154, 3) := by decide +kernel
theorem dX7_told_59 : decode cX7_told 59 = .ok (.ireturn, 1) := by decide +kernel
theorem dX7_told_60 : decode cX7_told 60 = .ok (.aload_n 0, 1) := by decide +kernel
theorem dX7_told_61 : decode cX7_told 61 = .ok (.getfield 32, 3) := by decide +kernel
theorem dX7_told_64 : decode cX7_told 64 = .ok (.invokevirtual 193, 3) := by decide +kernel
theorem dX7_told_67 : decode cX7_told 67 = .ok (.ireturn, 1) := by decide +kernel
theorem dX7_told_68 : decode cX7_told 68 = .ok (.aload_n 0, 1) := by decide +kernel
theorem dX7_told_69 : decode cX7_told 69 = .ok (.getfield 18, 3) := by decide +kernel
theorem dX7_told_72 : decode cX7_told 72 = .ok (.invokevirtual 270, 3) := by decide +kernel
theorem dX7_told_75 : decode cX7_told 75 = .ok (.ireturn, 1) := by decide +kernel
theorem dX7_told_76 : decode cX7_told 76 = .ok (.bipush (-2), 2) := by decide +kernel
theorem dX7_told_78 : decode cX7_told 78 = .ok (.ireturn, 1) := by decide +kernel
theorem dX7_findGlass_0 : decode cX7_findGlass 0 = .ok (.iload_n 1, 1) := by decide +kernel
theorem dX7_findGlass_1 : decode cX7_findGlass 1 = .ok (.iconst 0, 1) := by decide +kernel
theorem dX7_findGlass_2 : decode cX7_findGlass 2 = .ok (.iconst 5, 1) := by decide +kernel
theorem dX7_findGlass_3 : decode cX7_findGlass 3 = .ok (.invokestatic 95, 3) := by decide +kernel
theorem dX7_findGlass_6 : decode cX7_findGlass 6 = .ok (.ifCond .eq 12, 3) := by decide +kernel
theorem dX7_findGlass_9 : decode cX7_findGlass 9 = .ok (.aload_n 0, 1) := by decide +kernel
theorem dX7_findGlass_10 : decode cX7_findGlass 10 = .ok (.getfield 11, 3) := by decide +kernel
theorem dX7_findGlass_13 : decode cX7_findGlass 13 = .ok (.iload_n 1, 1) := by decide +kernel
theorem dX7_findGlass_14 : decode cX7_findGlass 14 = .ok (.aaload, 1) := by decide +kernel
theorem dX7_findGlass_15 : decode cX7_findGlass 15 = .ok (.goto 4, 3) := by decide +kernel
theorem dX7_findGlass_18 : decode cX7_findGlass 18 = .ok (.aconst_null, 1) := by decide +kernel
theorem dX7_findGlass_19 : decode cX7_findGlass 19 = .ok (.areturn, 1) := by decide +kernel
theorem dX7_isWithin_0 : decode cX7_isWithin 0 = .ok (.iload_n 0, 1) := by decide +kernel
theorem dX7_isWithin_1 : decode cX7_isWithin 1 = .ok (.iload_n 1, 1) := by decide +kernel
theorem dX7_isWithin_2 : decode cX7_isWithin 2 = .ok (.if_icmp .lt 12, 3) := by decide +kernel
theorem dX7_isWithin_5 : decode cX7_isWithin 5 = .ok (.iload_n 0, 1) := by decide +kernel
theorem dX7_isWithin_6 : decode cX7_isWithin 6 = .ok (.iload_n 2, 1) := by decide +kernel
theorem dX7_isWithin_7 : decode cX7_isWithin 7 = .ok (.if_icmp .gt 7, 3) := by decide +kernel
theorem dX7_isWithin_10 : decode cX7_isWithin 10 = .ok (.iconst 1, 1) := by decide +kernel
theorem dX7_isWithin_11 : decode cX7_isWithin 11 = .ok (.goto 4, 3) := by decide +kernel
theorem dX7_isWithin_14 : decode cX7_isWithin 14 = .ok (.iconst 0, 1) := by decide +kernel
theorem dX7_isWithin_15 : decode cX7_isWithin 15 = .ok (.ireturn, 1) := by decide +kernel
theorem dX7_isReading_0 : decode cX7_isReading 0 = .ok (.iload_n 0, 1) := by decide +kernel
theorem dX7_isReading_1 : decode cX7_isReading 1 = .ok (.iconst 1, 1) := by decide +kernel
theorem dX7_isReading_2 : decode cX7_isReading 2 = .ok (.sipush 12000, 3) := by decide +kernel
theorem dX7_isReading_5 : decode cX7_isReading 5 = .ok (.invokestatic 95, 3) := by decide +kernel
theorem dX7_isReading_8 : decode cX7_isReading 8 = .ok (.ireturn, 1) := by decide +kernel
theorem dX7_isRoom_0 : decode cX7_isRoom 0 = .ok (.iload_n 0, 1) := by decide +kernel
theorem dX7_isRoom_1 : decode cX7_isRoom 1 = .ok (.iconst 1, 1) := by decide +kernel
theorem dX7_isRoom_2 : decode cX7_isRoom 2 = .ok (.sipush 4000, 3) := by decide +kernel
theorem dX7_isRoom_5 : decode cX7_isRoom 5 = .ok (.invokestatic 95, 3) := by decide +kernel
theorem dX7_isRoom_8 : decode cX7_isRoom 8 = .ok (.ireturn, 1) := by decide +kernel
theorem dX7_isWarmth_0 : decode cX7_isWarmth 0 = .ok (.iload_n 0, 1) := by decide +kernel
theorem dX7_isWarmth_1 : decode cX7_isWarmth 1 = .ok (.bipush (-30), 2) := by decide +kernel
theorem dX7_isWarmth_3 : decode cX7_isWarmth 3 = .ok (.bipush 50, 2) := by decide +kernel
theorem dX7_isWarmth_5 : decode cX7_isWarmth 5 = .ok (.invokestatic 95, 3) := by decide +kernel
theorem dX7_isWarmth_8 : decode cX7_isWarmth 8 = .ok (.ireturn, 1) := by decide +kernel
theorem dX7_isHour_0 : decode cX7_isHour 0 = .ok (.iload_n 0, 1) := by decide +kernel
theorem dX7_isHour_1 : decode cX7_isHour 1 = .ok (.iconst 0, 1) := by decide +kernel
theorem dX7_isHour_2 : decode cX7_isHour 2 = .ok (.bipush 47, 2) := by decide +kernel
theorem dX7_isHour_4 : decode cX7_isHour 4 = .ok (.invokestatic 95, 3) := by decide +kernel
theorem dX7_isHour_7 : decode cX7_isHour 7 = .ok (.ireturn, 1) := by decide +kernel
theorem dX7_isOnMap_0 : decode cX7_isOnMap 0 = .ok (.iload_n 0, 1) := by decide +kernel
theorem dX7_isOnMap_1 : decode cX7_isOnMap 1 = .ok (.iconst 0, 1) := by decide +kernel
theorem dX7_isOnMap_2 : decode cX7_isOnMap 2 = .ok (.bipush 7, 2) := by decide +kernel
theorem dX7_isOnMap_4 : decode cX7_isOnMap 4 = .ok (.invokestatic 95, 3) := by decide +kernel
theorem dX7_isOnMap_7 : decode cX7_isOnMap 7 = .ok (.ireturn, 1) := by decide +kernel
theorem dX7_isPart_0 : decode cX7_isPart 0 = .ok (.iload_n 0, 1) := by decide +kernel
theorem dX7_isPart_1 : decode cX7_isPart 1 = .ok (.ifCond .eq 8, 3) := by decide +kernel
theorem dX7_isPart_4 : decode cX7_isPart 4 = .ok (.iload_n 0, 1) := by decide +kernel
theorem dX7_isPart_5 : decode cX7_isPart 5 = .ok (.iconst 1, 1) := by decide +kernel
theorem dX7_isPart_6 : decode cX7_isPart 6 = .ok (.if_icmp .ne 7, 3) := by decide +kernel
theorem dX7_isPart_9 : decode cX7_isPart 9 = .ok (.iconst 1, 1) := by decide +kernel
theorem dX7_isPart_10 : decode cX7_isPart 10 = .ok (.goto 4, 3) := by decide +kernel
theorem dX7_isPart_13 : decode cX7_isPart 13 = .ok (.iconst 0, 1) := by decide +kernel
theorem dX7_isPart_14 : decode cX7_isPart 14 = .ok (.ireturn, 1) := by decide +kernel
theorem dX7_cut_0 : decode cX7_cut 0 = .ok (.lload_n 2, 1) := by decide +kernel
theorem dX7_cut_1 : decode cX7_cut 1 = .ok (.lconst 0, 1) := by decide +kernel
theorem dX7_cut_2 : decode cX7_cut 2 = .ok (.lcmp, 1) := by decide +kernel
theorem dX7_cut_3 : decode cX7_cut 3 = .ok (.ifCond .ne 7, 3) := by decide +kernel
theorem dX7_cut_6 : decode cX7_cut 6 = .ok (.lconst 0, 1) := by decide +kernel
theorem dX7_cut_7 : decode cX7_cut 7 = .ok (.goto 6, 3) := by decide +kernel
theorem dX7_cut_10 : decode cX7_cut 10 = .ok (.lload_n 0, 1) := by decide +kernel
theorem dX7_cut_11 : decode cX7_cut 11 = .ok (.lload_n 2, 1) := by decide +kernel
theorem dX7_cut_12 : decode cX7_cut 12 = .ok (.ldiv, 1) := by decide +kernel
theorem dX7_cut_13 : decode cX7_cut 13 = .ok (.lreturn, 1) := by decide +kernel
theorem dX7_fractionPart_0 : decode cX7_fractionPart 0 = .ok (.lload_n 0, 1) := by decide +kernel
theorem dX7_fractionPart_1 : decode cX7_fractionPart 1 = .ok (.invokestatic 273, 3) := by decide +kernel
theorem dX7_fractionPart_4 : decode cX7_fractionPart 4 = .ok (.lload_n 2, 1) := by decide +kernel
theorem dX7_fractionPart_5 : decode cX7_fractionPart 5 = .ok (.invokestatic 279, 3) := by decide +kernel
theorem dX7_fractionPart_8 : decode cX7_fractionPart 8 = .ok (.lstore 5, 2) := by decide +kernel
theorem dX7_fractionPart_10 : decode cX7_fractionPart 10 = .ok (.iload 4, 2) := by decide +kernel
theorem dX7_fractionPart_12 : decode cX7_fractionPart 12 = .ok (.ifCond .ne 7, 3) := by decide +kernel
theorem dX7_fractionPart_15 : decode cX7_fractionPart 15 = .ok (.lload_n 0, 1) := by decide +kernel
theorem dX7_fractionPart_16 : decode cX7_fractionPart 16 = .ok (.goto 4, 3) := by decide +kernel
theorem dX7_fractionPart_19 : decode cX7_fractionPart 19 = .ok (.lload_n 2, 1) := by decide +kernel
theorem dX7_fractionPart_20 : decode cX7_fractionPart 20 = .ok (.lload 5, 2) := by decide +kernel
theorem dX7_fractionPart_22 : decode cX7_fractionPart 22 = .ok (.invokestatic 256, 3) := by decide +kernel
theorem dX7_fractionPart_25 : decode cX7_fractionPart 25 = .ok (.lreturn, 1) := by decide +kernel
theorem dX7_commonMeasure_0 : decode cX7_commonMeasure 0 = .ok (.iconst 0, 1) := by decide +kernel
theorem dX7_commonMeasure_1 : decode cX7_commonMeasure 1 = .ok (.istore 4, 2) := by decide +kernel
theorem dX7_commonMeasure_3 : decode cX7_commonMeasure 3 = .ok (.iload 4, 2) := by decide +kernel
theorem dX7_commonMeasure_5 : decode cX7_commonMeasure 5 = .ok (.bipush 100, 2) := by decide +kernel
theorem dX7_commonMeasure_7 : decode cX7_commonMeasure 7 = .ok (.if_icmp .ge 25, 3) := by decide +kernel
theorem dX7_commonMeasure_10 : decode cX7_commonMeasure 10 = .ok (.lload_n 2, 1) := by decide +kernel
theorem dX7_commonMeasure_11 : decode cX7_commonMeasure 11 = .ok (.lconst 0, 1) := by decide +kernel
theorem dX7_commonMeasure_12 : decode cX7_commonMeasure 12 = .ok (.lcmp, 1) := by decide +kernel
theorem dX7_commonMeasure_13 : decode cX7_commonMeasure 13 = .ok (.ifCond .eq 19, 3) := by decide +kernel
theorem dX7_commonMeasure_16 : decode cX7_commonMeasure 16 = .ok (.lload_n 0, 1) := by decide +kernel
theorem dX7_commonMeasure_17 : decode cX7_commonMeasure 17 = .ok (.lload_n 2, 1) := by decide +kernel
theorem dX7_commonMeasure_18 : decode cX7_commonMeasure 18 = .ok (.lrem, 1) := by decide +kernel
theorem dX7_commonMeasure_19 : decode cX7_commonMeasure 19 = .ok (.lstore 5, 2) := by decide +kernel
theorem dX7_commonMeasure_21 : decode cX7_commonMeasure 21 = .ok (.lload_n 2, 1) := by decide +kernel
theorem dX7_commonMeasure_22 : decode cX7_commonMeasure 22 = .ok (.lstore_n 0, 1) := by decide +kernel
theorem dX7_commonMeasure_23 : decode cX7_commonMeasure 23 = .ok (.lload 5, 2) := by decide +kernel
theorem dX7_commonMeasure_25 : decode cX7_commonMeasure 25 = .ok (.lstore_n 2, 1) := by decide +kernel
theorem dX7_commonMeasure_26 : decode cX7_commonMeasure 26 = .ok (.iinc 4 1, 3) := by decide +kernel
theorem dX7_commonMeasure_29 : decode cX7_commonMeasure 29 = .ok (.goto (-26), 3) := by decide +kernel
theorem dX7_commonMeasure_32 : decode cX7_commonMeasure 32 = .ok (.lload_n 0, 1) := by decide +kernel
theorem dX7_commonMeasure_33 : decode cX7_commonMeasure 33 = .ok (.lreturn, 1) := by decide +kernel
theorem dX7_squareBetween_0 : decode cX7_squareBetween 0 = .ok (.iload_n 0, 1) := by decide +kernel
theorem dX7_squareBetween_1 : decode cX7_squareBetween 1 = .ok (.iload_n 2, 1) := by decide +kernel
theorem dX7_squareBetween_2 : decode cX7_squareBetween 2 = .ok (.isub, 1) := by decide +kernel
theorem dX7_squareBetween_3 : decode cX7_squareBetween 3 = .ok (.iload_n 0, 1) := by decide +kernel
theorem dX7_squareBetween_4 : decode cX7_squareBetween 4 = .ok (.iload_n 2, 1) := by decide +kernel
theorem dX7_squareBetween_5 : decode cX7_squareBetween 5 = .ok (.isub, 1) := by decide +kernel
theorem dX7_squareBetween_6 : decode cX7_squareBetween 6 = .ok (.imul, 1) := by decide +kernel
theorem dX7_squareBetween_7 : decode cX7_squareBetween 7 = .ok (.iload_n 1, 1) := by decide +kernel
theorem dX7_squareBetween_8 : decode cX7_squareBetween 8 = .ok (.iload_n 3, 1) := by decide +kernel
theorem dX7_squareBetween_9 : decode cX7_squareBetween 9 = .ok (.isub, 1) := by decide +kernel
theorem dX7_squareBetween_10 : decode cX7_squareBetween 10 = .ok (.iload_n 1, 1) := by decide +kernel
theorem dX7_squareBetween_11 : decode cX7_squareBetween 11 = .ok (.iload_n 3, 1) := by decide +kernel
theorem dX7_squareBetween_12 : decode cX7_squareBetween 12 = .ok (.isub, 1) := by decide +kernel
theorem dX7_squareBetween_13 : decode cX7_squareBetween 13 = .ok (.imul, 1) := by decide +kernel
theorem dX7_squareBetween_14 : decode cX7_squareBetween 14 = .ok (.iadd, 1) := by decide +kernel
theorem dX7_squareBetween_15 : decode cX7_squareBetween 15 = .ok (.ireturn, 1) := by decide +kernel
theorem dX8_init_0 : decode cX8_init 0 = .ok (.aload_n 0, 1) := by decide +kernel
theorem dX8_init_1 : decode cX8_init 1 = .ok (.invokespecial 1, 3) := by decide +kernel
theorem dX8_init_4 : decode cX8_init 4 = .ok (.aload_n 0, 1) := by decide +kernel
theorem dX8_init_5 : decode cX8_init 5 = .ok (.sipush 20001, 3) := by decide +kernel
theorem dX8_init_8 : decode cX8_init 8 = .ok (.newarray .int, 2) := by decide +kernel
theorem dX8_init_10 : decode cX8_init 10 = .ok (.putfield 7, 3) := by decide +kernel
theorem dX8_init_13 : decode cX8_init 13 = .ok (.aload_n 0, 1) := by decide +kernel
theorem dX8_init_14 : decode cX8_init 14 = .ok (.bipush 36, 2) := by decide +kernel
theorem dX8_init_16 : decode cX8_init 16 = .ok (.newarray .int, 2) := by decide +kernel
theorem dX8_init_18 : decode cX8_init 18 = .ok (.putfield 13, 3) := by decide +kernel
theorem dX8_init_21 : decode cX8_init 21 = .ok (.aload_n 0, 1) := by decide +kernel
theorem dX8_init_22 : decode cX8_init 22 = .ok (.bipush 6, 2) := by decide +kernel
theorem dX8_init_24 : decode cX8_init 24 = .ok (.newarray .long, 2) := by decide +kernel
theorem dX8_init_26 : decode cX8_init 26 = .ok (.putfield 16, 3) := by decide +kernel
theorem dX8_init_29 : decode cX8_init 29 = .ok (.aload_n 0, 1) := by decide +kernel
theorem dX8_init_30 : decode cX8_init 30 = .ok (.bipush 6, 2) := by decide +kernel
theorem dX8_init_32 : decode cX8_init 32 = .ok (.newarray .long, 2) := by decide +kernel
theorem dX8_init_34 : decode cX8_init 34 = .ok (.putfield 20, 3) := by decide +kernel
theorem dX8_init_37 : decode cX8_init 37 = .ok (.aload_n 0, 1) := by decide +kernel
theorem dX8_init_38 : decode cX8_init 38 = .ok (.bipush 8, 2) := by decide +kernel
theorem dX8_init_40 : decode cX8_init 40 = .ok (.newarray .int, 2) := by decide +kernel
theorem dX8_init_42 : decode cX8_init 42 = .ok (.putfield 23, 3) := by decide +kernel
theorem dX8_init_45 : decode cX8_init 45 = .ok (.aload_n 0, 1) := by decide +kernel
theorem dX8_init_46 : decode cX8_init 46 = .ok (.bipush 8, 2) := by decide +kernel
theorem dX8_init_48 : decode cX8_init 48 = .ok (.newarray .int, 2) := by decide +kernel
theorem dX8_init_50 : decode cX8_init 50 = .ok (.putfield 26, 3) := by decide +kernel
theorem dX8_init_53 : decode cX8_init 53 = .ok (.aload_n 0, 1) := by decide +kernel
theorem dX8_init_54 : decode cX8_init 54 = .ok (.bipush 8, 2) := by decide +kernel
theorem dX8_init_56 : decode cX8_init 56 = .ok (.newarray .int, 2) := by decide +kernel
theorem dX8_init_58 : decode cX8_init 58 = .ok (.putfield 29, 3) := by decide +kernel
theorem dX8_init_61 : decode cX8_init 61 = .ok (.aload_n 0, 1) := by decide +kernel
theorem dX8_init_62 : decode cX8_init 62 = .ok (.bipush 8, 2) := by decide +kernel
theorem dX8_init_64 : decode cX8_init 64 = .ok (.newarray .int, 2) := by decide +kernel
theorem dX8_init_66 : decode cX8_init 66 = .ok (.putfield 32, 3) := by decide +kernel
theorem dX8_init_69 : decode cX8_init 69 = .ok (.aload_n 0, 1) := by decide +kernel
theorem dX8_init_70 : decode cX8_init 70 = .ok (.sipush 384, 3) := by decide +kernel
theorem dX8_init_73 : decode cX8_init 73 = .ok (.newarray .int, 2) := by decide +kernel
theorem dX8_init_75 : decode cX8_init 75 = .ok (.putfield 35, 3) := by decide +kernel
theorem dX8_init_78 : decode cX8_init 78 = .ok (.aload_n 0, 1) := by decide +kernel
theorem dX8_init_79 : decode cX8_init 79 = .ok (.sipush 384, 3) := by decide +kernel
theorem dX8_init_82 : decode cX8_init 82 = .ok (.newarray .int, 2) := by decide +kernel
theorem dX8_init_84 : decode cX8_init 84 = .ok (.putfield 38, 3) := by decide +kernel
theorem dX8_init_87 : decode cX8_init 87 = .ok (.aload_n 0, 1) := by decide +kernel
theorem dX8_init_88 : decode cX8_init 88 = .ok (.bipush 24, 2) := by decide +kernel
theorem dX8_init_90 : decode cX8_init 90 = .ok (.newarray .int, 2) := by decide +kernel
theorem dX8_init_92 : decode cX8_init 92 = .ok (.putfield 41, 3) := by decide +kernel
theorem dX8_init_95 : decode cX8_init 95 = .ok (.aload_n 0, 1) := by decide +kernel
theorem dX8_init_96 : decode cX8_init 96 = .ok (.bipush 24, 2) := by decide +kernel
theorem dX8_init_98 : decode cX8_init 98 = .ok (.newarray .long, 2) := by decide +kernel
theorem dX8_init_100 : decode cX8_init 100 = .ok (.putfield 44, 3) := by decide +kernel
theorem dX8_init_103 : decode cX8_init 103 = .ok (.aload_n 0, 1) := by decide +kernel
theorem dX8_init_104 : decode cX8_init 104 = .ok (.bipush 8, 2) := by decide +kernel
theorem dX8_init_106 : decode cX8_init 106 = .ok (.newarray .int, 2) := by decide +kernel
theorem dX8_init_108 : decode cX8_init 108 = .ok (.putfield 47, 3) := by decide +kernel
theorem dX8_init_111 : decode cX8_init 111 = .ok (.aload_n 0, 1) := by decide +kernel
theorem dX8_init_112 : decode cX8_init 112 = .ok (.iconst 3, 1) := by decide +kernel
theorem dX8_init_113 : decode cX8_init 113 = .ok (.putfield 50, 3) := by decide +kernel
theorem dX8_init_116 : decode cX8_init 116 = .ok (.aload_n 0, 1) := by decide +kernel
theorem dX8_init_117 : decode cX8_init 117 = .ok (.bipush 12, 2) := by decide +kernel
theorem dX8_init_119 : decode cX8_init 119 = .ok (.newarray .int, 2) := by decide +kernel
theorem dX8_init_121 : decode cX8_init 121 = .ok (.putfield 54, 3) := by decide +kernel
theorem dX8_init_124 : decode cX8_init 124 = .ok (.aload_n 0, 1) := by decide +kernel
theorem dX8_init_125 : decode cX8_init 125 = .ok (.bipush 12, 2) := by decide +kernel
theorem dX8_init_127 : decode cX8_init 127 = .ok (.newarray .int, 2) := by decide +kernel
theorem dX8_init_129 : decode cX8_init 129 = .ok (.putfield 57, 3) := by decide +kernel
theorem dX8_init_132 : decode cX8_init 132 = .ok (.aload_n 0, 1) := by decide +kernel
theorem dX8_init_133 : decode cX8_init 133 = .ok (.bipush 12, 2) := by decide +kernel
theorem dX8_init_135 : decode cX8_init 135 = .ok (.newarray .int, 2) := by decide +kernel
theorem dX8_init_137 : decode cX8_init 137 = .ok (.putfield 60, 3) := by decide +kernel
theorem dX8_init_140 : decode cX8_init 140 = .ok (.aload_n 0, 1) := by decide +kernel
theorem dX8_init_141 : decode cX8_init 141 = .ok (.bipush 12, 2) := by decide +kernel
theorem dX8_init_143 : decode cX8_init 143 = .ok (.newarray .int, 2) := by decide +kernel
theorem dX8_init_145 : decode cX8_init 145 = .ok (.putfield 63, 3) := by decide +kernel
theorem dX8_init_148 : decode cX8_init 148 = .ok (.aload_n 0, 1) := by decide +kernel
theorem dX8_init_149 : decode cX8_init 149 = .ok (.bipush 25, 2) := by decide +kernel
theorem dX8_init_151 : decode cX8_init 151 = .ok (.newarray .long, 2) := by decide +kernel
theorem dX8_init_153 : decode cX8_init 153 = .ok (.putfield 66, 3) := by decide +kernel
theorem dX8_init_156 : decode cX8_init 156 = .ok (.aload_n 0, 1) := by decide +kernel
theorem dX8_init_157 : decode cX8_init 157 = .ok (.bipush 6, 2) := by decide +kernel
theorem dX8_init_159 : decode cX8_init 159 = .ok (.newarray .long, 2) := by decide +kernel
theorem dX8_init_161 : decode cX8_init 161 = .ok (.putfield 69, 3) := by decide +kernel
theorem dX8_init_164 : decode cX8_init 164 = .ok (.aload_n 0, 1) := by decide +kernel
theorem dX8_init_165 : decode cX8_init 165 = .ok (.bipush 8, 2) := by decide +kernel
theorem dX8_init_167 : decode cX8_init 167 = .ok (.newarray .int, 2) := by decide +kernel
theorem dX8_init_169 : decode cX8_init 169 = .ok (.putfield 72, 3) := by decide +kernel
theorem dX8_init_172 : decode cX8_init 172 = .ok (.aload_n 0, 1) := by decide +kernel
theorem dX8_init_173 : decode cX8_init 173 = .ok (.bipush 64, 2) := by decide +kernel
theorem dX8_init_175 : decode cX8_init 175 = .ok (.newarray .long, 2) := by decide +kernel
theorem dX8_init_177 : decode cX8_init 177 = .ok (.putfield 75, 3) := by decide +kernel
theorem dX8_init_180 : decode cX8_init 180 = .ok (.aload_n 0, 1) := by decide +kernel
theorem dX8_init_181 : decode cX8_init 181 = .ok (.sipush 128, 3) := by decide +kernel
theorem dX8_init_184 : decode cX8_init 184 = .ok (.newarray .int, 2) := by decide +kernel
theorem dX8_init_186 : decode cX8_init 186 = .ok (.putfield 78, 3) := by decide +kernel
theorem dX8_init_189 : decode cX8_init 189 = .ok (.aload_n 0, 1) := by decide +kernel
theorem dX8_init_190 : decode cX8_init 190 = .ok (.sipush 128, 3) := by decide +kernel
theorem dX8_init_193 : decode cX8_init 193 = .ok (.newarray .int, 2) := by decide +kernel
theorem dX8_init_195 : decode cX8_init 195 = .ok (.putfield 81, 3) := by decide +kernel
theorem dX8_init_198 : decode cX8_init 198 = .ok (.aload_n 0, 1) := by decide +kernel
theorem dX8_init_199 : decode cX8_init 199 = .ok (.bipush 48, 2) := by decide +kernel
theorem dX8_init_201 : decode cX8_init 201 = .ok (.newarray .long, 2) := by decide +kernel
theorem dX8_init_203 : decode cX8_init 203 = .ok (.putfield 84, 3) := by decide +kernel
theorem dX8_init_206 : decode cX8_init 206 = .ok (.aload_n 0, 1) := by decide +kernel
theorem dX8_init_207 : decode cX8_init 207 = .ok (.bipush 48, 2) := by decide +kernel
theorem dX8_init_209 : decode cX8_init 209 = .ok (.newarray .boolean, 2) := by decide +kernel
theorem dX8_init_211 : decode cX8_init 211 = .ok (.putfield 87, 3) := by decide +kernel
theorem dX8_init_214 : decode cX8_init 214 = .ok (.iconst 1, 1) := by decide +kernel
theorem dX8_init_215 : decode cX8_init 215 = .ok (.istore_n 1, 1) := by decide +kernel
theorem dX8_init_216 : decode cX8_init 216 = .ok (.iload_n 1, 1) := by decide +kernel
theorem dX8_init_217 : decode cX8_init 217 = .ok (.sipush 20000, 3) := by decide +kernel
theorem dX8_init_220 : decode cX8_init 220 = .ok (.if_icmp .gt 28, 3) := by decide +kernel
theorem dX8_init_223 : decode cX8_init 223 = .ok (.aload_n 0, 1) := by decide +kernel
theorem dX8_init_224 : decode cX8_init 224 = .ok (.getfield 7, 3) := by decide +kernel
theorem dX8_init_227 : decode cX8_init 227 = .ok (.iload_n 1, 1) := by decide +kernel
theorem dX8_init_228 : decode cX8_init 228 = .ok (.aload_n 0, 1) := by decide +kernel
theorem dX8_init_229 : decode cX8_init 229 = .ok (.getfield 7, 3) := by decide +kernel
theorem dX8_init_232 : decode cX8_init 232 = .ok (.iload_n 1, 1) := by decide +kernel
theorem dX8_init_233 : decode cX8_init 233 = .ok (.iconst 1, 1) := by decide +kernel
theorem dX8_init_234 : decode cX8_init 234 = .ok (.isub, 1) := by decide +kernel
theorem dX8_init_235 : decode cX8_init 235 = .ok (.iaload, 1) := by decide +kernel
theorem dX8_init_236 : decode cX8_init 236 = .ok (.ldc 91, 2) := by decide +kernel
theorem dX8_init_238 : decode cX8_init 238 = .ok (.iload_n 1, 1) := by decide +kernel
theorem dX8_init_239 : decode cX8_init 239 = .ok (.idiv, 1) := by decide +kernel
theorem dX8_init_240 : decode cX8_init 240 = .ok (.iadd, 1) := by decide +kernel
theorem dX8_init_241 : decode cX8_init 241 = .ok (.iastore, 1) := by decide +kernel
theorem dX8_init_242 : decode cX8_init 242 = .ok (.iinc 1 1, 3) := by decide +kernel
theorem dX8_init_245 : decode cX8_init 245 = .ok (.goto (-29), 3) := by decide +kernel
theorem dX8_init_248 : decode cX8_init 248 = .ok (.iconst 0, 1) := by decide +kernel
theorem dX8_init_249 : decode cX8_init 249 = .ok (.istore_n 1, 1) := by decide +kernel
theorem dX8_init_250 : decode cX8_init 250 = .ok (.iload_n 1, 1) := by decide +kernel
theorem dX8_init_251 : decode cX8_init 251 = .ok (.bipush 6, 2) := by decide +kernel
theorem dX8_init_253 : decode cX8_init 253 = .ok (.if_icmp .ge 91, 3) := by decide +kernel
theorem dX8_init_256 : decode cX8_init 256 = .ok (.aload_n 0, 1) := by decide +kernel
theorem dX8_init_257 : decode cX8_init 257 = .ok (.getfield 13, 3) := by decide +kernel
theorem dX8_init_260 : decode cX8_init 260 = .ok (.bipush 6, 2) := by decide +kernel
theorem dX8_init_262 : decode cX8_init 262 = .ok (.iload_n 1, 1) := by decide +kernel
theorem dX8_init_263 : decode cX8_init 263 = .ok (.imul, 1) := by decide +kernel
theorem dX8_init_264 : decode cX8_init 264 = .ok (.iconst 0, 1) := by decide +kernel
theorem dX8_init_265 : decode cX8_init 265 = .ok (.iastore, 1) := by decide +kernel
theorem dX8_init_266 : decode cX8_init 266 = .ok (.aload_n 0, 1) := by decide +kernel
theorem dX8_init_267 : decode cX8_init 267 = .ok (.getfield 13, 3) := by decide +kernel
theorem dX8_init_270 : decode cX8_init 270 = .ok (.bipush 6, 2) := by decide +kernel
theorem dX8_init_272 : decode cX8_init 272 = .ok (.iload_n 1, 1) := by decide +kernel
theorem dX8_init_273 : decode cX8_init 273 = .ok (.imul, 1) := by decide +kernel
theorem dX8_init_274 : decode cX8_init 274 = .ok (.iconst 1, 1) := by decide +kernel
theorem dX8_init_275 : decode cX8_init 275 = .ok (.iadd, 1) := by decide +kernel
theorem dX8_init_276 : decode cX8_init 276 = .ok (.bipush 100, 2) := by decide +kernel
theorem dX8_init_278 : decode cX8_init 278 = .ok (.iastore, 1) := by decide +kernel
theorem dX8_init_279 : decode cX8_init 279 = .ok (.aload_n 0, 1) := by decide +kernel
theorem dX8_init_280 : decode cX8_init 280 = .ok (.getfield 13, 3) := by decide +kernel
theorem dX8_init_283 : decode cX8_init 283 = .ok (.bipush 6, 2) := by decide +kernel
theorem dX8_init_285 : decode cX8_init 285 = .ok (.iload_n 1, 1) := by decide +kernel
theorem dX8_init_286 : decode cX8_init 286 = .ok (.imul, 1) := by decide +kernel
theorem dX8_init_287 : decode cX8_init 287 = .ok (.iconst 2, 1) := by decide +kernel
theorem dX8_init_288 : decode cX8_init 288 = .ok (.iadd, 1) := by decide +kernel
theorem dX8_init_289 : decode cX8_init 289 = .ok (.sipush 7600, 3) := by decide +kernel
theorem dX8_init_292 : decode cX8_init 292 = .ok (.iastore, 1) := by decide +kernel
theorem dX8_init_293 : decode cX8_init 293 = .ok (.aload_n 0, 1) := by decide +kernel
theorem dX8_init_294 : decode cX8_init 294 = .ok (.getfield 13, 3) := by decide +kernel
theorem dX8_init_297 : decode cX8_init 297 = .ok (.bipush 6, 2) := by decide +kernel
theorem dX8_init_299 : decode cX8_init 299 = .ok (.iload_n 1, 1) := by decide +kernel
theorem dX8_init_300 : decode cX8_init 300 = .ok (.imul, 1) := by decide +kernel
theorem dX8_init_301 : decode cX8_init 301 = .ok (.iconst 3, 1) := by decide +kernel
theorem dX8_init_302 : decode cX8_init 302 = .ok (.iadd, 1) := by decide +kernel
theorem dX8_init_303 : decode cX8_init 303 = .ok (.iconst 5, 1) := by decide +kernel
theorem dX8_init_304 : decode cX8_init 304 = .ok (.iastore, 1) := by decide +kernel
theorem dX8_init_305 : decode cX8_init 305 = .ok (.aload_n 0, 1) := by decide +kernel
theorem dX8_init_306 : decode cX8_init 306 = .ok (.getfield 13, 3) := by decide +kernel
theorem dX8_init_309 : decode cX8_init 309 = .ok (.bipush 6, 2) := by decide +kernel
theorem dX8_init_311 : decode cX8_init 311 = .ok (.iload_n 1, 1) := by decide +kernel
theorem dX8_init_312 : decode cX8_init 312 = .ok (.imul, 1) := by decide +kernel
theorem dX8_init_313 : decode cX8_init 313 = .ok (.iconst 4, 1) := by decide +kernel
theorem dX8_init_314 : decode cX8_init 314 = .ok (.iadd, 1) := by decide +kernel
theorem dX8_init_315 : decode cX8_init 315 = .ok (.iconst 2, 1) := by decide +kernel
theorem dX8_init_316 : decode cX8_init 316 = .ok (.iastore, 1) := by decide +kernel
theorem dX8_init_317 : decode cX8_init 317 = .ok (.aload_n 0, 1) := by decide +kernel
theorem dX8_init_318 : decode cX8_init 318 = .ok (.getfield 13, 3) := by decide +kernel
theorem dX8_init_321 : decode cX8_init 321 = .ok (.bipush 6, 2) := by decide +kernel
theorem dX8_init_323 : decode cX8_init 323 = .ok (.iload_n 1, 1) := by decide +kernel
theorem dX8_init_324 : decode cX8_init 324 = .ok (.imul, 1) := by decide +kernel
theorem dX8_init_325 : decode cX8_init 325 = .ok (.iconst 5, 1) := by decide +kernel
theorem dX8_init_326 : decode cX8_init 326 = .ok (.iadd, 1) := by decide +kernel
theorem dX8_init_327 : decode cX8_init 327 = .ok (.sipush 8500, 3) := by decide +kernel
theorem dX8_init_330 : decode cX8_init 330 = .ok (.iastore, 1) := by decide +kernel
theorem dX8_init_331 : decode cX8_init 331 = .ok (.aload_n 0, 1) := by decide +kernel
theorem dX8_init_332 : decode cX8_init 332 = .ok (.getfield 20, 3) := by decide +kernel
theorem dX8_init_335 : decode cX8_init 335 = .ok (.iload_n 1, 1) := by decide +kernel
theorem dX8_init_336 : decode cX8_init 336 = .ok (.lconst 1, 1) := by decide +kernel
theorem dX8_init_337 : decode cX8_init 337 = .ok (.lastore, 1) := by decide +kernel
theorem dX8_init_338 : decode cX8_init 338 = .ok (.iinc 1 1, 3) := by decide +kernel
theorem dX8_init_341 : decode cX8_init 341 = .ok (.goto (-91), 3) := by decide +kernel
theorem dX8_init_344 : decode cX8_init 344 = .ok (.return_, 1) := by decide +kernel
theorem dX8_in_0 : decode cX8_in 0 = .ok (.lload_n 0, 1) := by decide +kernel
theorem dX8_in_1 : decode cX8_in 1 = .ok (.lload_n 2, 1) := by decide +kernel
theorem dX8_in_2 : decode cX8_in 2 = .ok (.lcmp, 1) := by decide +kernel
theorem dX8_in_3 : decode cX8_in 3 = .ok (.ifCond .lt 14, 3) := by decide +kernel
theorem dX8_in_6 : decode cX8_in 6 = .ok (.lload_n 0, 1) := by decide +kernel
theorem dX8_in_7 : decode cX8_in 7 = .ok (.lload 4, 2) := by decide +kernel
theorem dX8_in_9 : decode cX8_in 9 = .ok (.lcmp, 1) := by decide +kernel
theorem dX8_in_10 : decode cX8_in 10 = .ok (.ifCond .gt 7, 3) := by decide +kernel
theorem dX8_in_13 : decode cX8_in 13 = .ok (.iconst 1, 1) := by decide +kernel
theorem dX8_in_14 : decode cX8_in 14 = .ok (.goto 4, 3) := by decide +kernel
theorem dX8_in_17 : decode cX8_in 17 = .ok (.iconst 0, 1) := by decide +kernel
theorem dX8_in_18 : decode cX8_in 18 = .ok (.ireturn, 1) := by decide +kernel
theorem dX8_size_0 : decode cX8_size 0 = .ok (.lload_n 0, 1) := by decide +kernel
theorem dX8_size_1 : decode cX8_size 1 = .ok (.lconst 0, 1) := by decide +kernel
theorem dX8_size_2 : decode cX8_size 2 = .ok (.lcmp, 1) := by decide +kernel
theorem dX8_size_3 : decode cX8_size 3 = .ok (.ifCond .ge 8, 3) := by decide +kernel
theorem dX8_size_6 : decode cX8_size 6 = .ok (.lload_n 0, 1) := by decide +kernel
theorem dX8_size_7 : decode cX8_size 7 = .ok (.lneg, 1) := by decide +kernel
theorem dX8_size_8 : decode cX8_size 8 = .ok (.goto 4, 3) := by decide +kernel
theorem dX8_size_11 : decode cX8_size 11 = .ok (.lload_n 0, 1) := by decide +kernel
theorem dX8_size_12 : decode cX8_size 12 = .ok (.lreturn, 1) := by decide +kernel
theorem dX8_common_0 : decode cX8_common 0 = .ok (.lload_n 0, 1) := by decide +kernel
theorem dX8_common_1 : decode cX8_common 1 = .ok (.invokestatic 92, 3) := by decide +kernel
theorem dX8_common_4 : decode cX8_common 4 = .ok (.lstore 4, 2) := by decide +kernel
theorem dX8_common_6 : decode cX8_common 6 = .ok (.lload_n 2, 1) := by decide +kernel
theorem dX8_common_7 : decode cX8_common 7 = .ok (.invokestatic 92, 3) := by decide +kernel
theorem dX8_common_10 : decode cX8_common 10 = .ok (.lstore 6, 2) := by decide +kernel
theorem dX8_common_12 : decode cX8_common 12 = .ok (.lload 6, 2) := by decide +kernel
theorem dX8_common_14 : decode cX8_common 14 = .ok (.lconst 0, 1) := by decide +kernel
theorem dX8_common_15 : decode cX8_common 15 = .ok (.lcmp, 1) := by decide +kernel
theorem dX8_common_16 : decode cX8_common 16 = .ok (.ifCond .eq 21, 3) := by decide +kernel
theorem dX8_common_19 : decode cX8_common 19 = .ok (.lload 4, 2) := by decide +kernel
theorem dX8_common_21 : decode cX8_common 21 = .ok (.lload 6, 2) := by decide +kernel
theorem dX8_common_23 : decode cX8_common 23 = .ok (.lrem, 1) := by decide +kernel
theorem dX8_common_24 : decode cX8_common 24 = .ok (.lstore 8, 2) := by decide +kernel
theorem dX8_common_26 : decode cX8_common 26 = .ok (.lload 6, 2) := by decide +kernel
theorem dX8_common_28 : decode cX8_common 28 = .ok (.lstore 4, 2) := by decide +kernel
theorem dX8_common_30 : decode cX8_common 30 = .ok (.lload 8, 2) := by decide +kernel
theorem dX8_common_32 : decode cX8_common 32 = .ok (.lstore 6, 2) := by decide +kernel
theorem dX8_common_34 : decode cX8_common 34 = .ok (.goto (-22), 3) := by decide +kernel
theorem dX8_common_37 : decode cX8_common 37 = .ok (.lload 4, 2) := by decide +kernel
theorem dX8_common_39 : decode cX8_common 39 = .ok (.lreturn, 1) := by decide +kernel
theorem dX8_lowest_0 : decode cX8_lowest 0 = .ok (.lload_n 0, 1) := by decide +kernel
theorem dX8_lowest_1 : decode cX8_lowest 1 = .ok (.lload_n 2, 1) := by decide +kernel
theorem dX8_lowest_2 : decode cX8_lowest 2 = .ok (.invokestatic 96, 3) := by decide +kernel
theorem dX8_lowest_5 : decode cX8_lowest 5 = .ok (.lstore 5, 2) := by decide +kernel
theorem dX8_lowest_7 : decode cX8_lowest 7 = .ok (.iload 4, 2) := by decide +kernel
theorem dX8_lowest_9 : decode cX8_lowest 9 = .ok (.ifCond .ne 10, 3) := by decide +kernel
theorem dX8_lowest_12 : decode cX8_lowest 12 = .ok (.lload_n 0, 1) := by decide +kernel
theorem dX8_lowest_13 : decode cX8_lowest 13 = .ok (.lload 5, 2) := by decide +kernel
theorem dX8_lowest_15 : decode cX8_lowest 15 = .ok (.ldiv, 1) := by decide +kernel
theorem dX8_lowest_16 : decode cX8_lowest 16 = .ok (.goto 7, 3) := by decide +kernel
theorem dX8_lowest_19 : decode cX8_lowest 19 = .ok (.lload_n 2, 1) := by decide +kernel
theorem dX8_lowest_20 : decode cX8_lowest 20 = .ok (.lload 5, 2) := by decide +kernel
theorem dX8_lowest_22 : decode cX8_lowest 22 = .ok (.ldiv, 1) := by decide +kernel
theorem dX8_lowest_23 : decode cX8_lowest 23 = .ok (.lreturn, 1) := by decide +kernel
theorem dX8_isGlass_0 : decode cX8_isGlass 0 = .ok (.iload_n 0, 1) := by decide +kernel
theorem dX8_isGlass_1 : decode cX8_isGlass 1 = .ok (.i2l, 1) := by decide +kernel
theorem dX8_isGlass_2 : decode cX8_isGlass 2 = .ok (.lconst 0, 1) := by decide +kernel
theorem dX8_isGlass_3 : decode cX8_isGlass 3 = .ok (.ldc2_w 100, 3) := by decide +kernel
theorem dX8_isGlass_6 : decode cX8_isGlass 6 = .ok (.invokestatic 102, 3) := by decide +kernel
theorem dX8_isGlass_9 : decode cX8_isGlass 9 = .ok (.ireturn, 1) := by decide +kernel
theorem dX8_mayBe_0 : decode cX8_mayBe 0 = .ok (.iload_n 0, 1) := by decide +kernel
theorem dX8_mayBe_1 : decode cX8_mayBe 1 = .ok (.tableswitch 91 0 4 #[35, 47, 59, 71, 81], 35) := by decide +kernel
theorem dX8_mayBe_36 : decode cX8_mayBe 36 = .ok (.iload_n 1, 1) := by decide +kernel
theorem dX8_mayBe_37 : decode cX8_mayBe 37 = .ok (.i2l, 1) := by decide +kernel
theorem dX8_mayBe_38 : decode cX8_mayBe 38 = .ok (.ldc2_w 106, 3) := by decide +kernel
theorem dX8_mayBe_41 : decode cX8_mayBe 41 = .ok (.ldc2_w 108, 3) := by decide +kernel
theorem dX8_mayBe_44 : decode cX8_mayBe 44 = .ok (.invokestatic 102, 3) := by decide +kernel
theorem dX8_mayBe_47 : decode cX8_mayBe 47 = .ok (.ireturn, 1) := by decide +kernel
theorem dX8_mayBe_48 : decode cX8_mayBe 48 = .ok (.iload_n 1, 1) := by decide +kernel
theorem dX8_mayBe_49 : decode cX8_mayBe 49 = .ok (.i2l, 1) := by decide +kernel
theorem dX8_mayBe_50 : decode cX8_mayBe 50 = .ok (.ldc2_w 110, 3) := by decide +kernel
theorem dX8_mayBe_53 : decode cX8_mayBe 53 = .ok (.ldc2_w 112, 3) := by decide +kernel
theorem dX8_mayBe_56 : decode cX8_mayBe 56 = .ok (.invokestatic 102, 3) := by decide +kernel
theorem dX8_mayBe_59 : decode cX8_mayBe 59 = .ok (.ireturn, 1) := by decide +kernel
theorem dX8_mayBe_60 : decode cX8_mayBe 60 = .ok (.iload_n 1, 1) := by decide +kernel
theorem dX8_mayBe_61 : decode cX8_mayBe 61 = .ok (.i2l, 1) := by decide +kernel
theorem dX8_mayBe_62 : decode cX8_mayBe 62 = .ok (.ldc2_w 114, 3) := by decide +kernel
theorem dX8_mayBe_65 : decode cX8_mayBe 65 = .ok (.ldc2_w 116, 3) := by decide +kernel
theorem dX8_mayBe_68 : decode cX8_mayBe 68 = .ok (.invokestatic 102, 3) := by decide +kernel
theorem dX8_mayBe_71 : decode cX8_mayBe 71 = .ok (.ireturn, 1) := by decide +kernel
theorem dX8_mayBe_72 : decode cX8_mayBe 72 = .ok (.iload_n 1, 1) := by decide +kernel
theorem dX8_mayBe_73 : decode cX8_mayBe 73 = .ok (.i2l, 1) := by decide +kernel
theorem dX8_mayBe_74 : decode cX8_mayBe 74 = .ok (.lconst 1, 1) := by decide +kernel
theorem dX8_mayBe_75 : decode cX8_mayBe 75 = .ok (.ldc2_w 110, 3) := by decide +kernel
theorem dX8_mayBe_78 : decode cX8_mayBe 78 = .ok (.invokestatic 102, 3) := by decide +kernel
theorem dX8_mayBe_81 : decode cX8_mayBe 81 = .ok (.ireturn, 1) := by decide +kernel
theorem dX8_mayBe_82 : decode cX8_mayBe 82 = .ok (.iload_n 1, 1) := by decide +kernel
theorem dX8_mayBe_83 : decode cX8_mayBe 83 = .ok (.i2l, 1) := by decide +kernel
theorem dX8_mayBe_84 : decode cX8_mayBe 84 = .ok (.lconst 0, 1) := by decide +kernel
theorem dX8_mayBe_85 : decode cX8_mayBe 85 = .ok (.ldc2_w 118, 3) := by decide +kernel
theorem dX8_mayBe_88 : decode cX8_mayBe 88 = .ok (.invokestatic 102, 3) := by decide +kernel
theorem dX8_mayBe_91 : decode cX8_mayBe 91 = .ok (.ireturn, 1) := by decide +kernel
theorem dX8_mayBe_92 : decode cX8_mayBe 92 = .ok (.iload_n 1, 1) := by decide +kernel
theorem dX8_mayBe_93 : decode cX8_mayBe 93 = .ok (.i2l, 1) := by decide +kernel
theorem dX8_mayBe_94 : decode cX8_mayBe 94 = .ok (.ldc2_w 116, 3) := by decide +kernel
theorem dX8_mayBe_97 : decode cX8_mayBe 97 = .ok (.ldc2_w 120, 3) := by decide +kernel
theorem dX8_mayBe_100 : decode cX8_mayBe 100 = .ok (.invokestatic 102, 3) := by decide +kernel
theorem dX8_mayBe_103 : decode cX8_mayBe 103 = .ok (.ireturn, 1) := by decide +kernel
theorem dX8_set_0 : decode cX8_set 0 = .ok (.iload_n 1, 1) := by decide +kernel
theorem dX8_set_1 : decode cX8_set 1 = .ok (.invokestatic 122, 3) := by decide +kernel
theorem dX8_set_4 : decode cX8_set 4 = .ok (.ifCond .ne 6, 3) := by decide +kernel
theorem dX8_set_7 : decode cX8_set 7 = .ok (.bipush (-101), 2) := by decide +kernel
theorem dX8_set_9 : decode cX8_set 9 = .ok (.ireturn, 1) := by decide +kernel
theorem dX8_set_10 : decode cX8_set 10 = .ok (.iload_n 2, 1) := by decide +kernel
theorem dX8_set_11 : decode cX8_set 11 = .ok (.i2l, 1) := by decide +kernel
theorem dX8_set_12 : decode cX8_set 12 = .ok (.lconst 0, 1) := by decide +kernel
theorem dX8_set_13 : decode cX8_set 13 = .ok (.ldc2_w 100, 3) := by decide +kernel
theorem dX8_set_16 : decode cX8_set 16 = .ok (.invokestatic 102, 3) := by decide +kernel
theorem dX8_set_19 : decode cX8_set 19 = .ok (.ifCond .eq 11, 3) := by decide +kernel
theorem dX8_set_22 : decode cX8_set 22 = .ok (.iload_n 2, 1) := by decide +kernel
theorem dX8_set_23 : decode cX8_set 23 = .ok (.iload_n 3, 1) := by decide +kernel
theorem dX8_set_24 : decode cX8_set 24 = .ok (.invokestatic 126, 3) := by decide +kernel
theorem dX8_set_27 : decode cX8_set 27 = .ok (.ifCond .ne 6, 3) := by decide +kernel
theorem dX8_set_30 : decode cX8_set 30 = .ok (.bipush (-102), 2) := by decide +kernel
theorem dX8_set_32 : decode cX8_set 32 = .ok (.ireturn, 1) := by decide +kernel
theorem dX8_set_33 : decode cX8_set 33 = .ok (.aload_n 0, 1) := by decide +kernel
theorem dX8_set_34 : decode cX8_set 34 = .ok (.getfield 13, 3) := by decide +kernel
theorem dX8_set_37 : decode cX8_set 37 = .ok (.bipush 6, 2) := by decide +kernel
theorem dX8_set_39 : decode cX8_set 39 = .ok (.iload_n 1, 1) := by decide +kernel
theorem dX8_set_40 : decode cX8_set 40 = .ok (.imul, 1) := by decide +kernel
theorem dX8_set_41 : decode cX8_set 41 = .ok (.iload_n 2, 1) := by decide +kernel
theorem dX8_set_42 : decode cX8_set 42 = .ok (.iadd, 1) := by decide +kernel
theorem dX8_set_43 : decode cX8_set 43 = .ok (.iaload, 1) := by decide +kernel
theorem dX8_set_44 : decode cX8_set 44 = .ok (.istore 4, 2) := by decide +kernel
theorem dX8_set_46 : decode cX8_set 46 = .ok (.aload_n 0, 1) := by decide +kernel
theorem dX8_set_47 : decode cX8_set 47 = .ok (.getfield 13, 3) := by decide +kernel
theorem dX8_set_50 : decode cX8_set 50 = .ok (.bipush 6, 2) := by decide +kernel
theorem dX8_set_52 : decode cX8_set 52 = .ok (.iload_n 1, 1) := by decide +kernel
theorem dX8_set_53 : decode cX8_set 53 = .ok (.imul, 1) := by decide +kernel
theorem dX8_set_54 : decode cX8_set 54 = .ok (.iload_n 2, 1) := by decide +kernel
theorem dX8_set_55 : decode cX8_set 55 = .ok (.iadd, 1) := by decide +kernel
theorem dX8_set_56 : decode cX8_set 56 = .ok (.iload_n 3, 1) := by decide +kernel
theorem dX8_set_57 : decode cX8_set 57 = .ok (.iastore, 1) := by decide +kernel
theorem dX8_set_58 : decode cX8_set 58 = .ok (.iload 4, 2) := by decide +kernel
theorem dX8_set_60 : decode cX8_set 60 = .ok (.ireturn, 1) := by decide +kernel
theorem dX8_glass_0 : decode cX8_glass 0 = .ok (.iload_n 1, 1) := by decide +kernel
theorem dX8_glass_1 : decode cX8_glass 1 = .ok (.invokestatic 122, 3) := by decide +kernel
theorem dX8_glass_4 : decode cX8_glass 4 = .ok (.ifCond .ne 6, 3) := by decide +kernel
theorem dX8_glass_7 : decode cX8_glass 7 = .ok (.bipush (-101), 2) := by decide +kernel
theorem dX8_glass_9 : decode cX8_glass 9 = .ok (.ireturn, 1) := by decide +kernel
theorem dX8_glass_10 : decode cX8_glass 10 = .ok (.iload_n 2, 1) := by decide +kernel
theorem dX8_glass_11 : decode cX8_glass 11 = .ok (.i2l, 1) := by decide +kernel
theorem dX8_glass_12 : decode cX8_glass 12 = .ok (.lconst 0, 1) := by decide +kernel
theorem dX8_glass_13 : decode cX8_glass 13 = .ok (.ldc2_w 100, 3) := by decide +kernel
theorem dX8_glass_16 : decode cX8_glass 16 = .ok (.invokestatic 102, 3) := by decide +kernel
theorem dX8_glass_19 : decode cX8_glass 19 = .ok (.ifCond .eq 17, 3) := by decide +kernel
theorem dX8_glass_22 : decode cX8_glass 22 = .ok (.aload_n 0, 1) := by decide +kernel
theorem dX8_glass_23 : decode cX8_glass 23 = .ok (.getfield 13, 3) := by decide +kernel
theorem dX8_glass_26 : decode cX8_glass 26 = .ok (.bipush 6, 2) := by decide +kernel
theorem dX8_glass_28 : decode cX8_glass 28 = .ok (.iload_n 1, 1) := by decide +kernel
theorem dX8_glass_29 : decode cX8_glass 29 = .ok (.imul, 1) := by decide +kernel
theorem dX8_glass_30 : decode cX8_glass 30 = .ok (.iload_n 2, 1) := by decide +kernel
theorem dX8_glass_31 : decode cX8_glass 31 = .ok (.iadd, 1) := by decide +kernel
theorem dX8_glass_32 : decode cX8_glass 32 = .ok (.iaload, 1) := by decide +kernel
theorem dX8_glass_33 : decode cX8_glass 33 = .ok (.goto 5, 3) := by decide +kernel
theorem dX8_glass_36 : decode cX8_glass 36 = .ok (.bipush (-102), 2) := by decide +kernel
theorem dX8_glass_38 : decode cX8_glass 38 = .ok (.ireturn, 1) := by decide +kernel
theorem dX8_seal_0 : decode cX8_seal 0 = .ok (.iload_n 1, 1) := by decide +kernel
theorem dX8_seal_1 : decode cX8_seal 1 = .ok (.invokestatic 122, 3) := by decide +kernel
theorem dX8_seal_4 : decode cX8_seal 4 = .ok (.ifCond .ne 5, 3) := by decide +kernel
theorem dX8_seal_7 : decode cX8_seal 7 = .ok (.iconst (-1), 1) := by decide +kernel
theorem dX8_seal_8 : decode cX8_seal 8 = .ok (.ireturn, 1) := by decide +kernel
theorem dX8_seal_9 : decode cX8_seal 9 = .ok (.iload_n 2, 1) := by decide +kernel
theorem dX8_seal_10 : decode cX8_seal 10 = .ok (.i2l, 1) := by decide +kernel
theorem dX8_seal_11 : decode cX8_seal 11 = .ok (.lconst 1, 1) := by decide +kernel
theorem dX8_seal_12 : decode cX8_seal 12 = .ok (.ldc2_w 120, 3) := by decide +kernel
theorem dX8_seal_15 : decode cX8_seal 15 = .ok (.invokestatic 102, 3) := by decide +kernel
theorem dX8_seal_18 : decode cX8_seal 18 = .ok (.ifCond .eq 47, 3) := by decide +kernel
theorem dX8_seal_21 : decode cX8_seal 21 = .ok (.iload 4, 2) := by decide +kernel
theorem dX8_seal_23 : decode cX8_seal 23 = .ok (.i2l, 1) := by decide +kernel
theorem dX8_seal_24 : decode cX8_seal 24 = .ok (.lconst 1, 1) := by decide +kernel
theorem dX8_seal_25 : decode cX8_seal 25 = .ok (.ldc2_w 120, 3) := by decide +kernel
theorem dX8_seal_28 : decode cX8_seal 28 = .ok (.invokestatic 102, 3) := by decide +kernel
theorem dX8_seal_31 : decode cX8_seal 31 = .ok (.ifCond .eq 34, 3) := by decide +kernel
theorem dX8_seal_34 : decode cX8_seal 34 = .ok (.iload_n 3, 1) := by decide +kernel
theorem dX8_seal_35 : decode cX8_seal 35 = .ok (.i2l, 1) := by decide +kernel
theorem dX8_seal_36 : decode cX8_seal 36 = .ok (.lconst 1, 1) := by decide +kernel
theorem dX8_seal_37 : decode cX8_seal 37 = .ok (.ldc2_w 130, 3) := by decide +kernel
theorem dX8_seal_40 : decode cX8_seal 40 = .ok (.invokestatic 102, 3) := by decide +kernel
theorem dX8_seal_43 : decode cX8_seal 43 = .ok (.ifCond .eq 22, 3) := by decide +kernel
theorem dX8_seal_46 : decode cX8_seal 46 = .ok (.iload 5, 2) := by decide +kernel
theorem dX8_seal_48 : decode cX8_seal 48 = .ok (.i2l, 1) := by decide +kernel
theorem dX8_seal_49 : decode cX8_seal 49 = .ok (.lconst 1, 1) := by decide +kernel
theorem dX8_seal_50 : decode cX8_seal 50 = .ok (.ldc2_w 130, 3) := by decide +kernel
theorem dX8_seal_53 : decode cX8_seal 53 = .ok (.invokestatic 102, 3) := by decide +kernel
theorem dX8_seal_56 : decode cX8_seal 56 = .ok (.ifCond .eq 9, 3) := by decide +kernel
theorem dX8_seal_59 : decode cX8_seal 59 = .ok (.iload_n 3, 1) := by decide +kernel
theorem dX8_seal_60 : decode cX8_seal 60 = .ok (.iload 5, 2) := by decide +kernel
theorem dX8_seal_62 : decode cX8_seal 62 = .ok (.if_icmp .ne 6, 3) := by decide +kernel
theorem dX8_seal_65 : decode cX8_seal 65 = .ok (.bipush (-2), 2) := by decide +kernel
theorem dX8_seal_67 : decode cX8_seal 67 = .ok (.ireturn, 1) := by decide +kernel
theorem dX8_seal_68 : decode cX8_seal 68 = .ok (.iload_n 2, 1) := by decide +kernel
theorem dX8_seal_69 : decode cX8_seal 69 = .ok (.iload 4, 2) := by decide +kernel
theorem dX8_seal_71 : decode cX8_seal 71 = .ok (.isub, 1) := by decide +kernel
theorem dX8_seal_72 : decode cX8_seal 72 = .ok (.i2l, 1) := by decide +kernel
theorem dX8_seal_73 : decode cX8_seal 73 = .ok (.iload_n 3, 1) := by decide +kernel
theorem dX8_seal_74 : decode cX8_seal 74 = .ok (.i2l, 1) := by decide +kernel
theorem dX8_seal_75 : decode cX8_seal 75 = .ok (.lmul, 1) := by decide +kernel
theorem dX8_seal_76 : decode cX8_seal 76 = .ok (.iload 5, 2) := by decide +kernel
theorem dX8_seal_78 : decode cX8_seal 78 = .ok (.i2l, 1) := by decide +kernel
theorem dX8_seal_79 : decode cX8_seal 79 = .ok (.lmul, 1) := by decide +kernel
theorem dX8_seal_80 : decode cX8_seal 80 = .ok (.lstore 6, 2) := by decide +kernel
theorem dX8_seal_82 : decode cX8_seal 82 = .ok (.iload_n 3, 1) := by decide +kernel
end
section
theorem dX8_seal_83 : decode cX8_seal 83 = .ok (.iload 5, 2) := by decide +kernel
theorem dX8_seal_85 : decode cX8_seal 85 = .ok (.isub, 1) := by decide +kernel
theorem dX8_seal_86 : decode cX8_seal 86 = .ok (.i2l, 1) := by decide +kernel
theorem dX8_seal_87 : decode cX8_seal 87 = .ok (.lstore 8, 2) := by decide +kernel
theorem dX8_seal_89 : decode cX8_seal 89 = .ok (.lload 8, 2) := by decide +kernel
theorem dX8_seal_91 : decode cX8_seal 91 = .ok (.lconst 0, 1) := by decide +kernel
theorem dX8_seal_92 : decode cX8_seal 92 = .ok (.lcmp, 1) := by decide +kernel
theorem dX8_seal_93 : decode cX8_seal 93 = .ok (.ifCond .ge 13, 3) := by decide +kernel
theorem dX8_seal_96 : decode cX8_seal 96 = .ok (.lload 6, 2) := by decide +kernel
theorem dX8_seal_98 : decode cX8_seal 98 = .ok (.lneg, 1) := by decide +kernel
theorem dX8_seal_99 : decode cX8_seal 99 = .ok (.lstore 6, 2) := by decide +kernel
theorem dX8_seal_101 : decode cX8_seal 101 = .ok (.lload 8, 2) := by decide +kernel
theorem dX8_seal_103 : decode cX8_seal 103 = .ok (.lneg, 1) := by decide +kernel
theorem dX8_seal_104 : decode cX8_seal 104 = .ok (.lstore 8, 2) := by decide +kernel
theorem dX8_seal_106 : decode cX8_seal 106 = .ok (.lload 6, 2) := by decide +kernel
theorem dX8_seal_108 : decode cX8_seal 108 = .ok (.lconst 0, 1) := by decide +kernel
theorem dX8_seal_109 : decode cX8_seal 109 = .ok (.lcmp, 1) := by decide +kernel
theorem dX8_seal_110 : decode cX8_seal 110 = .ok (.ifCond .ge 6, 3) := by decide +kernel
theorem dX8_seal_113 : decode cX8_seal 113 = .ok (.bipush (-5), 2) := by decide +kernel
theorem dX8_seal_115 : decode cX8_seal 115 = .ok (.ireturn, 1) := by decide +kernel
theorem dX8_seal_116 : decode cX8_seal 116 = .ok (.aload_n 0, 1) := by decide +kernel
theorem dX8_seal_117 : decode cX8_seal 117 = .ok (.getfield 16, 3) := by decide +kernel
theorem dX8_seal_120 : decode cX8_seal 120 = .ok (.iload_n 1, 1) := by decide +kernel
theorem dX8_seal_121 : decode cX8_seal 121 = .ok (.lload 6, 2) := by decide +kernel
theorem dX8_seal_123 : decode cX8_seal 123 = .ok (.lload 8, 2) := by decide +kernel
theorem dX8_seal_125 : decode cX8_seal 125 = .ok (.iconst 0, 1) := by decide +kernel
theorem dX8_seal_126 : decode cX8_seal 126 = .ok (.invokestatic 132, 3) := by decide +kernel
theorem dX8_seal_129 : decode cX8_seal 129 = .ok (.lastore, 1) := by decide +kernel
theorem dX8_seal_130 : decode cX8_seal 130 = .ok (.aload_n 0, 1) := by decide +kernel
theorem dX8_seal_131 : decode cX8_seal 131 = .ok (.getfield 20, 3) := by decide +kernel
theorem dX8_seal_134 : decode cX8_seal 134 = .ok (.iload_n 1, 1) := by decide +kernel
theorem dX8_seal_135 : decode cX8_seal 135 = .ok (.lload 6, 2) := by decide +kernel
theorem dX8_seal_137 : decode cX8_seal 137 = .ok (.lload 8, 2) := by decide +kernel
theorem dX8_seal_139 : decode cX8_seal 139 = .ok (.iconst 1, 1) := by decide +kernel
theorem dX8_seal_140 : decode cX8_seal 140 = .ok (.invokestatic 132, 3) := by decide +kernel
theorem dX8_seal_143 : decode cX8_seal 143 = .ok (.lastore, 1) := by decide +kernel
theorem dX8_seal_144 : decode cX8_seal 144 = .ok (.lload 6, 2) := by decide +kernel
theorem dX8_seal_146 : decode cX8_seal 146 = .ok (.lconst 0, 1) := by decide +kernel
theorem dX8_seal_147 : decode cX8_seal 147 = .ok (.lcmp, 1) := by decide +kernel
theorem dX8_seal_148 : decode cX8_seal 148 = .ok (.ifCond .le 7, 3) := by decide +kernel
theorem dX8_seal_151 : decode cX8_seal 151 = .ok (.iconst 1, 1) := by decide +kernel
theorem dX8_seal_152 : decode cX8_seal 152 = .ok (.goto 4, 3) := by decide +kernel
theorem dX8_seal_155 : decode cX8_seal 155 = .ok (.iconst 0, 1) := by decide +kernel
theorem dX8_seal_156 : decode cX8_seal 156 = .ok (.ireturn, 1) := by decide +kernel
theorem dX8_air_0 : decode cX8_air 0 = .ok (.iload_n 1, 1) := by decide +kernel
theorem dX8_air_1 : decode cX8_air 1 = .ok (.invokestatic 122, 3) := by decide +kernel
theorem dX8_air_4 : decode cX8_air 4 = .ok (.ifCond .ne 7, 3) := by decide +kernel
theorem dX8_air_7 : decode cX8_air 7 = .ok (.ldc2_w 136, 3) := by decide +kernel
theorem dX8_air_10 : decode cX8_air 10 = .ok (.lreturn, 1) := by decide +kernel
theorem dX8_air_11 : decode cX8_air 11 = .ok (.iload_n 2, 1) := by decide +kernel
theorem dX8_air_12 : decode cX8_air 12 = .ok (.ifCond .ne 12, 3) := by decide +kernel
theorem dX8_air_15 : decode cX8_air 15 = .ok (.aload_n 0, 1) := by decide +kernel
theorem dX8_air_16 : decode cX8_air 16 = .ok (.getfield 16, 3) := by decide +kernel
theorem dX8_air_19 : decode cX8_air 19 = .ok (.iload_n 1, 1) := by decide +kernel
theorem dX8_air_20 : decode cX8_air 20 = .ok (.laload, 1) := by decide +kernel
theorem dX8_air_21 : decode cX8_air 21 = .ok (.goto 20, 3) := by decide +kernel
theorem dX8_air_24 : decode cX8_air 24 = .ok (.iload_n 2, 1) := by decide +kernel
theorem dX8_air_25 : decode cX8_air 25 = .ok (.iconst 1, 1) := by decide +kernel
theorem dX8_air_26 : decode cX8_air 26 = .ok (.if_icmp .ne 12, 3) := by decide +kernel
theorem dX8_air_29 : decode cX8_air 29 = .ok (.aload_n 0, 1) := by decide +kernel
theorem dX8_air_30 : decode cX8_air 30 = .ok (.getfield 20, 3) := by decide +kernel
theorem dX8_air_33 : decode cX8_air 33 = .ok (.iload_n 1, 1) := by decide +kernel
theorem dX8_air_34 : decode cX8_air 34 = .ok (.laload, 1) := by decide +kernel
theorem dX8_air_35 : decode cX8_air 35 = .ok (.goto 6, 3) := by decide +kernel
theorem dX8_air_38 : decode cX8_air 38 = .ok (.ldc2_w 138, 3) := by decide +kernel
theorem dX8_air_41 : decode cX8_air 41 = .ok (.lreturn, 1) := by decide +kernel
theorem dX8_dropOf_0 : decode cX8_dropOf 0 = .ok (.iload_n 0, 1) := by decide +kernel
theorem dX8_dropOf_1 : decode cX8_dropOf 1 = .ok (.tableswitch 71 1 9 #[51, 54, 57, 60, 63, 65, 67, 69, 69], 51) := by decide +kernel
theorem dX8_dropOf_52 : decode cX8_dropOf 52 = .ok (.bipush 40, 2) := by decide +kernel
theorem dX8_dropOf_54 : decode cX8_dropOf 54 = .ok (.ireturn, 1) := by decide +kernel
theorem dX8_dropOf_55 : decode cX8_dropOf 55 = .ok (.bipush 20, 2) := by decide +kernel
theorem dX8_dropOf_57 : decode cX8_dropOf 57 = .ok (.ireturn, 1) := by decide +kernel
theorem dX8_dropOf_58 : decode cX8_dropOf 58 = .ok (.bipush 12, 2) := by decide +kernel
theorem dX8_dropOf_60 : decode cX8_dropOf 60 = .ok (.ireturn, 1) := by decide +kernel
theorem dX8_dropOf_61 : decode cX8_dropOf 61 = .ok (.bipush 8, 2) := by decide +kernel
theorem dX8_dropOf_63 : decode cX8_dropOf 63 = .ok (.ireturn, 1) := by decide +kernel
theorem dX8_dropOf_64 : decode cX8_dropOf 64 = .ok (.iconst 5, 1) := by decide +kernel
theorem dX8_dropOf_65 : decode cX8_dropOf 65 = .ok (.ireturn, 1) := by decide +kernel
theorem dX8_dropOf_66 : decode cX8_dropOf 66 = .ok (.iconst 3, 1) := by decide +kernel
theorem dX8_dropOf_67 : decode cX8_dropOf 67 = .ok (.ireturn, 1) := by decide +kernel
theorem dX8_dropOf_68 : decode cX8_dropOf 68 = .ok (.iconst 2, 1) := by decide +kernel
theorem dX8_dropOf_69 : decode cX8_dropOf 69 = .ok (.ireturn, 1) := by decide +kernel
theorem dX8_dropOf_70 : decode cX8_dropOf 70 = .ok (.iconst 1, 1) := by decide +kernel
theorem dX8_dropOf_71 : decode cX8_dropOf 71 = .ok (.ireturn, 1) := by decide +kernel
theorem dX8_dropOf_72 : decode cX8_dropOf 72 = .ok (.iconst 0, 1) := by decide +kernel
theorem dX8_dropOf_73 : decode cX8_dropOf 73 = .ok (.ireturn, 1) := by decide +kernel
theorem dX8_rightOf_0 : decode cX8_rightOf 0 = .ok (.iload_n 2, 1) := by decide +kernel
theorem dX8_rightOf_1 : decode cX8_rightOf 1 = .ok (.aload_n 0, 1) := by decide +kernel
theorem dX8_rightOf_2 : decode cX8_rightOf 2 = .ok (.getfield 13, 3) := by decide +kernel
theorem dX8_rightOf_5 : decode cX8_rightOf 5 = .ok (.bipush 6, 2) := by decide +kernel
theorem dX8_rightOf_7 : decode cX8_rightOf 7 = .ok (.iload_n 1, 1) := by decide +kernel
theorem dX8_rightOf_8 : decode cX8_rightOf 8 = .ok (.imul, 1) := by decide +kernel
theorem dX8_rightOf_9 : decode cX8_rightOf 9 = .ok (.iaload, 1) := by decide +kernel
theorem dX8_rightOf_10 : decode cX8_rightOf 10 = .ok (.iadd, 1) := by decide +kernel
theorem dX8_rightOf_11 : decode cX8_rightOf 11 = .ok (.istore 4, 2) := by decide +kernel
theorem dX8_rightOf_13 : decode cX8_rightOf 13 = .ok (.iload 4, 2) := by decide +kernel
theorem dX8_rightOf_15 : decode cX8_rightOf 15 = .ok (.iload 4, 2) := by decide +kernel
theorem dX8_rightOf_17 : decode cX8_rightOf 17 = .ok (.aload_n 0, 1) := by decide +kernel
theorem dX8_rightOf_18 : decode cX8_rightOf 18 = .ok (.getfield 13, 3) := by decide +kernel
theorem dX8_rightOf_21 : decode cX8_rightOf 21 = .ok (.bipush 6, 2) := by decide +kernel
theorem dX8_rightOf_23 : decode cX8_rightOf 23 = .ok (.iload_n 1, 1) := by decide +kernel
theorem dX8_rightOf_24 : decode cX8_rightOf 24 = .ok (.imul, 1) := by decide +kernel
theorem dX8_rightOf_25 : decode cX8_rightOf 25 = .ok (.iconst 2, 1) := by decide +kernel
theorem dX8_rightOf_26 : decode cX8_rightOf 26 = .ok (.iadd, 1) := by decide +kernel
theorem dX8_rightOf_27 : decode cX8_rightOf 27 = .ok (.iaload, 1) := by decide +kernel
theorem dX8_rightOf_28 : decode cX8_rightOf 28 = .ok (.isub, 1) := by decide +kernel
theorem dX8_rightOf_29 : decode cX8_rightOf 29 = .ok (.aload_n 0, 1) := by decide +kernel
theorem dX8_rightOf_30 : decode cX8_rightOf 30 = .ok (.getfield 13, 3) := by decide +kernel
theorem dX8_rightOf_33 : decode cX8_rightOf 33 = .ok (.bipush 6, 2) := by decide +kernel
theorem dX8_rightOf_35 : decode cX8_rightOf 35 = .ok (.iload_n 1, 1) := by decide +kernel
theorem dX8_rightOf_36 : decode cX8_rightOf 36 = .ok (.imul, 1) := by decide +kernel
theorem dX8_rightOf_37 : decode cX8_rightOf 37 = .ok (.iconst 1, 1) := by decide +kernel
theorem dX8_rightOf_38 : decode cX8_rightOf 38 = .ok (.iadd, 1) := by decide +kernel
theorem dX8_rightOf_39 : decode cX8_rightOf 39 = .ok (.iaload, 1) := by decide +kernel
theorem dX8_rightOf_40 : decode cX8_rightOf 40 = .ok (.idiv, 1) := by decide +kernel
theorem dX8_rightOf_41 : decode cX8_rightOf 41 = .ok (.iadd, 1) := by decide +kernel
theorem dX8_rightOf_42 : decode cX8_rightOf 42 = .ok (.istore 5, 2) := by decide +kernel
theorem dX8_rightOf_44 : decode cX8_rightOf 44 = .ok (.iload 5, 2) := by decide +kernel
theorem dX8_rightOf_46 : decode cX8_rightOf 46 = .ok (.aload_n 0, 1) := by decide +kernel
theorem dX8_rightOf_47 : decode cX8_rightOf 47 = .ok (.getfield 13, 3) := by decide +kernel
theorem dX8_rightOf_50 : decode cX8_rightOf 50 = .ok (.bipush 6, 2) := by decide +kernel
theorem dX8_rightOf_52 : decode cX8_rightOf 52 = .ok (.iload_n 1, 1) := by decide +kernel
theorem dX8_rightOf_53 : decode cX8_rightOf 53 = .ok (.imul, 1) := by decide +kernel
theorem dX8_rightOf_54 : decode cX8_rightOf 54 = .ok (.iconst 3, 1) := by decide +kernel
theorem dX8_rightOf_55 : decode cX8_rightOf 55 = .ok (.iadd, 1) := by decide +kernel
theorem dX8_rightOf_56 : decode cX8_rightOf 56 = .ok (.iaload, 1) := by decide +kernel
theorem dX8_rightOf_57 : decode cX8_rightOf 57 = .ok (.invokestatic 140, 3) := by decide +kernel
theorem dX8_rightOf_60 : decode cX8_rightOf 60 = .ok (.iadd, 1) := by decide +kernel
theorem dX8_rightOf_61 : decode cX8_rightOf 61 = .ok (.i2l, 1) := by decide +kernel
theorem dX8_rightOf_62 : decode cX8_rightOf 62 = .ok (.lstore 6, 2) := by decide +kernel
theorem dX8_rightOf_64 : decode cX8_rightOf 64 = .ok (.lload 6, 2) := by decide +kernel
theorem dX8_rightOf_66 : decode cX8_rightOf 66 = .ok (.ldc 144, 2) := by decide +kernel
theorem dX8_rightOf_68 : decode cX8_rightOf 68 = .ok (.aload_n 0, 1) := by decide +kernel
theorem dX8_rightOf_69 : decode cX8_rightOf 69 = .ok (.getfield 13, 3) := by decide +kernel
theorem dX8_rightOf_72 : decode cX8_rightOf 72 = .ok (.bipush 6, 2) := by decide +kernel
theorem dX8_rightOf_74 : decode cX8_rightOf 74 = .ok (.iload_n 1, 1) := by decide +kernel
theorem dX8_rightOf_75 : decode cX8_rightOf 75 = .ok (.imul, 1) := by decide +kernel
theorem dX8_rightOf_76 : decode cX8_rightOf 76 = .ok (.iconst 4, 1) := by decide +kernel
theorem dX8_rightOf_77 : decode cX8_rightOf 77 = .ok (.iadd, 1) := by decide +kernel
theorem dX8_rightOf_78 : decode cX8_rightOf 78 = .ok (.iaload, 1) := by decide +kernel
theorem dX8_rightOf_79 : decode cX8_rightOf 79 = .ok (.iload_n 3, 1) := by decide +kernel
theorem dX8_rightOf_80 : decode cX8_rightOf 80 = .ok (.imul, 1) := by decide +kernel
theorem dX8_rightOf_81 : decode cX8_rightOf 81 = .ok (.iadd, 1) := by decide +kernel
theorem dX8_rightOf_82 : decode cX8_rightOf 82 = .ok (.i2l, 1) := by decide +kernel
theorem dX8_rightOf_83 : decode cX8_rightOf 83 = .ok (.lmul, 1) := by decide +kernel
theorem dX8_rightOf_84 : decode cX8_rightOf 84 = .ok (.ldc 144, 2) := by decide +kernel
theorem dX8_rightOf_86 : decode cX8_rightOf 86 = .ok (.bipush 18, 2) := by decide +kernel
theorem dX8_rightOf_88 : decode cX8_rightOf 88 = .ok (.iload_n 3, 1) := by decide +kernel
theorem dX8_rightOf_89 : decode cX8_rightOf 89 = .ok (.imul, 1) := by decide +kernel
theorem dX8_rightOf_90 : decode cX8_rightOf 90 = .ok (.iadd, 1) := by decide +kernel
theorem dX8_rightOf_91 : decode cX8_rightOf 91 = .ok (.i2l, 1) := by decide +kernel
theorem dX8_rightOf_92 : decode cX8_rightOf 92 = .ok (.ldiv, 1) := by decide +kernel
theorem dX8_rightOf_93 : decode cX8_rightOf 93 = .ok (.lstore 8, 2) := by decide +kernel
theorem dX8_rightOf_95 : decode cX8_rightOf 95 = .ok (.aload_n 0, 1) := by decide +kernel
theorem dX8_rightOf_96 : decode cX8_rightOf 96 = .ok (.getfield 13, 3) := by decide +kernel
theorem dX8_rightOf_99 : decode cX8_rightOf 99 = .ok (.bipush 6, 2) := by decide +kernel
theorem dX8_rightOf_101 : decode cX8_rightOf 101 = .ok (.iload_n 1, 1) := by decide +kernel
theorem dX8_rightOf_102 : decode cX8_rightOf 102 = .ok (.imul, 1) := by decide +kernel
theorem dX8_rightOf_103 : decode cX8_rightOf 103 = .ok (.iconst 5, 1) := by decide +kernel
theorem dX8_rightOf_104 : decode cX8_rightOf 104 = .ok (.iadd, 1) := by decide +kernel
theorem dX8_rightOf_105 : decode cX8_rightOf 105 = .ok (.iaload, 1) := by decide +kernel
theorem dX8_rightOf_106 : decode cX8_rightOf 106 = .ok (.i2l, 1) := by decide +kernel
theorem dX8_rightOf_107 : decode cX8_rightOf 107 = .ok (.lload 8, 2) := by decide +kernel
theorem dX8_rightOf_109 : decode cX8_rightOf 109 = .ok (.lsub, 1) := by decide +kernel
theorem dX8_rightOf_110 : decode cX8_rightOf 110 = .ok (.lstore 10, 2) := by decide +kernel
theorem dX8_rightOf_112 : decode cX8_rightOf 112 = .ok (.lload 10, 2) := by decide +kernel
theorem dX8_rightOf_114 : decode cX8_rightOf 114 = .ok (.lconst 0, 1) := by decide +kernel
theorem dX8_rightOf_115 : decode cX8_rightOf 115 = .ok (.lcmp, 1) := by decide +kernel
theorem dX8_rightOf_116 : decode cX8_rightOf 116 = .ok (.ifCond .gt 6, 3) := by decide +kernel
theorem dX8_rightOf_119 : decode cX8_rightOf 119 = .ok (.lload 8, 2) := by decide +kernel
theorem dX8_rightOf_121 : decode cX8_rightOf 121 = .ok (.lreturn, 1) := by decide +kernel
theorem dX8_rightOf_122 : decode cX8_rightOf 122 = .ok (.aload_n 0, 1) := by decide +kernel
theorem dX8_rightOf_123 : decode cX8_rightOf 123 = .ok (.getfield 20, 3) := by decide +kernel
theorem dX8_rightOf_126 : decode cX8_rightOf 126 = .ok (.iload_n 1, 1) := by decide +kernel
theorem dX8_rightOf_127 : decode cX8_rightOf 127 = .ok (.laload, 1) := by decide +kernel
theorem dX8_rightOf_128 : decode cX8_rightOf 128 = .ok (.lload 10, 2) := by decide +kernel
theorem dX8_rightOf_130 : decode cX8_rightOf 130 = .ok (.lmul, 1) := by decide +kernel
theorem dX8_rightOf_131 : decode cX8_rightOf 131 = .ok (.lstore 12, 2) := by decide +kernel
theorem dX8_rightOf_133 : decode cX8_rightOf 133 = .ok (.lload 8, 2) := by decide +kernel
theorem dX8_rightOf_135 : decode cX8_rightOf 135 = .ok (.lload 12, 2) := by decide +kernel
theorem dX8_rightOf_137 : decode cX8_rightOf 137 = .ok (.lmul, 1) := by decide +kernel
theorem dX8_rightOf_138 : decode cX8_rightOf 138 = .ok (.aload_n 0, 1) := by decide +kernel
theorem dX8_rightOf_139 : decode cX8_rightOf 139 = .ok (.getfield 16, 3) := by decide +kernel
theorem dX8_rightOf_142 : decode cX8_rightOf 142 = .ok (.iload_n 1, 1) := by decide +kernel
theorem dX8_rightOf_143 : decode cX8_rightOf 143 = .ok (.laload, 1) := by decide +kernel
theorem dX8_rightOf_144 : decode cX8_rightOf 144 = .ok (.ladd, 1) := by decide +kernel
theorem dX8_rightOf_145 : decode cX8_rightOf 145 = .ok (.lload 12, 2) := by decide +kernel
theorem dX8_rightOf_147 : decode cX8_rightOf 147 = .ok (.ldiv, 1) := by decide +kernel
theorem dX8_rightOf_148 : decode cX8_rightOf 148 = .ok (.lreturn, 1) := by decide +kernel
theorem dX8_isReading_0 : decode cX8_isReading 0 = .ok (.iload_n 0, 1) := by decide +kernel
theorem dX8_isReading_1 : decode cX8_isReading 1 = .ok (.i2l, 1) := by decide +kernel
theorem dX8_isReading_2 : decode cX8_isReading 2 = .ok (.lconst 1, 1) := by decide +kernel
theorem dX8_isReading_3 : decode cX8_isReading 3 = .ok (.ldc2_w 120, 3) := by decide +kernel
theorem dX8_isReading_6 : decode cX8_isReading 6 = .ok (.invokestatic 102, 3) := by decide +kernel
theorem dX8_isReading_9 : decode cX8_isReading 9 = .ok (.ifCond .eq 21, 3) := by decide +kernel
theorem dX8_isReading_12 : decode cX8_isReading 12 = .ok (.iload_n 1, 1) := by decide +kernel
theorem dX8_isReading_13 : decode cX8_isReading 13 = .ok (.i2l, 1) := by decide +kernel
theorem dX8_isReading_14 : decode cX8_isReading 14 = .ok (.ldc2_w 145, 3) := by decide +kernel
theorem dX8_isReading_17 : decode cX8_isReading 17 = .ok (.ldc2_w 108, 3) := by decide +kernel
theorem dX8_isReading_20 : decode cX8_isReading 20 = .ok (.invokestatic 102, 3) := by decide +kernel
theorem dX8_isReading_23 : decode cX8_isReading 23 = .ok (.ifCond .eq 7, 3) := by decide +kernel
theorem dX8_isReading_26 : decode cX8_isReading 26 = .ok (.iconst 1, 1) := by decide +kernel
theorem dX8_isReading_27 : decode cX8_isReading 27 = .ok (.goto 4, 3) := by decide +kernel
theorem dX8_isReading_30 : decode cX8_isReading 30 = .ok (.iconst 0, 1) := by decide +kernel
theorem dX8_isReading_31 : decode cX8_isReading 31 = .ok (.ireturn, 1) := by decide +kernel
theorem dX8_right_0 : decode cX8_right 0 = .ok (.iload_n 1, 1) := by decide +kernel
theorem dX8_right_1 : decode cX8_right 1 = .ok (.invokestatic 122, 3) := by decide +kernel
theorem dX8_right_4 : decode cX8_right 4 = .ok (.ifCond .ne 7, 3) := by decide +kernel
theorem dX8_right_7 : decode cX8_right 7 = .ok (.ldc2_w 136, 3) := by decide +kernel
theorem dX8_right_10 : decode cX8_right 10 = .ok (.lreturn, 1) := by decide +kernel
theorem dX8_right_11 : decode cX8_right 11 = .ok (.iload_n 2, 1) := by decide +kernel
theorem dX8_right_12 : decode cX8_right 12 = .ok (.iload_n 3, 1) := by decide +kernel
theorem dX8_right_13 : decode cX8_right 13 = .ok (.invokestatic 147, 3) := by decide +kernel
theorem dX8_right_16 : decode cX8_right 16 = .ok (.ifCond .eq 13, 3) := by decide +kernel
theorem dX8_right_19 : decode cX8_right 19 = .ok (.aload_n 0, 1) := by decide +kernel
theorem dX8_right_20 : decode cX8_right 20 = .ok (.iload_n 1, 1) := by decide +kernel
theorem dX8_right_21 : decode cX8_right 21 = .ok (.iload_n 2, 1) := by decide +kernel
theorem dX8_right_22 : decode cX8_right 22 = .ok (.iload_n 3, 1) := by decide +kernel
theorem dX8_right_23 : decode cX8_right 23 = .ok (.invokevirtual 150, 3) := by decide +kernel
theorem dX8_right_26 : decode cX8_right 26 = .ok (.goto 6, 3) := by decide +kernel
theorem dX8_right_29 : decode cX8_right 29 = .ok (.ldc2_w 138, 3) := by decide +kernel
theorem dX8_right_32 : decode cX8_right 32 = .ok (.lreturn, 1) := by decide +kernel
theorem dX8_isStation_0 : decode cX8_isStation 0 = .ok (.iload_n 1, 1) := by decide +kernel
theorem dX8_isStation_1 : decode cX8_isStation 1 = .ok (.i2l, 1) := by decide +kernel
theorem dX8_isStation_2 : decode cX8_isStation 2 = .ok (.lconst 0, 1) := by decide +kernel
theorem dX8_isStation_3 : decode cX8_isStation 3 = .ok (.aload_n 0, 1) := by decide +kernel
theorem dX8_isStation_4 : decode cX8_isStation 4 = .ok (.getfield 154, 3) := by decide +kernel
theorem dX8_isStation_7 : decode cX8_isStation 7 = .ok (.iconst 1, 1) := by decide +kernel
theorem dX8_isStation_8 : decode cX8_isStation 8 = .ok (.isub, 1) := by decide +kernel
theorem dX8_isStation_9 : decode cX8_isStation 9 = .ok (.i2l, 1) := by decide +kernel
theorem dX8_isStation_10 : decode cX8_isStation 10 = .ok (.invokestatic 102, 3) := by decide +kernel
theorem dX8_isStation_13 : decode cX8_isStation 13 = .ok (.ireturn, 1) := by decide +kernel
theorem dX8_isHour_0 : decode cX8_isHour 0 = .ok (.iload_n 0, 1) := by decide +kernel
theorem dX8_isHour_1 : decode cX8_isHour 1 = .ok (.i2l, 1) := by decide +kernel
theorem dX8_isHour_2 : decode cX8_isHour 2 = .ok (.lconst 0, 1) := by decide +kernel
theorem dX8_isHour_3 : decode cX8_isHour 3 = .ok (.ldc2_w 157, 3) := by decide +kernel
theorem dX8_isHour_6 : decode cX8_isHour 6 = .ok (.invokestatic 102, 3) := by decide +kernel
theorem dX8_isHour_9 : decode cX8_isHour 9 = .ok (.ireturn, 1) := by decide +kernel
theorem dX8_isPoint_0 : decode cX8_isPoint 0 = .ok (.iload_n 0, 1) := by decide +kernel
theorem dX8_isPoint_1 : decode cX8_isPoint 1 = .ok (.i2l, 1) := by decide +kernel
theorem dX8_isPoint_2 : decode cX8_isPoint 2 = .ok (.lconst 0, 1) := by decide +kernel
theorem dX8_isPoint_3 : decode cX8_isPoint 3 = .ok (.ldc2_w 159, 3) := by decide +kernel
theorem dX8_isPoint_6 : decode cX8_isPoint 6 = .ok (.invokestatic 102, 3) := by decide +kernel
theorem dX8_isPoint_9 : decode cX8_isPoint 9 = .ok (.ifCond .eq 19, 3) := by decide +kernel
theorem dX8_isPoint_12 : decode cX8_isPoint 12 = .ok (.iload_n 1, 1) := by decide +kernel
theorem dX8_isPoint_13 : decode cX8_isPoint 13 = .ok (.i2l, 1) := by decide +kernel
theorem dX8_isPoint_14 : decode cX8_isPoint 14 = .ok (.lconst 0, 1) := by decide +kernel
theorem dX8_isPoint_15 : decode cX8_isPoint 15 = .ok (.ldc2_w 159, 3) := by decide +kernel
theorem dX8_isPoint_18 : decode cX8_isPoint 18 = .ok (.invokestatic 102, 3) := by decide +kernel
theorem dX8_isPoint_21 : decode cX8_isPoint 21 = .ok (.ifCond .eq 7, 3) := by decide +kernel
theorem dX8_isPoint_24 : decode cX8_isPoint 24 = .ok (.iconst 1, 1) := by decide +kernel
theorem dX8_isPoint_25 : decode cX8_isPoint 25 = .ok (.goto 4, 3) := by decide +kernel
theorem dX8_isPoint_28 : decode cX8_isPoint 28 = .ok (.iconst 0, 1) := by decide +kernel
theorem dX8_isPoint_29 : decode cX8_isPoint 29 = .ok (.ireturn, 1) := by decide +kernel
theorem dX8_station_0 : decode cX8_station 0 = .ok (.iload 4, 2) := by decide +kernel
theorem dX8_station_2 : decode cX8_station 2 = .ok (.invokestatic 122, 3) := by decide +kernel
theorem dX8_station_5 : decode cX8_station 5 = .ok (.ifCond .ne 5, 3) := by decide +kernel
theorem dX8_station_8 : decode cX8_station 8 = .ok (.iconst (-1), 1) := by decide +kernel
theorem dX8_station_9 : decode cX8_station 9 = .ok (.ireturn, 1) := by decide +kernel
theorem dX8_station_10 : decode cX8_station 10 = .ok (.iload_n 1, 1) := by decide +kernel
theorem dX8_station_11 : decode cX8_station 11 = .ok (.iload_n 2, 1) := by decide +kernel
theorem dX8_station_12 : decode cX8_station 12 = .ok (.invokestatic 161, 3) := by decide +kernel
theorem dX8_station_15 : decode cX8_station 15 = .ok (.ifCond .eq 17, 3) := by decide +kernel
theorem dX8_station_18 : decode cX8_station 18 = .ok (.iload_n 3, 1) := by decide +kernel
theorem dX8_station_19 : decode cX8_station 19 = .ok (.i2l, 1) := by decide +kernel
theorem dX8_station_20 : decode cX8_station 20 = .ok (.ldc2_w 164, 3) := by decide +kernel
theorem dX8_station_23 : decode cX8_station 23 = .ok (.ldc2_w 130, 3) := by decide +kernel
theorem dX8_station_26 : decode cX8_station 26 = .ok (.invokestatic 102, 3) := by decide +kernel
theorem dX8_station_29 : decode cX8_station 29 = .ok (.ifCond .ne 6, 3) := by decide +kernel
theorem dX8_station_32 : decode cX8_station 32 = .ok (.bipush (-2), 2) := by decide +kernel
theorem dX8_station_34 : decode cX8_station 34 = .ok (.ireturn, 1) := by decide +kernel
theorem dX8_station_35 : decode cX8_station 35 = .ok (.aload_n 0, 1) := by decide +kernel
theorem dX8_station_36 : decode cX8_station 36 = .ok (.getfield 154, 3) := by decide +kernel
theorem dX8_station_39 : decode cX8_station 39 = .ok (.bipush 8, 2) := by decide +kernel
theorem dX8_station_41 : decode cX8_station 41 = .ok (.if_icmp .ne 6, 3) := by decide +kernel
theorem dX8_station_44 : decode cX8_station 44 = .ok (.bipush (-4), 2) := by decide +kernel
theorem dX8_station_46 : decode cX8_station 46 = .ok (.ireturn, 1) := by decide +kernel
theorem dX8_station_47 : decode cX8_station 47 = .ok (.iconst 0, 1) := by decide +kernel
theorem dX8_station_48 : decode cX8_station 48 = .ok (.istore 5, 2) := by decide +kernel
theorem dX8_station_50 : decode cX8_station 50 = .ok (.iload 5, 2) := by decide +kernel
theorem dX8_station_52 : decode cX8_station 52 = .ok (.aload_n 0, 1) := by decide +kernel
theorem dX8_station_53 : decode cX8_station 53 = .ok (.getfield 154, 3) := by decide +kernel
theorem dX8_station_56 : decode cX8_station 56 = .ok (.if_icmp .ge 34, 3) := by decide +kernel
theorem dX8_station_59 : decode cX8_station 59 = .ok (.aload_n 0, 1) := by decide +kernel
theorem dX8_station_60 : decode cX8_station 60 = .ok (.getfield 23, 3) := by decide +kernel
theorem dX8_station_63 : decode cX8_station 63 = .ok (.iload 5, 2) := by decide +kernel
theorem dX8_station_65 : decode cX8_station 65 = .ok (.iaload, 1) := by decide +kernel
theorem dX8_station_66 : decode cX8_station 66 = .ok (.iload_n 1, 1) := by decide +kernel
theorem dX8_station_67 : decode cX8_station 67 = .ok (.if_icmp .ne 17, 3) := by decide +kernel
theorem dX8_station_70 : decode cX8_station 70 = .ok (.aload_n 0, 1) := by decide +kernel
theorem dX8_station_71 : decode cX8_station 71 = .ok (.getfield 26, 3) := by decide +kernel
theorem dX8_station_74 : decode cX8_station 74 = .ok (.iload 5, 2) := by decide +kernel
theorem dX8_station_76 : decode cX8_station 76 = .ok (.iaload, 1) := by decide +kernel
theorem dX8_station_77 : decode cX8_station 77 = .ok (.iload_n 2, 1) := by decide +kernel
theorem dX8_station_78 : decode cX8_station 78 = .ok (.if_icmp .ne 6, 3) := by decide +kernel
theorem dX8_station_81 : decode cX8_station 81 = .ok (.bipush (-5), 2) := by decide +kernel
theorem dX8_station_83 : decode cX8_station 83 = .ok (.ireturn, 1) := by decide +kernel
theorem dX8_station_84 : decode cX8_station 84 = .ok (.iinc 5 1, 3) := by decide +kernel
theorem dX8_station_87 : decode cX8_station 87 = .ok (.goto (-37), 3) := by decide +kernel
theorem dX8_station_90 : decode cX8_station 90 = .ok (.aload_n 0, 1) := by decide +kernel
theorem dX8_station_91 : decode cX8_station 91 = .ok (.getfield 23, 3) := by decide +kernel
theorem dX8_station_94 : decode cX8_station 94 = .ok (.aload_n 0, 1) := by decide +kernel
theorem dX8_station_95 : decode cX8_station 95 = .ok (.getfield 154, 3) := by decide +kernel
theorem dX8_station_98 : decode cX8_station 98 = .ok (.iload_n 1, 1) := by decide +kernel
theorem dX8_station_99 : decode cX8_station 99 = .ok (.iastore, 1) := by decide +kernel
theorem dX8_station_100 : decode cX8_station 100 = .ok (.aload_n 0, 1) := by decide +kernel
theorem dX8_station_101 : decode cX8_station 101 = .ok (.getfield 26, 3) := by decide +kernel
theorem dX8_station_104 : decode cX8_station 104 = .ok (.aload_n 0, 1) := by decide +kernel
theorem dX8_station_105 : decode cX8_station 105 = .ok (.getfield 154, 3) := by decide +kernel
theorem dX8_station_108 : decode cX8_station 108 = .ok (.iload_n 2, 1) := by decide +kernel
theorem dX8_station_109 : decode cX8_station 109 = .ok (.iastore, 1) := by decide +kernel
theorem dX8_station_110 : decode cX8_station 110 = .ok (.aload_n 0, 1) := by decide +kernel
theorem dX8_station_111 : decode cX8_station 111 = .ok (.getfield 29, 3) := by decide +kernel
theorem dX8_station_114 : decode cX8_station 114 = .ok (.aload_n 0, 1) := by decide +kernel
theorem dX8_station_115 : decode cX8_station 115 = .ok (.getfield 154, 3) := by decide +kernel
theorem dX8_station_118 : decode cX8_station 118 = .ok (.iload_n 3, 1) := by decide +kernel
theorem dX8_station_119 : decode cX8_station 119 = .ok (.iastore, 1) := by decide +kernel
theorem dX8_station_120 : decode cX8_station 120 = .ok (.aload_n 0, 1) := by decide +kernel
theorem dX8_station_121 : decode cX8_station 121 = .ok (.getfield 32, 3) := by decide +kernel
theorem dX8_station_124 : decode cX8_station 124 = .ok (.aload_n 0, 1) := by decide +kernel
theorem dX8_station_125 : decode cX8_station 125 = .ok (.getfield 154, 3) := by decide +kernel
theorem dX8_station_128 : decode cX8_station 128 = .ok (.iload 4, 2) := by decide +kernel
theorem dX8_station_130 : decode cX8_station 130 = .ok (.iastore, 1) := by decide +kernel
theorem dX8_station_131 : decode cX8_station 131 = .ok (.aload_n 0, 1) := by decide +kernel
theorem dX8_station_132 : decode cX8_station 132 = .ok (.dup, 1) := by decide +kernel
theorem dX8_station_133 : decode cX8_station 133 = .ok (.getfield 154, 3) := by decide +kernel
theorem dX8_station_136 : decode cX8_station 136 = .ok (.iconst 1, 1) := by decide +kernel
theorem dX8_station_137 : decode cX8_station 137 = .ok (.iadd, 1) := by decide +kernel
theorem dX8_station_138 : decode cX8_station 138 = .ok (.putfield 154, 3) := by decide +kernel
theorem dX8_station_141 : decode cX8_station 141 = .ok (.aload_n 0, 1) := by decide +kernel
theorem dX8_station_142 : decode cX8_station 142 = .ok (.getfield 154, 3) := by decide +kernel
theorem dX8_station_145 : decode cX8_station 145 = .ok (.iconst 1, 1) := by decide +kernel
theorem dX8_station_146 : decode cX8_station 146 = .ok (.isub, 1) := by decide +kernel
theorem dX8_station_147 : decode cX8_station 147 = .ok (.ireturn, 1) := by decide +kernel
theorem dX8_has_0 : decode cX8_has 0 = .ok (.aload_n 0, 1) := by decide +kernel
theorem dX8_has_1 : decode cX8_has 1 = .ok (.getfield 35, 3) := by decide +kernel
theorem dX8_has_4 : decode cX8_has 4 = .ok (.bipush 48, 2) := by decide +kernel
theorem dX8_has_6 : decode cX8_has 6 = .ok (.iload_n 1, 1) := by decide +kernel
theorem dX8_has_7 : decode cX8_has 7 = .ok (.imul, 1) := by decide +kernel
theorem dX8_has_8 : decode cX8_has 8 = .ok (.iload_n 2, 1) := by decide +kernel
theorem dX8_has_9 : decode cX8_has 9 = .ok (.iadd, 1) := by decide +kernel
theorem dX8_has_10 : decode cX8_has 10 = .ok (.iaload, 1) := by decide +kernel
theorem dX8_has_11 : decode cX8_has 11 = .ok (.ifCond .le 7, 3) := by decide +kernel
theorem dX8_has_14 : decode cX8_has 14 = .ok (.iconst 1, 1) := by decide +kernel
theorem dX8_has_15 : decode cX8_has 15 = .ok (.goto 4, 3) := by decide +kernel
theorem dX8_has_18 : decode cX8_has 18 = .ok (.iconst 0, 1) := by decide +kernel
theorem dX8_has_19 : decode cX8_has 19 = .ok (.ireturn, 1) := by decide +kernel
theorem dX8_tell_0 : decode cX8_tell 0 = .ok (.aload_n 0, 1) := by decide +kernel
theorem dX8_tell_1 : decode cX8_tell 1 = .ok (.iload_n 1, 1) := by decide +kernel
theorem dX8_tell_2 : decode cX8_tell 2 = .ok (.invokevirtual 166, 3) := by decide +kernel
theorem dX8_tell_5 : decode cX8_tell 5 = .ok (.ifCond .ne 5, 3) := by decide +kernel
theorem dX8_tell_8 : decode cX8_tell 8 = .ok (.iconst (-1), 1) := by decide +kernel
theorem dX8_tell_9 : decode cX8_tell 9 = .ok (.ireturn, 1) := by decide +kernel
theorem dX8_tell_10 : decode cX8_tell 10 = .ok (.iload_n 2, 1) := by decide +kernel
theorem dX8_tell_11 : decode cX8_tell 11 = .ok (.invokestatic 169, 3) := by decide +kernel
theorem dX8_tell_14 : decode cX8_tell 14 = .ok (.ifCond .eq 12, 3) := by decide +kernel
theorem dX8_tell_17 : decode cX8_tell 17 = .ok (.iload_n 3, 1) := by decide +kernel
theorem dX8_tell_18 : decode cX8_tell 18 = .ok (.iload 4, 2) := by decide +kernel
theorem dX8_tell_20 : decode cX8_tell 20 = .ok (.invokestatic 147, 3) := by decide +kernel
theorem dX8_tell_23 : decode cX8_tell 23 = .ok (.ifCond .ne 6, 3) := by decide +kernel
theorem dX8_tell_26 : decode cX8_tell 26 = .ok (.bipush (-2), 2) := by decide +kernel
theorem dX8_tell_28 : decode cX8_tell 28 = .ok (.ireturn, 1) := by decide +kernel
theorem dX8_tell_29 : decode cX8_tell 29 = .ok (.aload_n 0, 1) := by decide +kernel
theorem dX8_tell_30 : decode cX8_tell 30 = .ok (.iload_n 1, 1) := by decide +kernel
theorem dX8_tell_31 : decode cX8_tell 31 = .ok (.iload_n 2, 1) := by decide +kernel
theorem dX8_tell_32 : decode cX8_tell 32 = .ok (.invokevirtual 172, 3) := by decide +kernel
theorem dX8_tell_35 : decode cX8_tell 35 = .ok (.ifCond .eq 7, 3) := by decide +kernel
theorem dX8_tell_38 : decode cX8_tell 38 = .ok (.iconst 2, 1) := by decide +kernel
theorem dX8_tell_39 : decode cX8_tell 39 = .ok (.goto 4, 3) := by decide +kernel
theorem dX8_tell_42 : decode cX8_tell 42 = .ok (.iconst 1, 1) := by decide +kernel
theorem dX8_tell_43 : decode cX8_tell 43 = .ok (.istore 5, 2) := by decide +kernel
theorem dX8_tell_45 : decode cX8_tell 45 = .ok (.aload_n 0, 1) := by decide +kernel
theorem dX8_tell_46 : decode cX8_tell 46 = .ok (.getfield 35, 3) := by decide +kernel
theorem dX8_tell_49 : decode cX8_tell 49 = .ok (.bipush 48, 2) := by decide +kernel
theorem dX8_tell_51 : decode cX8_tell 51 = .ok (.iload_n 1, 1) := by decide +kernel
theorem dX8_tell_52 : decode cX8_tell 52 = .ok (.imul, 1) := by decide +kernel
theorem dX8_tell_53 : decode cX8_tell 53 = .ok (.iload_n 2, 1) := by decide +kernel
theorem dX8_tell_54 : decode cX8_tell 54 = .ok (.iadd, 1) := by decide +kernel
theorem dX8_tell_55 : decode cX8_tell 55 = .ok (.iload_n 3, 1) := by decide +kernel
theorem dX8_tell_56 : decode cX8_tell 56 = .ok (.iastore, 1) := by decide +kernel
theorem dX8_tell_57 : decode cX8_tell 57 = .ok (.aload_n 0, 1) := by decide +kernel
theorem dX8_tell_58 : decode cX8_tell 58 = .ok (.getfield 38, 3) := by decide +kernel
theorem dX8_tell_61 : decode cX8_tell 61 = .ok (.bipush 48, 2) := by decide +kernel
theorem dX8_tell_63 : decode cX8_tell 63 = .ok (.iload_n 1, 1) := by decide +kernel
theorem dX8_tell_64 : decode cX8_tell 64 = .ok (.imul, 1) := by decide +kernel
theorem dX8_tell_65 : decode cX8_tell 65 = .ok (.iload_n 2, 1) := by decide +kernel
theorem dX8_tell_66 : decode cX8_tell 66 = .ok (.iadd, 1) := by decide +kernel
theorem dX8_tell_67 : decode cX8_tell 67 = .ok (.iload 4, 2) := by decide +kernel
theorem dX8_tell_69 : decode cX8_tell 69 = .ok (.iastore, 1) := by decide +kernel
theorem dX8_tell_70 : decode cX8_tell 70 = .ok (.iload 5, 2) := by decide +kernel
theorem dX8_tell_72 : decode cX8_tell 72 = .ok (.ireturn, 1) := by decide +kernel
theorem dX8_gap_0 : decode cX8_gap 0 = .ok (.aload_n 0, 1) := by decide +kernel
theorem dX8_gap_1 : decode cX8_gap 1 = .ok (.iload_n 1, 1) := by decide +kernel
theorem dX8_gap_2 : decode cX8_gap 2 = .ok (.invokevirtual 166, 3) := by decide +kernel
theorem dX8_gap_5 : decode cX8_gap 5 = .ok (.ifCond .ne 5, 3) := by decide +kernel
theorem dX8_gap_8 : decode cX8_gap 8 = .ok (.iconst (-1), 1) := by decide +kernel
theorem dX8_gap_9 : decode cX8_gap 9 = .ok (.ireturn, 1) := by decide +kernel
theorem dX8_gap_10 : decode cX8_gap 10 = .ok (.iload_n 2, 1) := by decide +kernel
theorem dX8_gap_11 : decode cX8_gap 11 = .ok (.invokestatic 169, 3) := by decide +kernel
theorem dX8_gap_14 : decode cX8_gap 14 = .ok (.ifCond .ne 6, 3) := by decide +kernel
theorem dX8_gap_17 : decode cX8_gap 17 = .ok (.bipush (-2), 2) := by decide +kernel
theorem dX8_gap_19 : decode cX8_gap 19 = .ok (.ireturn, 1) := by decide +kernel
theorem dX8_gap_20 : decode cX8_gap 20 = .ok (.aload_n 0, 1) := by decide +kernel
theorem dX8_gap_21 : decode cX8_gap 21 = .ok (.iload_n 1, 1) := by decide +kernel
theorem dX8_gap_22 : decode cX8_gap 22 = .ok (.iload_n 2, 1) := by decide +kernel
theorem dX8_gap_23 : decode cX8_gap 23 = .ok (.invokevirtual 172, 3) := by decide +kernel
theorem dX8_gap_26 : decode cX8_gap 26 = .ok (.ifCond .eq 7, 3) := by decide +kernel
theorem dX8_gap_29 : decode cX8_gap 29 = .ok (.iconst 1, 1) := by decide +kernel
theorem dX8_gap_30 : decode cX8_gap 30 = .ok (.goto 4, 3) := by decide +kernel
theorem dX8_gap_33 : decode cX8_gap 33 = .ok (.iconst 0, 1) := by decide +kernel
theorem dX8_gap_34 : decode cX8_gap 34 = .ok (.istore_n 3, 1) := by decide +kernel
theorem dX8_gap_35 : decode cX8_gap 35 = .ok (.aload_n 0, 1) := by decide +kernel
theorem dX8_gap_36 : decode cX8_gap 36 = .ok (.getfield 35, 3) := by decide +kernel
theorem dX8_gap_39 : decode cX8_gap 39 = .ok (.bipush 48, 2) := by decide +kernel
theorem dX8_gap_41 : decode cX8_gap 41 = .ok (.iload_n 1, 1) := by decide +kernel
theorem dX8_gap_42 : decode cX8_gap 42 = .ok (.imul, 1) := by decide +kernel
theorem dX8_gap_43 : decode cX8_gap 43 = .ok (.iload_n 2, 1) := by decide +kernel
theorem dX8_gap_44 : decode cX8_gap 44 = .ok (.iadd, 1) := by decide +kernel
theorem dX8_gap_45 : decode cX8_gap 45 = .ok (.iconst 0, 1) := by decide +kernel
theorem dX8_gap_46 : decode cX8_gap 46 = .ok (.iastore, 1) := by decide +kernel
theorem dX8_gap_47 : decode cX8_gap 47 = .ok (.iload_n 3, 1) := by decide +kernel
theorem dX8_gap_48 : decode cX8_gap 48 = .ok (.ireturn, 1) := by decide +kernel
theorem dX8_rightAt_0 : decode cX8_rightAt 0 = .ok (.aload_n 0, 1) := by decide +kernel
theorem dX8_rightAt_1 : decode cX8_rightAt 1 = .ok (.aload_n 0, 1) := by decide +kernel
theorem dX8_rightAt_2 : decode cX8_rightAt 2 = .ok (.getfield 32, 3) := by decide +kernel
theorem dX8_rightAt_5 : decode cX8_rightAt 5 = .ok (.iload_n 1, 1) := by decide +kernel
theorem dX8_rightAt_6 : decode cX8_rightAt 6 = .ok (.iaload, 1) := by decide +kernel
theorem dX8_rightAt_7 : decode cX8_rightAt 7 = .ok (.aload_n 0, 1) := by decide +kernel
theorem dX8_rightAt_8 : decode cX8_rightAt 8 = .ok (.getfield 35, 3) := by decide +kernel
theorem dX8_rightAt_11 : decode cX8_rightAt 11 = .ok (.bipush 48, 2) := by decide +kernel
theorem dX8_rightAt_13 : decode cX8_rightAt 13 = .ok (.iload_n 1, 1) := by decide +kernel
theorem dX8_rightAt_14 : decode cX8_rightAt 14 = .ok (.imul, 1) := by decide +kernel
theorem dX8_rightAt_15 : decode cX8_rightAt 15 = .ok (.iload_n 2, 1) := by decide +kernel
theorem dX8_rightAt_16 : decode cX8_rightAt 16 = .ok (.iadd, 1) := by decide +kernel
theorem dX8_rightAt_17 : decode cX8_rightAt 17 = .ok (.iaload, 1) := by decide +kernel
theorem dX8_rightAt_18 : decode cX8_rightAt 18 = .ok (.aload_n 0, 1) := by decide +kernel
theorem dX8_rightAt_19 : decode cX8_rightAt 19 = .ok (.getfield 38, 3) := by decide +kernel
theorem dX8_rightAt_22 : decode cX8_rightAt 22 = .ok (.bipush 48, 2) := by decide +kernel
theorem dX8_rightAt_24 : decode cX8_rightAt 24 = .ok (.iload_n 1, 1) := by decide +kernel
theorem dX8_rightAt_25 : decode cX8_rightAt 25 = .ok (.imul, 1) := by decide +kernel
theorem dX8_rightAt_26 : decode cX8_rightAt 26 = .ok (.iload_n 2, 1) := by decide +kernel
theorem dX8_rightAt_27 : decode cX8_rightAt 27 = .ok (.iadd, 1) := by decide +kernel
theorem dX8_rightAt_28 : decode cX8_rightAt 28 = .ok (.iaload, 1) := by decide +kernel
theorem dX8_rightAt_29 : decode cX8_rightAt 29 = .ok (.invokevirtual 150, 3) := by decide +kernel
theorem dX8_rightAt_32 : decode cX8_rightAt 32 = .ok (.lreturn, 1) := by decide +kernel
theorem dX8_mendedAt_0 : decode cX8_mendedAt 0 = .ok (.aload_n 0, 1) := by decide +kernel
theorem dX8_mendedAt_1 : decode cX8_mendedAt 1 = .ok (.iload_n 1, 1) := by decide +kernel
theorem dX8_mendedAt_2 : decode cX8_mendedAt 2 = .ok (.iload_n 2, 1) := by decide +kernel
theorem dX8_mendedAt_3 : decode cX8_mendedAt 3 = .ok (.invokevirtual 175, 3) := by decide +kernel
theorem dX8_mendedAt_6 : decode cX8_mendedAt 6 = .ok (.lstore_n 3, 1) := by decide +kernel
theorem dX8_mendedAt_7 : decode cX8_mendedAt 7 = .ok (.iconst 0, 1) := by decide +kernel
theorem dX8_mendedAt_8 : decode cX8_mendedAt 8 = .ok (.istore 5, 2) := by decide +kernel
theorem dX8_mendedAt_10 : decode cX8_mendedAt 10 = .ok (.iload 5, 2) := by decide +kernel
theorem dX8_mendedAt_12 : decode cX8_mendedAt 12 = .ok (.aload_n 0, 1) := by decide +kernel
theorem dX8_mendedAt_13 : decode cX8_mendedAt 13 = .ok (.getfield 47, 3) := by decide +kernel
theorem dX8_mendedAt_16 : decode cX8_mendedAt 16 = .ok (.iload_n 1, 1) := by decide +kernel
theorem dX8_mendedAt_17 : decode cX8_mendedAt 17 = .ok (.iaload, 1) := by decide +kernel
theorem dX8_mendedAt_18 : decode cX8_mendedAt 18 = .ok (.if_icmp .ge 42, 3) := by decide +kernel
theorem dX8_mendedAt_21 : decode cX8_mendedAt 21 = .ok (.lload_n 3, 1) := by decide +kernel
theorem dX8_mendedAt_22 : decode cX8_mendedAt 22 = .ok (.aload_n 0, 1) := by decide +kernel
theorem dX8_mendedAt_23 : decode cX8_mendedAt 23 = .ok (.getfield 41, 3) := by decide +kernel
theorem dX8_mendedAt_26 : decode cX8_mendedAt 26 = .ok (.iconst 3, 1) := by decide +kernel
theorem dX8_mendedAt_27 : decode cX8_mendedAt 27 = .ok (.iload_n 1, 1) := by decide +kernel
theorem dX8_mendedAt_28 : decode cX8_mendedAt 28 = .ok (.imul, 1) := by decide +kernel
theorem dX8_mendedAt_29 : decode cX8_mendedAt 29 = .ok (.iload 5, 2) := by decide +kernel
theorem dX8_mendedAt_31 : decode cX8_mendedAt 31 = .ok (.iadd, 1) := by decide +kernel
theorem dX8_mendedAt_32 : decode cX8_mendedAt 32 = .ok (.iaload, 1) := by decide +kernel
theorem dX8_mendedAt_33 : decode cX8_mendedAt 33 = .ok (.iload_n 2, 1) := by decide +kernel
theorem dX8_mendedAt_34 : decode cX8_mendedAt 34 = .ok (.if_icmp .gt 17, 3) := by decide +kernel
theorem dX8_mendedAt_37 : decode cX8_mendedAt 37 = .ok (.aload_n 0, 1) := by decide +kernel
theorem dX8_mendedAt_38 : decode cX8_mendedAt 38 = .ok (.getfield 44, 3) := by decide +kernel
theorem dX8_mendedAt_41 : decode cX8_mendedAt 41 = .ok (.iconst 3, 1) := by decide +kernel
theorem dX8_mendedAt_42 : decode cX8_mendedAt 42 = .ok (.iload_n 1, 1) := by decide +kernel
theorem dX8_mendedAt_43 : decode cX8_mendedAt 43 = .ok (.imul, 1) := by decide +kernel
theorem dX8_mendedAt_44 : decode cX8_mendedAt 44 = .ok (.iload 5, 2) := by decide +kernel
theorem dX8_mendedAt_46 : decode cX8_mendedAt 46 = .ok (.iadd, 1) := by decide +kernel
theorem dX8_mendedAt_47 : decode cX8_mendedAt 47 = .ok (.laload, 1) := by decide +kernel
theorem dX8_mendedAt_48 : decode cX8_mendedAt 48 = .ok (.goto 4, 3) := by decide +kernel
theorem dX8_mendedAt_51 : decode cX8_mendedAt 51 = .ok (.lconst 0, 1) := by decide +kernel
theorem dX8_mendedAt_52 : decode cX8_mendedAt 52 = .ok (.lsub, 1) := by decide +kernel
theorem dX8_mendedAt_53 : decode cX8_mendedAt 53 = .ok (.lstore_n 3, 1) := by decide +kernel
theorem dX8_mendedAt_54 : decode cX8_mendedAt 54 = .ok (.iinc 5 1, 3) := by decide +kernel
theorem dX8_mendedAt_57 : decode cX8_mendedAt 57 = .ok (.goto (-47), 3) := by decide +kernel
theorem dX8_mendedAt_60 : decode cX8_mendedAt 60 = .ok (.lload_n 3, 1) := by decide +kernel
theorem dX8_mendedAt_61 : decode cX8_mendedAt 61 = .ok (.lreturn, 1) := by decide +kernel
theorem dX8_heldAt_0 : decode cX8_heldAt 0 = .ok (.aload_n 0, 1) := by decide +kernel
theorem dX8_heldAt_1 : decode cX8_heldAt 1 = .ok (.iload_n 1, 1) := by decide +kernel
theorem dX8_heldAt_2 : decode cX8_heldAt 2 = .ok (.iload_n 2, 1) := by decide +kernel
theorem dX8_heldAt_3 : decode cX8_heldAt 3 = .ok (.invokevirtual 179, 3) := by decide +kernel
theorem dX8_heldAt_6 : decode cX8_heldAt 6 = .ok (.lstore_n 3, 1) := by decide +kernel
theorem dX8_heldAt_7 : decode cX8_heldAt 7 = .ok (.lload_n 3, 1) := by decide +kernel
theorem dX8_heldAt_8 : decode cX8_heldAt 8 = .ok (.lconst 1, 1) := by decide +kernel
theorem dX8_heldAt_9 : decode cX8_heldAt 9 = .ok (.lcmp, 1) := by decide +kernel
theorem dX8_heldAt_10 : decode cX8_heldAt 10 = .ok (.ifCond .ge 7, 3) := by decide +kernel
theorem dX8_heldAt_13 : decode cX8_heldAt 13 = .ok (.iconst 1, 1) := by decide +kernel
theorem dX8_heldAt_14 : decode cX8_heldAt 14 = .ok (.goto 19, 3) := by decide +kernel
theorem dX8_heldAt_17 : decode cX8_heldAt 17 = .ok (.lload_n 3, 1) := by decide +kernel
theorem dX8_heldAt_18 : decode cX8_heldAt 18 = .ok (.ldc2_w 182, 3) := by decide +kernel
theorem dX8_heldAt_21 : decode cX8_heldAt 21 = .ok (.lcmp, 1) := by decide +kernel
theorem dX8_heldAt_22 : decode cX8_heldAt 22 = .ok (.ifCond .le 9, 3) := by decide +kernel
theorem dX8_heldAt_25 : decode cX8_heldAt 25 = .ok (.sipush 20000, 3) := by decide +kernel
theorem dX8_heldAt_28 : decode cX8_heldAt 28 = .ok (.goto 5, 3) := by decide +kernel
theorem dX8_heldAt_31 : decode cX8_heldAt 31 = .ok (.lload_n 3, 1) := by decide +kernel
theorem dX8_heldAt_32 : decode cX8_heldAt 32 = .ok (.l2i, 1) := by decide +kernel
theorem dX8_heldAt_33 : decode cX8_heldAt 33 = .ok (.ireturn, 1) := by decide +kernel
theorem dX8_riseOf_0 : decode cX8_riseOf 0 = .ok (.aload_n 0, 1) := by decide +kernel
theorem dX8_riseOf_1 : decode cX8_riseOf 1 = .ok (.getfield 7, 3) := by decide +kernel
theorem dX8_riseOf_4 : decode cX8_riseOf 4 = .ok (.iload_n 1, 1) := by decide +kernel
theorem dX8_riseOf_5 : decode cX8_riseOf 5 = .ok (.iaload, 1) := by decide +kernel
theorem dX8_riseOf_6 : decode cX8_riseOf 6 = .ok (.aload_n 0, 1) := by decide +kernel
theorem dX8_riseOf_7 : decode cX8_riseOf 7 = .ok (.getfield 7, 3) := by decide +kernel
theorem dX8_riseOf_10 : decode cX8_riseOf 10 = .ok (.iload_n 2, 1) := by decide +kernel
theorem dX8_riseOf_11 : decode cX8_riseOf 11 = .ok (.iaload, 1) := by decide +kernel
theorem dX8_riseOf_12 : decode cX8_riseOf 12 = .ok (.isub, 1) := by decide +kernel
theorem dX8_riseOf_13 : decode cX8_riseOf 13 = .ok (.i2l, 1) := by decide +kernel
theorem dX8_riseOf_14 : decode cX8_riseOf 14 = .ok (.sipush 2730, 3) := by decide +kernel
theorem dX8_riseOf_17 : decode cX8_riseOf 17 = .ok (.bipush 10, 2) := by decide +kernel
theorem dX8_riseOf_19 : decode cX8_riseOf 19 = .ok (.iload_n 3, 1) := by decide +kernel
theorem dX8_riseOf_20 : decode cX8_riseOf 20 = .ok (.imul, 1) := by decide +kernel
theorem dX8_riseOf_21 : decode cX8_riseOf 21 = .ok (.iadd, 1) := by decide +kernel
theorem dX8_riseOf_22 : decode cX8_riseOf 22 = .ok (.i2l, 1) := by decide +kernel
theorem dX8_riseOf_23 : decode cX8_riseOf 23 = .ok (.lmul, 1) := by decide +kernel
theorem dX8_riseOf_24 : decode cX8_riseOf 24 = .ok (.ldc2_w 184, 3) := by decide +kernel
theorem dX8_riseOf_27 : decode cX8_riseOf 27 = .ok (.ldiv, 1) := by decide +kernel
theorem dX8_riseOf_28 : decode cX8_riseOf 28 = .ok (.lreturn, 1) := by decide +kernel
theorem dX8_levelAt_0 : decode cX8_levelAt 0 = .ok (.aload_n 0, 1) := by decide +kernel
theorem dX8_levelAt_1 : decode cX8_levelAt 1 = .ok (.iload_n 1, 1) := by decide +kernel
theorem dX8_levelAt_2 : decode cX8_levelAt 2 = .ok (.iload_n 2, 1) := by decide +kernel
theorem dX8_levelAt_3 : decode cX8_levelAt 3 = .ok (.invokevirtual 186, 3) := by decide +kernel
theorem dX8_levelAt_6 : decode cX8_levelAt 6 = .ok (.istore_n 3, 1) := by decide +kernel
theorem dX8_levelAt_7 : decode cX8_levelAt 7 = .ok (.aload_n 0, 1) := by decide +kernel
theorem dX8_levelAt_8 : decode cX8_levelAt 8 = .ok (.getfield 38, 3) := by decide +kernel
theorem dX8_levelAt_11 : decode cX8_levelAt 11 = .ok (.bipush 48, 2) := by decide +kernel
theorem dX8_levelAt_13 : decode cX8_levelAt 13 = .ok (.iload_n 1, 1) := by decide +kernel
theorem dX8_levelAt_14 : decode cX8_levelAt 14 = .ok (.imul, 1) := by decide +kernel
theorem dX8_levelAt_15 : decode cX8_levelAt 15 = .ok (.iload_n 2, 1) := by decide +kernel
theorem dX8_levelAt_16 : decode cX8_levelAt 16 = .ok (.iadd, 1) := by decide +kernel
theorem dX8_levelAt_17 : decode cX8_levelAt 17 = .ok (.iaload, 1) := by decide +kernel
theorem dX8_levelAt_18 : decode cX8_levelAt 18 = .ok (.istore 4, 2) := by decide +kernel
theorem dX8_levelAt_20 : decode cX8_levelAt 20 = .ok (.ldc2_w 190, 3) := by decide +kernel
theorem dX8_levelAt_23 : decode cX8_levelAt 23 = .ok (.aload_n 0, 1) := by decide +kernel
theorem dX8_levelAt_24 : decode cX8_levelAt 24 = .ok (.getfield 29, 3) := by decide +kernel
theorem dX8_levelAt_27 : decode cX8_levelAt 27 = .ok (.iload_n 1, 1) := by decide +kernel
theorem dX8_levelAt_28 : decode cX8_levelAt 28 = .ok (.iaload, 1) := by decide +kernel
theorem dX8_levelAt_29 : decode cX8_levelAt 29 = .ok (.i2l, 1) := by decide +kernel
theorem dX8_levelAt_30 : decode cX8_levelAt 30 = .ok (.invokestatic 92, 3) := by decide +kernel
theorem dX8_levelAt_33 : decode cX8_levelAt 33 = .ok (.lmul, 1) := by decide +kernel
theorem dX8_levelAt_34 : decode cX8_levelAt 34 = .ok (.lstore 5, 2) := by decide +kernel
theorem dX8_levelAt_36 : decode cX8_levelAt 36 = .ok (.aload_n 0, 1) := by decide +kernel
theorem dX8_levelAt_37 : decode cX8_levelAt 37 = .ok (.getfield 29, 3) := by decide +kernel
theorem dX8_levelAt_40 : decode cX8_levelAt 40 = .ok (.iload_n 1, 1) := by decide +kernel
theorem dX8_levelAt_41 : decode cX8_levelAt 41 = .ok (.iaload, 1) := by decide +kernel
theorem dX8_levelAt_42 : decode cX8_levelAt 42 = .ok (.ifCond .ne 5, 3) := by decide +kernel
theorem dX8_levelAt_45 : decode cX8_levelAt 45 = .ok (.iload_n 3, 1) := by decide +kernel
theorem dX8_levelAt_46 : decode cX8_levelAt 46 = .ok (.ireturn, 1) := by decide +kernel
theorem dX8_levelAt_47 : decode cX8_levelAt 47 = .ok (.aload_n 0, 1) := by decide +kernel
theorem dX8_levelAt_48 : decode cX8_levelAt 48 = .ok (.getfield 29, 3) := by decide +kernel
theorem dX8_levelAt_51 : decode cX8_levelAt 51 = .ok (.iload_n 1, 1) := by decide +kernel
theorem dX8_levelAt_52 : decode cX8_levelAt 52 = .ok (.iaload, 1) := by decide +kernel
theorem dX8_levelAt_53 : decode cX8_levelAt 53 = .ok (.ifCond .le 7, 3) := by decide +kernel
theorem dX8_levelAt_56 : decode cX8_levelAt 56 = .ok (.iconst 1, 1) := by decide +kernel
theorem dX8_levelAt_57 : decode cX8_levelAt 57 = .ok (.goto 4, 3) := by decide +kernel
theorem dX8_levelAt_60 : decode cX8_levelAt 60 = .ok (.iconst 0, 1) := by decide +kernel
theorem dX8_levelAt_61 : decode cX8_levelAt 61 = .ok (.istore 7, 2) := by decide +kernel
theorem dX8_levelAt_63 : decode cX8_levelAt 63 = .ok (.iload 7, 2) := by decide +kernel
theorem dX8_levelAt_65 : decode cX8_levelAt 65 = .ok (.ifCond .eq 7, 3) := by decide +kernel
theorem dX8_levelAt_68 : decode cX8_levelAt 68 = .ok (.iload_n 3, 1) := by decide +kernel
theorem dX8_levelAt_69 : decode cX8_levelAt 69 = .ok (.goto 4, 3) := by decide +kernel
theorem dX8_levelAt_72 : decode cX8_levelAt 72 = .ok (.iconst 0, 1) := by decide +kernel
theorem dX8_levelAt_73 : decode cX8_levelAt 73 = .ok (.istore 8, 2) := by decide +kernel
theorem dX8_levelAt_75 : decode cX8_levelAt 75 = .ok (.iload 7, 2) := by decide +kernel
theorem dX8_levelAt_77 : decode cX8_levelAt 77 = .ok (.ifCond .eq 9, 3) := by decide +kernel
theorem dX8_levelAt_80 : decode cX8_levelAt 80 = .ok (.sipush 20000, 3) := by decide +kernel
theorem dX8_levelAt_83 : decode cX8_levelAt 83 = .ok (.goto 4, 3) := by decide +kernel
theorem dX8_levelAt_86 : decode cX8_levelAt 86 = .ok (.iload_n 3, 1) := by decide +kernel
theorem dX8_levelAt_87 : decode cX8_levelAt 87 = .ok (.istore 9, 2) := by decide +kernel
theorem dX8_levelAt_89 : decode cX8_levelAt 89 = .ok (.iload 7, 2) := by decide +kernel
theorem dX8_levelAt_91 : decode cX8_levelAt 91 = .ok (.ifCond .eq 50, 3) := by decide +kernel
theorem dX8_levelAt_94 : decode cX8_levelAt 94 = .ok (.iload 8, 2) := by decide +kernel
theorem dX8_levelAt_96 : decode cX8_levelAt 96 = .ok (.iload 9, 2) := by decide +kernel
theorem dX8_levelAt_98 : decode cX8_levelAt 98 = .ok (.if_icmp .ge 43, 3) := by decide +kernel
theorem dX8_levelAt_101 : decode cX8_levelAt 101 = .ok (.iload 8, 2) := by decide +kernel
theorem dX8_levelAt_103 : decode cX8_levelAt 103 = .ok (.iload 9, 2) := by decide +kernel
theorem dX8_levelAt_105 : decode cX8_levelAt 105 = .ok (.iadd, 1) := by decide +kernel
theorem dX8_levelAt_106 : decode cX8_levelAt 106 = .ok (.iconst 2, 1) := by decide +kernel
theorem dX8_levelAt_107 : decode cX8_levelAt 107 = .ok (.idiv, 1) := by decide +kernel
theorem dX8_levelAt_108 : decode cX8_levelAt 108 = .ok (.istore 10, 2) := by decide +kernel
theorem dX8_levelAt_110 : decode cX8_levelAt 110 = .ok (.aload_n 0, 1) := by decide +kernel
theorem dX8_levelAt_111 : decode cX8_levelAt 111 = .ok (.iload 10, 2) := by decide +kernel
theorem dX8_levelAt_113 : decode cX8_levelAt 113 = .ok (.iload_n 3, 1) := by decide +kernel
theorem dX8_levelAt_114 : decode cX8_levelAt 114 = .ok (.iload 4, 2) := by decide +kernel
theorem dX8_levelAt_116 : decode cX8_levelAt 116 = .ok (.invokevirtual 192, 3) := by decide +kernel
theorem dX8_levelAt_119 : decode cX8_levelAt 119 = .ok (.lload 5, 2) := by decide +kernel
theorem dX8_levelAt_121 : decode cX8_levelAt 121 = .ok (.lcmp, 1) := by decide +kernel
theorem dX8_levelAt_122 : decode cX8_levelAt 122 = .ok (.ifCond .lt 10, 3) := by decide +kernel
theorem dX8_levelAt_125 : decode cX8_levelAt 125 = .ok (.iload 10, 2) := by decide +kernel
theorem dX8_levelAt_127 : decode cX8_levelAt 127 = .ok (.istore 9, 2) := by decide +kernel
theorem dX8_levelAt_129 : decode cX8_levelAt 129 = .ok (.goto 9, 3) := by decide +kernel
theorem dX8_levelAt_132 : decode cX8_levelAt 132 = .ok (.iload 10, 2) := by decide +kernel
theorem dX8_levelAt_134 : decode cX8_levelAt 134 = .ok (.iconst 1, 1) := by decide +kernel
theorem dX8_levelAt_135 : decode cX8_levelAt 135 = .ok (.iadd, 1) := by decide +kernel
theorem dX8_levelAt_136 : decode cX8_levelAt 136 = .ok (.istore 8, 2) := by decide +kernel
theorem dX8_levelAt_138 : decode cX8_levelAt 138 = .ok (.goto (-49), 3) := by decide +kernel
theorem dX8_levelAt_141 : decode cX8_levelAt 141 = .ok (.iload 7, 2) := by decide +kernel
theorem dX8_levelAt_143 : decode cX8_levelAt 143 = .ok (.ifCond .ne 52, 3) := by decide +kernel
theorem dX8_levelAt_146 : decode cX8_levelAt 146 = .ok (.iload 8, 2) := by decide +kernel
theorem dX8_levelAt_148 : decode cX8_levelAt 148 = .ok (.iload 9, 2) := by decide +kernel
theorem dX8_levelAt_150 : decode cX8_levelAt 150 = .ok (.if_icmp .ge 45, 3) := by decide +kernel
theorem dX8_levelAt_153 : decode cX8_levelAt 153 = .ok (.iload 8, 2) := by decide +kernel
theorem dX8_levelAt_155 : decode cX8_levelAt 155 = .ok (.iload 9, 2) := by decide +kernel
theorem dX8_levelAt_157 : decode cX8_levelAt 157 = .ok (.iadd, 1) := by decide +kernel
theorem dX8_levelAt_158 : decode cX8_levelAt 158 = .ok (.iconst 1, 1) := by decide +kernel
theorem dX8_levelAt_159 : decode cX8_levelAt 159 = .ok (.iadd, 1) := by decide +kernel
theorem dX8_levelAt_160 : decode cX8_levelAt 160 = .ok (.iconst 2, 1) := by decide +kernel
theorem dX8_levelAt_161 : decode cX8_levelAt 161 = .ok (.idiv, 1) := by decide +kernel
theorem dX8_levelAt_162 : decode cX8_levelAt 162 = .ok (.istore 10, 2) := by decide +kernel
theorem dX8_levelAt_164 : decode cX8_levelAt 164 = .ok (.aload_n 0, 1) := by decide +kernel
theorem dX8_levelAt_165 : decode cX8_levelAt 165 = .ok (.iload_n 3, 1) := by decide +kernel
theorem dX8_levelAt_166 : decode cX8_levelAt 166 = .ok (.iload 10, 2) := by decide +kernel
theorem dX8_levelAt_168 : decode cX8_levelAt 168 = .ok (.iload 4, 2) := by decide +kernel
theorem dX8_levelAt_170 : decode cX8_levelAt 170 = .ok (.invokevirtual 192, 3) := by decide +kernel
theorem dX8_levelAt_173 : decode cX8_levelAt 173 = .ok (.lload 5, 2) := by decide +kernel
theorem dX8_levelAt_175 : decode cX8_levelAt 175 = .ok (.lcmp, 1) := by decide +kernel
theorem dX8_levelAt_176 : decode cX8_levelAt 176 = .ok (.ifCond .lt 10, 3) := by decide +kernel
theorem dX8_levelAt_179 : decode cX8_levelAt 179 = .ok (.iload 10, 2) := by decide +kernel
theorem dX8_levelAt_181 : decode cX8_levelAt 181 = .ok (.istore 8, 2) := by decide +kernel
theorem dX8_levelAt_183 : decode cX8_levelAt 183 = .ok (.goto 9, 3) := by decide +kernel
theorem dX8_levelAt_186 : decode cX8_levelAt 186 = .ok (.iload 10, 2) := by decide +kernel
theorem dX8_levelAt_188 : decode cX8_levelAt 188 = .ok (.iconst 1, 1) := by decide +kernel
theorem dX8_levelAt_189 : decode cX8_levelAt 189 = .ok (.isub, 1) := by decide +kernel
theorem dX8_levelAt_190 : decode cX8_levelAt 190 = .ok (.istore 9, 2) := by decide +kernel
theorem dX8_levelAt_192 : decode cX8_levelAt 192 = .ok (.goto (-51), 3) := by decide +kernel
theorem dX8_levelAt_195 : decode cX8_levelAt 195 = .ok (.iload 8, 2) := by decide +kernel
theorem dX8_levelAt_197 : decode cX8_levelAt 197 = .ok (.iconst 1, 1) := by decide +kernel
theorem dX8_levelAt_198 : decode cX8_levelAt 198 = .ok (.if_icmp .ge 7, 3) := by decide +kernel
theorem dX8_levelAt_201 : decode cX8_levelAt 201 = .ok (.iconst 1, 1) := by decide +kernel
theorem dX8_levelAt_202 : decode cX8_levelAt 202 = .ok (.goto 5, 3) := by decide +kernel
theorem dX8_levelAt_205 : decode cX8_levelAt 205 = .ok (.iload 8, 2) := by decide +kernel
theorem dX8_levelAt_207 : decode cX8_levelAt 207 = .ok (.ireturn, 1) := by decide +kernel
theorem dX8_reading_0 : decode cX8_reading 0 = .ok (.aload_n 0, 1) := by decide +kernel
theorem dX8_reading_1 : decode cX8_reading 1 = .ok (.iload_n 1, 1) := by decide +kernel
theorem dX8_reading_2 : decode cX8_reading 2 = .ok (.invokevirtual 166, 3) := by decide +kernel
theorem dX8_reading_5 : decode cX8_reading 5 = .ok (.ifCond .ne 7, 3) := by decide +kernel
theorem dX8_reading_8 : decode cX8_reading 8 = .ok (.ldc2_w 136, 3) := by decide +kernel
theorem dX8_reading_11 : decode cX8_reading 11 = .ok (.lreturn, 1) := by decide +kernel
theorem dX8_reading_12 : decode cX8_reading 12 = .ok (.iload_n 2, 1) := by decide +kernel
theorem dX8_reading_13 : decode cX8_reading 13 = .ok (.invokestatic 169, 3) := by decide +kernel
theorem dX8_reading_16 : decode cX8_reading 16 = .ok (.ifCond .eq 15, 3) := by decide +kernel
theorem dX8_reading_19 : decode cX8_reading 19 = .ok (.iload_n 3, 1) := by decide +kernel
theorem dX8_reading_20 : decode cX8_reading 20 = .ok (.i2l, 1) := by decide +kernel
theorem dX8_reading_21 : decode cX8_reading 21 = .ok (.lconst 0, 1) := by decide +kernel
theorem dX8_reading_22 : decode cX8_reading 22 = .ok (.ldc2_w 195, 3) := by decide +kernel
theorem dX8_reading_25 : decode cX8_reading 25 = .ok (.invokestatic 102, 3) := by decide +kernel
theorem dX8_reading_28 : decode cX8_reading 28 = .ok (.ifCond .ne 7, 3) := by decide +kernel
theorem dX8_reading_31 : decode cX8_reading 31 = .ok (.ldc2_w 138, 3) := by decide +kernel
theorem dX8_reading_34 : decode cX8_reading 34 = .ok (.lreturn, 1) := by decide +kernel
theorem dX8_reading_35 : decode cX8_reading 35 = .ok (.aload_n 0, 1) := by decide +kernel
theorem dX8_reading_36 : decode cX8_reading 36 = .ok (.iload_n 1, 1) := by decide +kernel
theorem dX8_reading_37 : decode cX8_reading 37 = .ok (.iload_n 2, 1) := by decide +kernel
theorem dX8_reading_38 : decode cX8_reading 38 = .ok (.invokevirtual 172, 3) := by decide +kernel
theorem dX8_reading_41 : decode cX8_reading 41 = .ok (.ifCond .ne 7, 3) := by decide +kernel
theorem dX8_reading_44 : decode cX8_reading 44 = .ok (.ldc2_w 197, 3) := by decide +kernel
theorem dX8_reading_47 : decode cX8_reading 47 = .ok (.lreturn, 1) := by decide +kernel
theorem dX8_reading_48 : decode cX8_reading 48 = .ok (.iload_n 3, 1) := by decide +kernel
theorem dX8_reading_49 : decode cX8_reading 49 = .ok (.tableswitch 71 0 3 #[31, 44, 57, 64], 31) := by decide +kernel
theorem dX8_reading_80 : decode cX8_reading 80 = .ok (.aload_n 0, 1) := by decide +kernel
theorem dX8_reading_81 : decode cX8_reading 81 = .ok (.getfield 35, 3) := by decide +kernel
theorem dX8_reading_84 : decode cX8_reading 84 = .ok (.bipush 48, 2) := by decide +kernel
theorem dX8_reading_86 : decode cX8_reading 86 = .ok (.iload_n 1, 1) := by decide +kernel
theorem dX8_reading_87 : decode cX8_reading 87 = .ok (.imul, 1) := by decide +kernel
theorem dX8_reading_88 : decode cX8_reading 88 = .ok (.iload_n 2, 1) := by decide +kernel
theorem dX8_reading_89 : decode cX8_reading 89 = .ok (.iadd, 1) := by decide +kernel
theorem dX8_reading_90 : decode cX8_reading 90 = .ok (.iaload, 1) := by decide +kernel
theorem dX8_reading_91 : decode cX8_reading 91 = .ok (.i2l, 1) := by decide +kernel
theorem dX8_reading_92 : decode cX8_reading 92 = .ok (.lreturn, 1) := by decide +kernel
theorem dX8_reading_93 : decode cX8_reading 93 = .ok (.aload_n 0, 1) := by decide +kernel
theorem dX8_reading_94 : decode cX8_reading 94 = .ok (.getfield 38, 3) := by decide +kernel
theorem dX8_reading_97 : decode cX8_reading 97 = .ok (.bipush 48, 2) := by decide +kernel
theorem dX8_reading_99 : decode cX8_reading 99 = .ok (.iload_n 1, 1) := by decide +kernel
theorem dX8_reading_100 : decode cX8_reading 100 = .ok (.imul, 1) := by decide +kernel
theorem dX8_reading_101 : decode cX8_reading 101 = .ok (.iload_n 2, 1) := by decide +kernel
theorem dX8_reading_102 : decode cX8_reading 102 = .ok (.iadd, 1) := by decide +kernel
theorem dX8_reading_103 : decode cX8_reading 103 = .ok (.iaload, 1) := by decide +kernel
theorem dX8_reading_104 : decode cX8_reading 104 = .ok (.i2l, 1) := by decide +kernel
theorem dX8_reading_105 : decode cX8_reading 105 = .ok (.lreturn, 1) := by decide +kernel
theorem dX8_reading_106 : decode cX8_reading 106 = .ok (.aload_n 0, 1) := by decide +kernel
theorem dX8_reading_107 : decode cX8_reading 107 = .ok (.iload_n 1, 1) := by decide +kernel
theorem dX8_reading_108 : decode cX8_reading 108 = .ok (.iload_n 2, 1) := by decide +kernel
theorem dX8_reading_109 : decode cX8_reading 109 = .ok (.invokevirtual 175, 3) := by decide +kernel
theorem dX8_reading_112 : decode cX8_reading 112 = .ok (.lreturn, 1) := by decide +kernel
theorem dX8_reading_113 : decode cX8_reading 113 = .ok (.aload_n 0, 1) := by decide +kernel
theorem dX8_reading_114 : decode cX8_reading 114 = .ok (.iload_n 1, 1) := by decide +kernel
theorem dX8_reading_115 : decode cX8_reading 115 = .ok (.iload_n 2, 1) := by decide +kernel
theorem dX8_reading_116 : decode cX8_reading 116 = .ok (.invokevirtual 179, 3) := by decide +kernel
theorem dX8_reading_119 : decode cX8_reading 119 = .ok (.lreturn, 1) := by decide +kernel
theorem dX8_reading_120 : decode cX8_reading 120 = .ok (.aload_n 0, 1) := by decide +kernel
theorem dX8_reading_121 : decode cX8_reading 121 = .ok (.iload_n 1, 1) := by decide +kernel
theorem dX8_reading_122 : decode cX8_reading 122 = .ok (.iload_n 2, 1) := by decide +kernel
theorem dX8_reading_123 : decode cX8_reading 123 = .ok (.invokevirtual 199, 3) := by decide +kernel
theorem dX8_reading_126 : decode cX8_reading 126 = .ok (.i2l, 1) := by decide +kernel
theorem dX8_reading_127 : decode cX8_reading 127 = .ok (.lreturn, 1) := by decide +kernel
theorem dX8_rise_0 : decode cX8_rise 0 = .ok (.iload_n 1, 1) := by decide +kernel
theorem dX8_rise_1 : decode cX8_rise 1 = .ok (.i2l, 1) := by decide +kernel
theorem dX8_rise_2 : decode cX8_rise 2 = .ok (.lconst 1, 1) := by decide +kernel
theorem dX8_rise_3 : decode cX8_rise 3 = .ok (.ldc2_w 182, 3) := by decide +kernel
theorem dX8_rise_6 : decode cX8_rise 6 = .ok (.invokestatic 102, 3) := by decide +kernel
theorem dX8_rise_9 : decode cX8_rise 9 = .ok (.ifCond .eq 30, 3) := by decide +kernel
theorem dX8_rise_12 : decode cX8_rise 12 = .ok (.iload_n 2, 1) := by decide +kernel
theorem dX8_rise_13 : decode cX8_rise 13 = .ok (.i2l, 1) := by decide +kernel
theorem dX8_rise_14 : decode cX8_rise 14 = .ok (.lconst 1, 1) := by decide +kernel
theorem dX8_rise_15 : decode cX8_rise 15 = .ok (.iload_n 1, 1) := by decide +kernel
theorem dX8_rise_16 : decode cX8_rise 16 = .ok (.i2l, 1) := by decide +kernel
theorem dX8_rise_17 : decode cX8_rise 17 = .ok (.lconst 1, 1) := by decide +kernel
theorem dX8_rise_18 : decode cX8_rise 18 = .ok (.lsub, 1) := by decide +kernel
theorem dX8_rise_19 : decode cX8_rise 19 = .ok (.invokestatic 102, 3) := by decide +kernel
theorem dX8_rise_22 : decode cX8_rise 22 = .ok (.ifCond .eq 17, 3) := by decide +kernel
theorem dX8_rise_25 : decode cX8_rise 25 = .ok (.iload_n 3, 1) := by decide +kernel
theorem dX8_rise_26 : decode cX8_rise 26 = .ok (.i2l, 1) := by decide +kernel
theorem dX8_rise_27 : decode cX8_rise 27 = .ok (.ldc2_w 145, 3) := by decide +kernel
theorem dX8_rise_30 : decode cX8_rise 30 = .ok (.ldc2_w 108, 3) := by decide +kernel
theorem dX8_rise_33 : decode cX8_rise 33 = .ok (.invokestatic 102, 3) := by decide +kernel
theorem dX8_rise_36 : decode cX8_rise 36 = .ok (.ifCond .ne 7, 3) := by decide +kernel
theorem dX8_rise_39 : decode cX8_rise 39 = .ok (.ldc2_w 138, 3) := by decide +kernel
theorem dX8_rise_42 : decode cX8_rise 42 = .ok (.lreturn, 1) := by decide +kernel
theorem dX8_rise_43 : decode cX8_rise 43 = .ok (.aload_n 0, 1) := by decide +kernel
theorem dX8_rise_44 : decode cX8_rise 44 = .ok (.iload_n 1, 1) := by decide +kernel
theorem dX8_rise_45 : decode cX8_rise 45 = .ok (.iload_n 2, 1) := by decide +kernel
theorem dX8_rise_46 : decode cX8_rise 46 = .ok (.iload_n 3, 1) := by decide +kernel
theorem dX8_rise_47 : decode cX8_rise 47 = .ok (.invokevirtual 192, 3) := by decide +kernel
theorem dX8_rise_50 : decode cX8_rise 50 = .ok (.lreturn, 1) := by decide +kernel
theorem dX8_between_0 : decode cX8_between 0 = .ok (.aload_n 0, 1) := by decide +kernel
theorem dX8_between_1 : decode cX8_between 1 = .ok (.iload_n 1, 1) := by decide +kernel
theorem dX8_between_2 : decode cX8_between 2 = .ok (.invokevirtual 166, 3) := by decide +kernel
theorem dX8_between_5 : decode cX8_between 5 = .ok (.ifCond .eq 11, 3) := by decide +kernel
theorem dX8_between_8 : decode cX8_between 8 = .ok (.aload_n 0, 1) := by decide +kernel
theorem dX8_between_9 : decode cX8_between 9 = .ok (.iload_n 2, 1) := by decide +kernel
theorem dX8_between_10 : decode cX8_between 10 = .ok (.invokevirtual 166, 3) := by decide +kernel
theorem dX8_between_13 : decode cX8_between 13 = .ok (.ifCond .ne 7, 3) := by decide +kernel
theorem dX8_between_16 : decode cX8_between 16 = .ok (.ldc2_w 136, 3) := by decide +kernel
theorem dX8_between_19 : decode cX8_between 19 = .ok (.lreturn, 1) := by decide +kernel
theorem dX8_between_20 : decode cX8_between 20 = .ok (.iload_n 3, 1) := by decide +kernel
theorem dX8_between_21 : decode cX8_between 21 = .ok (.invokestatic 169, 3) := by decide +kernel
theorem dX8_between_24 : decode cX8_between 24 = .ok (.ifCond .ne 7, 3) := by decide +kernel
theorem dX8_between_27 : decode cX8_between 27 = .ok (.ldc2_w 138, 3) := by decide +kernel
theorem dX8_between_30 : decode cX8_between 30 = .ok (.lreturn, 1) := by decide +kernel
theorem dX8_between_31 : decode cX8_between 31 = .ok (.aload_n 0, 1) := by decide +kernel
theorem dX8_between_32 : decode cX8_between 32 = .ok (.iload_n 1, 1) := by decide +kernel
theorem dX8_between_33 : decode cX8_between 33 = .ok (.iload_n 3, 1) := by decide +kernel
theorem dX8_between_34 : decode cX8_between 34 = .ok (.invokevirtual 172, 3) := by decide +kernel
theorem dX8_between_37 : decode cX8_between 37 = .ok (.ifCond .eq 12, 3) := by decide +kernel
theorem dX8_between_40 : decode cX8_between 40 = .ok (.aload_n 0, 1) := by decide +kernel
theorem dX8_between_41 : decode cX8_between 41 = .ok (.iload_n 2, 1) := by decide +kernel
theorem dX8_between_42 : decode cX8_between 42 = .ok (.iload_n 3, 1) := by decide +kernel
theorem dX8_between_43 : decode cX8_between 43 = .ok (.invokevirtual 172, 3) := by decide +kernel
theorem dX8_between_46 : decode cX8_between 46 = .ok (.ifCond .ne 7, 3) := by decide +kernel
theorem dX8_between_49 : decode cX8_between 49 = .ok (.ldc2_w 197, 3) := by decide +kernel
theorem dX8_between_52 : decode cX8_between 52 = .ok (.lreturn, 1) := by decide +kernel
theorem dX8_between_53 : decode cX8_between 53 = .ok (.aload_n 0, 1) := by decide +kernel
theorem dX8_between_54 : decode cX8_between 54 = .ok (.iload_n 1, 1) := by decide +kernel
theorem dX8_between_55 : decode cX8_between 55 = .ok (.iload_n 3, 1) := by decide +kernel
theorem dX8_between_56 : decode cX8_between 56 = .ok (.invokevirtual 186, 3) := by decide +kernel
theorem dX8_between_59 : decode cX8_between 59 = .ok (.istore 4, 2) := by decide +kernel
theorem dX8_between_61 : decode cX8_between 61 = .ok (.aload_n 0, 1) := by decide +kernel
theorem dX8_between_62 : decode cX8_between 62 = .ok (.iload_n 2, 1) := by decide +kernel
theorem dX8_between_63 : decode cX8_between 63 = .ok (.iload_n 3, 1) := by decide +kernel
theorem dX8_between_64 : decode cX8_between 64 = .ok (.invokevirtual 186, 3) := by decide +kernel
theorem dX8_between_67 : decode cX8_between 67 = .ok (.istore 5, 2) := by decide +kernel
theorem dX8_between_69 : decode cX8_between 69 = .ok (.aload_n 0, 1) := by decide +kernel
theorem dX8_between_70 : decode cX8_between 70 = .ok (.getfield 38, 3) := by decide +kernel
theorem dX8_between_73 : decode cX8_between 73 = .ok (.bipush 48, 2) := by decide +kernel
theorem dX8_between_75 : decode cX8_between 75 = .ok (.iload_n 1, 1) := by decide +kernel
theorem dX8_between_76 : decode cX8_between 76 = .ok (.imul, 1) := by decide +kernel
theorem dX8_between_77 : decode cX8_between 77 = .ok (.iload_n 3, 1) := by decide +kernel
theorem dX8_between_78 : decode cX8_between 78 = .ok (.iadd, 1) := by decide +kernel
theorem dX8_between_79 : decode cX8_between 79 = .ok (.iaload, 1) := by decide +kernel
theorem dX8_between_80 : decode cX8_between 80 = .ok (.aload_n 0, 1) := by decide +kernel
theorem dX8_between_81 : decode cX8_between 81 = .ok (.getfield 38, 3) := by decide +kernel
theorem dX8_between_84 : decode cX8_between 84 = .ok (.bipush 48, 2) := by decide +kernel
theorem dX8_between_86 : decode cX8_between 86 = .ok (.iload_n 2, 1) := by decide +kernel
theorem dX8_between_87 : decode cX8_between 87 = .ok (.imul, 1) := by decide +kernel
theorem dX8_between_88 : decode cX8_between 88 = .ok (.iload_n 3, 1) := by decide +kernel
theorem dX8_between_89 : decode cX8_between 89 = .ok (.iadd, 1) := by decide +kernel
theorem dX8_between_90 : decode cX8_between 90 = .ok (.iaload, 1) := by decide +kernel
theorem dX8_between_91 : decode cX8_between 91 = .ok (.iadd, 1) := by decide +kernel
theorem dX8_between_92 : decode cX8_between 92 = .ok (.iconst 2, 1) := by decide +kernel
theorem dX8_between_93 : decode cX8_between 93 = .ok (.idiv, 1) := by decide +kernel
theorem dX8_between_94 : decode cX8_between 94 = .ok (.istore 6, 2) := by decide +kernel
theorem dX8_between_96 : decode cX8_between 96 = .ok (.iload 4, 2) := by decide +kernel
theorem dX8_between_98 : decode cX8_between 98 = .ok (.iload 5, 2) := by decide +kernel
theorem dX8_between_100 : decode cX8_between 100 = .ok (.if_icmp .le 16, 3) := by decide +kernel
theorem dX8_between_103 : decode cX8_between 103 = .ok (.aload_n 0, 1) := by decide +kernel
theorem dX8_between_104 : decode cX8_between 104 = .ok (.iload 4, 2) := by decide +kernel
theorem dX8_between_106 : decode cX8_between 106 = .ok (.iload 5, 2) := by decide +kernel
theorem dX8_between_108 : decode cX8_between 108 = .ok (.iload 6, 2) := by decide +kernel
theorem dX8_between_110 : decode cX8_between 110 = .ok (.invokevirtual 192, 3) := by decide +kernel
theorem dX8_between_113 : decode cX8_between 113 = .ok (.goto 25, 3) := by decide +kernel
theorem dX8_between_116 : decode cX8_between 116 = .ok (.iload 4, 2) := by decide +kernel
theorem dX8_between_118 : decode cX8_between 118 = .ok (.iload 5, 2) := by decide +kernel
theorem dX8_between_120 : decode cX8_between 120 = .ok (.if_icmp .ge 17, 3) := by decide +kernel
theorem dX8_between_123 : decode cX8_between 123 = .ok (.aload_n 0, 1) := by decide +kernel
theorem dX8_between_124 : decode cX8_between 124 = .ok (.iload 5, 2) := by decide +kernel
theorem dX8_between_126 : decode cX8_between 126 = .ok (.iload 4, 2) := by decide +kernel
theorem dX8_between_128 : decode cX8_between 128 = .ok (.iload 6, 2) := by decide +kernel
theorem dX8_between_130 : decode cX8_between 130 = .ok (.invokevirtual 192, 3) := by decide +kernel
theorem dX8_between_133 : decode cX8_between 133 = .ok (.lneg, 1) := by decide +kernel
theorem dX8_between_134 : decode cX8_between 134 = .ok (.goto 4, 3) := by decide +kernel
theorem dX8_between_137 : decode cX8_between 137 = .ok (.lconst 0, 1) := by decide +kernel
theorem dX8_between_138 : decode cX8_between 138 = .ok (.lreturn, 1) := by decide +kernel
theorem dX8_isBench_0 : decode cX8_isBench 0 = .ok (.iload_n 1, 1) := by decide +kernel
theorem dX8_isBench_1 : decode cX8_isBench 1 = .ok (.i2l, 1) := by decide +kernel
theorem dX8_isBench_2 : decode cX8_isBench 2 = .ok (.lconst 0, 1) := by decide +kernel
theorem dX8_isBench_3 : decode cX8_isBench 3 = .ok (.aload_n 0, 1) := by decide +kernel
theorem dX8_isBench_4 : decode cX8_isBench 4 = .ok (.getfield 50, 3) := by decide +kernel
theorem dX8_isBench_7 : decode cX8_isBench 7 = .ok (.iconst 1, 1) := by decide +kernel
theorem dX8_isBench_8 : decode cX8_isBench 8 = .ok (.isub, 1) := by decide +kernel
theorem dX8_isBench_9 : decode cX8_isBench 9 = .ok (.i2l, 1) := by decide +kernel
theorem dX8_isBench_10 : decode cX8_isBench 10 = .ok (.invokestatic 102, 3) := by decide +kernel
theorem dX8_isBench_13 : decode cX8_isBench 13 = .ok (.ireturn, 1) := by decide +kernel
theorem dX8_benches_0 : decode cX8_benches 0 = .ok (.iload_n 1, 1) := by decide +kernel
theorem dX8_benches_1 : decode cX8_benches 1 = .ok (.i2l, 1) := by decide +kernel
theorem dX8_benches_2 : decode cX8_benches 2 = .ok (.ldc2_w 202, 3) := by decide +kernel
theorem dX8_benches_5 : decode cX8_benches 5 = .ok (.ldc2_w 204, 3) := by decide +kernel
theorem dX8_benches_8 : decode cX8_benches 8 = .ok (.invokestatic 102, 3) := by decide +kernel
theorem dX8_benches_11 : decode cX8_benches 11 = .ok (.ifCond .ne 6, 3) := by decide +kernel
theorem dX8_benches_14 : decode cX8_benches 14 = .ok (.bipush (-2), 2) := by decide +kernel
theorem dX8_benches_16 : decode cX8_benches 16 = .ok (.ireturn, 1) := by decide +kernel
theorem dX8_benches_17 : decode cX8_benches 17 = .ok (.aload_n 0, 1) := by decide +kernel
theorem dX8_benches_18 : decode cX8_benches 18 = .ok (.getfield 50, 3) := by decide +kernel
theorem dX8_benches_21 : decode cX8_benches 21 = .ok (.istore_n 2, 1) := by decide +kernel
theorem dX8_benches_22 : decode cX8_benches 22 = .ok (.aload_n 0, 1) := by decide +kernel
theorem dX8_benches_23 : decode cX8_benches 23 = .ok (.iload_n 1, 1) := by decide +kernel
theorem dX8_benches_24 : decode cX8_benches 24 = .ok (.putfield 50, 3) := by decide +kernel
theorem dX8_benches_27 : decode cX8_benches 27 = .ok (.aload_n 0, 1) := by decide +kernel
theorem dX8_benches_28 : decode cX8_benches 28 = .ok (.iconst 0, 1) := by decide +kernel
theorem dX8_benches_29 : decode cX8_benches 29 = .ok (.putfield 206, 3) := by decide +kernel
theorem dX8_benches_32 : decode cX8_benches 32 = .ok (.iload_n 2, 1) := by decide +kernel
theorem dX8_benches_33 : decode cX8_benches 33 = .ok (.ireturn, 1) := by decide +kernel
theorem dX8_difference_0 : decode cX8_difference 0 = .ok (.aload_n 0, 1) := by decide +kernel
theorem dX8_difference_1 : decode cX8_difference 1 = .ok (.iload_n 1, 1) := by decide +kernel
theorem dX8_difference_2 : decode cX8_difference 2 = .ok (.invokevirtual 209, 3) := by decide +kernel
theorem dX8_difference_5 : decode cX8_difference 5 = .ok (.ifCond .eq 16, 3) := by decide +kernel
theorem dX8_difference_8 : decode cX8_difference 8 = .ok (.aload_n 0, 1) := by decide +kernel
theorem dX8_difference_9 : decode cX8_difference 9 = .ok (.iload_n 2, 1) := by decide +kernel
theorem dX8_difference_10 : decode cX8_difference 10 = .ok (.invokevirtual 209, 3) := by decide +kernel
theorem dX8_difference_13 : decode cX8_difference 13 = .ok (.ifCond .eq 8, 3) := by decide +kernel
theorem dX8_difference_16 : decode cX8_difference 16 = .ok (.iload_n 1, 1) := by decide +kernel
theorem dX8_difference_17 : decode cX8_difference 17 = .ok (.iload_n 2, 1) := by decide +kernel
theorem dX8_difference_18 : decode cX8_difference 18 = .ok (.if_icmp .ne 5, 3) := by decide +kernel
theorem dX8_difference_21 : decode cX8_difference 21 = .ok (.iconst (-1), 1) := by decide +kernel
theorem dX8_difference_22 : decode cX8_difference 22 = .ok (.ireturn, 1) := by decide +kernel
theorem dX8_difference_23 : decode cX8_difference 23 = .ok (.iload_n 3, 1) := by decide +kernel
theorem dX8_difference_24 : decode cX8_difference 24 = .ok (.i2l, 1) := by decide +kernel
theorem dX8_difference_25 : decode cX8_difference 25 = .ok (.ldc2_w 212, 3) := by decide +kernel
theorem dX8_difference_28 : decode cX8_difference 28 = .ok (.ldc2_w 214, 3) := by decide +kernel
theorem dX8_difference_31 : decode cX8_difference 31 = .ok (.invokestatic 102, 3) := by decide +kernel
theorem dX8_difference_34 : decode cX8_difference 34 = .ok (.ifCond .eq 16, 3) := by decide +kernel
theorem dX8_difference_37 : decode cX8_difference 37 = .ok (.iload 4, 2) := by decide +kernel
theorem dX8_difference_39 : decode cX8_difference 39 = .ok (.i2l, 1) := by decide +kernel
theorem dX8_difference_40 : decode cX8_difference 40 = .ok (.lconst 1, 1) := by decide +kernel
theorem dX8_difference_41 : decode cX8_difference 41 = .ok (.ldc2_w 216, 3) := by decide +kernel
theorem dX8_difference_44 : decode cX8_difference 44 = .ok (.invokestatic 102, 3) := by decide +kernel
theorem dX8_difference_47 : decode cX8_difference 47 = .ok (.ifCond .ne 6, 3) := by decide +kernel
theorem dX8_difference_50 : decode cX8_difference 50 = .ok (.bipush (-2), 2) := by decide +kernel
theorem dX8_difference_52 : decode cX8_difference 52 = .ok (.ireturn, 1) := by decide +kernel
theorem dX8_difference_53 : decode cX8_difference 53 = .ok (.aload_n 0, 1) := by decide +kernel
theorem dX8_difference_54 : decode cX8_difference 54 = .ok (.getfield 206, 3) := by decide +kernel
theorem dX8_difference_57 : decode cX8_difference 57 = .ok (.bipush 12, 2) := by decide +kernel
theorem dX8_difference_59 : decode cX8_difference 59 = .ok (.if_icmp .ne 6, 3) := by decide +kernel
theorem dX8_difference_62 : decode cX8_difference 62 = .ok (.bipush (-4), 2) := by decide +kernel
theorem dX8_difference_64 : decode cX8_difference 64 = .ok (.ireturn, 1) := by decide +kernel
theorem dX8_difference_65 : decode cX8_difference 65 = .ok (.aload_n 0, 1) := by decide +kernel
theorem dX8_difference_66 : decode cX8_difference 66 = .ok (.getfield 54, 3) := by decide +kernel
theorem dX8_difference_69 : decode cX8_difference 69 = .ok (.aload_n 0, 1) := by decide +kernel
theorem dX8_difference_70 : decode cX8_difference 70 = .ok (.getfield 206, 3) := by decide +kernel
theorem dX8_difference_73 : decode cX8_difference 73 = .ok (.iload_n 1, 1) := by decide +kernel
theorem dX8_difference_74 : decode cX8_difference 74 = .ok (.iastore, 1) := by decide +kernel
theorem dX8_difference_75 : decode cX8_difference 75 = .ok (.aload_n 0, 1) := by decide +kernel
theorem dX8_difference_76 : decode cX8_difference 76 = .ok (.getfield 57, 3) := by decide +kernel
theorem dX8_difference_79 : decode cX8_difference 79 = .ok (.aload_n 0, 1) := by decide +kernel
theorem dX8_difference_80 : decode cX8_difference 80 = .ok (.getfield 206, 3) := by decide +kernel
theorem dX8_difference_83 : decode cX8_difference 83 = .ok (.iload_n 2, 1) := by decide +kernel
theorem dX8_difference_84 : decode cX8_difference 84 = .ok (.iastore, 1) := by decide +kernel
theorem dX8_difference_85 : decode cX8_difference 85 = .ok (.aload_n 0, 1) := by decide +kernel
theorem dX8_difference_86 : decode cX8_difference 86 = .ok (.getfield 60, 3) := by decide +kernel
theorem dX8_difference_89 : decode cX8_difference 89 = .ok (.aload_n 0, 1) := by decide +kernel
theorem dX8_difference_90 : decode cX8_difference 90 = .ok (.getfield 206, 3) := by decide +kernel
theorem dX8_difference_93 : decode cX8_difference 93 = .ok (.iload_n 3, 1) := by decide +kernel
theorem dX8_difference_94 : decode cX8_difference 94 = .ok (.iastore, 1) := by decide +kernel
theorem dX8_difference_95 : decode cX8_difference 95 = .ok (.aload_n 0, 1) := by decide +kernel
theorem dX8_difference_96 : decode cX8_difference 96 = .ok (.getfield 63, 3) := by decide +kernel
theorem dX8_difference_99 : decode cX8_difference 99 = .ok (.aload_n 0, 1) := by decide +kernel
theorem dX8_difference_100 : decode cX8_difference 100 = .ok (.getfield 206, 3) := by decide +kernel
theorem dX8_difference_103 : decode cX8_difference 103 = .ok (.iload 4, 2) := by decide +kernel
theorem dX8_difference_105 : decode cX8_difference 105 = .ok (.iastore, 1) := by decide +kernel
theorem dX8_difference_106 : decode cX8_difference 106 = .ok (.aload_n 0, 1) := by decide +kernel
theorem dX8_difference_107 : decode cX8_difference 107 = .ok (.dup, 1) := by decide +kernel
theorem dX8_difference_108 : decode cX8_difference 108 = .ok (.getfield 206, 3) := by decide +kernel
theorem dX8_difference_111 : decode cX8_difference 111 = .ok (.iconst 1, 1) := by decide +kernel
theorem dX8_difference_112 : decode cX8_difference 112 = .ok (.iadd, 1) := by decide +kernel
theorem dX8_difference_113 : decode cX8_difference 113 = .ok (.putfield 206, 3) := by decide +kernel
end
section
theorem dX8_difference_116 : decode cX8_difference 116 = .ok (.aload_n 0, 1) := by decide +kernel
theorem dX8_difference_117 : decode cX8_difference 117 = .ok (.getfield 206, 3) := by decide +kernel
theorem dX8_difference_120 : decode cX8_difference 120 = .ok (.iconst 1, 1) := by decide +kernel
theorem dX8_difference_121 : decode cX8_difference 121 = .ok (.isub, 1) := by decide +kernel
theorem dX8_difference_122 : decode cX8_difference 122 = .ok (.ireturn, 1) := by decide +kernel
theorem dX8_drop_0 : decode cX8_drop 0 = .ok (.aload_n 0, 1) := by decide +kernel
theorem dX8_drop_1 : decode cX8_drop 1 = .ok (.getfield 206, 3) := by decide +kernel
theorem dX8_drop_4 : decode cX8_drop 4 = .ok (.ifCond .ne 5, 3) := by decide +kernel
theorem dX8_drop_7 : decode cX8_drop 7 = .ok (.iconst (-1), 1) := by decide +kernel
theorem dX8_drop_8 : decode cX8_drop 8 = .ok (.ireturn, 1) := by decide +kernel
theorem dX8_drop_9 : decode cX8_drop 9 = .ok (.aload_n 0, 1) := by decide +kernel
theorem dX8_drop_10 : decode cX8_drop 10 = .ok (.dup, 1) := by decide +kernel
theorem dX8_drop_11 : decode cX8_drop 11 = .ok (.getfield 206, 3) := by decide +kernel
theorem dX8_drop_14 : decode cX8_drop 14 = .ok (.iconst 1, 1) := by decide +kernel
theorem dX8_drop_15 : decode cX8_drop 15 = .ok (.isub, 1) := by decide +kernel
theorem dX8_drop_16 : decode cX8_drop 16 = .ok (.putfield 206, 3) := by decide +kernel
theorem dX8_drop_19 : decode cX8_drop 19 = .ok (.aload_n 0, 1) := by decide +kernel
theorem dX8_drop_20 : decode cX8_drop 20 = .ok (.getfield 206, 3) := by decide +kernel
theorem dX8_drop_23 : decode cX8_drop 23 = .ok (.ireturn, 1) := by decide +kernel
theorem dX8_areJoined_0 : decode cX8_areJoined 0 = .ok (.iconst 1, 1) := by decide +kernel
theorem dX8_areJoined_1 : decode cX8_areJoined 1 = .ok (.istore_n 1, 1) := by decide +kernel
theorem dX8_areJoined_2 : decode cX8_areJoined 2 = .ok (.iconst 0, 1) := by decide +kernel
theorem dX8_areJoined_3 : decode cX8_areJoined 3 = .ok (.istore_n 2, 1) := by decide +kernel
theorem dX8_areJoined_4 : decode cX8_areJoined 4 = .ok (.iload_n 2, 1) := by decide +kernel
theorem dX8_areJoined_5 : decode cX8_areJoined 5 = .ok (.aload_n 0, 1) := by decide +kernel
theorem dX8_areJoined_6 : decode cX8_areJoined 6 = .ok (.getfield 50, 3) := by decide +kernel
theorem dX8_areJoined_9 : decode cX8_areJoined 9 = .ok (.if_icmp .ge 89, 3) := by decide +kernel
theorem dX8_areJoined_12 : decode cX8_areJoined 12 = .ok (.iconst 0, 1) := by decide +kernel
theorem dX8_areJoined_13 : decode cX8_areJoined 13 = .ok (.istore_n 3, 1) := by decide +kernel
theorem dX8_areJoined_14 : decode cX8_areJoined 14 = .ok (.iload_n 3, 1) := by decide +kernel
theorem dX8_areJoined_15 : decode cX8_areJoined 15 = .ok (.aload_n 0, 1) := by decide +kernel
theorem dX8_areJoined_16 : decode cX8_areJoined 16 = .ok (.getfield 206, 3) := by decide +kernel
theorem dX8_areJoined_19 : decode cX8_areJoined 19 = .ok (.if_icmp .ge 73, 3) := by decide +kernel
theorem dX8_areJoined_22 : decode cX8_areJoined 22 = .ok (.iload_n 1, 1) := by decide +kernel
theorem dX8_areJoined_23 : decode cX8_areJoined 23 = .ok (.aload_n 0, 1) := by decide +kernel
theorem dX8_areJoined_24 : decode cX8_areJoined 24 = .ok (.getfield 54, 3) := by decide +kernel
theorem dX8_areJoined_27 : decode cX8_areJoined 27 = .ok (.iload_n 3, 1) := by decide +kernel
theorem dX8_areJoined_28 : decode cX8_areJoined 28 = .ok (.iaload, 1) := by decide +kernel
theorem dX8_areJoined_29 : decode cX8_areJoined 29 = .ok (.ishr, 1) := by decide +kernel
theorem dX8_areJoined_30 : decode cX8_areJoined 30 = .ok (.iconst 1, 1) := by decide +kernel
theorem dX8_areJoined_31 : decode cX8_areJoined 31 = .ok (.iand, 1) := by decide +kernel
theorem dX8_areJoined_32 : decode cX8_areJoined 32 = .ok (.iconst 1, 1) := by decide +kernel
theorem dX8_areJoined_33 : decode cX8_areJoined 33 = .ok (.if_icmp .eq 17, 3) := by decide +kernel
theorem dX8_areJoined_36 : decode cX8_areJoined 36 = .ok (.iload_n 1, 1) := by decide +kernel
theorem dX8_areJoined_37 : decode cX8_areJoined 37 = .ok (.aload_n 0, 1) := by decide +kernel
theorem dX8_areJoined_38 : decode cX8_areJoined 38 = .ok (.getfield 57, 3) := by decide +kernel
theorem dX8_areJoined_41 : decode cX8_areJoined 41 = .ok (.iload_n 3, 1) := by decide +kernel
theorem dX8_areJoined_42 : decode cX8_areJoined 42 = .ok (.iaload, 1) := by decide +kernel
theorem dX8_areJoined_43 : decode cX8_areJoined 43 = .ok (.ishr, 1) := by decide +kernel
theorem dX8_areJoined_44 : decode cX8_areJoined 44 = .ok (.iconst 1, 1) := by decide +kernel
theorem dX8_areJoined_45 : decode cX8_areJoined 45 = .ok (.iand, 1) := by decide +kernel
theorem dX8_areJoined_46 : decode cX8_areJoined 46 = .ok (.iconst 1, 1) := by decide +kernel
theorem dX8_areJoined_47 : decode cX8_areJoined 47 = .ok (.if_icmp .ne 7, 3) := by decide +kernel
theorem dX8_areJoined_50 : decode cX8_areJoined 50 = .ok (.iconst 1, 1) := by decide +kernel
theorem dX8_areJoined_51 : decode cX8_areJoined 51 = .ok (.goto 4, 3) := by decide +kernel
theorem dX8_areJoined_54 : decode cX8_areJoined 54 = .ok (.iconst 0, 1) := by decide +kernel
theorem dX8_areJoined_55 : decode cX8_areJoined 55 = .ok (.istore 4, 2) := by decide +kernel
theorem dX8_areJoined_57 : decode cX8_areJoined 57 = .ok (.iload_n 1, 1) := by decide +kernel
theorem dX8_areJoined_58 : decode cX8_areJoined 58 = .ok (.iload 4, 2) := by decide +kernel
theorem dX8_areJoined_60 : decode cX8_areJoined 60 = .ok (.ifCond .eq 23, 3) := by decide +kernel
theorem dX8_areJoined_63 : decode cX8_areJoined 63 = .ok (.iconst 1, 1) := by decide +kernel
theorem dX8_areJoined_64 : decode cX8_areJoined 64 = .ok (.aload_n 0, 1) := by decide +kernel
theorem dX8_areJoined_65 : decode cX8_areJoined 65 = .ok (.getfield 54, 3) := by decide +kernel
theorem dX8_areJoined_68 : decode cX8_areJoined 68 = .ok (.iload_n 3, 1) := by decide +kernel
theorem dX8_areJoined_69 : decode cX8_areJoined 69 = .ok (.iaload, 1) := by decide +kernel
theorem dX8_areJoined_70 : decode cX8_areJoined 70 = .ok (.ishl, 1) := by decide +kernel
theorem dX8_areJoined_71 : decode cX8_areJoined 71 = .ok (.iconst 1, 1) := by decide +kernel
theorem dX8_areJoined_72 : decode cX8_areJoined 72 = .ok (.aload_n 0, 1) := by decide +kernel
theorem dX8_areJoined_73 : decode cX8_areJoined 73 = .ok (.getfield 57, 3) := by decide +kernel
theorem dX8_areJoined_76 : decode cX8_areJoined 76 = .ok (.iload_n 3, 1) := by decide +kernel
theorem dX8_areJoined_77 : decode cX8_areJoined 77 = .ok (.iaload, 1) := by decide +kernel
theorem dX8_areJoined_78 : decode cX8_areJoined 78 = .ok (.ishl, 1) := by decide +kernel
theorem dX8_areJoined_79 : decode cX8_areJoined 79 = .ok (.ior, 1) := by decide +kernel
theorem dX8_areJoined_80 : decode cX8_areJoined 80 = .ok (.goto 4, 3) := by decide +kernel
theorem dX8_areJoined_83 : decode cX8_areJoined 83 = .ok (.iconst 0, 1) := by decide +kernel
theorem dX8_areJoined_84 : decode cX8_areJoined 84 = .ok (.ior, 1) := by decide +kernel
theorem dX8_areJoined_85 : decode cX8_areJoined 85 = .ok (.istore_n 1, 1) := by decide +kernel
theorem dX8_areJoined_86 : decode cX8_areJoined 86 = .ok (.iinc 3 1, 3) := by decide +kernel
theorem dX8_areJoined_89 : decode cX8_areJoined 89 = .ok (.goto (-75), 3) := by decide +kernel
theorem dX8_areJoined_92 : decode cX8_areJoined 92 = .ok (.iinc 2 1, 3) := by decide +kernel
theorem dX8_areJoined_95 : decode cX8_areJoined 95 = .ok (.goto (-91), 3) := by decide +kernel
theorem dX8_areJoined_98 : decode cX8_areJoined 98 = .ok (.iload_n 1, 1) := by decide +kernel
theorem dX8_areJoined_99 : decode cX8_areJoined 99 = .ok (.iconst 1, 1) := by decide +kernel
theorem dX8_areJoined_100 : decode cX8_areJoined 100 = .ok (.aload_n 0, 1) := by decide +kernel
theorem dX8_areJoined_101 : decode cX8_areJoined 101 = .ok (.getfield 50, 3) := by decide +kernel
theorem dX8_areJoined_104 : decode cX8_areJoined 104 = .ok (.ishl, 1) := by decide +kernel
theorem dX8_areJoined_105 : decode cX8_areJoined 105 = .ok (.iconst 1, 1) := by decide +kernel
theorem dX8_areJoined_106 : decode cX8_areJoined 106 = .ok (.isub, 1) := by decide +kernel
theorem dX8_areJoined_107 : decode cX8_areJoined 107 = .ok (.if_icmp .ne 7, 3) := by decide +kernel
theorem dX8_areJoined_110 : decode cX8_areJoined 110 = .ok (.iconst 1, 1) := by decide +kernel
theorem dX8_areJoined_111 : decode cX8_areJoined 111 = .ok (.goto 4, 3) := by decide +kernel
theorem dX8_areJoined_114 : decode cX8_areJoined 114 = .ok (.iconst 0, 1) := by decide +kernel
theorem dX8_areJoined_115 : decode cX8_areJoined 115 = .ok (.ireturn, 1) := by decide +kernel
theorem dX8_determinant_0 : decode cX8_determinant 0 = .ok (.iconst 1, 1) := by decide +kernel
theorem dX8_determinant_1 : decode cX8_determinant 1 = .ok (.istore_n 1, 1) := by decide +kernel
theorem dX8_determinant_2 : decode cX8_determinant 2 = .ok (.iconst 2, 1) := by decide +kernel
theorem dX8_determinant_3 : decode cX8_determinant 3 = .ok (.istore_n 2, 1) := by decide +kernel
theorem dX8_determinant_4 : decode cX8_determinant 4 = .ok (.iload_n 2, 1) := by decide +kernel
theorem dX8_determinant_5 : decode cX8_determinant 5 = .ok (.aload_n 0, 1) := by decide +kernel
theorem dX8_determinant_6 : decode cX8_determinant 6 = .ok (.getfield 218, 3) := by decide +kernel
theorem dX8_determinant_9 : decode cX8_determinant 9 = .ok (.if_icmp .gt 13, 3) := by decide +kernel
theorem dX8_determinant_12 : decode cX8_determinant 12 = .ok (.iload_n 1, 1) := by decide +kernel
theorem dX8_determinant_13 : decode cX8_determinant 13 = .ok (.iload_n 2, 1) := by decide +kernel
theorem dX8_determinant_14 : decode cX8_determinant 14 = .ok (.imul, 1) := by decide +kernel
theorem dX8_determinant_15 : decode cX8_determinant 15 = .ok (.istore_n 1, 1) := by decide +kernel
theorem dX8_determinant_16 : decode cX8_determinant 16 = .ok (.iinc 2 1, 3) := by decide +kernel
theorem dX8_determinant_19 : decode cX8_determinant 19 = .ok (.goto (-15), 3) := by decide +kernel
theorem dX8_determinant_22 : decode cX8_determinant 22 = .ok (.lconst 0, 1) := by decide +kernel
theorem dX8_determinant_23 : decode cX8_determinant 23 = .ok (.lstore_n 2, 1) := by decide +kernel
theorem dX8_determinant_24 : decode cX8_determinant 24 = .ok (.iconst 0, 1) := by decide +kernel
theorem dX8_determinant_25 : decode cX8_determinant 25 = .ok (.istore 4, 2) := by decide +kernel
theorem dX8_determinant_27 : decode cX8_determinant 27 = .ok (.iload 4, 2) := by decide +kernel
theorem dX8_determinant_29 : decode cX8_determinant 29 = .ok (.iload_n 1, 1) := by decide +kernel
theorem dX8_determinant_30 : decode cX8_determinant 30 = .ok (.if_icmp .ge 155, 3) := by decide +kernel
theorem dX8_determinant_33 : decode cX8_determinant 33 = .ok (.iload 4, 2) := by decide +kernel
theorem dX8_determinant_35 : decode cX8_determinant 35 = .ok (.istore 5, 2) := by decide +kernel
theorem dX8_determinant_37 : decode cX8_determinant 37 = .ok (.iconst 0, 1) := by decide +kernel
theorem dX8_determinant_38 : decode cX8_determinant 38 = .ok (.istore 6, 2) := by decide +kernel
theorem dX8_determinant_40 : decode cX8_determinant 40 = .ok (.lconst 1, 1) := by decide +kernel
theorem dX8_determinant_41 : decode cX8_determinant 41 = .ok (.lstore 7, 2) := by decide +kernel
theorem dX8_determinant_43 : decode cX8_determinant 43 = .ok (.iconst 0, 1) := by decide +kernel
theorem dX8_determinant_44 : decode cX8_determinant 44 = .ok (.istore 9, 2) := by decide +kernel
theorem dX8_determinant_46 : decode cX8_determinant 46 = .ok (.iload 9, 2) := by decide +kernel
theorem dX8_determinant_48 : decode cX8_determinant 48 = .ok (.aload_n 0, 1) := by decide +kernel
theorem dX8_determinant_49 : decode cX8_determinant 49 = .ok (.getfield 218, 3) := by decide +kernel
theorem dX8_determinant_52 : decode cX8_determinant 52 = .ok (.if_icmp .ge 122, 3) := by decide +kernel
theorem dX8_determinant_55 : decode cX8_determinant 55 = .ok (.iload 5, 2) := by decide +kernel
theorem dX8_determinant_57 : decode cX8_determinant 57 = .ok (.aload_n 0, 1) := by decide +kernel
theorem dX8_determinant_58 : decode cX8_determinant 58 = .ok (.getfield 218, 3) := by decide +kernel
theorem dX8_determinant_61 : decode cX8_determinant 61 = .ok (.iload 9, 2) := by decide +kernel
theorem dX8_determinant_63 : decode cX8_determinant 63 = .ok (.isub, 1) := by decide +kernel
theorem dX8_determinant_64 : decode cX8_determinant 64 = .ok (.irem, 1) := by decide +kernel
theorem dX8_determinant_65 : decode cX8_determinant 65 = .ok (.istore 10, 2) := by decide +kernel
theorem dX8_determinant_67 : decode cX8_determinant 67 = .ok (.iload 5, 2) := by decide +kernel
theorem dX8_determinant_69 : decode cX8_determinant 69 = .ok (.aload_n 0, 1) := by decide +kernel
theorem dX8_determinant_70 : decode cX8_determinant 70 = .ok (.getfield 218, 3) := by decide +kernel
theorem dX8_determinant_73 : decode cX8_determinant 73 = .ok (.iload 9, 2) := by decide +kernel
theorem dX8_determinant_75 : decode cX8_determinant 75 = .ok (.isub, 1) := by decide +kernel
theorem dX8_determinant_76 : decode cX8_determinant 76 = .ok (.idiv, 1) := by decide +kernel
theorem dX8_determinant_77 : decode cX8_determinant 77 = .ok (.istore 5, 2) := by decide +kernel
theorem dX8_determinant_79 : decode cX8_determinant 79 = .ok (.iload 10, 2) := by decide +kernel
theorem dX8_determinant_81 : decode cX8_determinant 81 = .ok (.iconst 2, 1) := by decide +kernel
theorem dX8_determinant_82 : decode cX8_determinant 82 = .ok (.irem, 1) := by decide +kernel
theorem dX8_determinant_83 : decode cX8_determinant 83 = .ok (.ifCond .ne 8, 3) := by decide +kernel
theorem dX8_determinant_86 : decode cX8_determinant 86 = .ok (.lload 7, 2) := by decide +kernel
theorem dX8_determinant_88 : decode cX8_determinant 88 = .ok (.goto 6, 3) := by decide +kernel
theorem dX8_determinant_91 : decode cX8_determinant 91 = .ok (.lload 7, 2) := by decide +kernel
theorem dX8_determinant_93 : decode cX8_determinant 93 = .ok (.lneg, 1) := by decide +kernel
theorem dX8_determinant_94 : decode cX8_determinant 94 = .ok (.lstore 7, 2) := by decide +kernel
theorem dX8_determinant_96 : decode cX8_determinant 96 = .ok (.iconst 0, 1) := by decide +kernel
theorem dX8_determinant_97 : decode cX8_determinant 97 = .ok (.istore 11, 2) := by decide +kernel
theorem dX8_determinant_99 : decode cX8_determinant 99 = .ok (.iload 6, 2) := by decide +kernel
theorem dX8_determinant_101 : decode cX8_determinant 101 = .ok (.iload 11, 2) := by decide +kernel
theorem dX8_determinant_103 : decode cX8_determinant 103 = .ok (.ishr, 1) := by decide +kernel
theorem dX8_determinant_104 : decode cX8_determinant 104 = .ok (.iconst 1, 1) := by decide +kernel
theorem dX8_determinant_105 : decode cX8_determinant 105 = .ok (.iand, 1) := by decide +kernel
theorem dX8_determinant_106 : decode cX8_determinant 106 = .ok (.iconst 1, 1) := by decide +kernel
theorem dX8_determinant_107 : decode cX8_determinant 107 = .ok (.if_icmp .eq 8, 3) := by decide +kernel
theorem dX8_determinant_110 : decode cX8_determinant 110 = .ok (.iload 10, 2) := by decide +kernel
theorem dX8_determinant_112 : decode cX8_determinant 112 = .ok (.ifCond .le 30, 3) := by decide +kernel
theorem dX8_determinant_115 : decode cX8_determinant 115 = .ok (.iload 10, 2) := by decide +kernel
theorem dX8_determinant_117 : decode cX8_determinant 117 = .ok (.iload 6, 2) := by decide +kernel
theorem dX8_determinant_119 : decode cX8_determinant 119 = .ok (.iload 11, 2) := by decide +kernel
theorem dX8_determinant_121 : decode cX8_determinant 121 = .ok (.ishr, 1) := by decide +kernel
theorem dX8_determinant_122 : decode cX8_determinant 122 = .ok (.iconst 1, 1) := by decide +kernel
theorem dX8_determinant_123 : decode cX8_determinant 123 = .ok (.iand, 1) := by decide +kernel
theorem dX8_determinant_124 : decode cX8_determinant 124 = .ok (.iconst 1, 1) := by decide +kernel
theorem dX8_determinant_125 : decode cX8_determinant 125 = .ok (.if_icmp .ne 7, 3) := by decide +kernel
theorem dX8_determinant_128 : decode cX8_determinant 128 = .ok (.iconst 0, 1) := by decide +kernel
theorem dX8_determinant_129 : decode cX8_determinant 129 = .ok (.goto 4, 3) := by decide +kernel
theorem dX8_determinant_132 : decode cX8_determinant 132 = .ok (.iconst 1, 1) := by decide +kernel
theorem dX8_determinant_133 : decode cX8_determinant 133 = .ok (.isub, 1) := by decide +kernel
theorem dX8_determinant_134 : decode cX8_determinant 134 = .ok (.istore 10, 2) := by decide +kernel
theorem dX8_determinant_136 : decode cX8_determinant 136 = .ok (.iinc 11 1, 3) := by decide +kernel
theorem dX8_determinant_139 : decode cX8_determinant 139 = .ok (.goto (-40), 3) := by decide +kernel
theorem dX8_determinant_142 : decode cX8_determinant 142 = .ok (.iload 6, 2) := by decide +kernel
theorem dX8_determinant_144 : decode cX8_determinant 144 = .ok (.iconst 1, 1) := by decide +kernel
theorem dX8_determinant_145 : decode cX8_determinant 145 = .ok (.iload 11, 2) := by decide +kernel
theorem dX8_determinant_147 : decode cX8_determinant 147 = .ok (.ishl, 1) := by decide +kernel
theorem dX8_determinant_148 : decode cX8_determinant 148 = .ok (.ior, 1) := by decide +kernel
theorem dX8_determinant_149 : decode cX8_determinant 149 = .ok (.istore 6, 2) := by decide +kernel
theorem dX8_determinant_151 : decode cX8_determinant 151 = .ok (.lload 7, 2) := by decide +kernel
theorem dX8_determinant_153 : decode cX8_determinant 153 = .ok (.aload_n 0, 1) := by decide +kernel
theorem dX8_determinant_154 : decode cX8_determinant 154 = .ok (.getfield 66, 3) := by decide +kernel
theorem dX8_determinant_157 : decode cX8_determinant 157 = .ok (.iconst 5, 1) := by decide +kernel
theorem dX8_determinant_158 : decode cX8_determinant 158 = .ok (.iload 9, 2) := by decide +kernel
theorem dX8_determinant_160 : decode cX8_determinant 160 = .ok (.imul, 1) := by decide +kernel
theorem dX8_determinant_161 : decode cX8_determinant 161 = .ok (.iload 11, 2) := by decide +kernel
theorem dX8_determinant_163 : decode cX8_determinant 163 = .ok (.iadd, 1) := by decide +kernel
theorem dX8_determinant_164 : decode cX8_determinant 164 = .ok (.laload, 1) := by decide +kernel
theorem dX8_determinant_165 : decode cX8_determinant 165 = .ok (.lmul, 1) := by decide +kernel
theorem dX8_determinant_166 : decode cX8_determinant 166 = .ok (.lstore 7, 2) := by decide +kernel
theorem dX8_determinant_168 : decode cX8_determinant 168 = .ok (.iinc 9 1, 3) := by decide +kernel
theorem dX8_determinant_171 : decode cX8_determinant 171 = .ok (.goto (-125), 3) := by decide +kernel
theorem dX8_determinant_174 : decode cX8_determinant 174 = .ok (.lload_n 2, 1) := by decide +kernel
theorem dX8_determinant_175 : decode cX8_determinant 175 = .ok (.lload 7, 2) := by decide +kernel
theorem dX8_determinant_177 : decode cX8_determinant 177 = .ok (.ladd, 1) := by decide +kernel
theorem dX8_determinant_178 : decode cX8_determinant 178 = .ok (.lstore_n 2, 1) := by decide +kernel
theorem dX8_determinant_179 : decode cX8_determinant 179 = .ok (.iinc 4 1, 3) := by decide +kernel
theorem dX8_determinant_182 : decode cX8_determinant 182 = .ok (.goto (-155), 3) := by decide +kernel
theorem dX8_determinant_185 : decode cX8_determinant 185 = .ok (.lload_n 2, 1) := by decide +kernel
theorem dX8_determinant_186 : decode cX8_determinant 186 = .ok (.lreturn, 1) := by decide +kernel
theorem dX8_laySquare_0 : decode cX8_laySquare 0 = .ok (.aload_n 0, 1) := by decide +kernel
theorem dX8_laySquare_1 : decode cX8_laySquare 1 = .ok (.aload_n 0, 1) := by decide +kernel
theorem dX8_laySquare_2 : decode cX8_laySquare 2 = .ok (.getfield 50, 3) := by decide +kernel
theorem dX8_laySquare_5 : decode cX8_laySquare 5 = .ok (.iconst 1, 1) := by decide +kernel
theorem dX8_laySquare_6 : decode cX8_laySquare 6 = .ok (.isub, 1) := by decide +kernel
theorem dX8_laySquare_7 : decode cX8_laySquare 7 = .ok (.putfield 218, 3) := by decide +kernel
theorem dX8_laySquare_10 : decode cX8_laySquare 10 = .ok (.iconst 0, 1) := by decide +kernel
theorem dX8_laySquare_11 : decode cX8_laySquare 11 = .ok (.istore_n 2, 1) := by decide +kernel
theorem dX8_laySquare_12 : decode cX8_laySquare 12 = .ok (.iload_n 2, 1) := by decide +kernel
theorem dX8_laySquare_13 : decode cX8_laySquare 13 = .ok (.bipush 25, 2) := by decide +kernel
theorem dX8_laySquare_15 : decode cX8_laySquare 15 = .ok (.if_icmp .ge 16, 3) := by decide +kernel
theorem dX8_laySquare_18 : decode cX8_laySquare 18 = .ok (.aload_n 0, 1) := by decide +kernel
theorem dX8_laySquare_19 : decode cX8_laySquare 19 = .ok (.getfield 66, 3) := by decide +kernel
theorem dX8_laySquare_22 : decode cX8_laySquare 22 = .ok (.iload_n 2, 1) := by decide +kernel
theorem dX8_laySquare_23 : decode cX8_laySquare 23 = .ok (.lconst 0, 1) := by decide +kernel
theorem dX8_laySquare_24 : decode cX8_laySquare 24 = .ok (.lastore, 1) := by decide +kernel
theorem dX8_laySquare_25 : decode cX8_laySquare 25 = .ok (.iinc 2 1, 3) := by decide +kernel
theorem dX8_laySquare_28 : decode cX8_laySquare 28 = .ok (.goto (-16), 3) := by decide +kernel
theorem dX8_laySquare_31 : decode cX8_laySquare 31 = .ok (.iconst 0, 1) := by decide +kernel
theorem dX8_laySquare_32 : decode cX8_laySquare 32 = .ok (.istore_n 2, 1) := by decide +kernel
theorem dX8_laySquare_33 : decode cX8_laySquare 33 = .ok (.iload_n 2, 1) := by decide +kernel
theorem dX8_laySquare_34 : decode cX8_laySquare 34 = .ok (.aload_n 0, 1) := by decide +kernel
theorem dX8_laySquare_35 : decode cX8_laySquare 35 = .ok (.getfield 206, 3) := by decide +kernel
theorem dX8_laySquare_38 : decode cX8_laySquare 38 = .ok (.if_icmp .ge 147, 3) := by decide +kernel
theorem dX8_laySquare_41 : decode cX8_laySquare 41 = .ok (.aload_n 0, 1) := by decide +kernel
theorem dX8_laySquare_42 : decode cX8_laySquare 42 = .ok (.getfield 54, 3) := by decide +kernel
theorem dX8_laySquare_45 : decode cX8_laySquare 45 = .ok (.iload_n 2, 1) := by decide +kernel
theorem dX8_laySquare_46 : decode cX8_laySquare 46 = .ok (.iaload, 1) := by decide +kernel
theorem dX8_laySquare_47 : decode cX8_laySquare 47 = .ok (.iconst 1, 1) := by decide +kernel
theorem dX8_laySquare_48 : decode cX8_laySquare 48 = .ok (.isub, 1) := by decide +kernel
theorem dX8_laySquare_49 : decode cX8_laySquare 49 = .ok (.istore_n 3, 1) := by decide +kernel
theorem dX8_laySquare_50 : decode cX8_laySquare 50 = .ok (.aload_n 0, 1) := by decide +kernel
theorem dX8_laySquare_51 : decode cX8_laySquare 51 = .ok (.getfield 57, 3) := by decide +kernel
theorem dX8_laySquare_54 : decode cX8_laySquare 54 = .ok (.iload_n 2, 1) := by decide +kernel
theorem dX8_laySquare_55 : decode cX8_laySquare 55 = .ok (.iaload, 1) := by decide +kernel
theorem dX8_laySquare_56 : decode cX8_laySquare 56 = .ok (.iconst 1, 1) := by decide +kernel
theorem dX8_laySquare_57 : decode cX8_laySquare 57 = .ok (.isub, 1) := by decide +kernel
theorem dX8_laySquare_58 : decode cX8_laySquare 58 = .ok (.istore 4, 2) := by decide +kernel
theorem dX8_laySquare_60 : decode cX8_laySquare 60 = .ok (.aload_n 0, 1) := by decide +kernel
theorem dX8_laySquare_61 : decode cX8_laySquare 61 = .ok (.iload_n 3, 1) := by decide +kernel
theorem dX8_laySquare_62 : decode cX8_laySquare 62 = .ok (.iload_n 3, 1) := by decide +kernel
theorem dX8_laySquare_63 : decode cX8_laySquare 63 = .ok (.aload_n 0, 1) := by decide +kernel
theorem dX8_laySquare_64 : decode cX8_laySquare 64 = .ok (.getfield 63, 3) := by decide +kernel
theorem dX8_laySquare_67 : decode cX8_laySquare 67 = .ok (.iload_n 2, 1) := by decide +kernel
theorem dX8_laySquare_68 : decode cX8_laySquare 68 = .ok (.iaload, 1) := by decide +kernel
theorem dX8_laySquare_69 : decode cX8_laySquare 69 = .ok (.iload_n 1, 1) := by decide +kernel
theorem dX8_laySquare_70 : decode cX8_laySquare 70 = .ok (.invokevirtual 221, 3) := by decide +kernel
theorem dX8_laySquare_73 : decode cX8_laySquare 73 = .ok (.aload_n 0, 1) := by decide +kernel
theorem dX8_laySquare_74 : decode cX8_laySquare 74 = .ok (.iload 4, 2) := by decide +kernel
theorem dX8_laySquare_76 : decode cX8_laySquare 76 = .ok (.iload 4, 2) := by decide +kernel
theorem dX8_laySquare_78 : decode cX8_laySquare 78 = .ok (.aload_n 0, 1) := by decide +kernel
theorem dX8_laySquare_79 : decode cX8_laySquare 79 = .ok (.getfield 63, 3) := by decide +kernel
theorem dX8_laySquare_82 : decode cX8_laySquare 82 = .ok (.iload_n 2, 1) := by decide +kernel
theorem dX8_laySquare_83 : decode cX8_laySquare 83 = .ok (.iaload, 1) := by decide +kernel
theorem dX8_laySquare_84 : decode cX8_laySquare 84 = .ok (.iload_n 1, 1) := by decide +kernel
theorem dX8_laySquare_85 : decode cX8_laySquare 85 = .ok (.invokevirtual 221, 3) := by decide +kernel
theorem dX8_laySquare_88 : decode cX8_laySquare 88 = .ok (.aload_n 0, 1) := by decide +kernel
theorem dX8_laySquare_89 : decode cX8_laySquare 89 = .ok (.iload_n 3, 1) := by decide +kernel
theorem dX8_laySquare_90 : decode cX8_laySquare 90 = .ok (.iload 4, 2) := by decide +kernel
theorem dX8_laySquare_92 : decode cX8_laySquare 92 = .ok (.aload_n 0, 1) := by decide +kernel
theorem dX8_laySquare_93 : decode cX8_laySquare 93 = .ok (.getfield 63, 3) := by decide +kernel
theorem dX8_laySquare_96 : decode cX8_laySquare 96 = .ok (.iload_n 2, 1) := by decide +kernel
theorem dX8_laySquare_97 : decode cX8_laySquare 97 = .ok (.iaload, 1) := by decide +kernel
theorem dX8_laySquare_98 : decode cX8_laySquare 98 = .ok (.ineg, 1) := by decide +kernel
theorem dX8_laySquare_99 : decode cX8_laySquare 99 = .ok (.iload_n 1, 1) := by decide +kernel
theorem dX8_laySquare_100 : decode cX8_laySquare 100 = .ok (.invokevirtual 221, 3) := by decide +kernel
theorem dX8_laySquare_103 : decode cX8_laySquare 103 = .ok (.aload_n 0, 1) := by decide +kernel
theorem dX8_laySquare_104 : decode cX8_laySquare 104 = .ok (.iload 4, 2) := by decide +kernel
theorem dX8_laySquare_106 : decode cX8_laySquare 106 = .ok (.iload_n 3, 1) := by decide +kernel
theorem dX8_laySquare_107 : decode cX8_laySquare 107 = .ok (.aload_n 0, 1) := by decide +kernel
theorem dX8_laySquare_108 : decode cX8_laySquare 108 = .ok (.getfield 63, 3) := by decide +kernel
theorem dX8_laySquare_111 : decode cX8_laySquare 111 = .ok (.iload_n 2, 1) := by decide +kernel
theorem dX8_laySquare_112 : decode cX8_laySquare 112 = .ok (.iaload, 1) := by decide +kernel
theorem dX8_laySquare_113 : decode cX8_laySquare 113 = .ok (.ineg, 1) := by decide +kernel
theorem dX8_laySquare_114 : decode cX8_laySquare 114 = .ok (.iload_n 1, 1) := by decide +kernel
theorem dX8_laySquare_115 : decode cX8_laySquare 115 = .ok (.invokevirtual 221, 3) := by decide +kernel
theorem dX8_laySquare_118 : decode cX8_laySquare 118 = .ok (.iload_n 1, 1) := by decide +kernel
theorem dX8_laySquare_119 : decode cX8_laySquare 119 = .ok (.ifCond .lt 60, 3) := by decide +kernel
theorem dX8_laySquare_122 : decode cX8_laySquare 122 = .ok (.aload_n 0, 1) := by decide +kernel
theorem dX8_laySquare_123 : decode cX8_laySquare 123 = .ok (.getfield 63, 3) := by decide +kernel
theorem dX8_laySquare_126 : decode cX8_laySquare 126 = .ok (.iload_n 2, 1) := by decide +kernel
theorem dX8_laySquare_127 : decode cX8_laySquare 127 = .ok (.iaload, 1) := by decide +kernel
theorem dX8_laySquare_128 : decode cX8_laySquare 128 = .ok (.i2l, 1) := by decide +kernel
theorem dX8_laySquare_129 : decode cX8_laySquare 129 = .ok (.aload_n 0, 1) := by decide +kernel
theorem dX8_laySquare_130 : decode cX8_laySquare 130 = .ok (.getfield 60, 3) := by decide +kernel
theorem dX8_laySquare_133 : decode cX8_laySquare 133 = .ok (.iload_n 2, 1) := by decide +kernel
theorem dX8_laySquare_134 : decode cX8_laySquare 134 = .ok (.iaload, 1) := by decide +kernel
theorem dX8_laySquare_135 : decode cX8_laySquare 135 = .ok (.i2l, 1) := by decide +kernel
theorem dX8_laySquare_136 : decode cX8_laySquare 136 = .ok (.lmul, 1) := by decide +kernel
theorem dX8_laySquare_137 : decode cX8_laySquare 137 = .ok (.lstore 5, 2) := by decide +kernel
theorem dX8_laySquare_139 : decode cX8_laySquare 139 = .ok (.iload_n 3, 1) := by decide +kernel
theorem dX8_laySquare_140 : decode cX8_laySquare 140 = .ok (.ifCond .lt 18, 3) := by decide +kernel
theorem dX8_laySquare_143 : decode cX8_laySquare 143 = .ok (.aload_n 0, 1) := by decide +kernel
theorem dX8_laySquare_144 : decode cX8_laySquare 144 = .ok (.getfield 66, 3) := by decide +kernel
theorem dX8_laySquare_147 : decode cX8_laySquare 147 = .ok (.iconst 5, 1) := by decide +kernel
theorem dX8_laySquare_148 : decode cX8_laySquare 148 = .ok (.iload_n 3, 1) := by decide +kernel
theorem dX8_laySquare_149 : decode cX8_laySquare 149 = .ok (.imul, 1) := by decide +kernel
theorem dX8_laySquare_150 : decode cX8_laySquare 150 = .ok (.iload_n 1, 1) := by decide +kernel
theorem dX8_laySquare_151 : decode cX8_laySquare 151 = .ok (.iadd, 1) := by decide +kernel
theorem dX8_laySquare_152 : decode cX8_laySquare 152 = .ok (.dup2, 1) := by decide +kernel
theorem dX8_laySquare_153 : decode cX8_laySquare 153 = .ok (.laload, 1) := by decide +kernel
theorem dX8_laySquare_154 : decode cX8_laySquare 154 = .ok (.lload 5, 2) := by decide +kernel
theorem dX8_laySquare_156 : decode cX8_laySquare 156 = .ok (.lsub, 1) := by decide +kernel
theorem dX8_laySquare_157 : decode cX8_laySquare 157 = .ok (.lastore, 1) := by decide +kernel
theorem dX8_laySquare_158 : decode cX8_laySquare 158 = .ok (.iload 4, 2) := by decide +kernel
theorem dX8_laySquare_160 : decode cX8_laySquare 160 = .ok (.ifCond .lt 19, 3) := by decide +kernel
theorem dX8_laySquare_163 : decode cX8_laySquare 163 = .ok (.aload_n 0, 1) := by decide +kernel
theorem dX8_laySquare_164 : decode cX8_laySquare 164 = .ok (.getfield 66, 3) := by decide +kernel
theorem dX8_laySquare_167 : decode cX8_laySquare 167 = .ok (.iconst 5, 1) := by decide +kernel
theorem dX8_laySquare_168 : decode cX8_laySquare 168 = .ok (.iload 4, 2) := by decide +kernel
theorem dX8_laySquare_170 : decode cX8_laySquare 170 = .ok (.imul, 1) := by decide +kernel
theorem dX8_laySquare_171 : decode cX8_laySquare 171 = .ok (.iload_n 1, 1) := by decide +kernel
theorem dX8_laySquare_172 : decode cX8_laySquare 172 = .ok (.iadd, 1) := by decide +kernel
theorem dX8_laySquare_173 : decode cX8_laySquare 173 = .ok (.dup2, 1) := by decide +kernel
theorem dX8_laySquare_174 : decode cX8_laySquare 174 = .ok (.laload, 1) := by decide +kernel
theorem dX8_laySquare_175 : decode cX8_laySquare 175 = .ok (.lload 5, 2) := by decide +kernel
theorem dX8_laySquare_177 : decode cX8_laySquare 177 = .ok (.ladd, 1) := by decide +kernel
theorem dX8_laySquare_178 : decode cX8_laySquare 178 = .ok (.lastore, 1) := by decide +kernel
theorem dX8_laySquare_179 : decode cX8_laySquare 179 = .ok (.iinc 2 1, 3) := by decide +kernel
theorem dX8_laySquare_182 : decode cX8_laySquare 182 = .ok (.goto (-149), 3) := by decide +kernel
theorem dX8_laySquare_185 : decode cX8_laySquare 185 = .ok (.return_, 1) := by decide +kernel
theorem dX8_addTo_0 : decode cX8_addTo 0 = .ok (.iload_n 1, 1) := by decide +kernel
theorem dX8_addTo_1 : decode cX8_addTo 1 = .ok (.ifCond .lt 28, 3) := by decide +kernel
theorem dX8_addTo_4 : decode cX8_addTo 4 = .ok (.iload_n 2, 1) := by decide +kernel
theorem dX8_addTo_5 : decode cX8_addTo 5 = .ok (.ifCond .lt 24, 3) := by decide +kernel
theorem dX8_addTo_8 : decode cX8_addTo 8 = .ok (.iload_n 2, 1) := by decide +kernel
theorem dX8_addTo_9 : decode cX8_addTo 9 = .ok (.iload 4, 2) := by decide +kernel
theorem dX8_addTo_11 : decode cX8_addTo 11 = .ok (.if_icmp .eq 18, 3) := by decide +kernel
theorem dX8_addTo_14 : decode cX8_addTo 14 = .ok (.aload_n 0, 1) := by decide +kernel
theorem dX8_addTo_15 : decode cX8_addTo 15 = .ok (.getfield 66, 3) := by decide +kernel
theorem dX8_addTo_18 : decode cX8_addTo 18 = .ok (.iconst 5, 1) := by decide +kernel
theorem dX8_addTo_19 : decode cX8_addTo 19 = .ok (.iload_n 1, 1) := by decide +kernel
theorem dX8_addTo_20 : decode cX8_addTo 20 = .ok (.imul, 1) := by decide +kernel
theorem dX8_addTo_21 : decode cX8_addTo 21 = .ok (.iload_n 2, 1) := by decide +kernel
theorem dX8_addTo_22 : decode cX8_addTo 22 = .ok (.iadd, 1) := by decide +kernel
theorem dX8_addTo_23 : decode cX8_addTo 23 = .ok (.dup2, 1) := by decide +kernel
theorem dX8_addTo_24 : decode cX8_addTo 24 = .ok (.laload, 1) := by decide +kernel
theorem dX8_addTo_25 : decode cX8_addTo 25 = .ok (.iload_n 3, 1) := by decide +kernel
theorem dX8_addTo_26 : decode cX8_addTo 26 = .ok (.i2l, 1) := by decide +kernel
theorem dX8_addTo_27 : decode cX8_addTo 27 = .ok (.ladd, 1) := by decide +kernel
theorem dX8_addTo_28 : decode cX8_addTo 28 = .ok (.lastore, 1) := by decide +kernel
theorem dX8_addTo_29 : decode cX8_addTo 29 = .ok (.return_, 1) := by decide +kernel
theorem dX8_findHeights_0 : decode cX8_findHeights 0 = .ok (.aload_n 0, 1) := by decide +kernel
theorem dX8_findHeights_1 : decode cX8_findHeights 1 = .ok (.invokevirtual 225, 3) := by decide +kernel
theorem dX8_findHeights_4 : decode cX8_findHeights 4 = .ok (.ifCond .ne 5, 3) := by decide +kernel
theorem dX8_findHeights_7 : decode cX8_findHeights 7 = .ok (.iconst 0, 1) := by decide +kernel
theorem dX8_findHeights_8 : decode cX8_findHeights 8 = .ok (.ireturn, 1) := by decide +kernel
theorem dX8_findHeights_9 : decode cX8_findHeights 9 = .ok (.aload_n 0, 1) := by decide +kernel
theorem dX8_findHeights_10 : decode cX8_findHeights 10 = .ok (.iconst (-1), 1) := by decide +kernel
theorem dX8_findHeights_11 : decode cX8_findHeights 11 = .ok (.invokevirtual 229, 3) := by decide +kernel
theorem dX8_findHeights_14 : decode cX8_findHeights 14 = .ok (.aload_n 0, 1) := by decide +kernel
theorem dX8_findHeights_15 : decode cX8_findHeights 15 = .ok (.aload_n 0, 1) := by decide +kernel
theorem dX8_findHeights_16 : decode cX8_findHeights 16 = .ok (.invokevirtual 233, 3) := by decide +kernel
theorem dX8_findHeights_19 : decode cX8_findHeights 19 = .ok (.putfield 237, 3) := by decide +kernel
theorem dX8_findHeights_22 : decode cX8_findHeights 22 = .ok (.aload_n 0, 1) := by decide +kernel
theorem dX8_findHeights_23 : decode cX8_findHeights 23 = .ok (.getfield 69, 3) := by decide +kernel
theorem dX8_findHeights_26 : decode cX8_findHeights 26 = .ok (.iconst 0, 1) := by decide +kernel
theorem dX8_findHeights_27 : decode cX8_findHeights 27 = .ok (.lconst 0, 1) := by decide +kernel
theorem dX8_findHeights_28 : decode cX8_findHeights 28 = .ok (.lastore, 1) := by decide +kernel
theorem dX8_findHeights_29 : decode cX8_findHeights 29 = .ok (.iconst 1, 1) := by decide +kernel
theorem dX8_findHeights_30 : decode cX8_findHeights 30 = .ok (.istore_n 1, 1) := by decide +kernel
theorem dX8_findHeights_31 : decode cX8_findHeights 31 = .ok (.iload_n 1, 1) := by decide +kernel
theorem dX8_findHeights_32 : decode cX8_findHeights 32 = .ok (.aload_n 0, 1) := by decide +kernel
theorem dX8_findHeights_33 : decode cX8_findHeights 33 = .ok (.getfield 50, 3) := by decide +kernel
theorem dX8_findHeights_36 : decode cX8_findHeights 36 = .ok (.if_icmp .ge 26, 3) := by decide +kernel
theorem dX8_findHeights_39 : decode cX8_findHeights 39 = .ok (.aload_n 0, 1) := by decide +kernel
theorem dX8_findHeights_40 : decode cX8_findHeights 40 = .ok (.iload_n 1, 1) := by decide +kernel
theorem dX8_findHeights_41 : decode cX8_findHeights 41 = .ok (.iconst 1, 1) := by decide +kernel
theorem dX8_findHeights_42 : decode cX8_findHeights 42 = .ok (.isub, 1) := by decide +kernel
theorem dX8_findHeights_43 : decode cX8_findHeights 43 = .ok (.invokevirtual 229, 3) := by decide +kernel
theorem dX8_findHeights_46 : decode cX8_findHeights 46 = .ok (.aload_n 0, 1) := by decide +kernel
theorem dX8_findHeights_47 : decode cX8_findHeights 47 = .ok (.getfield 69, 3) := by decide +kernel
theorem dX8_findHeights_50 : decode cX8_findHeights 50 = .ok (.iload_n 1, 1) := by decide +kernel
theorem dX8_findHeights_51 : decode cX8_findHeights 51 = .ok (.aload_n 0, 1) := by decide +kernel
theorem dX8_findHeights_52 : decode cX8_findHeights 52 = .ok (.invokevirtual 233, 3) := by decide +kernel
theorem dX8_findHeights_55 : decode cX8_findHeights 55 = .ok (.lastore, 1) := by decide +kernel
theorem dX8_findHeights_56 : decode cX8_findHeights 56 = .ok (.iinc 1 1, 3) := by decide +kernel
theorem dX8_findHeights_59 : decode cX8_findHeights 59 = .ok (.goto (-28), 3) := by decide +kernel
theorem dX8_findHeights_62 : decode cX8_findHeights 62 = .ok (.iconst 1, 1) := by decide +kernel
theorem dX8_findHeights_63 : decode cX8_findHeights 63 = .ok (.ireturn, 1) := by decide +kernel
theorem dX8_height_0 : decode cX8_height 0 = .ok (.aload_n 0, 1) := by decide +kernel
theorem dX8_height_1 : decode cX8_height 1 = .ok (.iload_n 1, 1) := by decide +kernel
theorem dX8_height_2 : decode cX8_height 2 = .ok (.invokevirtual 209, 3) := by decide +kernel
theorem dX8_height_5 : decode cX8_height 5 = .ok (.ifCond .ne 7, 3) := by decide +kernel
theorem dX8_height_8 : decode cX8_height 8 = .ok (.ldc2_w 136, 3) := by decide +kernel
theorem dX8_height_11 : decode cX8_height 11 = .ok (.lreturn, 1) := by decide +kernel
theorem dX8_height_12 : decode cX8_height 12 = .ok (.iload_n 2, 1) := by decide +kernel
theorem dX8_height_13 : decode cX8_height 13 = .ok (.i2l, 1) := by decide +kernel
theorem dX8_height_14 : decode cX8_height 14 = .ok (.lconst 0, 1) := by decide +kernel
theorem dX8_height_15 : decode cX8_height 15 = .ok (.lconst 1, 1) := by decide +kernel
theorem dX8_height_16 : decode cX8_height 16 = .ok (.invokestatic 102, 3) := by decide +kernel
theorem dX8_height_19 : decode cX8_height 19 = .ok (.ifCond .ne 7, 3) := by decide +kernel
theorem dX8_height_22 : decode cX8_height 22 = .ok (.ldc2_w 138, 3) := by decide +kernel
theorem dX8_height_25 : decode cX8_height 25 = .ok (.lreturn, 1) := by decide +kernel
theorem dX8_height_26 : decode cX8_height 26 = .ok (.aload_n 0, 1) := by decide +kernel
theorem dX8_height_27 : decode cX8_height 27 = .ok (.invokevirtual 241, 3) := by decide +kernel
theorem dX8_height_30 : decode cX8_height 30 = .ok (.ifCond .eq 20, 3) := by decide +kernel
theorem dX8_height_33 : decode cX8_height 33 = .ok (.aload_n 0, 1) := by decide +kernel
theorem dX8_height_34 : decode cX8_height 34 = .ok (.getfield 69, 3) := by decide +kernel
theorem dX8_height_37 : decode cX8_height 37 = .ok (.iload_n 1, 1) := by decide +kernel
theorem dX8_height_38 : decode cX8_height 38 = .ok (.laload, 1) := by decide +kernel
theorem dX8_height_39 : decode cX8_height 39 = .ok (.aload_n 0, 1) := by decide +kernel
theorem dX8_height_40 : decode cX8_height 40 = .ok (.getfield 237, 3) := by decide +kernel
theorem dX8_height_43 : decode cX8_height 43 = .ok (.iload_n 2, 1) := by decide +kernel
theorem dX8_height_44 : decode cX8_height 44 = .ok (.invokestatic 132, 3) := by decide +kernel
theorem dX8_height_47 : decode cX8_height 47 = .ok (.goto 6, 3) := by decide +kernel
theorem dX8_height_50 : decode cX8_height 50 = .ok (.ldc2_w 244, 3) := by decide +kernel
theorem dX8_height_53 : decode cX8_height 53 = .ok (.lreturn, 1) := by decide +kernel
theorem dX8_offUpper_0 : decode cX8_offUpper 0 = .ok (.aload_n 0, 1) := by decide +kernel
theorem dX8_offUpper_1 : decode cX8_offUpper 1 = .ok (.getfield 69, 3) := by decide +kernel
theorem dX8_offUpper_4 : decode cX8_offUpper 4 = .ok (.aload_n 0, 1) := by decide +kernel
theorem dX8_offUpper_5 : decode cX8_offUpper 5 = .ok (.getfield 57, 3) := by decide +kernel
theorem dX8_offUpper_8 : decode cX8_offUpper 8 = .ok (.iload_n 1, 1) := by decide +kernel
theorem dX8_offUpper_9 : decode cX8_offUpper 9 = .ok (.iaload, 1) := by decide +kernel
theorem dX8_offUpper_10 : decode cX8_offUpper 10 = .ok (.laload, 1) := by decide +kernel
theorem dX8_offUpper_11 : decode cX8_offUpper 11 = .ok (.aload_n 0, 1) := by decide +kernel
theorem dX8_offUpper_12 : decode cX8_offUpper 12 = .ok (.getfield 69, 3) := by decide +kernel
theorem dX8_offUpper_15 : decode cX8_offUpper 15 = .ok (.aload_n 0, 1) := by decide +kernel
theorem dX8_offUpper_16 : decode cX8_offUpper 16 = .ok (.getfield 54, 3) := by decide +kernel
theorem dX8_offUpper_19 : decode cX8_offUpper 19 = .ok (.iload_n 1, 1) := by decide +kernel
theorem dX8_offUpper_20 : decode cX8_offUpper 20 = .ok (.iaload, 1) := by decide +kernel
theorem dX8_offUpper_21 : decode cX8_offUpper 21 = .ok (.laload, 1) := by decide +kernel
theorem dX8_offUpper_22 : decode cX8_offUpper 22 = .ok (.lsub, 1) := by decide +kernel
theorem dX8_offUpper_23 : decode cX8_offUpper 23 = .ok (.aload_n 0, 1) := by decide +kernel
theorem dX8_offUpper_24 : decode cX8_offUpper 24 = .ok (.getfield 60, 3) := by decide +kernel
theorem dX8_offUpper_27 : decode cX8_offUpper 27 = .ok (.iload_n 1, 1) := by decide +kernel
theorem dX8_offUpper_28 : decode cX8_offUpper 28 = .ok (.iaload, 1) := by decide +kernel
theorem dX8_offUpper_29 : decode cX8_offUpper 29 = .ok (.i2l, 1) := by decide +kernel
theorem dX8_offUpper_30 : decode cX8_offUpper 30 = .ok (.aload_n 0, 1) := by decide +kernel
theorem dX8_offUpper_31 : decode cX8_offUpper 31 = .ok (.getfield 237, 3) := by decide +kernel
theorem dX8_offUpper_34 : decode cX8_offUpper 34 = .ok (.lmul, 1) := by decide +kernel
theorem dX8_offUpper_35 : decode cX8_offUpper 35 = .ok (.lsub, 1) := by decide +kernel
theorem dX8_offUpper_36 : decode cX8_offUpper 36 = .ok (.lreturn, 1) := by decide +kernel
theorem dX8_off_0 : decode cX8_off 0 = .ok (.iload_n 1, 1) := by decide +kernel
theorem dX8_off_1 : decode cX8_off 1 = .ok (.i2l, 1) := by decide +kernel
theorem dX8_off_2 : decode cX8_off 2 = .ok (.lconst 0, 1) := by decide +kernel
theorem dX8_off_3 : decode cX8_off 3 = .ok (.aload_n 0, 1) := by decide +kernel
theorem dX8_off_4 : decode cX8_off 4 = .ok (.getfield 206, 3) := by decide +kernel
theorem dX8_off_7 : decode cX8_off 7 = .ok (.iconst 1, 1) := by decide +kernel
theorem dX8_off_8 : decode cX8_off 8 = .ok (.isub, 1) := by decide +kernel
theorem dX8_off_9 : decode cX8_off 9 = .ok (.i2l, 1) := by decide +kernel
theorem dX8_off_10 : decode cX8_off 10 = .ok (.invokestatic 102, 3) := by decide +kernel
theorem dX8_off_13 : decode cX8_off 13 = .ok (.ifCond .ne 7, 3) := by decide +kernel
theorem dX8_off_16 : decode cX8_off 16 = .ok (.ldc2_w 136, 3) := by decide +kernel
theorem dX8_off_19 : decode cX8_off 19 = .ok (.lreturn, 1) := by decide +kernel
theorem dX8_off_20 : decode cX8_off 20 = .ok (.iload_n 2, 1) := by decide +kernel
theorem dX8_off_21 : decode cX8_off 21 = .ok (.i2l, 1) := by decide +kernel
theorem dX8_off_22 : decode cX8_off 22 = .ok (.lconst 0, 1) := by decide +kernel
theorem dX8_off_23 : decode cX8_off 23 = .ok (.lconst 1, 1) := by decide +kernel
theorem dX8_off_24 : decode cX8_off 24 = .ok (.invokestatic 102, 3) := by decide +kernel
theorem dX8_off_27 : decode cX8_off 27 = .ok (.ifCond .ne 7, 3) := by decide +kernel
theorem dX8_off_30 : decode cX8_off 30 = .ok (.ldc2_w 138, 3) := by decide +kernel
theorem dX8_off_33 : decode cX8_off 33 = .ok (.lreturn, 1) := by decide +kernel
theorem dX8_off_34 : decode cX8_off 34 = .ok (.aload_n 0, 1) := by decide +kernel
theorem dX8_off_35 : decode cX8_off 35 = .ok (.invokevirtual 241, 3) := by decide +kernel
theorem dX8_off_38 : decode cX8_off 38 = .ok (.ifCond .eq 19, 3) := by decide +kernel
theorem dX8_off_41 : decode cX8_off 41 = .ok (.aload_n 0, 1) := by decide +kernel
theorem dX8_off_42 : decode cX8_off 42 = .ok (.iload_n 1, 1) := by decide +kernel
theorem dX8_off_43 : decode cX8_off 43 = .ok (.invokevirtual 246, 3) := by decide +kernel
theorem dX8_off_46 : decode cX8_off 46 = .ok (.aload_n 0, 1) := by decide +kernel
theorem dX8_off_47 : decode cX8_off 47 = .ok (.getfield 237, 3) := by decide +kernel
theorem dX8_off_50 : decode cX8_off 50 = .ok (.iload_n 2, 1) := by decide +kernel
theorem dX8_off_51 : decode cX8_off 51 = .ok (.invokestatic 132, 3) := by decide +kernel
theorem dX8_off_54 : decode cX8_off 54 = .ok (.goto 6, 3) := by decide +kernel
theorem dX8_off_57 : decode cX8_off 57 = .ok (.ldc2_w 244, 3) := by decide +kernel
theorem dX8_off_60 : decode cX8_off 60 = .ok (.lreturn, 1) := by decide +kernel
theorem dX8_worst_0 : decode cX8_worst 0 = .ok (.aload_n 0, 1) := by decide +kernel
theorem dX8_worst_1 : decode cX8_worst 1 = .ok (.getfield 206, 3) := by decide +kernel
theorem dX8_worst_4 : decode cX8_worst 4 = .ok (.ifCond .ne 6, 3) := by decide +kernel
theorem dX8_worst_7 : decode cX8_worst 7 = .ok (.bipush (-6), 2) := by decide +kernel
theorem dX8_worst_9 : decode cX8_worst 9 = .ok (.ireturn, 1) := by decide +kernel
theorem dX8_worst_10 : decode cX8_worst 10 = .ok (.aload_n 0, 1) := by decide +kernel
theorem dX8_worst_11 : decode cX8_worst 11 = .ok (.invokevirtual 241, 3) := by decide +kernel
theorem dX8_worst_14 : decode cX8_worst 14 = .ok (.ifCond .ne 6, 3) := by decide +kernel
theorem dX8_worst_17 : decode cX8_worst 17 = .ok (.bipush (-5), 2) := by decide +kernel
theorem dX8_worst_19 : decode cX8_worst 19 = .ok (.ireturn, 1) := by decide +kernel
theorem dX8_worst_20 : decode cX8_worst 20 = .ok (.iconst 0, 1) := by decide +kernel
theorem dX8_worst_21 : decode cX8_worst 21 = .ok (.istore_n 1, 1) := by decide +kernel
theorem dX8_worst_22 : decode cX8_worst 22 = .ok (.iconst 1, 1) := by decide +kernel
theorem dX8_worst_23 : decode cX8_worst 23 = .ok (.istore_n 2, 1) := by decide +kernel
theorem dX8_worst_24 : decode cX8_worst 24 = .ok (.iload_n 2, 1) := by decide +kernel
theorem dX8_worst_25 : decode cX8_worst 25 = .ok (.aload_n 0, 1) := by decide +kernel
theorem dX8_worst_26 : decode cX8_worst 26 = .ok (.getfield 206, 3) := by decide +kernel
theorem dX8_worst_29 : decode cX8_worst 29 = .ok (.if_icmp .ge 35, 3) := by decide +kernel
theorem dX8_worst_32 : decode cX8_worst 32 = .ok (.aload_n 0, 1) := by decide +kernel
theorem dX8_worst_33 : decode cX8_worst 33 = .ok (.iload_n 2, 1) := by decide +kernel
theorem dX8_worst_34 : decode cX8_worst 34 = .ok (.invokevirtual 246, 3) := by decide +kernel
theorem dX8_worst_37 : decode cX8_worst 37 = .ok (.invokestatic 92, 3) := by decide +kernel
theorem dX8_worst_40 : decode cX8_worst 40 = .ok (.aload_n 0, 1) := by decide +kernel
theorem dX8_worst_41 : decode cX8_worst 41 = .ok (.iload_n 1, 1) := by decide +kernel
theorem dX8_worst_42 : decode cX8_worst 42 = .ok (.invokevirtual 246, 3) := by decide +kernel
theorem dX8_worst_45 : decode cX8_worst 45 = .ok (.invokestatic 92, 3) := by decide +kernel
theorem dX8_worst_48 : decode cX8_worst 48 = .ok (.lcmp, 1) := by decide +kernel
theorem dX8_worst_49 : decode cX8_worst 49 = .ok (.ifCond .le 7, 3) := by decide +kernel
theorem dX8_worst_52 : decode cX8_worst 52 = .ok (.iload_n 2, 1) := by decide +kernel
theorem dX8_worst_53 : decode cX8_worst 53 = .ok (.goto 4, 3) := by decide +kernel
theorem dX8_worst_56 : decode cX8_worst 56 = .ok (.iload_n 1, 1) := by decide +kernel
theorem dX8_worst_57 : decode cX8_worst 57 = .ok (.istore_n 1, 1) := by decide +kernel
theorem dX8_worst_58 : decode cX8_worst 58 = .ok (.iinc 2 1, 3) := by decide +kernel
theorem dX8_worst_61 : decode cX8_worst 61 = .ok (.goto (-37), 3) := by decide +kernel
theorem dX8_worst_64 : decode cX8_worst 64 = .ok (.iload_n 1, 1) := by decide +kernel
theorem dX8_worst_65 : decode cX8_worst 65 = .ok (.ireturn, 1) := by decide +kernel
theorem dX8_firstOf_0 : decode cX8_firstOf 0 = .ok (.iconst 0, 1) := by decide +kernel
theorem dX8_firstOf_1 : decode cX8_firstOf 1 = .ok (.istore_n 3, 1) := by decide +kernel
theorem dX8_firstOf_2 : decode cX8_firstOf 2 = .ok (.iload_n 3, 1) := by decide +kernel
theorem dX8_firstOf_3 : decode cX8_firstOf 3 = .ok (.aload_n 0, 1) := by decide +kernel
theorem dX8_firstOf_4 : decode cX8_firstOf 4 = .ok (.getfield 206, 3) := by decide +kernel
theorem dX8_firstOf_7 : decode cX8_firstOf 7 = .ok (.if_icmp .ge 51, 3) := by decide +kernel
theorem dX8_firstOf_10 : decode cX8_firstOf 10 = .ok (.aload_n 0, 1) := by decide +kernel
theorem dX8_firstOf_11 : decode cX8_firstOf 11 = .ok (.getfield 54, 3) := by decide +kernel
theorem dX8_firstOf_14 : decode cX8_firstOf 14 = .ok (.iload_n 3, 1) := by decide +kernel
theorem dX8_firstOf_15 : decode cX8_firstOf 15 = .ok (.iaload, 1) := by decide +kernel
theorem dX8_firstOf_16 : decode cX8_firstOf 16 = .ok (.iload_n 1, 1) := by decide +kernel
theorem dX8_firstOf_17 : decode cX8_firstOf 17 = .ok (.if_icmp .ne 13, 3) := by decide +kernel
theorem dX8_firstOf_20 : decode cX8_firstOf 20 = .ok (.aload_n 0, 1) := by decide +kernel
theorem dX8_firstOf_21 : decode cX8_firstOf 21 = .ok (.getfield 57, 3) := by decide +kernel
theorem dX8_firstOf_24 : decode cX8_firstOf 24 = .ok (.iload_n 3, 1) := by decide +kernel
theorem dX8_firstOf_25 : decode cX8_firstOf 25 = .ok (.iaload, 1) := by decide +kernel
theorem dX8_firstOf_26 : decode cX8_firstOf 26 = .ok (.iload_n 2, 1) := by decide +kernel
theorem dX8_firstOf_27 : decode cX8_firstOf 27 = .ok (.if_icmp .eq 23, 3) := by decide +kernel
theorem dX8_firstOf_30 : decode cX8_firstOf 30 = .ok (.aload_n 0, 1) := by decide +kernel
theorem dX8_firstOf_31 : decode cX8_firstOf 31 = .ok (.getfield 54, 3) := by decide +kernel
theorem dX8_firstOf_34 : decode cX8_firstOf 34 = .ok (.iload_n 3, 1) := by decide +kernel
theorem dX8_firstOf_35 : decode cX8_firstOf 35 = .ok (.iaload, 1) := by decide +kernel
theorem dX8_firstOf_36 : decode cX8_firstOf 36 = .ok (.iload_n 2, 1) := by decide +kernel
theorem dX8_firstOf_37 : decode cX8_firstOf 37 = .ok (.if_icmp .ne 15, 3) := by decide +kernel
theorem dX8_firstOf_40 : decode cX8_firstOf 40 = .ok (.aload_n 0, 1) := by decide +kernel
theorem dX8_firstOf_41 : decode cX8_firstOf 41 = .ok (.getfield 57, 3) := by decide +kernel
theorem dX8_firstOf_44 : decode cX8_firstOf 44 = .ok (.iload_n 3, 1) := by decide +kernel
theorem dX8_firstOf_45 : decode cX8_firstOf 45 = .ok (.iaload, 1) := by decide +kernel
theorem dX8_firstOf_46 : decode cX8_firstOf 46 = .ok (.iload_n 1, 1) := by decide +kernel
theorem dX8_firstOf_47 : decode cX8_firstOf 47 = .ok (.if_icmp .ne 5, 3) := by decide +kernel
theorem dX8_firstOf_50 : decode cX8_firstOf 50 = .ok (.iload_n 3, 1) := by decide +kernel
theorem dX8_firstOf_51 : decode cX8_firstOf 51 = .ok (.ireturn, 1) := by decide +kernel
theorem dX8_firstOf_52 : decode cX8_firstOf 52 = .ok (.iinc 3 1, 3) := by decide +kernel
theorem dX8_firstOf_55 : decode cX8_firstOf 55 = .ok (.goto (-53), 3) := by decide +kernel
theorem dX8_firstOf_58 : decode cX8_firstOf 58 = .ok (.iconst (-1), 1) := by decide +kernel
theorem dX8_firstOf_59 : decode cX8_firstOf 59 = .ok (.ireturn, 1) := by decide +kernel
theorem dX8_closing_0 : decode cX8_closing 0 = .ok (.aload_n 0, 1) := by decide +kernel
theorem dX8_closing_1 : decode cX8_closing 1 = .ok (.iload_n 1, 1) := by decide +kernel
theorem dX8_closing_2 : decode cX8_closing 2 = .ok (.invokevirtual 209, 3) := by decide +kernel
theorem dX8_closing_5 : decode cX8_closing 5 = .ok (.ifCond .eq 34, 3) := by decide +kernel
theorem dX8_closing_8 : decode cX8_closing 8 = .ok (.aload_n 0, 1) := by decide +kernel
theorem dX8_closing_9 : decode cX8_closing 9 = .ok (.iload_n 2, 1) := by decide +kernel
theorem dX8_closing_10 : decode cX8_closing 10 = .ok (.invokevirtual 209, 3) := by decide +kernel
theorem dX8_closing_13 : decode cX8_closing 13 = .ok (.ifCond .eq 26, 3) := by decide +kernel
theorem dX8_closing_16 : decode cX8_closing 16 = .ok (.aload_n 0, 1) := by decide +kernel
theorem dX8_closing_17 : decode cX8_closing 17 = .ok (.iload_n 3, 1) := by decide +kernel
theorem dX8_closing_18 : decode cX8_closing 18 = .ok (.invokevirtual 209, 3) := by decide +kernel
theorem dX8_closing_21 : decode cX8_closing 21 = .ok (.ifCond .eq 18, 3) := by decide +kernel
theorem dX8_closing_24 : decode cX8_closing 24 = .ok (.iload_n 1, 1) := by decide +kernel
theorem dX8_closing_25 : decode cX8_closing 25 = .ok (.iload_n 2, 1) := by decide +kernel
theorem dX8_closing_26 : decode cX8_closing 26 = .ok (.if_icmp .eq 13, 3) := by decide +kernel
theorem dX8_closing_29 : decode cX8_closing 29 = .ok (.iload_n 2, 1) := by decide +kernel
theorem dX8_closing_30 : decode cX8_closing 30 = .ok (.iload_n 3, 1) := by decide +kernel
theorem dX8_closing_31 : decode cX8_closing 31 = .ok (.if_icmp .eq 8, 3) := by decide +kernel
theorem dX8_closing_34 : decode cX8_closing 34 = .ok (.iload_n 1, 1) := by decide +kernel
theorem dX8_closing_35 : decode cX8_closing 35 = .ok (.iload_n 3, 1) := by decide +kernel
theorem dX8_closing_36 : decode cX8_closing 36 = .ok (.if_icmp .ne 7, 3) := by decide +kernel
theorem dX8_closing_39 : decode cX8_closing 39 = .ok (.ldc2_w 136, 3) := by decide +kernel
theorem dX8_closing_42 : decode cX8_closing 42 = .ok (.lreturn, 1) := by decide +kernel
theorem dX8_closing_43 : decode cX8_closing 43 = .ok (.lconst 0, 1) := by decide +kernel
theorem dX8_closing_44 : decode cX8_closing 44 = .ok (.lstore 4, 2) := by decide +kernel
theorem dX8_closing_46 : decode cX8_closing 46 = .ok (.iconst 0, 1) := by decide +kernel
theorem dX8_closing_47 : decode cX8_closing 47 = .ok (.istore 6, 2) := by decide +kernel
theorem dX8_closing_49 : decode cX8_closing 49 = .ok (.iload 6, 2) := by decide +kernel
theorem dX8_closing_51 : decode cX8_closing 51 = .ok (.iconst 3, 1) := by decide +kernel
theorem dX8_closing_52 : decode cX8_closing 52 = .ok (.if_icmp .ge 109, 3) := by decide +kernel
theorem dX8_closing_55 : decode cX8_closing 55 = .ok (.iload 6, 2) := by decide +kernel
theorem dX8_closing_57 : decode cX8_closing 57 = .ok (.ifCond .ne 7, 3) := by decide +kernel
theorem dX8_closing_60 : decode cX8_closing 60 = .ok (.iload_n 1, 1) := by decide +kernel
theorem dX8_closing_61 : decode cX8_closing 61 = .ok (.goto 14, 3) := by decide +kernel
theorem dX8_closing_64 : decode cX8_closing 64 = .ok (.iload 6, 2) := by decide +kernel
theorem dX8_closing_66 : decode cX8_closing 66 = .ok (.iconst 1, 1) := by decide +kernel
theorem dX8_closing_67 : decode cX8_closing 67 = .ok (.if_icmp .ne 7, 3) := by decide +kernel
theorem dX8_closing_70 : decode cX8_closing 70 = .ok (.iload_n 2, 1) := by decide +kernel
theorem dX8_closing_71 : decode cX8_closing 71 = .ok (.goto 4, 3) := by decide +kernel
theorem dX8_closing_74 : decode cX8_closing 74 = .ok (.iload_n 3, 1) := by decide +kernel
theorem dX8_closing_75 : decode cX8_closing 75 = .ok (.istore 7, 2) := by decide +kernel
theorem dX8_closing_77 : decode cX8_closing 77 = .ok (.iload 6, 2) := by decide +kernel
theorem dX8_closing_79 : decode cX8_closing 79 = .ok (.ifCond .ne 7, 3) := by decide +kernel
theorem dX8_closing_82 : decode cX8_closing 82 = .ok (.iload_n 2, 1) := by decide +kernel
theorem dX8_closing_83 : decode cX8_closing 83 = .ok (.goto 14, 3) := by decide +kernel
theorem dX8_closing_86 : decode cX8_closing 86 = .ok (.iload 6, 2) := by decide +kernel
theorem dX8_closing_88 : decode cX8_closing 88 = .ok (.iconst 1, 1) := by decide +kernel
theorem dX8_closing_89 : decode cX8_closing 89 = .ok (.if_icmp .ne 7, 3) := by decide +kernel
theorem dX8_closing_92 : decode cX8_closing 92 = .ok (.iload_n 3, 1) := by decide +kernel
theorem dX8_closing_93 : decode cX8_closing 93 = .ok (.goto 4, 3) := by decide +kernel
theorem dX8_closing_96 : decode cX8_closing 96 = .ok (.iload_n 1, 1) := by decide +kernel
theorem dX8_closing_97 : decode cX8_closing 97 = .ok (.istore 8, 2) := by decide +kernel
theorem dX8_closing_99 : decode cX8_closing 99 = .ok (.aload_n 0, 1) := by decide +kernel
theorem dX8_closing_100 : decode cX8_closing 100 = .ok (.iload 7, 2) := by decide +kernel
theorem dX8_closing_102 : decode cX8_closing 102 = .ok (.iload 8, 2) := by decide +kernel
theorem dX8_closing_104 : decode cX8_closing 104 = .ok (.invokevirtual 250, 3) := by decide +kernel
theorem dX8_closing_107 : decode cX8_closing 107 = .ok (.istore 9, 2) := by decide +kernel
theorem dX8_closing_109 : decode cX8_closing 109 = .ok (.iload 9, 2) := by decide +kernel
theorem dX8_closing_111 : decode cX8_closing 111 = .ok (.ifCond .ge 7, 3) := by decide +kernel
theorem dX8_closing_114 : decode cX8_closing 114 = .ok (.ldc2_w 197, 3) := by decide +kernel
theorem dX8_closing_117 : decode cX8_closing 117 = .ok (.lreturn, 1) := by decide +kernel
theorem dX8_closing_118 : decode cX8_closing 118 = .ok (.lload 4, 2) := by decide +kernel
theorem dX8_closing_120 : decode cX8_closing 120 = .ok (.aload_n 0, 1) := by decide +kernel
theorem dX8_closing_121 : decode cX8_closing 121 = .ok (.getfield 54, 3) := by decide +kernel
theorem dX8_closing_124 : decode cX8_closing 124 = .ok (.iload 9, 2) := by decide +kernel
theorem dX8_closing_126 : decode cX8_closing 126 = .ok (.iaload, 1) := by decide +kernel
theorem dX8_closing_127 : decode cX8_closing 127 = .ok (.iload 7, 2) := by decide +kernel
theorem dX8_closing_129 : decode cX8_closing 129 = .ok (.if_icmp .ne 14, 3) := by decide +kernel
theorem dX8_closing_132 : decode cX8_closing 132 = .ok (.aload_n 0, 1) := by decide +kernel
theorem dX8_closing_133 : decode cX8_closing 133 = .ok (.getfield 60, 3) := by decide +kernel
theorem dX8_closing_136 : decode cX8_closing 136 = .ok (.iload 9, 2) := by decide +kernel
theorem dX8_closing_138 : decode cX8_closing 138 = .ok (.iaload, 1) := by decide +kernel
theorem dX8_closing_139 : decode cX8_closing 139 = .ok (.i2l, 1) := by decide +kernel
theorem dX8_closing_140 : decode cX8_closing 140 = .ok (.goto 12, 3) := by decide +kernel
theorem dX8_closing_143 : decode cX8_closing 143 = .ok (.aload_n 0, 1) := by decide +kernel
theorem dX8_closing_144 : decode cX8_closing 144 = .ok (.getfield 60, 3) := by decide +kernel
theorem dX8_closing_147 : decode cX8_closing 147 = .ok (.iload 9, 2) := by decide +kernel
theorem dX8_closing_149 : decode cX8_closing 149 = .ok (.iaload, 1) := by decide +kernel
theorem dX8_closing_150 : decode cX8_closing 150 = .ok (.ineg, 1) := by decide +kernel
theorem dX8_closing_151 : decode cX8_closing 151 = .ok (.i2l, 1) := by decide +kernel
theorem dX8_closing_152 : decode cX8_closing 152 = .ok (.ladd, 1) := by decide +kernel
theorem dX8_closing_153 : decode cX8_closing 153 = .ok (.lstore 4, 2) := by decide +kernel
theorem dX8_closing_155 : decode cX8_closing 155 = .ok (.iinc 6 1, 3) := by decide +kernel
theorem dX8_closing_158 : decode cX8_closing 158 = .ok (.goto (-109), 3) := by decide +kernel
theorem dX8_closing_161 : decode cX8_closing 161 = .ok (.lload 4, 2) := by decide +kernel
theorem dX8_closing_163 : decode cX8_closing 163 = .ok (.lreturn, 1) := by decide +kernel
theorem dX8_hasAny_0 : decode cX8_hasAny 0 = .ok (.iconst 0, 1) := by decide +kernel
theorem dX8_hasAny_1 : decode cX8_hasAny 1 = .ok (.istore_n 3, 1) := by decide +kernel
theorem dX8_hasAny_2 : decode cX8_hasAny 2 = .ok (.iconst 0, 1) := by decide +kernel
theorem dX8_hasAny_3 : decode cX8_hasAny 3 = .ok (.istore 4, 2) := by decide +kernel
theorem dX8_hasAny_5 : decode cX8_hasAny 5 = .ok (.iload 4, 2) := by decide +kernel
theorem dX8_hasAny_7 : decode cX8_hasAny 7 = .ok (.aload_n 0, 1) := by decide +kernel
theorem dX8_hasAny_8 : decode cX8_hasAny 8 = .ok (.getfield 154, 3) := by decide +kernel
theorem dX8_hasAny_11 : decode cX8_hasAny 11 = .ok (.if_icmp .ge 35, 3) := by decide +kernel
theorem dX8_hasAny_14 : decode cX8_hasAny 14 = .ok (.iload_n 3, 1) := by decide +kernel
theorem dX8_hasAny_15 : decode cX8_hasAny 15 = .ok (.ifCond .ne 19, 3) := by decide +kernel
theorem dX8_hasAny_18 : decode cX8_hasAny 18 = .ok (.iload 4, 2) := by decide +kernel
theorem dX8_hasAny_20 : decode cX8_hasAny 20 = .ok (.iload_n 2, 1) := by decide +kernel
theorem dX8_hasAny_21 : decode cX8_hasAny 21 = .ok (.if_icmp .eq 17, 3) := by decide +kernel
theorem dX8_hasAny_24 : decode cX8_hasAny 24 = .ok (.aload_n 0, 1) := by decide +kernel
theorem dX8_hasAny_25 : decode cX8_hasAny 25 = .ok (.iload 4, 2) := by decide +kernel
theorem dX8_hasAny_27 : decode cX8_hasAny 27 = .ok (.iload_n 1, 1) := by decide +kernel
theorem dX8_hasAny_28 : decode cX8_hasAny 28 = .ok (.invokevirtual 172, 3) := by decide +kernel
theorem dX8_hasAny_31 : decode cX8_hasAny 31 = .ok (.ifCond .eq 7, 3) := by decide +kernel
theorem dX8_hasAny_34 : decode cX8_hasAny 34 = .ok (.iconst 1, 1) := by decide +kernel
theorem dX8_hasAny_35 : decode cX8_hasAny 35 = .ok (.goto 4, 3) := by decide +kernel
theorem dX8_hasAny_38 : decode cX8_hasAny 38 = .ok (.iconst 0, 1) := by decide +kernel
theorem dX8_hasAny_39 : decode cX8_hasAny 39 = .ok (.istore_n 3, 1) := by decide +kernel
theorem dX8_hasAny_40 : decode cX8_hasAny 40 = .ok (.iinc 4 1, 3) := by decide +kernel
theorem dX8_hasAny_43 : decode cX8_hasAny 43 = .ok (.goto (-38), 3) := by decide +kernel
theorem dX8_hasAny_46 : decode cX8_hasAny 46 = .ok (.iload_n 3, 1) := by decide +kernel
theorem dX8_hasAny_47 : decode cX8_hasAny 47 = .ok (.ireturn, 1) := by decide +kernel
theorem dX8_findLevels_0 : decode cX8_findLevels 0 = .ok (.iconst 0, 1) := by decide +kernel
theorem dX8_findLevels_1 : decode cX8_findLevels 1 = .ok (.istore_n 2, 1) := by decide +kernel
theorem dX8_findLevels_2 : decode cX8_findLevels 2 = .ok (.iload_n 2, 1) := by decide +kernel
theorem dX8_findLevels_3 : decode cX8_findLevels 3 = .ok (.aload_n 0, 1) := by decide +kernel
theorem dX8_findLevels_4 : decode cX8_findLevels 4 = .ok (.getfield 154, 3) := by decide +kernel
theorem dX8_findLevels_7 : decode cX8_findLevels 7 = .ok (.if_icmp .ge 34, 3) := by decide +kernel
theorem dX8_findLevels_10 : decode cX8_findLevels 10 = .ok (.aload_n 0, 1) := by decide +kernel
theorem dX8_findLevels_11 : decode cX8_findLevels 11 = .ok (.getfield 72, 3) := by decide +kernel
theorem dX8_findLevels_14 : decode cX8_findLevels 14 = .ok (.iload_n 2, 1) := by decide +kernel
theorem dX8_findLevels_15 : decode cX8_findLevels 15 = .ok (.aload_n 0, 1) := by decide +kernel
theorem dX8_findLevels_16 : decode cX8_findLevels 16 = .ok (.iload_n 2, 1) := by decide +kernel
theorem dX8_findLevels_17 : decode cX8_findLevels 17 = .ok (.iload_n 1, 1) := by decide +kernel
theorem dX8_findLevels_18 : decode cX8_findLevels 18 = .ok (.invokevirtual 172, 3) := by decide +kernel
theorem dX8_findLevels_21 : decode cX8_findLevels 21 = .ok (.ifCond .eq 12, 3) := by decide +kernel
theorem dX8_findLevels_24 : decode cX8_findLevels 24 = .ok (.aload_n 0, 1) := by decide +kernel
theorem dX8_findLevels_25 : decode cX8_findLevels 25 = .ok (.iload_n 2, 1) := by decide +kernel
theorem dX8_findLevels_26 : decode cX8_findLevels 26 = .ok (.iload_n 1, 1) := by decide +kernel
theorem dX8_findLevels_27 : decode cX8_findLevels 27 = .ok (.invokevirtual 199, 3) := by decide +kernel
theorem dX8_findLevels_30 : decode cX8_findLevels 30 = .ok (.goto 4, 3) := by decide +kernel
theorem dX8_findLevels_33 : decode cX8_findLevels 33 = .ok (.iconst 0, 1) := by decide +kernel
theorem dX8_findLevels_34 : decode cX8_findLevels 34 = .ok (.iastore, 1) := by decide +kernel
theorem dX8_findLevels_35 : decode cX8_findLevels 35 = .ok (.iinc 2 1, 3) := by decide +kernel
theorem dX8_findLevels_38 : decode cX8_findLevels 38 = .ok (.goto (-36), 3) := by decide +kernel
theorem dX8_findLevels_41 : decode cX8_findLevels 41 = .ok (.return_, 1) := by decide +kernel
theorem dX8_fieldAt_0 : decode cX8_fieldAt 0 = .ok (.lconst 0, 1) := by decide +kernel
theorem dX8_fieldAt_1 : decode cX8_fieldAt 1 = .ok (.lstore 5, 2) := by decide +kernel
theorem dX8_fieldAt_3 : decode cX8_fieldAt 3 = .ok (.lconst 0, 1) := by decide +kernel
theorem dX8_fieldAt_4 : decode cX8_fieldAt 4 = .ok (.lstore 7, 2) := by decide +kernel
theorem dX8_fieldAt_6 : decode cX8_fieldAt 6 = .ok (.iconst 0, 1) := by decide +kernel
theorem dX8_fieldAt_7 : decode cX8_fieldAt 7 = .ok (.istore 9, 2) := by decide +kernel
theorem dX8_fieldAt_9 : decode cX8_fieldAt 9 = .ok (.iload 9, 2) := by decide +kernel
theorem dX8_fieldAt_11 : decode cX8_fieldAt 11 = .ok (.aload_n 0, 1) := by decide +kernel
theorem dX8_fieldAt_12 : decode cX8_fieldAt 12 = .ok (.getfield 154, 3) := by decide +kernel
theorem dX8_fieldAt_15 : decode cX8_fieldAt 15 = .ok (.if_icmp .ge 91, 3) := by decide +kernel
theorem dX8_fieldAt_18 : decode cX8_fieldAt 18 = .ok (.iload 9, 2) := by decide +kernel
theorem dX8_fieldAt_20 : decode cX8_fieldAt 20 = .ok (.iload 4, 2) := by decide +kernel
theorem dX8_fieldAt_22 : decode cX8_fieldAt 22 = .ok (.if_icmp .eq 78, 3) := by decide +kernel
theorem dX8_fieldAt_25 : decode cX8_fieldAt 25 = .ok (.aload_n 0, 1) := by decide +kernel
theorem dX8_fieldAt_26 : decode cX8_fieldAt 26 = .ok (.iload 9, 2) := by decide +kernel
theorem dX8_fieldAt_28 : decode cX8_fieldAt 28 = .ok (.iload_n 1, 1) := by decide +kernel
theorem dX8_fieldAt_29 : decode cX8_fieldAt 29 = .ok (.invokevirtual 172, 3) := by decide +kernel
theorem dX8_fieldAt_32 : decode cX8_fieldAt 32 = .ok (.ifCond .eq 68, 3) := by decide +kernel
theorem dX8_fieldAt_35 : decode cX8_fieldAt 35 = .ok (.iload_n 2, 1) := by decide +kernel
theorem dX8_fieldAt_36 : decode cX8_fieldAt 36 = .ok (.aload_n 0, 1) := by decide +kernel
theorem dX8_fieldAt_37 : decode cX8_fieldAt 37 = .ok (.getfield 23, 3) := by decide +kernel
theorem dX8_fieldAt_40 : decode cX8_fieldAt 40 = .ok (.iload 9, 2) := by decide +kernel
theorem dX8_fieldAt_42 : decode cX8_fieldAt 42 = .ok (.iaload, 1) := by decide +kernel
theorem dX8_fieldAt_43 : decode cX8_fieldAt 43 = .ok (.isub, 1) := by decide +kernel
theorem dX8_fieldAt_44 : decode cX8_fieldAt 44 = .ok (.istore 10, 2) := by decide +kernel
theorem dX8_fieldAt_46 : decode cX8_fieldAt 46 = .ok (.iload_n 3, 1) := by decide +kernel
theorem dX8_fieldAt_47 : decode cX8_fieldAt 47 = .ok (.aload_n 0, 1) := by decide +kernel
theorem dX8_fieldAt_48 : decode cX8_fieldAt 48 = .ok (.getfield 26, 3) := by decide +kernel
theorem dX8_fieldAt_51 : decode cX8_fieldAt 51 = .ok (.iload 9, 2) := by decide +kernel
theorem dX8_fieldAt_53 : decode cX8_fieldAt 53 = .ok (.iaload, 1) := by decide +kernel
theorem dX8_fieldAt_54 : decode cX8_fieldAt 54 = .ok (.isub, 1) := by decide +kernel
theorem dX8_fieldAt_55 : decode cX8_fieldAt 55 = .ok (.istore 11, 2) := by decide +kernel
theorem dX8_fieldAt_57 : decode cX8_fieldAt 57 = .ok (.sipush 1000, 3) := by decide +kernel
theorem dX8_fieldAt_60 : decode cX8_fieldAt 60 = .ok (.iconst 1, 1) := by decide +kernel
theorem dX8_fieldAt_61 : decode cX8_fieldAt 61 = .ok (.iload 10, 2) := by decide +kernel
theorem dX8_fieldAt_63 : decode cX8_fieldAt 63 = .ok (.iload 10, 2) := by decide +kernel
theorem dX8_fieldAt_65 : decode cX8_fieldAt 65 = .ok (.imul, 1) := by decide +kernel
theorem dX8_fieldAt_66 : decode cX8_fieldAt 66 = .ok (.iadd, 1) := by decide +kernel
theorem dX8_fieldAt_67 : decode cX8_fieldAt 67 = .ok (.iload 11, 2) := by decide +kernel
theorem dX8_fieldAt_69 : decode cX8_fieldAt 69 = .ok (.iload 11, 2) := by decide +kernel
theorem dX8_fieldAt_71 : decode cX8_fieldAt 71 = .ok (.imul, 1) := by decide +kernel
theorem dX8_fieldAt_72 : decode cX8_fieldAt 72 = .ok (.iadd, 1) := by decide +kernel
theorem dX8_fieldAt_73 : decode cX8_fieldAt 73 = .ok (.idiv, 1) := by decide +kernel
theorem dX8_fieldAt_74 : decode cX8_fieldAt 74 = .ok (.i2l, 1) := by decide +kernel
theorem dX8_fieldAt_75 : decode cX8_fieldAt 75 = .ok (.lstore 12, 2) := by decide +kernel
theorem dX8_fieldAt_77 : decode cX8_fieldAt 77 = .ok (.lload 5, 2) := by decide +kernel
theorem dX8_fieldAt_79 : decode cX8_fieldAt 79 = .ok (.aload_n 0, 1) := by decide +kernel
theorem dX8_fieldAt_80 : decode cX8_fieldAt 80 = .ok (.getfield 72, 3) := by decide +kernel
theorem dX8_fieldAt_83 : decode cX8_fieldAt 83 = .ok (.iload 9, 2) := by decide +kernel
theorem dX8_fieldAt_85 : decode cX8_fieldAt 85 = .ok (.iaload, 1) := by decide +kernel
theorem dX8_fieldAt_86 : decode cX8_fieldAt 86 = .ok (.i2l, 1) := by decide +kernel
theorem dX8_fieldAt_87 : decode cX8_fieldAt 87 = .ok (.lload 12, 2) := by decide +kernel
theorem dX8_fieldAt_89 : decode cX8_fieldAt 89 = .ok (.lmul, 1) := by decide +kernel
theorem dX8_fieldAt_90 : decode cX8_fieldAt 90 = .ok (.ladd, 1) := by decide +kernel
theorem dX8_fieldAt_91 : decode cX8_fieldAt 91 = .ok (.lstore 5, 2) := by decide +kernel
theorem dX8_fieldAt_93 : decode cX8_fieldAt 93 = .ok (.lload 7, 2) := by decide +kernel
theorem dX8_fieldAt_95 : decode cX8_fieldAt 95 = .ok (.lload 12, 2) := by decide +kernel
theorem dX8_fieldAt_97 : decode cX8_fieldAt 97 = .ok (.ladd, 1) := by decide +kernel
theorem dX8_fieldAt_98 : decode cX8_fieldAt 98 = .ok (.lstore 7, 2) := by decide +kernel
theorem dX8_fieldAt_100 : decode cX8_fieldAt 100 = .ok (.iinc 9 1, 3) := by decide +kernel
theorem dX8_fieldAt_103 : decode cX8_fieldAt 103 = .ok (.goto (-94), 3) := by decide +kernel
theorem dX8_fieldAt_106 : decode cX8_fieldAt 106 = .ok (.lload 5, 2) := by decide +kernel
theorem dX8_fieldAt_108 : decode cX8_fieldAt 108 = .ok (.lload 7, 2) := by decide +kernel
theorem dX8_fieldAt_110 : decode cX8_fieldAt 110 = .ok (.ldiv, 1) := by decide +kernel
theorem dX8_fieldAt_111 : decode cX8_fieldAt 111 = .ok (.lreturn, 1) := by decide +kernel
theorem dX8_field_0 : decode cX8_field 0 = .ok (.iload_n 1, 1) := by decide +kernel
theorem dX8_field_1 : decode cX8_field 1 = .ok (.invokestatic 169, 3) := by decide +kernel
theorem dX8_field_4 : decode cX8_field 4 = .ok (.ifCond .eq 11, 3) := by decide +kernel
theorem dX8_field_7 : decode cX8_field 7 = .ok (.iload_n 2, 1) := by decide +kernel
theorem dX8_field_8 : decode cX8_field 8 = .ok (.iload_n 3, 1) := by decide +kernel
theorem dX8_field_9 : decode cX8_field 9 = .ok (.invokestatic 161, 3) := by decide +kernel
theorem dX8_field_12 : decode cX8_field 12 = .ok (.ifCond .ne 7, 3) := by decide +kernel
theorem dX8_field_15 : decode cX8_field 15 = .ok (.ldc2_w 138, 3) := by decide +kernel
theorem dX8_field_18 : decode cX8_field 18 = .ok (.lreturn, 1) := by decide +kernel
theorem dX8_field_19 : decode cX8_field 19 = .ok (.aload_n 0, 1) := by decide +kernel
theorem dX8_field_20 : decode cX8_field 20 = .ok (.iload_n 1, 1) := by decide +kernel
theorem dX8_field_21 : decode cX8_field 21 = .ok (.iconst (-1), 1) := by decide +kernel
theorem dX8_field_22 : decode cX8_field 22 = .ok (.invokevirtual 253, 3) := by decide +kernel
theorem dX8_field_25 : decode cX8_field 25 = .ok (.ifCond .ne 7, 3) := by decide +kernel
theorem dX8_field_28 : decode cX8_field 28 = .ok (.ldc2_w 197, 3) := by decide +kernel
theorem dX8_field_31 : decode cX8_field 31 = .ok (.lreturn, 1) := by decide +kernel
theorem dX8_field_32 : decode cX8_field 32 = .ok (.aload_n 0, 1) := by decide +kernel
theorem dX8_field_33 : decode cX8_field 33 = .ok (.iload_n 1, 1) := by decide +kernel
theorem dX8_field_34 : decode cX8_field 34 = .ok (.invokevirtual 256, 3) := by decide +kernel
theorem dX8_field_37 : decode cX8_field 37 = .ok (.aload_n 0, 1) := by decide +kernel
theorem dX8_field_38 : decode cX8_field 38 = .ok (.iload_n 1, 1) := by decide +kernel
theorem dX8_field_39 : decode cX8_field 39 = .ok (.iload_n 2, 1) := by decide +kernel
theorem dX8_field_40 : decode cX8_field 40 = .ok (.iload_n 3, 1) := by decide +kernel
theorem dX8_field_41 : decode cX8_field 41 = .ok (.iconst (-1), 1) := by decide +kernel
theorem dX8_field_42 : decode cX8_field 42 = .ok (.invokevirtual 259, 3) := by decide +kernel
theorem dX8_field_45 : decode cX8_field 45 = .ok (.lreturn, 1) := by decide +kernel
theorem dX8_findSheet_0 : decode cX8_findSheet 0 = .ok (.aload_n 0, 1) := by decide +kernel
theorem dX8_findSheet_1 : decode cX8_findSheet 1 = .ok (.iload_n 1, 1) := by decide +kernel
theorem dX8_findSheet_2 : decode cX8_findSheet 2 = .ok (.invokevirtual 256, 3) := by decide +kernel
theorem dX8_findSheet_5 : decode cX8_findSheet 5 = .ok (.iconst 0, 1) := by decide +kernel
theorem dX8_findSheet_6 : decode cX8_findSheet 6 = .ok (.istore_n 2, 1) := by decide +kernel
theorem dX8_findSheet_7 : decode cX8_findSheet 7 = .ok (.iload_n 2, 1) := by decide +kernel
theorem dX8_findSheet_8 : decode cX8_findSheet 8 = .ok (.bipush 64, 2) := by decide +kernel
theorem dX8_findSheet_10 : decode cX8_findSheet 10 = .ok (.if_icmp .ge 29, 3) := by decide +kernel
theorem dX8_findSheet_13 : decode cX8_findSheet 13 = .ok (.aload_n 0, 1) := by decide +kernel
theorem dX8_findSheet_14 : decode cX8_findSheet 14 = .ok (.getfield 75, 3) := by decide +kernel
theorem dX8_findSheet_17 : decode cX8_findSheet 17 = .ok (.iload_n 2, 1) := by decide +kernel
theorem dX8_findSheet_18 : decode cX8_findSheet 18 = .ok (.aload_n 0, 1) := by decide +kernel
theorem dX8_findSheet_19 : decode cX8_findSheet 19 = .ok (.iload_n 1, 1) := by decide +kernel
theorem dX8_findSheet_20 : decode cX8_findSheet 20 = .ok (.iload_n 2, 1) := by decide +kernel
theorem dX8_findSheet_21 : decode cX8_findSheet 21 = .ok (.bipush 8, 2) := by decide +kernel
theorem dX8_findSheet_23 : decode cX8_findSheet 23 = .ok (.irem, 1) := by decide +kernel
theorem dX8_findSheet_24 : decode cX8_findSheet 24 = .ok (.iload_n 2, 1) := by decide +kernel
theorem dX8_findSheet_25 : decode cX8_findSheet 25 = .ok (.bipush 8, 2) := by decide +kernel
theorem dX8_findSheet_27 : decode cX8_findSheet 27 = .ok (.idiv, 1) := by decide +kernel
theorem dX8_findSheet_28 : decode cX8_findSheet 28 = .ok (.iconst (-1), 1) := by decide +kernel
theorem dX8_findSheet_29 : decode cX8_findSheet 29 = .ok (.invokevirtual 259, 3) := by decide +kernel
theorem dX8_findSheet_32 : decode cX8_findSheet 32 = .ok (.lastore, 1) := by decide +kernel
theorem dX8_findSheet_33 : decode cX8_findSheet 33 = .ok (.iinc 2 1, 3) := by decide +kernel
theorem dX8_findSheet_36 : decode cX8_findSheet 36 = .ok (.goto (-29), 3) := by decide +kernel
theorem dX8_findSheet_39 : decode cX8_findSheet 39 = .ok (.return_, 1) := by decide +kernel
theorem dX8_isLow_0 : decode cX8_isLow 0 = .ok (.iconst (-1), 1) := by decide +kernel
theorem dX8_isLow_1 : decode cX8_isLow 1 = .ok (.istore_n 2, 1) := by decide +kernel
theorem dX8_isLow_2 : decode cX8_isLow 2 = .ok (.iload_n 2, 1) := by decide +kernel
theorem dX8_isLow_3 : decode cX8_isLow 3 = .ok (.iconst 2, 1) := by decide +kernel
theorem dX8_isLow_4 : decode cX8_isLow 4 = .ok (.if_icmp .ge 106, 3) := by decide +kernel
theorem dX8_isLow_7 : decode cX8_isLow 7 = .ok (.iconst (-1), 1) := by decide +kernel
theorem dX8_isLow_8 : decode cX8_isLow 8 = .ok (.istore_n 3, 1) := by decide +kernel
theorem dX8_isLow_9 : decode cX8_isLow 9 = .ok (.iload_n 3, 1) := by decide +kernel
theorem dX8_isLow_10 : decode cX8_isLow 10 = .ok (.iconst 2, 1) := by decide +kernel
theorem dX8_isLow_11 : decode cX8_isLow 11 = .ok (.if_icmp .ge 93, 3) := by decide +kernel
theorem dX8_isLow_14 : decode cX8_isLow 14 = .ok (.iload_n 1, 1) := by decide +kernel
theorem dX8_isLow_15 : decode cX8_isLow 15 = .ok (.bipush 8, 2) := by decide +kernel
theorem dX8_isLow_17 : decode cX8_isLow 17 = .ok (.irem, 1) := by decide +kernel
theorem dX8_isLow_18 : decode cX8_isLow 18 = .ok (.iload_n 3, 1) := by decide +kernel
theorem dX8_isLow_19 : decode cX8_isLow 19 = .ok (.iadd, 1) := by decide +kernel
theorem dX8_isLow_20 : decode cX8_isLow 20 = .ok (.istore 4, 2) := by decide +kernel
theorem dX8_isLow_22 : decode cX8_isLow 22 = .ok (.iload_n 1, 1) := by decide +kernel
theorem dX8_isLow_23 : decode cX8_isLow 23 = .ok (.bipush 8, 2) := by decide +kernel
theorem dX8_isLow_25 : decode cX8_isLow 25 = .ok (.idiv, 1) := by decide +kernel
theorem dX8_isLow_26 : decode cX8_isLow 26 = .ok (.iload_n 2, 1) := by decide +kernel
theorem dX8_isLow_27 : decode cX8_isLow 27 = .ok (.iadd, 1) := by decide +kernel
theorem dX8_isLow_28 : decode cX8_isLow 28 = .ok (.istore 5, 2) := by decide +kernel
theorem dX8_isLow_30 : decode cX8_isLow 30 = .ok (.bipush 8, 2) := by decide +kernel
theorem dX8_isLow_32 : decode cX8_isLow 32 = .ok (.iload 5, 2) := by decide +kernel
theorem dX8_isLow_34 : decode cX8_isLow 34 = .ok (.imul, 1) := by decide +kernel
theorem dX8_isLow_35 : decode cX8_isLow 35 = .ok (.iload 4, 2) := by decide +kernel
theorem dX8_isLow_37 : decode cX8_isLow 37 = .ok (.iadd, 1) := by decide +kernel
theorem dX8_isLow_38 : decode cX8_isLow 38 = .ok (.istore 6, 2) := by decide +kernel
theorem dX8_isLow_40 : decode cX8_isLow 40 = .ok (.iload 4, 2) := by decide +kernel
theorem dX8_isLow_42 : decode cX8_isLow 42 = .ok (.iload 5, 2) := by decide +kernel
theorem dX8_isLow_44 : decode cX8_isLow 44 = .ok (.invokestatic 161, 3) := by decide +kernel
theorem dX8_isLow_47 : decode cX8_isLow 47 = .ok (.ifCond .eq 51, 3) := by decide +kernel
theorem dX8_isLow_50 : decode cX8_isLow 50 = .ok (.iload 6, 2) := by decide +kernel
theorem dX8_isLow_52 : decode cX8_isLow 52 = .ok (.iload_n 1, 1) := by decide +kernel
theorem dX8_isLow_53 : decode cX8_isLow 53 = .ok (.if_icmp .eq 45, 3) := by decide +kernel
theorem dX8_isLow_56 : decode cX8_isLow 56 = .ok (.aload_n 0, 1) := by decide +kernel
theorem dX8_isLow_57 : decode cX8_isLow 57 = .ok (.getfield 75, 3) := by decide +kernel
theorem dX8_isLow_60 : decode cX8_isLow 60 = .ok (.iload 6, 2) := by decide +kernel
theorem dX8_isLow_62 : decode cX8_isLow 62 = .ok (.laload, 1) := by decide +kernel
theorem dX8_isLow_63 : decode cX8_isLow 63 = .ok (.aload_n 0, 1) := by decide +kernel
theorem dX8_isLow_64 : decode cX8_isLow 64 = .ok (.getfield 75, 3) := by decide +kernel
theorem dX8_isLow_67 : decode cX8_isLow 67 = .ok (.iload_n 1, 1) := by decide +kernel
theorem dX8_isLow_68 : decode cX8_isLow 68 = .ok (.laload, 1) := by decide +kernel
theorem dX8_isLow_69 : decode cX8_isLow 69 = .ok (.lcmp, 1) := by decide +kernel
theorem dX8_isLow_70 : decode cX8_isLow 70 = .ok (.ifCond .lt 26, 3) := by decide +kernel
theorem dX8_isLow_73 : decode cX8_isLow 73 = .ok (.aload_n 0, 1) := by decide +kernel
theorem dX8_isLow_74 : decode cX8_isLow 74 = .ok (.getfield 75, 3) := by decide +kernel
theorem dX8_isLow_77 : decode cX8_isLow 77 = .ok (.iload 6, 2) := by decide +kernel
theorem dX8_isLow_79 : decode cX8_isLow 79 = .ok (.laload, 1) := by decide +kernel
theorem dX8_isLow_80 : decode cX8_isLow 80 = .ok (.aload_n 0, 1) := by decide +kernel
theorem dX8_isLow_81 : decode cX8_isLow 81 = .ok (.getfield 75, 3) := by decide +kernel
theorem dX8_isLow_84 : decode cX8_isLow 84 = .ok (.iload_n 1, 1) := by decide +kernel
theorem dX8_isLow_85 : decode cX8_isLow 85 = .ok (.laload, 1) := by decide +kernel
theorem dX8_isLow_86 : decode cX8_isLow 86 = .ok (.lcmp, 1) := by decide +kernel
theorem dX8_isLow_87 : decode cX8_isLow 87 = .ok (.ifCond .ne 11, 3) := by decide +kernel
theorem dX8_isLow_90 : decode cX8_isLow 90 = .ok (.iload 6, 2) := by decide +kernel
theorem dX8_isLow_92 : decode cX8_isLow 92 = .ok (.iload_n 1, 1) := by decide +kernel
theorem dX8_isLow_93 : decode cX8_isLow 93 = .ok (.if_icmp .ge 5, 3) := by decide +kernel
theorem dX8_isLow_96 : decode cX8_isLow 96 = .ok (.iconst 0, 1) := by decide +kernel
theorem dX8_isLow_97 : decode cX8_isLow 97 = .ok (.ireturn, 1) := by decide +kernel
theorem dX8_isLow_98 : decode cX8_isLow 98 = .ok (.iinc 3 1, 3) := by decide +kernel
theorem dX8_isLow_101 : decode cX8_isLow 101 = .ok (.goto (-92), 3) := by decide +kernel
theorem dX8_isLow_104 : decode cX8_isLow 104 = .ok (.iinc 2 1, 3) := by decide +kernel
theorem dX8_isLow_107 : decode cX8_isLow 107 = .ok (.goto (-105), 3) := by decide +kernel
theorem dX8_isLow_110 : decode cX8_isLow 110 = .ok (.iconst 1, 1) := by decide +kernel
theorem dX8_isLow_111 : decode cX8_isLow 111 = .ok (.ireturn, 1) := by decide +kernel
theorem dX8_lowOf_0 : decode cX8_lowOf 0 = .ok (.aload_n 0, 1) := by decide +kernel
theorem dX8_lowOf_1 : decode cX8_lowOf 1 = .ok (.iload_n 1, 1) := by decide +kernel
theorem dX8_lowOf_2 : decode cX8_lowOf 2 = .ok (.iconst (-1), 1) := by decide +kernel
theorem dX8_lowOf_3 : decode cX8_lowOf 3 = .ok (.invokevirtual 253, 3) := by decide +kernel
theorem dX8_lowOf_6 : decode cX8_lowOf 6 = .ok (.ifCond .ne 15, 3) := by decide +kernel
theorem dX8_lowOf_9 : decode cX8_lowOf 9 = .ok (.iload_n 2, 1) := by decide +kernel
theorem dX8_lowOf_10 : decode cX8_lowOf 10 = .ok (.iconst (-1), 1) := by decide +kernel
theorem dX8_lowOf_11 : decode cX8_lowOf 11 = .ok (.if_icmp .ne 7, 3) := by decide +kernel
theorem dX8_lowOf_14 : decode cX8_lowOf 14 = .ok (.iconst 0, 1) := by decide +kernel
theorem dX8_lowOf_15 : decode cX8_lowOf 15 = .ok (.goto 5, 3) := by decide +kernel
theorem dX8_lowOf_18 : decode cX8_lowOf 18 = .ok (.bipush (-6), 2) := by decide +kernel
theorem dX8_lowOf_20 : decode cX8_lowOf 20 = .ok (.ireturn, 1) := by decide +kernel
theorem dX8_lowOf_21 : decode cX8_lowOf 21 = .ok (.aload_n 0, 1) := by decide +kernel
theorem dX8_lowOf_22 : decode cX8_lowOf 22 = .ok (.iload_n 1, 1) := by decide +kernel
theorem dX8_lowOf_23 : decode cX8_lowOf 23 = .ok (.invokevirtual 263, 3) := by decide +kernel
theorem dX8_lowOf_26 : decode cX8_lowOf 26 = .ok (.iconst 0, 1) := by decide +kernel
theorem dX8_lowOf_27 : decode cX8_lowOf 27 = .ok (.istore_n 3, 1) := by decide +kernel
theorem dX8_lowOf_28 : decode cX8_lowOf 28 = .ok (.iconst 0, 1) := by decide +kernel
theorem dX8_lowOf_29 : decode cX8_lowOf 29 = .ok (.istore 4, 2) := by decide +kernel
theorem dX8_lowOf_31 : decode cX8_lowOf 31 = .ok (.iload 4, 2) := by decide +kernel
theorem dX8_lowOf_33 : decode cX8_lowOf 33 = .ok (.bipush 64, 2) := by decide +kernel
theorem dX8_lowOf_35 : decode cX8_lowOf 35 = .ok (.if_icmp .ge 29, 3) := by decide +kernel
theorem dX8_lowOf_38 : decode cX8_lowOf 38 = .ok (.aload_n 0, 1) := by decide +kernel
theorem dX8_lowOf_39 : decode cX8_lowOf 39 = .ok (.iload 4, 2) := by decide +kernel
theorem dX8_lowOf_41 : decode cX8_lowOf 41 = .ok (.invokevirtual 266, 3) := by decide +kernel
theorem dX8_lowOf_44 : decode cX8_lowOf 44 = .ok (.ifCond .eq 14, 3) := by decide +kernel
theorem dX8_lowOf_47 : decode cX8_lowOf 47 = .ok (.iload_n 3, 1) := by decide +kernel
theorem dX8_lowOf_48 : decode cX8_lowOf 48 = .ok (.iload_n 2, 1) := by decide +kernel
theorem dX8_lowOf_49 : decode cX8_lowOf 49 = .ok (.if_icmp .ne 6, 3) := by decide +kernel
theorem dX8_lowOf_52 : decode cX8_lowOf 52 = .ok (.iload 4, 2) := by decide +kernel
theorem dX8_lowOf_54 : decode cX8_lowOf 54 = .ok (.ireturn, 1) := by decide +kernel
theorem dX8_lowOf_55 : decode cX8_lowOf 55 = .ok (.iinc 3 1, 3) := by decide +kernel
theorem dX8_lowOf_58 : decode cX8_lowOf 58 = .ok (.iinc 4 1, 3) := by decide +kernel
theorem dX8_lowOf_61 : decode cX8_lowOf 61 = .ok (.goto (-30), 3) := by decide +kernel
theorem dX8_lowOf_64 : decode cX8_lowOf 64 = .ok (.iload_n 2, 1) := by decide +kernel
theorem dX8_lowOf_65 : decode cX8_lowOf 65 = .ok (.iconst (-1), 1) := by decide +kernel
theorem dX8_lowOf_66 : decode cX8_lowOf 66 = .ok (.if_icmp .ne 7, 3) := by decide +kernel
theorem dX8_lowOf_69 : decode cX8_lowOf 69 = .ok (.iload_n 3, 1) := by decide +kernel
theorem dX8_lowOf_70 : decode cX8_lowOf 70 = .ok (.goto 5, 3) := by decide +kernel
theorem dX8_lowOf_73 : decode cX8_lowOf 73 = .ok (.bipush (-6), 2) := by decide +kernel
theorem dX8_lowOf_75 : decode cX8_lowOf 75 = .ok (.ireturn, 1) := by decide +kernel
theorem dX8_low_0 : decode cX8_low 0 = .ok (.iload_n 1, 1) := by decide +kernel
end
section
theorem dX8_low_1 : decode cX8_low 1 = .ok (.invokestatic 169, 3) := by decide +kernel
theorem dX8_low_4 : decode cX8_low 4 = .ok (.ifCond .eq 12, 3) := by decide +kernel
theorem dX8_low_7 : decode cX8_low 7 = .ok (.aload_n 0, 1) := by decide +kernel
theorem dX8_low_8 : decode cX8_low 8 = .ok (.iload_n 1, 1) := by decide +kernel
theorem dX8_low_9 : decode cX8_low 9 = .ok (.iload_n 2, 1) := by decide +kernel
theorem dX8_low_10 : decode cX8_low 10 = .ok (.invokevirtual 269, 3) := by decide +kernel
theorem dX8_low_13 : decode cX8_low 13 = .ok (.goto 5, 3) := by decide +kernel
theorem dX8_low_16 : decode cX8_low 16 = .ok (.bipush (-2), 2) := by decide +kernel
theorem dX8_low_18 : decode cX8_low 18 = .ok (.ireturn, 1) := by decide +kernel
theorem dX8_nearest_0 : decode cX8_nearest 0 = .ok (.bipush (-6), 2) := by decide +kernel
theorem dX8_nearest_2 : decode cX8_nearest 2 = .ok (.istore_n 3, 1) := by decide +kernel
theorem dX8_nearest_3 : decode cX8_nearest 3 = .ok (.bipush 9, 2) := by decide +kernel
theorem dX8_nearest_5 : decode cX8_nearest 5 = .ok (.istore 4, 2) := by decide +kernel
theorem dX8_nearest_7 : decode cX8_nearest 7 = .ok (.aload_n 0, 1) := by decide +kernel
theorem dX8_nearest_8 : decode cX8_nearest 8 = .ok (.iload_n 1, 1) := by decide +kernel
theorem dX8_nearest_9 : decode cX8_nearest 9 = .ok (.iconst (-1), 1) := by decide +kernel
theorem dX8_nearest_10 : decode cX8_nearest 10 = .ok (.invokevirtual 269, 3) := by decide +kernel
theorem dX8_nearest_13 : decode cX8_nearest 13 = .ok (.istore 5, 2) := by decide +kernel
theorem dX8_nearest_15 : decode cX8_nearest 15 = .ok (.iconst 0, 1) := by decide +kernel
theorem dX8_nearest_16 : decode cX8_nearest 16 = .ok (.istore 6, 2) := by decide +kernel
theorem dX8_nearest_18 : decode cX8_nearest 18 = .ok (.iload 6, 2) := by decide +kernel
theorem dX8_nearest_20 : decode cX8_nearest 20 = .ok (.iload 5, 2) := by decide +kernel
theorem dX8_nearest_22 : decode cX8_nearest 22 = .ok (.if_icmp .ge 74, 3) := by decide +kernel
theorem dX8_nearest_25 : decode cX8_nearest 25 = .ok (.aload_n 0, 1) := by decide +kernel
theorem dX8_nearest_26 : decode cX8_nearest 26 = .ok (.iload_n 1, 1) := by decide +kernel
theorem dX8_nearest_27 : decode cX8_nearest 27 = .ok (.iload 6, 2) := by decide +kernel
theorem dX8_nearest_29 : decode cX8_nearest 29 = .ok (.invokevirtual 269, 3) := by decide +kernel
theorem dX8_nearest_32 : decode cX8_nearest 32 = .ok (.istore 7, 2) := by decide +kernel
theorem dX8_nearest_34 : decode cX8_nearest 34 = .ok (.iload 7, 2) := by decide +kernel
theorem dX8_nearest_36 : decode cX8_nearest 36 = .ok (.bipush 8, 2) := by decide +kernel
theorem dX8_nearest_38 : decode cX8_nearest 38 = .ok (.irem, 1) := by decide +kernel
theorem dX8_nearest_39 : decode cX8_nearest 39 = .ok (.iload_n 2, 1) := by decide +kernel
theorem dX8_nearest_40 : decode cX8_nearest 40 = .ok (.bipush 8, 2) := by decide +kernel
theorem dX8_nearest_42 : decode cX8_nearest 42 = .ok (.irem, 1) := by decide +kernel
theorem dX8_nearest_43 : decode cX8_nearest 43 = .ok (.isub, 1) := by decide +kernel
theorem dX8_nearest_44 : decode cX8_nearest 44 = .ok (.istore 8, 2) := by decide +kernel
theorem dX8_nearest_46 : decode cX8_nearest 46 = .ok (.iload 7, 2) := by decide +kernel
theorem dX8_nearest_48 : decode cX8_nearest 48 = .ok (.bipush 8, 2) := by decide +kernel
theorem dX8_nearest_50 : decode cX8_nearest 50 = .ok (.idiv, 1) := by decide +kernel
theorem dX8_nearest_51 : decode cX8_nearest 51 = .ok (.iload_n 2, 1) := by decide +kernel
theorem dX8_nearest_52 : decode cX8_nearest 52 = .ok (.bipush 8, 2) := by decide +kernel
theorem dX8_nearest_54 : decode cX8_nearest 54 = .ok (.idiv, 1) := by decide +kernel
theorem dX8_nearest_55 : decode cX8_nearest 55 = .ok (.isub, 1) := by decide +kernel
theorem dX8_nearest_56 : decode cX8_nearest 56 = .ok (.istore 9, 2) := by decide +kernel
theorem dX8_nearest_58 : decode cX8_nearest 58 = .ok (.iload 8, 2) := by decide +kernel
theorem dX8_nearest_60 : decode cX8_nearest 60 = .ok (.iload 8, 2) := by decide +kernel
theorem dX8_nearest_62 : decode cX8_nearest 62 = .ok (.imul, 1) := by decide +kernel
theorem dX8_nearest_63 : decode cX8_nearest 63 = .ok (.iload 9, 2) := by decide +kernel
theorem dX8_nearest_65 : decode cX8_nearest 65 = .ok (.iload 9, 2) := by decide +kernel
theorem dX8_nearest_67 : decode cX8_nearest 67 = .ok (.imul, 1) := by decide +kernel
theorem dX8_nearest_68 : decode cX8_nearest 68 = .ok (.iadd, 1) := by decide +kernel
theorem dX8_nearest_69 : decode cX8_nearest 69 = .ok (.iload 4, 2) := by decide +kernel
theorem dX8_nearest_71 : decode cX8_nearest 71 = .ok (.if_icmp .ge 19, 3) := by decide +kernel
theorem dX8_nearest_74 : decode cX8_nearest 74 = .ok (.iload 8, 2) := by decide +kernel
theorem dX8_nearest_76 : decode cX8_nearest 76 = .ok (.iload 8, 2) := by decide +kernel
theorem dX8_nearest_78 : decode cX8_nearest 78 = .ok (.imul, 1) := by decide +kernel
theorem dX8_nearest_79 : decode cX8_nearest 79 = .ok (.iload 9, 2) := by decide +kernel
theorem dX8_nearest_81 : decode cX8_nearest 81 = .ok (.iload 9, 2) := by decide +kernel
theorem dX8_nearest_83 : decode cX8_nearest 83 = .ok (.imul, 1) := by decide +kernel
theorem dX8_nearest_84 : decode cX8_nearest 84 = .ok (.iadd, 1) := by decide +kernel
theorem dX8_nearest_85 : decode cX8_nearest 85 = .ok (.istore 4, 2) := by decide +kernel
theorem dX8_nearest_87 : decode cX8_nearest 87 = .ok (.iload 7, 2) := by decide +kernel
theorem dX8_nearest_89 : decode cX8_nearest 89 = .ok (.istore_n 3, 1) := by decide +kernel
theorem dX8_nearest_90 : decode cX8_nearest 90 = .ok (.iinc 6 1, 3) := by decide +kernel
theorem dX8_nearest_93 : decode cX8_nearest 93 = .ok (.goto (-75), 3) := by decide +kernel
theorem dX8_nearest_96 : decode cX8_nearest 96 = .ok (.iload_n 3, 1) := by decide +kernel
theorem dX8_nearest_97 : decode cX8_nearest 97 = .ok (.ireturn, 1) := by decide +kernel
theorem dX8_follow_0 : decode cX8_follow 0 = .ok (.iload_n 1, 1) := by decide +kernel
theorem dX8_follow_1 : decode cX8_follow 1 = .ok (.invokestatic 169, 3) := by decide +kernel
theorem dX8_follow_4 : decode cX8_follow 4 = .ok (.ifCond .eq 15, 3) := by decide +kernel
theorem dX8_follow_7 : decode cX8_follow 7 = .ok (.iload_n 3, 1) := by decide +kernel
theorem dX8_follow_8 : decode cX8_follow 8 = .ok (.i2l, 1) := by decide +kernel
theorem dX8_follow_9 : decode cX8_follow 9 = .ok (.lconst 0, 1) := by decide +kernel
theorem dX8_follow_10 : decode cX8_follow 10 = .ok (.ldc2_w 157, 3) := by decide +kernel
theorem dX8_follow_13 : decode cX8_follow 13 = .ok (.invokestatic 102, 3) := by decide +kernel
theorem dX8_follow_16 : decode cX8_follow 16 = .ok (.ifCond .ne 6, 3) := by decide +kernel
theorem dX8_follow_19 : decode cX8_follow 19 = .ok (.bipush (-2), 2) := by decide +kernel
theorem dX8_follow_21 : decode cX8_follow 21 = .ok (.ireturn, 1) := by decide +kernel
theorem dX8_follow_22 : decode cX8_follow 22 = .ok (.iload_n 2, 1) := by decide +kernel
theorem dX8_follow_23 : decode cX8_follow 23 = .ok (.ifCond .ge 8, 3) := by decide +kernel
theorem dX8_follow_26 : decode cX8_follow 26 = .ok (.bipush (-6), 2) := by decide +kernel
theorem dX8_follow_28 : decode cX8_follow 28 = .ok (.goto 9, 3) := by decide +kernel
theorem dX8_follow_31 : decode cX8_follow 31 = .ok (.aload_n 0, 1) := by decide +kernel
theorem dX8_follow_32 : decode cX8_follow 32 = .ok (.iload_n 1, 1) := by decide +kernel
theorem dX8_follow_33 : decode cX8_follow 33 = .ok (.iload_n 2, 1) := by decide +kernel
theorem dX8_follow_34 : decode cX8_follow 34 = .ok (.invokevirtual 269, 3) := by decide +kernel
theorem dX8_follow_37 : decode cX8_follow 37 = .ok (.istore 4, 2) := by decide +kernel
theorem dX8_follow_39 : decode cX8_follow 39 = .ok (.iconst 1, 1) := by decide +kernel
theorem dX8_follow_40 : decode cX8_follow 40 = .ok (.istore 5, 2) := by decide +kernel
theorem dX8_follow_42 : decode cX8_follow 42 = .ok (.iload 5, 2) := by decide +kernel
theorem dX8_follow_44 : decode cX8_follow 44 = .ok (.iload_n 3, 1) := by decide +kernel
theorem dX8_follow_45 : decode cX8_follow 45 = .ok (.if_icmp .gt 41, 3) := by decide +kernel
theorem dX8_follow_48 : decode cX8_follow 48 = .ok (.iload 4, 2) := by decide +kernel
theorem dX8_follow_50 : decode cX8_follow 50 = .ok (.ifCond .lt 36, 3) := by decide +kernel
theorem dX8_follow_53 : decode cX8_follow 53 = .ok (.iload_n 1, 1) := by decide +kernel
theorem dX8_follow_54 : decode cX8_follow 54 = .ok (.iload 5, 2) := by decide +kernel
theorem dX8_follow_56 : decode cX8_follow 56 = .ok (.iadd, 1) := by decide +kernel
theorem dX8_follow_57 : decode cX8_follow 57 = .ok (.invokestatic 169, 3) := by decide +kernel
theorem dX8_follow_60 : decode cX8_follow 60 = .ok (.ifCond .eq 16, 3) := by decide +kernel
theorem dX8_follow_63 : decode cX8_follow 63 = .ok (.aload_n 0, 1) := by decide +kernel
theorem dX8_follow_64 : decode cX8_follow 64 = .ok (.iload_n 1, 1) := by decide +kernel
theorem dX8_follow_65 : decode cX8_follow 65 = .ok (.iload 5, 2) := by decide +kernel
theorem dX8_follow_67 : decode cX8_follow 67 = .ok (.iadd, 1) := by decide +kernel
theorem dX8_follow_68 : decode cX8_follow 68 = .ok (.iload 4, 2) := by decide +kernel
theorem dX8_follow_70 : decode cX8_follow 70 = .ok (.invokevirtual 272, 3) := by decide +kernel
theorem dX8_follow_73 : decode cX8_follow 73 = .ok (.goto 5, 3) := by decide +kernel
theorem dX8_follow_76 : decode cX8_follow 76 = .ok (.bipush (-6), 2) := by decide +kernel
theorem dX8_follow_78 : decode cX8_follow 78 = .ok (.istore 4, 2) := by decide +kernel
theorem dX8_follow_80 : decode cX8_follow 80 = .ok (.iinc 5 1, 3) := by decide +kernel
theorem dX8_follow_83 : decode cX8_follow 83 = .ok (.goto (-41), 3) := by decide +kernel
theorem dX8_follow_86 : decode cX8_follow 86 = .ok (.iload 4, 2) := by decide +kernel
theorem dX8_follow_88 : decode cX8_follow 88 = .ok (.ireturn, 1) := by decide +kernel
theorem dX8_isHigh_0 : decode cX8_isHigh 0 = .ok (.aload_n 0, 1) := by decide +kernel
theorem dX8_isHigh_1 : decode cX8_isHigh 1 = .ok (.getfield 75, 3) := by decide +kernel
theorem dX8_isHigh_4 : decode cX8_isHigh 4 = .ok (.bipush 8, 2) := by decide +kernel
theorem dX8_isHigh_6 : decode cX8_isHigh 6 = .ok (.iload_n 2, 1) := by decide +kernel
theorem dX8_isHigh_7 : decode cX8_isHigh 7 = .ok (.imul, 1) := by decide +kernel
theorem dX8_isHigh_8 : decode cX8_isHigh 8 = .ok (.iload_n 1, 1) := by decide +kernel
theorem dX8_isHigh_9 : decode cX8_isHigh 9 = .ok (.iadd, 1) := by decide +kernel
theorem dX8_isHigh_10 : decode cX8_isHigh 10 = .ok (.laload, 1) := by decide +kernel
theorem dX8_isHigh_11 : decode cX8_isHigh 11 = .ok (.iload_n 3, 1) := by decide +kernel
theorem dX8_isHigh_12 : decode cX8_isHigh 12 = .ok (.i2l, 1) := by decide +kernel
theorem dX8_isHigh_13 : decode cX8_isHigh 13 = .ok (.lcmp, 1) := by decide +kernel
theorem dX8_isHigh_14 : decode cX8_isHigh 14 = .ok (.ifCond .lt 7, 3) := by decide +kernel
theorem dX8_isHigh_17 : decode cX8_isHigh 17 = .ok (.iconst 1, 1) := by decide +kernel
theorem dX8_isHigh_18 : decode cX8_isHigh 18 = .ok (.goto 4, 3) := by decide +kernel
theorem dX8_isHigh_21 : decode cX8_isHigh 21 = .ok (.iconst 0, 1) := by decide +kernel
theorem dX8_isHigh_22 : decode cX8_isHigh 22 = .ok (.ireturn, 1) := by decide +kernel
theorem dX8_link_0 : decode cX8_link 0 = .ok (.aload_n 0, 1) := by decide +kernel
theorem dX8_link_1 : decode cX8_link 1 = .ok (.getfield 81, 3) := by decide +kernel
theorem dX8_link_4 : decode cX8_link 4 = .ok (.iload_n 1, 1) := by decide +kernel
theorem dX8_link_5 : decode cX8_link 5 = .ok (.dup2, 1) := by decide +kernel
theorem dX8_link_6 : decode cX8_link 6 = .ok (.iaload, 1) := by decide +kernel
theorem dX8_link_7 : decode cX8_link 7 = .ok (.iconst 1, 1) := by decide +kernel
theorem dX8_link_8 : decode cX8_link 8 = .ok (.iadd, 1) := by decide +kernel
theorem dX8_link_9 : decode cX8_link 9 = .ok (.iastore, 1) := by decide +kernel
theorem dX8_link_10 : decode cX8_link 10 = .ok (.aload_n 0, 1) := by decide +kernel
theorem dX8_link_11 : decode cX8_link 11 = .ok (.getfield 81, 3) := by decide +kernel
theorem dX8_link_14 : decode cX8_link 14 = .ok (.iload_n 2, 1) := by decide +kernel
theorem dX8_link_15 : decode cX8_link 15 = .ok (.dup2, 1) := by decide +kernel
theorem dX8_link_16 : decode cX8_link 16 = .ok (.iaload, 1) := by decide +kernel
theorem dX8_link_17 : decode cX8_link 17 = .ok (.iconst 1, 1) := by decide +kernel
theorem dX8_link_18 : decode cX8_link 18 = .ok (.iadd, 1) := by decide +kernel
theorem dX8_link_19 : decode cX8_link 19 = .ok (.iastore, 1) := by decide +kernel
theorem dX8_link_20 : decode cX8_link 20 = .ok (.aload_n 0, 1) := by decide +kernel
theorem dX8_link_21 : decode cX8_link 21 = .ok (.getfield 78, 3) := by decide +kernel
theorem dX8_link_24 : decode cX8_link 24 = .ok (.iload_n 1, 1) := by decide +kernel
theorem dX8_link_25 : decode cX8_link 25 = .ok (.iaload, 1) := by decide +kernel
theorem dX8_link_26 : decode cX8_link 26 = .ok (.aload_n 0, 1) := by decide +kernel
theorem dX8_link_27 : decode cX8_link 27 = .ok (.getfield 78, 3) := by decide +kernel
theorem dX8_link_30 : decode cX8_link 30 = .ok (.iload_n 2, 1) := by decide +kernel
theorem dX8_link_31 : decode cX8_link 31 = .ok (.iaload, 1) := by decide +kernel
theorem dX8_link_32 : decode cX8_link 32 = .ok (.if_icmp .ge 12, 3) := by decide +kernel
theorem dX8_link_35 : decode cX8_link 35 = .ok (.aload_n 0, 1) := by decide +kernel
theorem dX8_link_36 : decode cX8_link 36 = .ok (.getfield 78, 3) := by decide +kernel
theorem dX8_link_39 : decode cX8_link 39 = .ok (.iload_n 1, 1) := by decide +kernel
theorem dX8_link_40 : decode cX8_link 40 = .ok (.iaload, 1) := by decide +kernel
theorem dX8_link_41 : decode cX8_link 41 = .ok (.goto 9, 3) := by decide +kernel
theorem dX8_link_44 : decode cX8_link 44 = .ok (.aload_n 0, 1) := by decide +kernel
theorem dX8_link_45 : decode cX8_link 45 = .ok (.getfield 78, 3) := by decide +kernel
theorem dX8_link_48 : decode cX8_link 48 = .ok (.iload_n 2, 1) := by decide +kernel
theorem dX8_link_49 : decode cX8_link 49 = .ok (.iaload, 1) := by decide +kernel
theorem dX8_link_50 : decode cX8_link 50 = .ok (.istore_n 3, 1) := by decide +kernel
theorem dX8_link_51 : decode cX8_link 51 = .ok (.aload_n 0, 1) := by decide +kernel
theorem dX8_link_52 : decode cX8_link 52 = .ok (.getfield 78, 3) := by decide +kernel
theorem dX8_link_55 : decode cX8_link 55 = .ok (.iload_n 1, 1) := by decide +kernel
theorem dX8_link_56 : decode cX8_link 56 = .ok (.iaload, 1) := by decide +kernel
theorem dX8_link_57 : decode cX8_link 57 = .ok (.aload_n 0, 1) := by decide +kernel
theorem dX8_link_58 : decode cX8_link 58 = .ok (.getfield 78, 3) := by decide +kernel
theorem dX8_link_61 : decode cX8_link 61 = .ok (.iload_n 2, 1) := by decide +kernel
theorem dX8_link_62 : decode cX8_link 62 = .ok (.iaload, 1) := by decide +kernel
theorem dX8_link_63 : decode cX8_link 63 = .ok (.if_icmp .ge 12, 3) := by decide +kernel
theorem dX8_link_66 : decode cX8_link 66 = .ok (.aload_n 0, 1) := by decide +kernel
theorem dX8_link_67 : decode cX8_link 67 = .ok (.getfield 78, 3) := by decide +kernel
theorem dX8_link_70 : decode cX8_link 70 = .ok (.iload_n 2, 1) := by decide +kernel
theorem dX8_link_71 : decode cX8_link 71 = .ok (.iaload, 1) := by decide +kernel
theorem dX8_link_72 : decode cX8_link 72 = .ok (.goto 9, 3) := by decide +kernel
theorem dX8_link_75 : decode cX8_link 75 = .ok (.aload_n 0, 1) := by decide +kernel
theorem dX8_link_76 : decode cX8_link 76 = .ok (.getfield 78, 3) := by decide +kernel
theorem dX8_link_79 : decode cX8_link 79 = .ok (.iload_n 1, 1) := by decide +kernel
theorem dX8_link_80 : decode cX8_link 80 = .ok (.iaload, 1) := by decide +kernel
theorem dX8_link_81 : decode cX8_link 81 = .ok (.istore 4, 2) := by decide +kernel
theorem dX8_link_83 : decode cX8_link 83 = .ok (.iconst 0, 1) := by decide +kernel
theorem dX8_link_84 : decode cX8_link 84 = .ok (.istore 5, 2) := by decide +kernel
theorem dX8_link_86 : decode cX8_link 86 = .ok (.iload 5, 2) := by decide +kernel
theorem dX8_link_88 : decode cX8_link 88 = .ok (.sipush 128, 3) := by decide +kernel
theorem dX8_link_91 : decode cX8_link 91 = .ok (.if_icmp .ge 39, 3) := by decide +kernel
theorem dX8_link_94 : decode cX8_link 94 = .ok (.aload_n 0, 1) := by decide +kernel
theorem dX8_link_95 : decode cX8_link 95 = .ok (.getfield 78, 3) := by decide +kernel
theorem dX8_link_98 : decode cX8_link 98 = .ok (.iload 5, 2) := by decide +kernel
theorem dX8_link_100 : decode cX8_link 100 = .ok (.aload_n 0, 1) := by decide +kernel
theorem dX8_link_101 : decode cX8_link 101 = .ok (.getfield 78, 3) := by decide +kernel
theorem dX8_link_104 : decode cX8_link 104 = .ok (.iload 5, 2) := by decide +kernel
theorem dX8_link_106 : decode cX8_link 106 = .ok (.iaload, 1) := by decide +kernel
theorem dX8_link_107 : decode cX8_link 107 = .ok (.iload 4, 2) := by decide +kernel
theorem dX8_link_109 : decode cX8_link 109 = .ok (.if_icmp .ne 7, 3) := by decide +kernel
theorem dX8_link_112 : decode cX8_link 112 = .ok (.iload_n 3, 1) := by decide +kernel
theorem dX8_link_113 : decode cX8_link 113 = .ok (.goto 10, 3) := by decide +kernel
theorem dX8_link_116 : decode cX8_link 116 = .ok (.aload_n 0, 1) := by decide +kernel
theorem dX8_link_117 : decode cX8_link 117 = .ok (.getfield 78, 3) := by decide +kernel
theorem dX8_link_120 : decode cX8_link 120 = .ok (.iload 5, 2) := by decide +kernel
theorem dX8_link_122 : decode cX8_link 122 = .ok (.iaload, 1) := by decide +kernel
theorem dX8_link_123 : decode cX8_link 123 = .ok (.iastore, 1) := by decide +kernel
theorem dX8_link_124 : decode cX8_link 124 = .ok (.iinc 5 1, 3) := by decide +kernel
theorem dX8_link_127 : decode cX8_link 127 = .ok (.goto (-41), 3) := by decide +kernel
theorem dX8_link_130 : decode cX8_link 130 = .ok (.return_, 1) := by decide +kernel
theorem dX8_goThrough_0 : decode cX8_goThrough 0 = .ok (.bipush 16, 2) := by decide +kernel
theorem dX8_goThrough_2 : decode cX8_goThrough 2 = .ok (.iload_n 2, 1) := by decide +kernel
theorem dX8_goThrough_3 : decode cX8_goThrough 3 = .ok (.imul, 1) := by decide +kernel
theorem dX8_goThrough_4 : decode cX8_goThrough 4 = .ok (.iconst 2, 1) := by decide +kernel
theorem dX8_goThrough_5 : decode cX8_goThrough 5 = .ok (.iload_n 1, 1) := by decide +kernel
theorem dX8_goThrough_6 : decode cX8_goThrough 6 = .ok (.imul, 1) := by decide +kernel
theorem dX8_goThrough_7 : decode cX8_goThrough 7 = .ok (.iadd, 1) := by decide +kernel
theorem dX8_goThrough_8 : decode cX8_goThrough 8 = .ok (.istore 4, 2) := by decide +kernel
theorem dX8_goThrough_10 : decode cX8_goThrough 10 = .ok (.iload 4, 2) := by decide +kernel
theorem dX8_goThrough_12 : decode cX8_goThrough 12 = .ok (.bipush 16, 2) := by decide +kernel
theorem dX8_goThrough_14 : decode cX8_goThrough 14 = .ok (.iadd, 1) := by decide +kernel
theorem dX8_goThrough_15 : decode cX8_goThrough 15 = .ok (.istore 5, 2) := by decide +kernel
theorem dX8_goThrough_17 : decode cX8_goThrough 17 = .ok (.iload 4, 2) := by decide +kernel
theorem dX8_goThrough_19 : decode cX8_goThrough 19 = .ok (.iconst 1, 1) := by decide +kernel
theorem dX8_goThrough_20 : decode cX8_goThrough 20 = .ok (.iadd, 1) := by decide +kernel
theorem dX8_goThrough_21 : decode cX8_goThrough 21 = .ok (.istore 6, 2) := by decide +kernel
theorem dX8_goThrough_23 : decode cX8_goThrough 23 = .ok (.iload 4, 2) := by decide +kernel
theorem dX8_goThrough_25 : decode cX8_goThrough 25 = .ok (.iconst 3, 1) := by decide +kernel
theorem dX8_goThrough_26 : decode cX8_goThrough 26 = .ok (.iadd, 1) := by decide +kernel
theorem dX8_goThrough_27 : decode cX8_goThrough 27 = .ok (.istore 7, 2) := by decide +kernel
theorem dX8_goThrough_29 : decode cX8_goThrough 29 = .ok (.aload_n 0, 1) := by decide +kernel
theorem dX8_goThrough_30 : decode cX8_goThrough 30 = .ok (.getfield 78, 3) := by decide +kernel
theorem dX8_goThrough_33 : decode cX8_goThrough 33 = .ok (.iload 4, 2) := by decide +kernel
theorem dX8_goThrough_35 : decode cX8_goThrough 35 = .ok (.iaload, 1) := by decide +kernel
theorem dX8_goThrough_36 : decode cX8_goThrough 36 = .ok (.ifCond .lt 7, 3) := by decide +kernel
theorem dX8_goThrough_39 : decode cX8_goThrough 39 = .ok (.iconst 1, 1) := by decide +kernel
theorem dX8_goThrough_40 : decode cX8_goThrough 40 = .ok (.goto 4, 3) := by decide +kernel
theorem dX8_goThrough_43 : decode cX8_goThrough 43 = .ok (.iconst 0, 1) := by decide +kernel
theorem dX8_goThrough_44 : decode cX8_goThrough 44 = .ok (.aload_n 0, 1) := by decide +kernel
theorem dX8_goThrough_45 : decode cX8_goThrough 45 = .ok (.getfield 78, 3) := by decide +kernel
theorem dX8_goThrough_48 : decode cX8_goThrough 48 = .ok (.iload 5, 2) := by decide +kernel
theorem dX8_goThrough_50 : decode cX8_goThrough 50 = .ok (.iaload, 1) := by decide +kernel
theorem dX8_goThrough_51 : decode cX8_goThrough 51 = .ok (.ifCond .lt 7, 3) := by decide +kernel
theorem dX8_goThrough_54 : decode cX8_goThrough 54 = .ok (.iconst 1, 1) := by decide +kernel
theorem dX8_goThrough_55 : decode cX8_goThrough 55 = .ok (.goto 4, 3) := by decide +kernel
theorem dX8_goThrough_58 : decode cX8_goThrough 58 = .ok (.iconst 0, 1) := by decide +kernel
theorem dX8_goThrough_59 : decode cX8_goThrough 59 = .ok (.iadd, 1) := by decide +kernel
theorem dX8_goThrough_60 : decode cX8_goThrough 60 = .ok (.aload_n 0, 1) := by decide +kernel
theorem dX8_goThrough_61 : decode cX8_goThrough 61 = .ok (.getfield 78, 3) := by decide +kernel
theorem dX8_goThrough_64 : decode cX8_goThrough 64 = .ok (.iload 6, 2) := by decide +kernel
theorem dX8_goThrough_66 : decode cX8_goThrough 66 = .ok (.iaload, 1) := by decide +kernel
theorem dX8_goThrough_67 : decode cX8_goThrough 67 = .ok (.ifCond .lt 7, 3) := by decide +kernel
theorem dX8_goThrough_70 : decode cX8_goThrough 70 = .ok (.iconst 1, 1) := by decide +kernel
theorem dX8_goThrough_71 : decode cX8_goThrough 71 = .ok (.goto 4, 3) := by decide +kernel
theorem dX8_goThrough_74 : decode cX8_goThrough 74 = .ok (.iconst 0, 1) := by decide +kernel
theorem dX8_goThrough_75 : decode cX8_goThrough 75 = .ok (.iadd, 1) := by decide +kernel
theorem dX8_goThrough_76 : decode cX8_goThrough 76 = .ok (.aload_n 0, 1) := by decide +kernel
theorem dX8_goThrough_77 : decode cX8_goThrough 77 = .ok (.getfield 78, 3) := by decide +kernel
theorem dX8_goThrough_80 : decode cX8_goThrough 80 = .ok (.iload 7, 2) := by decide +kernel
theorem dX8_goThrough_82 : decode cX8_goThrough 82 = .ok (.iaload, 1) := by decide +kernel
theorem dX8_goThrough_83 : decode cX8_goThrough 83 = .ok (.ifCond .lt 7, 3) := by decide +kernel
theorem dX8_goThrough_86 : decode cX8_goThrough 86 = .ok (.iconst 1, 1) := by decide +kernel
theorem dX8_goThrough_87 : decode cX8_goThrough 87 = .ok (.goto 4, 3) := by decide +kernel
theorem dX8_goThrough_90 : decode cX8_goThrough 90 = .ok (.iconst 0, 1) := by decide +kernel
theorem dX8_goThrough_91 : decode cX8_goThrough 91 = .ok (.iadd, 1) := by decide +kernel
theorem dX8_goThrough_92 : decode cX8_goThrough 92 = .ok (.istore 8, 2) := by decide +kernel
theorem dX8_goThrough_94 : decode cX8_goThrough 94 = .ok (.iload 8, 2) := by decide +kernel
theorem dX8_goThrough_96 : decode cX8_goThrough 96 = .ok (.iconst 4, 1) := by decide +kernel
theorem dX8_goThrough_97 : decode cX8_goThrough 97 = .ok (.if_icmp .ne 129, 3) := by decide +kernel
theorem dX8_goThrough_100 : decode cX8_goThrough 100 = .ok (.aload_n 0, 1) := by decide +kernel
theorem dX8_goThrough_101 : decode cX8_goThrough 101 = .ok (.getfield 75, 3) := by decide +kernel
theorem dX8_goThrough_104 : decode cX8_goThrough 104 = .ok (.bipush 8, 2) := by decide +kernel
theorem dX8_goThrough_106 : decode cX8_goThrough 106 = .ok (.iload_n 2, 1) := by decide +kernel
theorem dX8_goThrough_107 : decode cX8_goThrough 107 = .ok (.imul, 1) := by decide +kernel
theorem dX8_goThrough_108 : decode cX8_goThrough 108 = .ok (.iload_n 1, 1) := by decide +kernel
theorem dX8_goThrough_109 : decode cX8_goThrough 109 = .ok (.iadd, 1) := by decide +kernel
theorem dX8_goThrough_110 : decode cX8_goThrough 110 = .ok (.laload, 1) := by decide +kernel
theorem dX8_goThrough_111 : decode cX8_goThrough 111 = .ok (.aload_n 0, 1) := by decide +kernel
theorem dX8_goThrough_112 : decode cX8_goThrough 112 = .ok (.getfield 75, 3) := by decide +kernel
theorem dX8_goThrough_115 : decode cX8_goThrough 115 = .ok (.bipush 8, 2) := by decide +kernel
theorem dX8_goThrough_117 : decode cX8_goThrough 117 = .ok (.iload_n 2, 1) := by decide +kernel
theorem dX8_goThrough_118 : decode cX8_goThrough 118 = .ok (.imul, 1) := by decide +kernel
theorem dX8_goThrough_119 : decode cX8_goThrough 119 = .ok (.iload_n 1, 1) := by decide +kernel
theorem dX8_goThrough_120 : decode cX8_goThrough 120 = .ok (.iadd, 1) := by decide +kernel
theorem dX8_goThrough_121 : decode cX8_goThrough 121 = .ok (.iconst 1, 1) := by decide +kernel
theorem dX8_goThrough_122 : decode cX8_goThrough 122 = .ok (.iadd, 1) := by decide +kernel
theorem dX8_goThrough_123 : decode cX8_goThrough 123 = .ok (.laload, 1) := by decide +kernel
theorem dX8_goThrough_124 : decode cX8_goThrough 124 = .ok (.ladd, 1) := by decide +kernel
theorem dX8_goThrough_125 : decode cX8_goThrough 125 = .ok (.aload_n 0, 1) := by decide +kernel
theorem dX8_goThrough_126 : decode cX8_goThrough 126 = .ok (.getfield 75, 3) := by decide +kernel
theorem dX8_goThrough_129 : decode cX8_goThrough 129 = .ok (.bipush 8, 2) := by decide +kernel
theorem dX8_goThrough_131 : decode cX8_goThrough 131 = .ok (.iload_n 2, 1) := by decide +kernel
theorem dX8_goThrough_132 : decode cX8_goThrough 132 = .ok (.imul, 1) := by decide +kernel
theorem dX8_goThrough_133 : decode cX8_goThrough 133 = .ok (.iload_n 1, 1) := by decide +kernel
theorem dX8_goThrough_134 : decode cX8_goThrough 134 = .ok (.iadd, 1) := by decide +kernel
theorem dX8_goThrough_135 : decode cX8_goThrough 135 = .ok (.bipush 8, 2) := by decide +kernel
theorem dX8_goThrough_137 : decode cX8_goThrough 137 = .ok (.iadd, 1) := by decide +kernel
theorem dX8_goThrough_138 : decode cX8_goThrough 138 = .ok (.laload, 1) := by decide +kernel
theorem dX8_goThrough_139 : decode cX8_goThrough 139 = .ok (.ladd, 1) := by decide +kernel
theorem dX8_goThrough_140 : decode cX8_goThrough 140 = .ok (.aload_n 0, 1) := by decide +kernel
theorem dX8_goThrough_141 : decode cX8_goThrough 141 = .ok (.getfield 75, 3) := by decide +kernel
theorem dX8_goThrough_144 : decode cX8_goThrough 144 = .ok (.bipush 8, 2) := by decide +kernel
theorem dX8_goThrough_146 : decode cX8_goThrough 146 = .ok (.iload_n 2, 1) := by decide +kernel
theorem dX8_goThrough_147 : decode cX8_goThrough 147 = .ok (.imul, 1) := by decide +kernel
theorem dX8_goThrough_148 : decode cX8_goThrough 148 = .ok (.iload_n 1, 1) := by decide +kernel
theorem dX8_goThrough_149 : decode cX8_goThrough 149 = .ok (.iadd, 1) := by decide +kernel
theorem dX8_goThrough_150 : decode cX8_goThrough 150 = .ok (.bipush 9, 2) := by decide +kernel
theorem dX8_goThrough_152 : decode cX8_goThrough 152 = .ok (.iadd, 1) := by decide +kernel
theorem dX8_goThrough_153 : decode cX8_goThrough 153 = .ok (.laload, 1) := by decide +kernel
theorem dX8_goThrough_154 : decode cX8_goThrough 154 = .ok (.ladd, 1) := by decide +kernel
theorem dX8_goThrough_155 : decode cX8_goThrough 155 = .ok (.lstore 9, 2) := by decide +kernel
theorem dX8_goThrough_157 : decode cX8_goThrough 157 = .ok (.lload 9, 2) := by decide +kernel
theorem dX8_goThrough_159 : decode cX8_goThrough 159 = .ok (.ldc2_w 195, 3) := by decide +kernel
theorem dX8_goThrough_162 : decode cX8_goThrough 162 = .ok (.iload_n 3, 1) := by decide +kernel
theorem dX8_goThrough_163 : decode cX8_goThrough 163 = .ok (.i2l, 1) := by decide +kernel
theorem dX8_goThrough_164 : decode cX8_goThrough 164 = .ok (.lmul, 1) := by decide +kernel
theorem dX8_goThrough_165 : decode cX8_goThrough 165 = .ok (.lcmp, 1) := by decide +kernel
theorem dX8_goThrough_166 : decode cX8_goThrough 166 = .ok (.ifCond .ge 7, 3) := by decide +kernel
theorem dX8_goThrough_169 : decode cX8_goThrough 169 = .ok (.iconst 1, 1) := by decide +kernel
theorem dX8_goThrough_170 : decode cX8_goThrough 170 = .ok (.goto 4, 3) := by decide +kernel
theorem dX8_goThrough_173 : decode cX8_goThrough 173 = .ok (.iconst 0, 1) := by decide +kernel
theorem dX8_goThrough_174 : decode cX8_goThrough 174 = .ok (.istore 11, 2) := by decide +kernel
theorem dX8_goThrough_176 : decode cX8_goThrough 176 = .ok (.aload_n 0, 1) := by decide +kernel
theorem dX8_goThrough_177 : decode cX8_goThrough 177 = .ok (.iload_n 1, 1) := by decide +kernel
theorem dX8_goThrough_178 : decode cX8_goThrough 178 = .ok (.iload_n 2, 1) := by decide +kernel
theorem dX8_goThrough_179 : decode cX8_goThrough 179 = .ok (.iload_n 3, 1) := by decide +kernel
theorem dX8_goThrough_180 : decode cX8_goThrough 180 = .ok (.invokevirtual 275, 3) := by decide +kernel
theorem dX8_goThrough_183 : decode cX8_goThrough 183 = .ok (.iload 11, 2) := by decide +kernel
theorem dX8_goThrough_185 : decode cX8_goThrough 185 = .ok (.if_icmp .ne 22, 3) := by decide +kernel
theorem dX8_goThrough_188 : decode cX8_goThrough 188 = .ok (.aload_n 0, 1) := by decide +kernel
theorem dX8_goThrough_189 : decode cX8_goThrough 189 = .ok (.iload 4, 2) := by decide +kernel
theorem dX8_goThrough_191 : decode cX8_goThrough 191 = .ok (.iload 6, 2) := by decide +kernel
theorem dX8_goThrough_193 : decode cX8_goThrough 193 = .ok (.invokevirtual 279, 3) := by decide +kernel
theorem dX8_goThrough_196 : decode cX8_goThrough 196 = .ok (.aload_n 0, 1) := by decide +kernel
theorem dX8_goThrough_197 : decode cX8_goThrough 197 = .ok (.iload 5, 2) := by decide +kernel
theorem dX8_goThrough_199 : decode cX8_goThrough 199 = .ok (.iload 7, 2) := by decide +kernel
theorem dX8_goThrough_201 : decode cX8_goThrough 201 = .ok (.invokevirtual 279, 3) := by decide +kernel
theorem dX8_goThrough_204 : decode cX8_goThrough 204 = .ok (.goto 19, 3) := by decide +kernel
theorem dX8_goThrough_207 : decode cX8_goThrough 207 = .ok (.aload_n 0, 1) := by decide +kernel
theorem dX8_goThrough_208 : decode cX8_goThrough 208 = .ok (.iload 4, 2) := by decide +kernel
theorem dX8_goThrough_210 : decode cX8_goThrough 210 = .ok (.iload 7, 2) := by decide +kernel
theorem dX8_goThrough_212 : decode cX8_goThrough 212 = .ok (.invokevirtual 279, 3) := by decide +kernel
theorem dX8_goThrough_215 : decode cX8_goThrough 215 = .ok (.aload_n 0, 1) := by decide +kernel
theorem dX8_goThrough_216 : decode cX8_goThrough 216 = .ok (.iload 5, 2) := by decide +kernel
theorem dX8_goThrough_218 : decode cX8_goThrough 218 = .ok (.iload 6, 2) := by decide +kernel
theorem dX8_goThrough_220 : decode cX8_goThrough 220 = .ok (.invokevirtual 279, 3) := by decide +kernel
theorem dX8_goThrough_223 : decode cX8_goThrough 223 = .ok (.goto 85, 3) := by decide +kernel
theorem dX8_goThrough_226 : decode cX8_goThrough 226 = .ok (.iload 8, 2) := by decide +kernel
theorem dX8_goThrough_228 : decode cX8_goThrough 228 = .ok (.iconst 2, 1) := by decide +kernel
theorem dX8_goThrough_229 : decode cX8_goThrough 229 = .ok (.if_icmp .ne 79, 3) := by decide +kernel
theorem dX8_goThrough_232 : decode cX8_goThrough 232 = .ok (.aload_n 0, 1) := by decide +kernel
theorem dX8_goThrough_233 : decode cX8_goThrough 233 = .ok (.getfield 78, 3) := by decide +kernel
theorem dX8_goThrough_236 : decode cX8_goThrough 236 = .ok (.iload 4, 2) := by decide +kernel
theorem dX8_goThrough_238 : decode cX8_goThrough 238 = .ok (.iaload, 1) := by decide +kernel
theorem dX8_goThrough_239 : decode cX8_goThrough 239 = .ok (.ifCond .lt 8, 3) := by decide +kernel
theorem dX8_goThrough_242 : decode cX8_goThrough 242 = .ok (.iload 4, 2) := by decide +kernel
theorem dX8_goThrough_244 : decode cX8_goThrough 244 = .ok (.goto 20, 3) := by decide +kernel
theorem dX8_goThrough_247 : decode cX8_goThrough 247 = .ok (.aload_n 0, 1) := by decide +kernel
theorem dX8_goThrough_248 : decode cX8_goThrough 248 = .ok (.getfield 78, 3) := by decide +kernel
theorem dX8_goThrough_251 : decode cX8_goThrough 251 = .ok (.iload 6, 2) := by decide +kernel
theorem dX8_goThrough_253 : decode cX8_goThrough 253 = .ok (.iaload, 1) := by decide +kernel
theorem dX8_goThrough_254 : decode cX8_goThrough 254 = .ok (.ifCond .lt 8, 3) := by decide +kernel
theorem dX8_goThrough_257 : decode cX8_goThrough 257 = .ok (.iload 6, 2) := by decide +kernel
theorem dX8_goThrough_259 : decode cX8_goThrough 259 = .ok (.goto 5, 3) := by decide +kernel
theorem dX8_goThrough_262 : decode cX8_goThrough 262 = .ok (.iload 5, 2) := by decide +kernel
theorem dX8_goThrough_264 : decode cX8_goThrough 264 = .ok (.istore 9, 2) := by decide +kernel
theorem dX8_goThrough_266 : decode cX8_goThrough 266 = .ok (.aload_n 0, 1) := by decide +kernel
theorem dX8_goThrough_267 : decode cX8_goThrough 267 = .ok (.getfield 78, 3) := by decide +kernel
theorem dX8_goThrough_270 : decode cX8_goThrough 270 = .ok (.iload 7, 2) := by decide +kernel
theorem dX8_goThrough_272 : decode cX8_goThrough 272 = .ok (.iaload, 1) := by decide +kernel
theorem dX8_goThrough_273 : decode cX8_goThrough 273 = .ok (.ifCond .lt 8, 3) := by decide +kernel
theorem dX8_goThrough_276 : decode cX8_goThrough 276 = .ok (.iload 7, 2) := by decide +kernel
theorem dX8_goThrough_278 : decode cX8_goThrough 278 = .ok (.goto 20, 3) := by decide +kernel
theorem dX8_goThrough_281 : decode cX8_goThrough 281 = .ok (.aload_n 0, 1) := by decide +kernel
theorem dX8_goThrough_282 : decode cX8_goThrough 282 = .ok (.getfield 78, 3) := by decide +kernel
theorem dX8_goThrough_285 : decode cX8_goThrough 285 = .ok (.iload 5, 2) := by decide +kernel
theorem dX8_goThrough_287 : decode cX8_goThrough 287 = .ok (.iaload, 1) := by decide +kernel
theorem dX8_goThrough_288 : decode cX8_goThrough 288 = .ok (.ifCond .lt 8, 3) := by decide +kernel
theorem dX8_goThrough_291 : decode cX8_goThrough 291 = .ok (.iload 5, 2) := by decide +kernel
theorem dX8_goThrough_293 : decode cX8_goThrough 293 = .ok (.goto 5, 3) := by decide +kernel
theorem dX8_goThrough_296 : decode cX8_goThrough 296 = .ok (.iload 6, 2) := by decide +kernel
theorem dX8_goThrough_298 : decode cX8_goThrough 298 = .ok (.istore 10, 2) := by decide +kernel
theorem dX8_goThrough_300 : decode cX8_goThrough 300 = .ok (.aload_n 0, 1) := by decide +kernel
theorem dX8_goThrough_301 : decode cX8_goThrough 301 = .ok (.iload 9, 2) := by decide +kernel
theorem dX8_goThrough_303 : decode cX8_goThrough 303 = .ok (.iload 10, 2) := by decide +kernel
theorem dX8_goThrough_305 : decode cX8_goThrough 305 = .ok (.invokevirtual 279, 3) := by decide +kernel
theorem dX8_goThrough_308 : decode cX8_goThrough 308 = .ok (.return_, 1) := by decide +kernel
theorem dX8_findLines_0 : decode cX8_findLines 0 = .ok (.aload_n 0, 1) := by decide +kernel
theorem dX8_findLines_1 : decode cX8_findLines 1 = .ok (.iload_n 1, 1) := by decide +kernel
theorem dX8_findLines_2 : decode cX8_findLines 2 = .ok (.invokevirtual 263, 3) := by decide +kernel
theorem dX8_findLines_5 : decode cX8_findLines 5 = .ok (.iconst 0, 1) := by decide +kernel
theorem dX8_findLines_6 : decode cX8_findLines 6 = .ok (.istore_n 3, 1) := by decide +kernel
theorem dX8_findLines_7 : decode cX8_findLines 7 = .ok (.iload_n 3, 1) := by decide +kernel
theorem dX8_findLines_8 : decode cX8_findLines 8 = .ok (.sipush 128, 3) := by decide +kernel
theorem dX8_findLines_11 : decode cX8_findLines 11 = .ok (.if_icmp .ge 118, 3) := by decide +kernel
theorem dX8_findLines_14 : decode cX8_findLines 14 = .ok (.iload_n 3, 1) := by decide +kernel
theorem dX8_findLines_15 : decode cX8_findLines 15 = .ok (.bipush 16, 2) := by decide +kernel
theorem dX8_findLines_17 : decode cX8_findLines 17 = .ok (.irem, 1) := by decide +kernel
theorem dX8_findLines_18 : decode cX8_findLines 18 = .ok (.iconst 2, 1) := by decide +kernel
theorem dX8_findLines_19 : decode cX8_findLines 19 = .ok (.idiv, 1) := by decide +kernel
theorem dX8_findLines_20 : decode cX8_findLines 20 = .ok (.istore 4, 2) := by decide +kernel
theorem dX8_findLines_22 : decode cX8_findLines 22 = .ok (.iload_n 3, 1) := by decide +kernel
theorem dX8_findLines_23 : decode cX8_findLines 23 = .ok (.bipush 16, 2) := by decide +kernel
theorem dX8_findLines_25 : decode cX8_findLines 25 = .ok (.idiv, 1) := by decide +kernel
theorem dX8_findLines_26 : decode cX8_findLines 26 = .ok (.istore 5, 2) := by decide +kernel
theorem dX8_findLines_28 : decode cX8_findLines 28 = .ok (.iload_n 3, 1) := by decide +kernel
theorem dX8_findLines_29 : decode cX8_findLines 29 = .ok (.iconst 2, 1) := by decide +kernel
theorem dX8_findLines_30 : decode cX8_findLines 30 = .ok (.irem, 1) := by decide +kernel
theorem dX8_findLines_31 : decode cX8_findLines 31 = .ok (.ifCond .ne 10, 3) := by decide +kernel
theorem dX8_findLines_34 : decode cX8_findLines 34 = .ok (.iload 4, 2) := by decide +kernel
theorem dX8_findLines_36 : decode cX8_findLines 36 = .ok (.iconst 1, 1) := by decide +kernel
theorem dX8_findLines_37 : decode cX8_findLines 37 = .ok (.iadd, 1) := by decide +kernel
theorem dX8_findLines_38 : decode cX8_findLines 38 = .ok (.goto 5, 3) := by decide +kernel
theorem dX8_findLines_41 : decode cX8_findLines 41 = .ok (.iload 4, 2) := by decide +kernel
theorem dX8_findLines_43 : decode cX8_findLines 43 = .ok (.istore 6, 2) := by decide +kernel
theorem dX8_findLines_45 : decode cX8_findLines 45 = .ok (.iload_n 3, 1) := by decide +kernel
theorem dX8_findLines_46 : decode cX8_findLines 46 = .ok (.iconst 2, 1) := by decide +kernel
theorem dX8_findLines_47 : decode cX8_findLines 47 = .ok (.irem, 1) := by decide +kernel
theorem dX8_findLines_48 : decode cX8_findLines 48 = .ok (.ifCond .ne 8, 3) := by decide +kernel
theorem dX8_findLines_51 : decode cX8_findLines 51 = .ok (.iload 5, 2) := by decide +kernel
theorem dX8_findLines_53 : decode cX8_findLines 53 = .ok (.goto 7, 3) := by decide +kernel
theorem dX8_findLines_56 : decode cX8_findLines 56 = .ok (.iload 5, 2) := by decide +kernel
theorem dX8_findLines_58 : decode cX8_findLines 58 = .ok (.iconst 1, 1) := by decide +kernel
theorem dX8_findLines_59 : decode cX8_findLines 59 = .ok (.iadd, 1) := by decide +kernel
theorem dX8_findLines_60 : decode cX8_findLines 60 = .ok (.istore 7, 2) := by decide +kernel
theorem dX8_findLines_62 : decode cX8_findLines 62 = .ok (.iload 6, 2) := by decide +kernel
theorem dX8_findLines_64 : decode cX8_findLines 64 = .ok (.iload 7, 2) := by decide +kernel
theorem dX8_findLines_66 : decode cX8_findLines 66 = .ok (.invokestatic 161, 3) := by decide +kernel
theorem dX8_findLines_69 : decode cX8_findLines 69 = .ok (.ifCond .eq 28, 3) := by decide +kernel
theorem dX8_findLines_72 : decode cX8_findLines 72 = .ok (.aload_n 0, 1) := by decide +kernel
theorem dX8_findLines_73 : decode cX8_findLines 73 = .ok (.iload 4, 2) := by decide +kernel
theorem dX8_findLines_75 : decode cX8_findLines 75 = .ok (.iload 5, 2) := by decide +kernel
theorem dX8_findLines_77 : decode cX8_findLines 77 = .ok (.iload_n 2, 1) := by decide +kernel
theorem dX8_findLines_78 : decode cX8_findLines 78 = .ok (.invokevirtual 275, 3) := by decide +kernel
theorem dX8_findLines_81 : decode cX8_findLines 81 = .ok (.aload_n 0, 1) := by decide +kernel
theorem dX8_findLines_82 : decode cX8_findLines 82 = .ok (.iload 6, 2) := by decide +kernel
theorem dX8_findLines_84 : decode cX8_findLines 84 = .ok (.iload 7, 2) := by decide +kernel
theorem dX8_findLines_86 : decode cX8_findLines 86 = .ok (.iload_n 2, 1) := by decide +kernel
theorem dX8_findLines_87 : decode cX8_findLines 87 = .ok (.invokevirtual 275, 3) := by decide +kernel
theorem dX8_findLines_90 : decode cX8_findLines 90 = .ok (.if_icmp .eq 7, 3) := by decide +kernel
theorem dX8_findLines_93 : decode cX8_findLines 93 = .ok (.iconst 1, 1) := by decide +kernel
theorem dX8_findLines_94 : decode cX8_findLines 94 = .ok (.goto 4, 3) := by decide +kernel
theorem dX8_findLines_97 : decode cX8_findLines 97 = .ok (.iconst 0, 1) := by decide +kernel
theorem dX8_findLines_98 : decode cX8_findLines 98 = .ok (.istore 8, 2) := by decide +kernel
theorem dX8_findLines_100 : decode cX8_findLines 100 = .ok (.aload_n 0, 1) := by decide +kernel
theorem dX8_findLines_101 : decode cX8_findLines 101 = .ok (.getfield 78, 3) := by decide +kernel
theorem dX8_findLines_104 : decode cX8_findLines 104 = .ok (.iload_n 3, 1) := by decide +kernel
theorem dX8_findLines_105 : decode cX8_findLines 105 = .ok (.iload 8, 2) := by decide +kernel
theorem dX8_findLines_107 : decode cX8_findLines 107 = .ok (.ifCond .eq 7, 3) := by decide +kernel
theorem dX8_findLines_110 : decode cX8_findLines 110 = .ok (.iload_n 3, 1) := by decide +kernel
theorem dX8_findLines_111 : decode cX8_findLines 111 = .ok (.goto 4, 3) := by decide +kernel
theorem dX8_findLines_114 : decode cX8_findLines 114 = .ok (.iconst (-1), 1) := by decide +kernel
theorem dX8_findLines_115 : decode cX8_findLines 115 = .ok (.iastore, 1) := by decide +kernel
theorem dX8_findLines_116 : decode cX8_findLines 116 = .ok (.aload_n 0, 1) := by decide +kernel
theorem dX8_findLines_117 : decode cX8_findLines 117 = .ok (.getfield 81, 3) := by decide +kernel
theorem dX8_findLines_120 : decode cX8_findLines 120 = .ok (.iload_n 3, 1) := by decide +kernel
theorem dX8_findLines_121 : decode cX8_findLines 121 = .ok (.iconst 0, 1) := by decide +kernel
theorem dX8_findLines_122 : decode cX8_findLines 122 = .ok (.iastore, 1) := by decide +kernel
theorem dX8_findLines_123 : decode cX8_findLines 123 = .ok (.iinc 3 1, 3) := by decide +kernel
theorem dX8_findLines_126 : decode cX8_findLines 126 = .ok (.goto (-119), 3) := by decide +kernel
theorem dX8_findLines_129 : decode cX8_findLines 129 = .ok (.iconst 0, 1) := by decide +kernel
theorem dX8_findLines_130 : decode cX8_findLines 130 = .ok (.istore_n 3, 1) := by decide +kernel
theorem dX8_findLines_131 : decode cX8_findLines 131 = .ok (.iload_n 3, 1) := by decide +kernel
theorem dX8_findLines_132 : decode cX8_findLines 132 = .ok (.bipush 7, 2) := by decide +kernel
theorem dX8_findLines_134 : decode cX8_findLines 134 = .ok (.if_icmp .ge 33, 3) := by decide +kernel
theorem dX8_findLines_137 : decode cX8_findLines 137 = .ok (.iconst 0, 1) := by decide +kernel
theorem dX8_findLines_138 : decode cX8_findLines 138 = .ok (.istore 4, 2) := by decide +kernel
theorem dX8_findLines_140 : decode cX8_findLines 140 = .ok (.iload 4, 2) := by decide +kernel
theorem dX8_findLines_142 : decode cX8_findLines 142 = .ok (.bipush 7, 2) := by decide +kernel
theorem dX8_findLines_144 : decode cX8_findLines 144 = .ok (.if_icmp .ge 17, 3) := by decide +kernel
theorem dX8_findLines_147 : decode cX8_findLines 147 = .ok (.aload_n 0, 1) := by decide +kernel
theorem dX8_findLines_148 : decode cX8_findLines 148 = .ok (.iload 4, 2) := by decide +kernel
theorem dX8_findLines_150 : decode cX8_findLines 150 = .ok (.iload_n 3, 1) := by decide +kernel
theorem dX8_findLines_151 : decode cX8_findLines 151 = .ok (.iload_n 2, 1) := by decide +kernel
theorem dX8_findLines_152 : decode cX8_findLines 152 = .ok (.invokevirtual 283, 3) := by decide +kernel
theorem dX8_findLines_155 : decode cX8_findLines 155 = .ok (.iinc 4 1, 3) := by decide +kernel
theorem dX8_findLines_158 : decode cX8_findLines 158 = .ok (.goto (-18), 3) := by decide +kernel
theorem dX8_findLines_161 : decode cX8_findLines 161 = .ok (.iinc 3 1, 3) := by decide +kernel
theorem dX8_findLines_164 : decode cX8_findLines 164 = .ok (.goto (-33), 3) := by decide +kernel
theorem dX8_findLines_167 : decode cX8_findLines 167 = .ok (.return_, 1) := by decide +kernel
theorem dX8_ofLine_0 : decode cX8_ofLine 0 = .ok (.iconst 0, 1) := by decide +kernel
theorem dX8_ofLine_1 : decode cX8_ofLine 1 = .ok (.istore_n 3, 1) := by decide +kernel
theorem dX8_ofLine_2 : decode cX8_ofLine 2 = .ok (.iconst 1, 1) := by decide +kernel
theorem dX8_ofLine_3 : decode cX8_ofLine 3 = .ok (.istore 4, 2) := by decide +kernel
theorem dX8_ofLine_5 : decode cX8_ofLine 5 = .ok (.iload_n 1, 1) := by decide +kernel
theorem dX8_ofLine_6 : decode cX8_ofLine 6 = .ok (.istore 5, 2) := by decide +kernel
theorem dX8_ofLine_8 : decode cX8_ofLine 8 = .ok (.iconst 0, 1) := by decide +kernel
theorem dX8_ofLine_9 : decode cX8_ofLine 9 = .ok (.istore 6, 2) := by decide +kernel
theorem dX8_ofLine_11 : decode cX8_ofLine 11 = .ok (.iload 6, 2) := by decide +kernel
theorem dX8_ofLine_13 : decode cX8_ofLine 13 = .ok (.sipush 128, 3) := by decide +kernel
theorem dX8_ofLine_16 : decode cX8_ofLine 16 = .ok (.if_icmp .ge 50, 3) := by decide +kernel
theorem dX8_ofLine_19 : decode cX8_ofLine 19 = .ok (.aload_n 0, 1) := by decide +kernel
theorem dX8_ofLine_20 : decode cX8_ofLine 20 = .ok (.getfield 78, 3) := by decide +kernel
theorem dX8_ofLine_23 : decode cX8_ofLine 23 = .ok (.iload 6, 2) := by decide +kernel
theorem dX8_ofLine_25 : decode cX8_ofLine 25 = .ok (.iaload, 1) := by decide +kernel
theorem dX8_ofLine_26 : decode cX8_ofLine 26 = .ok (.iload_n 1, 1) := by decide +kernel
theorem dX8_ofLine_27 : decode cX8_ofLine 27 = .ok (.if_icmp .ne 33, 3) := by decide +kernel
theorem dX8_ofLine_30 : decode cX8_ofLine 30 = .ok (.iinc 3 1, 3) := by decide +kernel
theorem dX8_ofLine_33 : decode cX8_ofLine 33 = .ok (.iload 4, 2) := by decide +kernel
theorem dX8_ofLine_35 : decode cX8_ofLine 35 = .ok (.ifCond .eq 18, 3) := by decide +kernel
theorem dX8_ofLine_38 : decode cX8_ofLine 38 = .ok (.aload_n 0, 1) := by decide +kernel
theorem dX8_ofLine_39 : decode cX8_ofLine 39 = .ok (.getfield 81, 3) := by decide +kernel
theorem dX8_ofLine_42 : decode cX8_ofLine 42 = .ok (.iload 6, 2) := by decide +kernel
theorem dX8_ofLine_44 : decode cX8_ofLine 44 = .ok (.iaload, 1) := by decide +kernel
theorem dX8_ofLine_45 : decode cX8_ofLine 45 = .ok (.iconst 2, 1) := by decide +kernel
theorem dX8_ofLine_46 : decode cX8_ofLine 46 = .ok (.if_icmp .ne 7, 3) := by decide +kernel
theorem dX8_ofLine_49 : decode cX8_ofLine 49 = .ok (.iconst 1, 1) := by decide +kernel
theorem dX8_ofLine_50 : decode cX8_ofLine 50 = .ok (.goto 4, 3) := by decide +kernel
theorem dX8_ofLine_53 : decode cX8_ofLine 53 = .ok (.iconst 0, 1) := by decide +kernel
theorem dX8_ofLine_54 : decode cX8_ofLine 54 = .ok (.istore 4, 2) := by decide +kernel
theorem dX8_ofLine_56 : decode cX8_ofLine 56 = .ok (.iload 6, 2) := by decide +kernel
theorem dX8_ofLine_58 : decode cX8_ofLine 58 = .ok (.istore 5, 2) := by decide +kernel
theorem dX8_ofLine_60 : decode cX8_ofLine 60 = .ok (.iinc 6 1, 3) := by decide +kernel
theorem dX8_ofLine_63 : decode cX8_ofLine 63 = .ok (.goto (-52), 3) := by decide +kernel
theorem dX8_ofLine_66 : decode cX8_ofLine 66 = .ok (.iload_n 2, 1) := by decide +kernel
theorem dX8_ofLine_67 : decode cX8_ofLine 67 = .ok (.ifCond .ne 7, 3) := by decide +kernel
theorem dX8_ofLine_70 : decode cX8_ofLine 70 = .ok (.iload_n 3, 1) := by decide +kernel
theorem dX8_ofLine_71 : decode cX8_ofLine 71 = .ok (.goto 23, 3) := by decide +kernel
theorem dX8_ofLine_74 : decode cX8_ofLine 74 = .ok (.iload_n 2, 1) := by decide +kernel
theorem dX8_ofLine_75 : decode cX8_ofLine 75 = .ok (.iconst 1, 1) := by decide +kernel
theorem dX8_ofLine_76 : decode cX8_ofLine 76 = .ok (.if_icmp .ne 16, 3) := by decide +kernel
theorem dX8_ofLine_79 : decode cX8_ofLine 79 = .ok (.iload 4, 2) := by decide +kernel
theorem dX8_ofLine_81 : decode cX8_ofLine 81 = .ok (.ifCond .eq 7, 3) := by decide +kernel
theorem dX8_ofLine_84 : decode cX8_ofLine 84 = .ok (.iconst 1, 1) := by decide +kernel
theorem dX8_ofLine_85 : decode cX8_ofLine 85 = .ok (.goto 9, 3) := by decide +kernel
theorem dX8_ofLine_88 : decode cX8_ofLine 88 = .ok (.iconst 0, 1) := by decide +kernel
theorem dX8_ofLine_89 : decode cX8_ofLine 89 = .ok (.goto 5, 3) := by decide +kernel
theorem dX8_ofLine_92 : decode cX8_ofLine 92 = .ok (.iload 5, 2) := by decide +kernel
theorem dX8_ofLine_94 : decode cX8_ofLine 94 = .ok (.ireturn, 1) := by decide +kernel
theorem dX8_whyNot_0 : decode cX8_whyNot 0 = .ok (.iload_n 1, 1) := by decide +kernel
theorem dX8_whyNot_1 : decode cX8_whyNot 1 = .ok (.invokestatic 169, 3) := by decide +kernel
theorem dX8_whyNot_4 : decode cX8_whyNot 4 = .ok (.ifCond .eq 27, 3) := by decide +kernel
theorem dX8_whyNot_7 : decode cX8_whyNot 7 = .ok (.iload_n 2, 1) := by decide +kernel
theorem dX8_whyNot_8 : decode cX8_whyNot 8 = .ok (.i2l, 1) := by decide +kernel
theorem dX8_whyNot_9 : decode cX8_whyNot 9 = .ok (.lconst 1, 1) := by decide +kernel
theorem dX8_whyNot_10 : decode cX8_whyNot 10 = .ok (.ldc2_w 182, 3) := by decide +kernel
theorem dX8_whyNot_13 : decode cX8_whyNot 13 = .ok (.invokestatic 102, 3) := by decide +kernel
theorem dX8_whyNot_16 : decode cX8_whyNot 16 = .ok (.ifCond .eq 15, 3) := by decide +kernel
theorem dX8_whyNot_19 : decode cX8_whyNot 19 = .ok (.iload_n 3, 1) := by decide +kernel
theorem dX8_whyNot_20 : decode cX8_whyNot 20 = .ok (.i2l, 1) := by decide +kernel
theorem dX8_whyNot_21 : decode cX8_whyNot 21 = .ok (.lconst 0, 1) := by decide +kernel
theorem dX8_whyNot_22 : decode cX8_whyNot 22 = .ok (.ldc2_w 287, 3) := by decide +kernel
theorem dX8_whyNot_25 : decode cX8_whyNot 25 = .ok (.invokestatic 102, 3) := by decide +kernel
theorem dX8_whyNot_28 : decode cX8_whyNot 28 = .ok (.ifCond .ne 6, 3) := by decide +kernel
theorem dX8_whyNot_31 : decode cX8_whyNot 31 = .ok (.bipush (-2), 2) := by decide +kernel
theorem dX8_whyNot_33 : decode cX8_whyNot 33 = .ok (.ireturn, 1) := by decide +kernel
theorem dX8_whyNot_34 : decode cX8_whyNot 34 = .ok (.aload_n 0, 1) := by decide +kernel
theorem dX8_whyNot_35 : decode cX8_whyNot 35 = .ok (.iload_n 1, 1) := by decide +kernel
theorem dX8_whyNot_36 : decode cX8_whyNot 36 = .ok (.iconst (-1), 1) := by decide +kernel
theorem dX8_whyNot_37 : decode cX8_whyNot 37 = .ok (.invokevirtual 253, 3) := by decide +kernel
theorem dX8_whyNot_40 : decode cX8_whyNot 40 = .ok (.ifCond .eq 7, 3) := by decide +kernel
theorem dX8_whyNot_43 : decode cX8_whyNot 43 = .ok (.iconst 0, 1) := by decide +kernel
theorem dX8_whyNot_44 : decode cX8_whyNot 44 = .ok (.goto 5, 3) := by decide +kernel
theorem dX8_whyNot_47 : decode cX8_whyNot 47 = .ok (.bipush (-3), 2) := by decide +kernel
theorem dX8_whyNot_49 : decode cX8_whyNot 49 = .ok (.ireturn, 1) := by decide +kernel
theorem dX8_lines_0 : decode cX8_lines 0 = .ok (.aload_n 0, 1) := by decide +kernel
theorem dX8_lines_1 : decode cX8_lines 1 = .ok (.iload_n 1, 1) := by decide +kernel
theorem dX8_lines_2 : decode cX8_lines 2 = .ok (.iload_n 2, 1) := by decide +kernel
theorem dX8_lines_3 : decode cX8_lines 3 = .ok (.iload_n 3, 1) := by decide +kernel
theorem dX8_lines_4 : decode cX8_lines 4 = .ok (.invokevirtual 289, 3) := by decide +kernel
theorem dX8_lines_7 : decode cX8_lines 7 = .ok (.istore 4, 2) := by decide +kernel
theorem dX8_lines_9 : decode cX8_lines 9 = .ok (.iload 4, 2) := by decide +kernel
theorem dX8_lines_11 : decode cX8_lines 11 = .ok (.ifCond .ge 6, 3) := by decide +kernel
theorem dX8_lines_14 : decode cX8_lines 14 = .ok (.iload 4, 2) := by decide +kernel
theorem dX8_lines_16 : decode cX8_lines 16 = .ok (.ireturn, 1) := by decide +kernel
theorem dX8_lines_17 : decode cX8_lines 17 = .ok (.aload_n 0, 1) := by decide +kernel
theorem dX8_lines_18 : decode cX8_lines 18 = .ok (.iload_n 1, 1) := by decide +kernel
theorem dX8_lines_19 : decode cX8_lines 19 = .ok (.iload_n 2, 1) := by decide +kernel
theorem dX8_lines_20 : decode cX8_lines 20 = .ok (.invokevirtual 293, 3) := by decide +kernel
theorem dX8_lines_23 : decode cX8_lines 23 = .ok (.iconst 0, 1) := by decide +kernel
theorem dX8_lines_24 : decode cX8_lines 24 = .ok (.istore 5, 2) := by decide +kernel
theorem dX8_lines_26 : decode cX8_lines 26 = .ok (.iconst 0, 1) := by decide +kernel
theorem dX8_lines_27 : decode cX8_lines 27 = .ok (.istore 6, 2) := by decide +kernel
theorem dX8_lines_29 : decode cX8_lines 29 = .ok (.iload 6, 2) := by decide +kernel
theorem dX8_lines_31 : decode cX8_lines 31 = .ok (.sipush 128, 3) := by decide +kernel
theorem dX8_lines_34 : decode cX8_lines 34 = .ok (.if_icmp .ge 83, 3) := by decide +kernel
theorem dX8_lines_37 : decode cX8_lines 37 = .ok (.aload_n 0, 1) := by decide +kernel
theorem dX8_lines_38 : decode cX8_lines 38 = .ok (.getfield 78, 3) := by decide +kernel
theorem dX8_lines_41 : decode cX8_lines 41 = .ok (.iload 6, 2) := by decide +kernel
theorem dX8_lines_43 : decode cX8_lines 43 = .ok (.iaload, 1) := by decide +kernel
theorem dX8_lines_44 : decode cX8_lines 44 = .ok (.iload 6, 2) := by decide +kernel
theorem dX8_lines_46 : decode cX8_lines 46 = .ok (.if_icmp .ne 7, 3) := by decide +kernel
theorem dX8_lines_49 : decode cX8_lines 49 = .ok (.iconst 1, 1) := by decide +kernel
theorem dX8_lines_50 : decode cX8_lines 50 = .ok (.goto 4, 3) := by decide +kernel
theorem dX8_lines_53 : decode cX8_lines 53 = .ok (.iconst 0, 1) := by decide +kernel
theorem dX8_lines_54 : decode cX8_lines 54 = .ok (.istore 7, 2) := by decide +kernel
theorem dX8_lines_56 : decode cX8_lines 56 = .ok (.iload 5, 2) := by decide +kernel
theorem dX8_lines_58 : decode cX8_lines 58 = .ok (.iload_n 3, 1) := by decide +kernel
theorem dX8_lines_59 : decode cX8_lines 59 = .ok (.ifCond .ne 8, 3) := by decide +kernel
theorem dX8_lines_62 : decode cX8_lines 62 = .ok (.iload 7, 2) := by decide +kernel
theorem dX8_lines_64 : decode cX8_lines 64 = .ok (.ifCond .ne 39, 3) := by decide +kernel
theorem dX8_lines_67 : decode cX8_lines 67 = .ok (.iload_n 3, 1) := by decide +kernel
theorem dX8_lines_68 : decode cX8_lines 68 = .ok (.iconst 1, 1) := by decide +kernel
theorem dX8_lines_69 : decode cX8_lines 69 = .ok (.if_icmp .ne 19, 3) := by decide +kernel
theorem dX8_lines_72 : decode cX8_lines 72 = .ok (.iload 7, 2) := by decide +kernel
theorem dX8_lines_74 : decode cX8_lines 74 = .ok (.ifCond .eq 14, 3) := by decide +kernel
theorem dX8_lines_77 : decode cX8_lines 77 = .ok (.aload_n 0, 1) := by decide +kernel
theorem dX8_lines_78 : decode cX8_lines 78 = .ok (.iload 6, 2) := by decide +kernel
theorem dX8_lines_80 : decode cX8_lines 80 = .ok (.iconst 1, 1) := by decide +kernel
theorem dX8_lines_81 : decode cX8_lines 81 = .ok (.invokevirtual 296, 3) := by decide +kernel
theorem dX8_lines_84 : decode cX8_lines 84 = .ok (.iconst 1, 1) := by decide +kernel
theorem dX8_lines_85 : decode cX8_lines 85 = .ok (.if_icmp .eq 18, 3) := by decide +kernel
theorem dX8_lines_88 : decode cX8_lines 88 = .ok (.iload_n 3, 1) := by decide +kernel
theorem dX8_lines_89 : decode cX8_lines 89 = .ok (.iconst 2, 1) := by decide +kernel
theorem dX8_lines_90 : decode cX8_lines 90 = .ok (.if_icmp .ne 17, 3) := by decide +kernel
theorem dX8_lines_93 : decode cX8_lines 93 = .ok (.aload_n 0, 1) := by decide +kernel
theorem dX8_lines_94 : decode cX8_lines 94 = .ok (.getfield 78, 3) := by decide +kernel
theorem dX8_lines_97 : decode cX8_lines 97 = .ok (.iload 6, 2) := by decide +kernel
theorem dX8_lines_99 : decode cX8_lines 99 = .ok (.iaload, 1) := by decide +kernel
theorem dX8_lines_100 : decode cX8_lines 100 = .ok (.ifCond .lt 7, 3) := by decide +kernel
theorem dX8_lines_103 : decode cX8_lines 103 = .ok (.iconst 1, 1) := by decide +kernel
theorem dX8_lines_104 : decode cX8_lines 104 = .ok (.goto 4, 3) := by decide +kernel
theorem dX8_lines_107 : decode cX8_lines 107 = .ok (.iconst 0, 1) := by decide +kernel
theorem dX8_lines_108 : decode cX8_lines 108 = .ok (.iadd, 1) := by decide +kernel
theorem dX8_lines_109 : decode cX8_lines 109 = .ok (.istore 5, 2) := by decide +kernel
theorem dX8_lines_111 : decode cX8_lines 111 = .ok (.iinc 6 1, 3) := by decide +kernel
theorem dX8_lines_114 : decode cX8_lines 114 = .ok (.goto (-85), 3) := by decide +kernel
theorem dX8_lines_117 : decode cX8_lines 117 = .ok (.iconst 0, 1) := by decide +kernel
theorem dX8_lines_118 : decode cX8_lines 118 = .ok (.istore 6, 2) := by decide +kernel
theorem dX8_lines_120 : decode cX8_lines 120 = .ok (.iload 6, 2) := by decide +kernel
theorem dX8_lines_122 : decode cX8_lines 122 = .ok (.bipush 64, 2) := by decide +kernel
theorem dX8_lines_124 : decode cX8_lines 124 = .ok (.if_icmp .ge 37, 3) := by decide +kernel
theorem dX8_lines_127 : decode cX8_lines 127 = .ok (.iload_n 3, 1) := by decide +kernel
theorem dX8_lines_128 : decode cX8_lines 128 = .ok (.iconst 3, 1) := by decide +kernel
theorem dX8_lines_129 : decode cX8_lines 129 = .ok (.if_icmp .ne 32, 3) := by decide +kernel
theorem dX8_lines_132 : decode cX8_lines 132 = .ok (.iload 5, 2) := by decide +kernel
theorem dX8_lines_134 : decode cX8_lines 134 = .ok (.aload_n 0, 1) := by decide +kernel
theorem dX8_lines_135 : decode cX8_lines 135 = .ok (.getfield 75, 3) := by decide +kernel
theorem dX8_lines_138 : decode cX8_lines 138 = .ok (.iload 6, 2) := by decide +kernel
theorem dX8_lines_140 : decode cX8_lines 140 = .ok (.laload, 1) := by decide +kernel
theorem dX8_lines_141 : decode cX8_lines 141 = .ok (.iload_n 2, 1) := by decide +kernel
theorem dX8_lines_142 : decode cX8_lines 142 = .ok (.i2l, 1) := by decide +kernel
theorem dX8_lines_143 : decode cX8_lines 143 = .ok (.lcmp, 1) := by decide +kernel
theorem dX8_lines_144 : decode cX8_lines 144 = .ok (.ifCond .lt 7, 3) := by decide +kernel
theorem dX8_lines_147 : decode cX8_lines 147 = .ok (.iconst 1, 1) := by decide +kernel
theorem dX8_lines_148 : decode cX8_lines 148 = .ok (.goto 4, 3) := by decide +kernel
theorem dX8_lines_151 : decode cX8_lines 151 = .ok (.iconst 0, 1) := by decide +kernel
theorem dX8_lines_152 : decode cX8_lines 152 = .ok (.iadd, 1) := by decide +kernel
theorem dX8_lines_153 : decode cX8_lines 153 = .ok (.istore 5, 2) := by decide +kernel
theorem dX8_lines_155 : decode cX8_lines 155 = .ok (.iinc 6 1, 3) := by decide +kernel
theorem dX8_lines_158 : decode cX8_lines 158 = .ok (.goto (-38), 3) := by decide +kernel
theorem dX8_lines_161 : decode cX8_lines 161 = .ok (.iload 5, 2) := by decide +kernel
theorem dX8_lines_163 : decode cX8_lines 163 = .ok (.ireturn, 1) := by decide +kernel
theorem dX8_line_0 : decode cX8_line 0 = .ok (.aload_n 0, 1) := by decide +kernel
theorem dX8_line_1 : decode cX8_line 1 = .ok (.iload_n 1, 1) := by decide +kernel
theorem dX8_line_2 : decode cX8_line 2 = .ok (.iload_n 2, 1) := by decide +kernel
theorem dX8_line_3 : decode cX8_line 3 = .ok (.iload 4, 2) := by decide +kernel
theorem dX8_line_5 : decode cX8_line 5 = .ok (.invokevirtual 289, 3) := by decide +kernel
theorem dX8_line_8 : decode cX8_line 8 = .ok (.istore 5, 2) := by decide +kernel
theorem dX8_line_10 : decode cX8_line 10 = .ok (.iload 5, 2) := by decide +kernel
theorem dX8_line_12 : decode cX8_line 12 = .ok (.ifCond .ge 6, 3) := by decide +kernel
theorem dX8_line_15 : decode cX8_line 15 = .ok (.iload 5, 2) := by decide +kernel
theorem dX8_line_17 : decode cX8_line 17 = .ok (.ireturn, 1) := by decide +kernel
theorem dX8_line_18 : decode cX8_line 18 = .ok (.aload_n 0, 1) := by decide +kernel
theorem dX8_line_19 : decode cX8_line 19 = .ok (.iload_n 1, 1) := by decide +kernel
theorem dX8_line_20 : decode cX8_line 20 = .ok (.iload_n 2, 1) := by decide +kernel
theorem dX8_line_21 : decode cX8_line 21 = .ok (.invokevirtual 293, 3) := by decide +kernel
theorem dX8_line_24 : decode cX8_line 24 = .ok (.iconst 0, 1) := by decide +kernel
theorem dX8_line_25 : decode cX8_line 25 = .ok (.istore 6, 2) := by decide +kernel
theorem dX8_line_27 : decode cX8_line 27 = .ok (.iconst 0, 1) := by decide +kernel
theorem dX8_line_28 : decode cX8_line 28 = .ok (.istore 7, 2) := by decide +kernel
theorem dX8_line_30 : decode cX8_line 30 = .ok (.iload 7, 2) := by decide +kernel
theorem dX8_line_32 : decode cX8_line 32 = .ok (.sipush 128, 3) := by decide +kernel
theorem dX8_line_35 : decode cX8_line 35 = .ok (.if_icmp .ge 60, 3) := by decide +kernel
theorem dX8_line_38 : decode cX8_line 38 = .ok (.aload_n 0, 1) := by decide +kernel
theorem dX8_line_39 : decode cX8_line 39 = .ok (.getfield 78, 3) := by decide +kernel
theorem dX8_line_42 : decode cX8_line 42 = .ok (.iload 7, 2) := by decide +kernel
theorem dX8_line_44 : decode cX8_line 44 = .ok (.iaload, 1) := by decide +kernel
theorem dX8_line_45 : decode cX8_line 45 = .ok (.iload 7, 2) := by decide +kernel
theorem dX8_line_47 : decode cX8_line 47 = .ok (.if_icmp .ne 42, 3) := by decide +kernel
theorem dX8_line_50 : decode cX8_line 50 = .ok (.iload 6, 2) := by decide +kernel
theorem dX8_line_52 : decode cX8_line 52 = .ok (.iload_n 3, 1) := by decide +kernel
theorem dX8_line_53 : decode cX8_line 53 = .ok (.if_icmp .ne 33, 3) := by decide +kernel
theorem dX8_line_56 : decode cX8_line 56 = .ok (.iload 4, 2) := by decide +kernel
theorem dX8_line_58 : decode cX8_line 58 = .ok (.iconst 2, 1) := by decide +kernel
theorem dX8_line_59 : decode cX8_line 59 = .ok (.if_icmp .ne 8, 3) := by decide +kernel
theorem dX8_line_62 : decode cX8_line 62 = .ok (.iload 7, 2) := by decide +kernel
theorem dX8_line_64 : decode cX8_line 64 = .ok (.goto 21, 3) := by decide +kernel
theorem dX8_line_67 : decode cX8_line 67 = .ok (.aload_n 0, 1) := by decide +kernel
theorem dX8_line_68 : decode cX8_line 68 = .ok (.iload 7, 2) := by decide +kernel
theorem dX8_line_70 : decode cX8_line 70 = .ok (.iload 4, 2) := by decide +kernel
theorem dX8_line_72 : decode cX8_line 72 = .ok (.iconst 3, 1) := by decide +kernel
theorem dX8_line_73 : decode cX8_line 73 = .ok (.if_icmp .ne 7, 3) := by decide +kernel
theorem dX8_line_76 : decode cX8_line 76 = .ok (.iconst 2, 1) := by decide +kernel
theorem dX8_line_77 : decode cX8_line 77 = .ok (.goto 5, 3) := by decide +kernel
theorem dX8_line_80 : decode cX8_line 80 = .ok (.iload 4, 2) := by decide +kernel
theorem dX8_line_82 : decode cX8_line 82 = .ok (.invokevirtual 296, 3) := by decide +kernel
theorem dX8_line_85 : decode cX8_line 85 = .ok (.ireturn, 1) := by decide +kernel
theorem dX8_line_86 : decode cX8_line 86 = .ok (.iinc 6 1, 3) := by decide +kernel
theorem dX8_line_89 : decode cX8_line 89 = .ok (.iinc 7 1, 3) := by decide +kernel
theorem dX8_line_92 : decode cX8_line 92 = .ok (.goto (-62), 3) := by decide +kernel
theorem dX8_line_95 : decode cX8_line 95 = .ok (.iconst (-1), 1) := by decide +kernel
theorem dX8_line_96 : decode cX8_line 96 = .ok (.ireturn, 1) := by decide +kernel
theorem dX8_findDrift_0 : decode cX8_findDrift 0 = .ok (.iconst 0, 1) := by decide +kernel
theorem dX8_findDrift_1 : decode cX8_findDrift 1 = .ok (.istore_n 2, 1) := by decide +kernel
theorem dX8_findDrift_2 : decode cX8_findDrift 2 = .ok (.iload_n 2, 1) := by decide +kernel
theorem dX8_findDrift_3 : decode cX8_findDrift 3 = .ok (.bipush 48, 2) := by decide +kernel
theorem dX8_findDrift_5 : decode cX8_findDrift 5 = .ok (.if_icmp .ge 84, 3) := by decide +kernel
theorem dX8_findDrift_8 : decode cX8_findDrift 8 = .ok (.aload_n 0, 1) := by decide +kernel
theorem dX8_findDrift_9 : decode cX8_findDrift 9 = .ok (.getfield 87, 3) := by decide +kernel
theorem dX8_findDrift_12 : decode cX8_findDrift 12 = .ok (.iload_n 2, 1) := by decide +kernel
theorem dX8_findDrift_13 : decode cX8_findDrift 13 = .ok (.aload_n 0, 1) := by decide +kernel
theorem dX8_findDrift_14 : decode cX8_findDrift 14 = .ok (.iload_n 1, 1) := by decide +kernel
theorem dX8_findDrift_15 : decode cX8_findDrift 15 = .ok (.iload_n 2, 1) := by decide +kernel
theorem dX8_findDrift_16 : decode cX8_findDrift 16 = .ok (.invokevirtual 172, 3) := by decide +kernel
theorem dX8_findDrift_19 : decode cX8_findDrift 19 = .ok (.ifCond .eq 16, 3) := by decide +kernel
theorem dX8_findDrift_22 : decode cX8_findDrift 22 = .ok (.aload_n 0, 1) := by decide +kernel
theorem dX8_findDrift_23 : decode cX8_findDrift 23 = .ok (.iload_n 2, 1) := by decide +kernel
theorem dX8_findDrift_24 : decode cX8_findDrift 24 = .ok (.iload_n 1, 1) := by decide +kernel
theorem dX8_findDrift_25 : decode cX8_findDrift 25 = .ok (.invokevirtual 253, 3) := by decide +kernel
theorem dX8_findDrift_28 : decode cX8_findDrift 28 = .ok (.ifCond .eq 7, 3) := by decide +kernel
theorem dX8_findDrift_31 : decode cX8_findDrift 31 = .ok (.iconst 1, 1) := by decide +kernel
theorem dX8_findDrift_32 : decode cX8_findDrift 32 = .ok (.goto 4, 3) := by decide +kernel
theorem dX8_findDrift_35 : decode cX8_findDrift 35 = .ok (.iconst 0, 1) := by decide +kernel
theorem dX8_findDrift_36 : decode cX8_findDrift 36 = .ok (.bastore, 1) := by decide +kernel
theorem dX8_findDrift_37 : decode cX8_findDrift 37 = .ok (.aload_n 0, 1) := by decide +kernel
theorem dX8_findDrift_38 : decode cX8_findDrift 38 = .ok (.getfield 87, 3) := by decide +kernel
theorem dX8_findDrift_41 : decode cX8_findDrift 41 = .ok (.iload_n 2, 1) := by decide +kernel
theorem dX8_findDrift_42 : decode cX8_findDrift 42 = .ok (.baload, 1) := by decide +kernel
theorem dX8_findDrift_43 : decode cX8_findDrift 43 = .ok (.ifCond .eq 40, 3) := by decide +kernel
theorem dX8_findDrift_46 : decode cX8_findDrift 46 = .ok (.aload_n 0, 1) := by decide +kernel
theorem dX8_findDrift_47 : decode cX8_findDrift 47 = .ok (.iload_n 2, 1) := by decide +kernel
theorem dX8_findDrift_48 : decode cX8_findDrift 48 = .ok (.invokevirtual 256, 3) := by decide +kernel
theorem dX8_findDrift_51 : decode cX8_findDrift 51 = .ok (.aload_n 0, 1) := by decide +kernel
theorem dX8_findDrift_52 : decode cX8_findDrift 52 = .ok (.getfield 84, 3) := by decide +kernel
theorem dX8_findDrift_55 : decode cX8_findDrift 55 = .ok (.iload_n 2, 1) := by decide +kernel
theorem dX8_findDrift_56 : decode cX8_findDrift 56 = .ok (.aload_n 0, 1) := by decide +kernel
theorem dX8_findDrift_57 : decode cX8_findDrift 57 = .ok (.getfield 72, 3) := by decide +kernel
theorem dX8_findDrift_60 : decode cX8_findDrift 60 = .ok (.iload_n 1, 1) := by decide +kernel
theorem dX8_findDrift_61 : decode cX8_findDrift 61 = .ok (.iaload, 1) := by decide +kernel
theorem dX8_findDrift_62 : decode cX8_findDrift 62 = .ok (.i2l, 1) := by decide +kernel
theorem dX8_findDrift_63 : decode cX8_findDrift 63 = .ok (.aload_n 0, 1) := by decide +kernel
theorem dX8_findDrift_64 : decode cX8_findDrift 64 = .ok (.iload_n 2, 1) := by decide +kernel
theorem dX8_findDrift_65 : decode cX8_findDrift 65 = .ok (.aload_n 0, 1) := by decide +kernel
theorem dX8_findDrift_66 : decode cX8_findDrift 66 = .ok (.getfield 23, 3) := by decide +kernel
theorem dX8_findDrift_69 : decode cX8_findDrift 69 = .ok (.iload_n 1, 1) := by decide +kernel
theorem dX8_findDrift_70 : decode cX8_findDrift 70 = .ok (.iaload, 1) := by decide +kernel
theorem dX8_findDrift_71 : decode cX8_findDrift 71 = .ok (.aload_n 0, 1) := by decide +kernel
theorem dX8_findDrift_72 : decode cX8_findDrift 72 = .ok (.getfield 26, 3) := by decide +kernel
theorem dX8_findDrift_75 : decode cX8_findDrift 75 = .ok (.iload_n 1, 1) := by decide +kernel
theorem dX8_findDrift_76 : decode cX8_findDrift 76 = .ok (.iaload, 1) := by decide +kernel
theorem dX8_findDrift_77 : decode cX8_findDrift 77 = .ok (.iload_n 1, 1) := by decide +kernel
theorem dX8_findDrift_78 : decode cX8_findDrift 78 = .ok (.invokevirtual 259, 3) := by decide +kernel
theorem dX8_findDrift_81 : decode cX8_findDrift 81 = .ok (.lsub, 1) := by decide +kernel
theorem dX8_findDrift_82 : decode cX8_findDrift 82 = .ok (.lastore, 1) := by decide +kernel
theorem dX8_findDrift_83 : decode cX8_findDrift 83 = .ok (.iinc 2 1, 3) := by decide +kernel
theorem dX8_findDrift_86 : decode cX8_findDrift 86 = .ok (.goto (-84), 3) := by decide +kernel
theorem dX8_findDrift_89 : decode cX8_findDrift 89 = .ok (.aload_n 0, 1) := by decide +kernel
theorem dX8_findDrift_90 : decode cX8_findDrift 90 = .ok (.bipush (-6), 2) := by decide +kernel
theorem dX8_findDrift_92 : decode cX8_findDrift 92 = .ok (.putfield 299, 3) := by decide +kernel
theorem dX8_findDrift_95 : decode cX8_findDrift 95 = .ok (.aload_n 0, 1) := by decide +kernel
theorem dX8_findDrift_96 : decode cX8_findDrift 96 = .ok (.lconst 0, 1) := by decide +kernel
theorem dX8_findDrift_97 : decode cX8_findDrift 97 = .ok (.putfield 302, 3) := by decide +kernel
theorem dX8_findDrift_100 : decode cX8_findDrift 100 = .ok (.aload_n 0, 1) := by decide +kernel
theorem dX8_findDrift_101 : decode cX8_findDrift 101 = .ok (.lconst 1, 1) := by decide +kernel
theorem dX8_findDrift_102 : decode cX8_findDrift 102 = .ok (.putfield 305, 3) := by decide +kernel
theorem dX8_findDrift_105 : decode cX8_findDrift 105 = .ok (.iconst 0, 1) := by decide +kernel
theorem dX8_findDrift_106 : decode cX8_findDrift 106 = .ok (.istore_n 2, 1) := by decide +kernel
theorem dX8_findDrift_107 : decode cX8_findDrift 107 = .ok (.iload_n 2, 1) := by decide +kernel
theorem dX8_findDrift_108 : decode cX8_findDrift 108 = .ok (.bipush 48, 2) := by decide +kernel
theorem dX8_findDrift_110 : decode cX8_findDrift 110 = .ok (.if_icmp .ge 23, 3) := by decide +kernel
theorem dX8_findDrift_113 : decode cX8_findDrift 113 = .ok (.aload_n 0, 1) := by decide +kernel
theorem dX8_findDrift_114 : decode cX8_findDrift 114 = .ok (.getfield 87, 3) := by decide +kernel
theorem dX8_findDrift_117 : decode cX8_findDrift 117 = .ok (.iload_n 2, 1) := by decide +kernel
theorem dX8_findDrift_118 : decode cX8_findDrift 118 = .ok (.baload, 1) := by decide +kernel
theorem dX8_findDrift_119 : decode cX8_findDrift 119 = .ok (.ifCond .eq 8, 3) := by decide +kernel
theorem dX8_findDrift_122 : decode cX8_findDrift 122 = .ok (.aload_n 0, 1) := by decide +kernel
theorem dX8_findDrift_123 : decode cX8_findDrift 123 = .ok (.iload_n 2, 1) := by decide +kernel
theorem dX8_findDrift_124 : decode cX8_findDrift 124 = .ok (.invokevirtual 308, 3) := by decide +kernel
theorem dX8_findDrift_127 : decode cX8_findDrift 127 = .ok (.iinc 2 1, 3) := by decide +kernel
theorem dX8_findDrift_130 : decode cX8_findDrift 130 = .ok (.goto (-23), 3) := by decide +kernel
theorem dX8_findDrift_133 : decode cX8_findDrift 133 = .ok (.aload_n 0, 1) := by decide +kernel
theorem dX8_findDrift_134 : decode cX8_findDrift 134 = .ok (.getfield 299, 3) := by decide +kernel
theorem dX8_findDrift_137 : decode cX8_findDrift 137 = .ok (.ifCond .lt 7, 3) := by decide +kernel
theorem dX8_findDrift_140 : decode cX8_findDrift 140 = .ok (.iconst 1, 1) := by decide +kernel
theorem dX8_findDrift_141 : decode cX8_findDrift 141 = .ok (.goto 4, 3) := by decide +kernel
theorem dX8_findDrift_144 : decode cX8_findDrift 144 = .ok (.iconst 0, 1) := by decide +kernel
theorem dX8_findDrift_145 : decode cX8_findDrift 145 = .ok (.ireturn, 1) := by decide +kernel
theorem dX8_tryHour_0 : decode cX8_tryHour 0 = .ok (.lconst 0, 1) := by decide +kernel
theorem dX8_tryHour_1 : decode cX8_tryHour 1 = .ok (.lstore_n 2, 1) := by decide +kernel
theorem dX8_tryHour_2 : decode cX8_tryHour 2 = .ok (.lconst 0, 1) := by decide +kernel
theorem dX8_tryHour_3 : decode cX8_tryHour 3 = .ok (.lstore 4, 2) := by decide +kernel
theorem dX8_tryHour_5 : decode cX8_tryHour 5 = .ok (.lconst 0, 1) := by decide +kernel
theorem dX8_tryHour_6 : decode cX8_tryHour 6 = .ok (.lstore 6, 2) := by decide +kernel
theorem dX8_tryHour_8 : decode cX8_tryHour 8 = .ok (.lconst 0, 1) := by decide +kernel
theorem dX8_tryHour_9 : decode cX8_tryHour 9 = .ok (.lstore 8, 2) := by decide +kernel
theorem dX8_tryHour_11 : decode cX8_tryHour 11 = .ok (.iconst 0, 1) := by decide +kernel
theorem dX8_tryHour_12 : decode cX8_tryHour 12 = .ok (.istore 10, 2) := by decide +kernel
theorem dX8_tryHour_14 : decode cX8_tryHour 14 = .ok (.iload 10, 2) := by decide +kernel
theorem dX8_tryHour_16 : decode cX8_tryHour 16 = .ok (.bipush 48, 2) := by decide +kernel
theorem dX8_tryHour_18 : decode cX8_tryHour 18 = .ok (.if_icmp .ge 72, 3) := by decide +kernel
theorem dX8_tryHour_21 : decode cX8_tryHour 21 = .ok (.aload_n 0, 1) := by decide +kernel
theorem dX8_tryHour_22 : decode cX8_tryHour 22 = .ok (.getfield 87, 3) := by decide +kernel
theorem dX8_tryHour_25 : decode cX8_tryHour 25 = .ok (.iload 10, 2) := by decide +kernel
theorem dX8_tryHour_27 : decode cX8_tryHour 27 = .ok (.baload, 1) := by decide +kernel
theorem dX8_tryHour_28 : decode cX8_tryHour 28 = .ok (.ifCond .eq 28, 3) := by decide +kernel
theorem dX8_tryHour_31 : decode cX8_tryHour 31 = .ok (.iload 10, 2) := by decide +kernel
theorem dX8_tryHour_33 : decode cX8_tryHour 33 = .ok (.iload_n 1, 1) := by decide +kernel
theorem dX8_tryHour_34 : decode cX8_tryHour 34 = .ok (.if_icmp .ge 22, 3) := by decide +kernel
theorem dX8_tryHour_37 : decode cX8_tryHour 37 = .ok (.lload_n 2, 1) := by decide +kernel
theorem dX8_tryHour_38 : decode cX8_tryHour 38 = .ok (.aload_n 0, 1) := by decide +kernel
theorem dX8_tryHour_39 : decode cX8_tryHour 39 = .ok (.getfield 84, 3) := by decide +kernel
theorem dX8_tryHour_42 : decode cX8_tryHour 42 = .ok (.iload 10, 2) := by decide +kernel
theorem dX8_tryHour_44 : decode cX8_tryHour 44 = .ok (.laload, 1) := by decide +kernel
theorem dX8_tryHour_45 : decode cX8_tryHour 45 = .ok (.ladd, 1) := by decide +kernel
theorem dX8_tryHour_46 : decode cX8_tryHour 46 = .ok (.lstore_n 2, 1) := by decide +kernel
theorem dX8_tryHour_47 : decode cX8_tryHour 47 = .ok (.lload 6, 2) := by decide +kernel
theorem dX8_tryHour_49 : decode cX8_tryHour 49 = .ok (.lconst 1, 1) := by decide +kernel
theorem dX8_tryHour_50 : decode cX8_tryHour 50 = .ok (.ladd, 1) := by decide +kernel
theorem dX8_tryHour_51 : decode cX8_tryHour 51 = .ok (.lstore 6, 2) := by decide +kernel
theorem dX8_tryHour_53 : decode cX8_tryHour 53 = .ok (.goto 31, 3) := by decide +kernel
theorem dX8_tryHour_56 : decode cX8_tryHour 56 = .ok (.aload_n 0, 1) := by decide +kernel
theorem dX8_tryHour_57 : decode cX8_tryHour 57 = .ok (.getfield 87, 3) := by decide +kernel
theorem dX8_tryHour_60 : decode cX8_tryHour 60 = .ok (.iload 10, 2) := by decide +kernel
theorem dX8_tryHour_62 : decode cX8_tryHour 62 = .ok (.baload, 1) := by decide +kernel
theorem dX8_tryHour_63 : decode cX8_tryHour 63 = .ok (.ifCond .eq 21, 3) := by decide +kernel
theorem dX8_tryHour_66 : decode cX8_tryHour 66 = .ok (.lload 4, 2) := by decide +kernel
theorem dX8_tryHour_68 : decode cX8_tryHour 68 = .ok (.aload_n 0, 1) := by decide +kernel
theorem dX8_tryHour_69 : decode cX8_tryHour 69 = .ok (.getfield 84, 3) := by decide +kernel
theorem dX8_tryHour_72 : decode cX8_tryHour 72 = .ok (.iload 10, 2) := by decide +kernel
theorem dX8_tryHour_74 : decode cX8_tryHour 74 = .ok (.laload, 1) := by decide +kernel
theorem dX8_tryHour_75 : decode cX8_tryHour 75 = .ok (.ladd, 1) := by decide +kernel
theorem dX8_tryHour_76 : decode cX8_tryHour 76 = .ok (.lstore 4, 2) := by decide +kernel
theorem dX8_tryHour_78 : decode cX8_tryHour 78 = .ok (.lload 8, 2) := by decide +kernel
theorem dX8_tryHour_80 : decode cX8_tryHour 80 = .ok (.lconst 1, 1) := by decide +kernel
theorem dX8_tryHour_81 : decode cX8_tryHour 81 = .ok (.ladd, 1) := by decide +kernel
theorem dX8_tryHour_82 : decode cX8_tryHour 82 = .ok (.lstore 8, 2) := by decide +kernel
theorem dX8_tryHour_84 : decode cX8_tryHour 84 = .ok (.iinc 10 1, 3) := by decide +kernel
theorem dX8_tryHour_87 : decode cX8_tryHour 87 = .ok (.goto (-73), 3) := by decide +kernel
theorem dX8_tryHour_90 : decode cX8_tryHour 90 = .ok (.lload 6, 2) := by decide +kernel
theorem dX8_tryHour_92 : decode cX8_tryHour 92 = .ok (.ldc2_w 202, 3) := by decide +kernel
theorem dX8_tryHour_95 : decode cX8_tryHour 95 = .ok (.lcmp, 1) := by decide +kernel
theorem dX8_tryHour_96 : decode cX8_tryHour 96 = .ok (.ifCond .lt 12, 3) := by decide +kernel
theorem dX8_tryHour_99 : decode cX8_tryHour 99 = .ok (.lload 8, 2) := by decide +kernel
theorem dX8_tryHour_101 : decode cX8_tryHour 101 = .ok (.ldc2_w 202, 3) := by decide +kernel
theorem dX8_tryHour_104 : decode cX8_tryHour 104 = .ok (.lcmp, 1) := by decide +kernel
theorem dX8_tryHour_105 : decode cX8_tryHour 105 = .ok (.ifCond .ge 4, 3) := by decide +kernel
theorem dX8_tryHour_108 : decode cX8_tryHour 108 = .ok (.return_, 1) := by decide +kernel
theorem dX8_tryHour_109 : decode cX8_tryHour 109 = .ok (.lload 4, 2) := by decide +kernel
theorem dX8_tryHour_111 : decode cX8_tryHour 111 = .ok (.lload 6, 2) := by decide +kernel
theorem dX8_tryHour_113 : decode cX8_tryHour 113 = .ok (.lmul, 1) := by decide +kernel
theorem dX8_tryHour_114 : decode cX8_tryHour 114 = .ok (.lload_n 2, 1) := by decide +kernel
theorem dX8_tryHour_115 : decode cX8_tryHour 115 = .ok (.lload 8, 2) := by decide +kernel
theorem dX8_tryHour_117 : decode cX8_tryHour 117 = .ok (.lmul, 1) := by decide +kernel
theorem dX8_tryHour_118 : decode cX8_tryHour 118 = .ok (.lsub, 1) := by decide +kernel
theorem dX8_tryHour_119 : decode cX8_tryHour 119 = .ok (.lstore 10, 2) := by decide +kernel
theorem dX8_tryHour_121 : decode cX8_tryHour 121 = .ok (.lload 6, 2) := by decide +kernel
theorem dX8_tryHour_123 : decode cX8_tryHour 123 = .ok (.lload 8, 2) := by decide +kernel
theorem dX8_tryHour_125 : decode cX8_tryHour 125 = .ok (.lmul, 1) := by decide +kernel
theorem dX8_tryHour_126 : decode cX8_tryHour 126 = .ok (.lstore 12, 2) := by decide +kernel
theorem dX8_tryHour_128 : decode cX8_tryHour 128 = .ok (.aload_n 0, 1) := by decide +kernel
theorem dX8_tryHour_129 : decode cX8_tryHour 129 = .ok (.getfield 299, 3) := by decide +kernel
theorem dX8_tryHour_132 : decode cX8_tryHour 132 = .ok (.ifCond .lt 27, 3) := by decide +kernel
theorem dX8_tryHour_135 : decode cX8_tryHour 135 = .ok (.lload 10, 2) := by decide +kernel
theorem dX8_tryHour_137 : decode cX8_tryHour 137 = .ok (.invokestatic 92, 3) := by decide +kernel
theorem dX8_tryHour_140 : decode cX8_tryHour 140 = .ok (.aload_n 0, 1) := by decide +kernel
theorem dX8_tryHour_141 : decode cX8_tryHour 141 = .ok (.getfield 305, 3) := by decide +kernel
theorem dX8_tryHour_144 : decode cX8_tryHour 144 = .ok (.lmul, 1) := by decide +kernel
theorem dX8_tryHour_145 : decode cX8_tryHour 145 = .ok (.aload_n 0, 1) := by decide +kernel
theorem dX8_tryHour_146 : decode cX8_tryHour 146 = .ok (.getfield 302, 3) := by decide +kernel
theorem dX8_tryHour_149 : decode cX8_tryHour 149 = .ok (.invokestatic 92, 3) := by decide +kernel
theorem dX8_tryHour_152 : decode cX8_tryHour 152 = .ok (.lload 12, 2) := by decide +kernel
theorem dX8_tryHour_154 : decode cX8_tryHour 154 = .ok (.lmul, 1) := by decide +kernel
theorem dX8_tryHour_155 : decode cX8_tryHour 155 = .ok (.lcmp, 1) := by decide +kernel
theorem dX8_tryHour_156 : decode cX8_tryHour 156 = .ok (.ifCond .le 20, 3) := by decide +kernel
theorem dX8_tryHour_159 : decode cX8_tryHour 159 = .ok (.aload_n 0, 1) := by decide +kernel
theorem dX8_tryHour_160 : decode cX8_tryHour 160 = .ok (.iload_n 1, 1) := by decide +kernel
theorem dX8_tryHour_161 : decode cX8_tryHour 161 = .ok (.putfield 299, 3) := by decide +kernel
theorem dX8_tryHour_164 : decode cX8_tryHour 164 = .ok (.aload_n 0, 1) := by decide +kernel
theorem dX8_tryHour_165 : decode cX8_tryHour 165 = .ok (.lload 10, 2) := by decide +kernel
theorem dX8_tryHour_167 : decode cX8_tryHour 167 = .ok (.putfield 302, 3) := by decide +kernel
theorem dX8_tryHour_170 : decode cX8_tryHour 170 = .ok (.aload_n 0, 1) := by decide +kernel
theorem dX8_tryHour_171 : decode cX8_tryHour 171 = .ok (.lload 12, 2) := by decide +kernel
theorem dX8_tryHour_173 : decode cX8_tryHour 173 = .ok (.putfield 305, 3) := by decide +kernel
theorem dX8_tryHour_176 : decode cX8_tryHour 176 = .ok (.return_, 1) := by decide +kernel
theorem dX8_drift_0 : decode cX8_drift 0 = .ok (.aload_n 0, 1) := by decide +kernel
theorem dX8_drift_1 : decode cX8_drift 1 = .ok (.iload_n 1, 1) := by decide +kernel
theorem dX8_drift_2 : decode cX8_drift 2 = .ok (.invokevirtual 166, 3) := by decide +kernel
theorem dX8_drift_5 : decode cX8_drift 5 = .ok (.ifCond .ne 7, 3) := by decide +kernel
theorem dX8_drift_8 : decode cX8_drift 8 = .ok (.ldc2_w 136, 3) := by decide +kernel
theorem dX8_drift_11 : decode cX8_drift 11 = .ok (.lreturn, 1) := by decide +kernel
theorem dX8_drift_12 : decode cX8_drift 12 = .ok (.iload_n 2, 1) := by decide +kernel
theorem dX8_drift_13 : decode cX8_drift 13 = .ok (.i2l, 1) := by decide +kernel
theorem dX8_drift_14 : decode cX8_drift 14 = .ok (.lconst 0, 1) := by decide +kernel
theorem dX8_drift_15 : decode cX8_drift 15 = .ok (.ldc2_w 202, 3) := by decide +kernel
theorem dX8_drift_18 : decode cX8_drift 18 = .ok (.invokestatic 102, 3) := by decide +kernel
theorem dX8_drift_21 : decode cX8_drift 21 = .ok (.ifCond .ne 7, 3) := by decide +kernel
theorem dX8_drift_24 : decode cX8_drift 24 = .ok (.ldc2_w 138, 3) := by decide +kernel
theorem dX8_drift_27 : decode cX8_drift 27 = .ok (.lreturn, 1) := by decide +kernel
theorem dX8_drift_28 : decode cX8_drift 28 = .ok (.aload_n 0, 1) := by decide +kernel
theorem dX8_drift_29 : decode cX8_drift 29 = .ok (.iload_n 1, 1) := by decide +kernel
theorem dX8_drift_30 : decode cX8_drift 30 = .ok (.invokevirtual 311, 3) := by decide +kernel
theorem dX8_drift_33 : decode cX8_drift 33 = .ok (.ifCond .ne 7, 3) := by decide +kernel
theorem dX8_drift_36 : decode cX8_drift 36 = .ok (.ldc2_w 197, 3) := by decide +kernel
theorem dX8_drift_39 : decode cX8_drift 39 = .ok (.lreturn, 1) := by decide +kernel
theorem dX8_drift_40 : decode cX8_drift 40 = .ok (.iload_n 2, 1) := by decide +kernel
theorem dX8_drift_41 : decode cX8_drift 41 = .ok (.ifCond .ne 11, 3) := by decide +kernel
theorem dX8_drift_44 : decode cX8_drift 44 = .ok (.aload_n 0, 1) := by decide +kernel
theorem dX8_drift_45 : decode cX8_drift 45 = .ok (.getfield 299, 3) := by decide +kernel
theorem dX8_drift_48 : decode cX8_drift 48 = .ok (.i2l, 1) := by decide +kernel
theorem dX8_drift_49 : decode cX8_drift 49 = .ok (.goto 17, 3) := by decide +kernel
theorem dX8_drift_52 : decode cX8_drift 52 = .ok (.aload_n 0, 1) := by decide +kernel
theorem dX8_drift_53 : decode cX8_drift 53 = .ok (.getfield 302, 3) := by decide +kernel
theorem dX8_drift_56 : decode cX8_drift 56 = .ok (.aload_n 0, 1) := by decide +kernel
end
section
theorem dX8_drift_57 : decode cX8_drift 57 = .ok (.getfield 305, 3) := by decide +kernel
theorem dX8_drift_60 : decode cX8_drift 60 = .ok (.iload_n 2, 1) := by decide +kernel
theorem dX8_drift_61 : decode cX8_drift 61 = .ok (.iconst 1, 1) := by decide +kernel
theorem dX8_drift_62 : decode cX8_drift 62 = .ok (.isub, 1) := by decide +kernel
theorem dX8_drift_63 : decode cX8_drift 63 = .ok (.invokestatic 132, 3) := by decide +kernel
theorem dX8_drift_66 : decode cX8_drift 66 = .ok (.lreturn, 1) := by decide +kernel
theorem dX8_mend_0 : decode cX8_mend 0 = .ok (.aload_n 0, 1) := by decide +kernel
theorem dX8_mend_1 : decode cX8_mend 1 = .ok (.iload_n 1, 1) := by decide +kernel
theorem dX8_mend_2 : decode cX8_mend 2 = .ok (.invokevirtual 166, 3) := by decide +kernel
theorem dX8_mend_5 : decode cX8_mend 5 = .ok (.ifCond .ne 7, 3) := by decide +kernel
theorem dX8_mend_8 : decode cX8_mend 8 = .ok (.ldc2_w 136, 3) := by decide +kernel
theorem dX8_mend_11 : decode cX8_mend 11 = .ok (.lreturn, 1) := by decide +kernel
theorem dX8_mend_12 : decode cX8_mend 12 = .ok (.aload_n 0, 1) := by decide +kernel
theorem dX8_mend_13 : decode cX8_mend 13 = .ok (.getfield 47, 3) := by decide +kernel
theorem dX8_mend_16 : decode cX8_mend 16 = .ok (.iload_n 1, 1) := by decide +kernel
theorem dX8_mend_17 : decode cX8_mend 17 = .ok (.iaload, 1) := by decide +kernel
theorem dX8_mend_18 : decode cX8_mend 18 = .ok (.iconst 3, 1) := by decide +kernel
theorem dX8_mend_19 : decode cX8_mend 19 = .ok (.if_icmp .ne 7, 3) := by decide +kernel
theorem dX8_mend_22 : decode cX8_mend 22 = .ok (.ldc2_w 314, 3) := by decide +kernel
theorem dX8_mend_25 : decode cX8_mend 25 = .ok (.lreturn, 1) := by decide +kernel
theorem dX8_mend_26 : decode cX8_mend 26 = .ok (.aload_n 0, 1) := by decide +kernel
theorem dX8_mend_27 : decode cX8_mend 27 = .ok (.iload_n 1, 1) := by decide +kernel
theorem dX8_mend_28 : decode cX8_mend 28 = .ok (.invokevirtual 311, 3) := by decide +kernel
theorem dX8_mend_31 : decode cX8_mend 31 = .ok (.ifCond .ne 7, 3) := by decide +kernel
theorem dX8_mend_34 : decode cX8_mend 34 = .ok (.ldc2_w 197, 3) := by decide +kernel
theorem dX8_mend_37 : decode cX8_mend 37 = .ok (.lreturn, 1) := by decide +kernel
theorem dX8_mend_38 : decode cX8_mend 38 = .ok (.aload_n 0, 1) := by decide +kernel
theorem dX8_mend_39 : decode cX8_mend 39 = .ok (.getfield 302, 3) := by decide +kernel
theorem dX8_mend_42 : decode cX8_mend 42 = .ok (.aload_n 0, 1) := by decide +kernel
theorem dX8_mend_43 : decode cX8_mend 43 = .ok (.getfield 305, 3) := by decide +kernel
theorem dX8_mend_46 : decode cX8_mend 46 = .ok (.ldiv, 1) := by decide +kernel
theorem dX8_mend_47 : decode cX8_mend 47 = .ok (.lstore_n 2, 1) := by decide +kernel
theorem dX8_mend_48 : decode cX8_mend 48 = .ok (.aload_n 0, 1) := by decide +kernel
theorem dX8_mend_49 : decode cX8_mend 49 = .ok (.getfield 41, 3) := by decide +kernel
theorem dX8_mend_52 : decode cX8_mend 52 = .ok (.iconst 3, 1) := by decide +kernel
theorem dX8_mend_53 : decode cX8_mend 53 = .ok (.iload_n 1, 1) := by decide +kernel
theorem dX8_mend_54 : decode cX8_mend 54 = .ok (.imul, 1) := by decide +kernel
theorem dX8_mend_55 : decode cX8_mend 55 = .ok (.aload_n 0, 1) := by decide +kernel
theorem dX8_mend_56 : decode cX8_mend 56 = .ok (.getfield 47, 3) := by decide +kernel
theorem dX8_mend_59 : decode cX8_mend 59 = .ok (.iload_n 1, 1) := by decide +kernel
theorem dX8_mend_60 : decode cX8_mend 60 = .ok (.iaload, 1) := by decide +kernel
theorem dX8_mend_61 : decode cX8_mend 61 = .ok (.iadd, 1) := by decide +kernel
theorem dX8_mend_62 : decode cX8_mend 62 = .ok (.aload_n 0, 1) := by decide +kernel
theorem dX8_mend_63 : decode cX8_mend 63 = .ok (.getfield 299, 3) := by decide +kernel
theorem dX8_mend_66 : decode cX8_mend 66 = .ok (.iastore, 1) := by decide +kernel
theorem dX8_mend_67 : decode cX8_mend 67 = .ok (.aload_n 0, 1) := by decide +kernel
theorem dX8_mend_68 : decode cX8_mend 68 = .ok (.getfield 44, 3) := by decide +kernel
theorem dX8_mend_71 : decode cX8_mend 71 = .ok (.iconst 3, 1) := by decide +kernel
theorem dX8_mend_72 : decode cX8_mend 72 = .ok (.iload_n 1, 1) := by decide +kernel
theorem dX8_mend_73 : decode cX8_mend 73 = .ok (.imul, 1) := by decide +kernel
theorem dX8_mend_74 : decode cX8_mend 74 = .ok (.aload_n 0, 1) := by decide +kernel
theorem dX8_mend_75 : decode cX8_mend 75 = .ok (.getfield 47, 3) := by decide +kernel
theorem dX8_mend_78 : decode cX8_mend 78 = .ok (.iload_n 1, 1) := by decide +kernel
theorem dX8_mend_79 : decode cX8_mend 79 = .ok (.iaload, 1) := by decide +kernel
theorem dX8_mend_80 : decode cX8_mend 80 = .ok (.iadd, 1) := by decide +kernel
theorem dX8_mend_81 : decode cX8_mend 81 = .ok (.lload_n 2, 1) := by decide +kernel
theorem dX8_mend_82 : decode cX8_mend 82 = .ok (.lastore, 1) := by decide +kernel
theorem dX8_mend_83 : decode cX8_mend 83 = .ok (.aload_n 0, 1) := by decide +kernel
theorem dX8_mend_84 : decode cX8_mend 84 = .ok (.getfield 47, 3) := by decide +kernel
theorem dX8_mend_87 : decode cX8_mend 87 = .ok (.iload_n 1, 1) := by decide +kernel
theorem dX8_mend_88 : decode cX8_mend 88 = .ok (.dup2, 1) := by decide +kernel
theorem dX8_mend_89 : decode cX8_mend 89 = .ok (.iaload, 1) := by decide +kernel
theorem dX8_mend_90 : decode cX8_mend 90 = .ok (.iconst 1, 1) := by decide +kernel
theorem dX8_mend_91 : decode cX8_mend 91 = .ok (.iadd, 1) := by decide +kernel
theorem dX8_mend_92 : decode cX8_mend 92 = .ok (.iastore, 1) := by decide +kernel
theorem dX8_mend_93 : decode cX8_mend 93 = .ok (.lload_n 2, 1) := by decide +kernel
theorem dX8_mend_94 : decode cX8_mend 94 = .ok (.lreturn, 1) := by decide +kernel
theorem dX8_told_0 : decode cX8_told 0 = .ok (.iconst 0, 1) := by decide +kernel
theorem dX8_told_1 : decode cX8_told 1 = .ok (.istore_n 2, 1) := by decide +kernel
theorem dX8_told_2 : decode cX8_told 2 = .ok (.iload_n 1, 1) := by decide +kernel
theorem dX8_told_3 : decode cX8_told 3 = .ok (.tableswitch 113 0 4 #[33, 38, 76, 81, 86], 33) := by decide +kernel
theorem dX8_told_36 : decode cX8_told 36 = .ok (.aload_n 0, 1) := by decide +kernel
theorem dX8_told_37 : decode cX8_told 37 = .ok (.getfield 154, 3) := by decide +kernel
theorem dX8_told_40 : decode cX8_told 40 = .ok (.ireturn, 1) := by decide +kernel
theorem dX8_told_41 : decode cX8_told 41 = .ok (.iconst 0, 1) := by decide +kernel
theorem dX8_told_42 : decode cX8_told 42 = .ok (.istore_n 3, 1) := by decide +kernel
theorem dX8_told_43 : decode cX8_told 43 = .ok (.iload_n 3, 1) := by decide +kernel
theorem dX8_told_44 : decode cX8_told 44 = .ok (.bipush 48, 2) := by decide +kernel
theorem dX8_told_46 : decode cX8_told 46 = .ok (.aload_n 0, 1) := by decide +kernel
theorem dX8_told_47 : decode cX8_told 47 = .ok (.getfield 154, 3) := by decide +kernel
theorem dX8_told_50 : decode cX8_told 50 = .ok (.imul, 1) := by decide +kernel
theorem dX8_told_51 : decode cX8_told 51 = .ok (.if_icmp .ge 26, 3) := by decide +kernel
theorem dX8_told_54 : decode cX8_told 54 = .ok (.iload_n 2, 1) := by decide +kernel
theorem dX8_told_55 : decode cX8_told 55 = .ok (.aload_n 0, 1) := by decide +kernel
theorem dX8_told_56 : decode cX8_told 56 = .ok (.getfield 35, 3) := by decide +kernel
theorem dX8_told_59 : decode cX8_told 59 = .ok (.iload_n 3, 1) := by decide +kernel
theorem dX8_told_60 : decode cX8_told 60 = .ok (.iaload, 1) := by decide +kernel
theorem dX8_told_61 : decode cX8_told 61 = .ok (.ifCond .le 7, 3) := by decide +kernel
theorem dX8_told_64 : decode cX8_told 64 = .ok (.iconst 1, 1) := by decide +kernel
theorem dX8_told_65 : decode cX8_told 65 = .ok (.goto 4, 3) := by decide +kernel
theorem dX8_told_68 : decode cX8_told 68 = .ok (.iconst 0, 1) := by decide +kernel
theorem dX8_told_69 : decode cX8_told 69 = .ok (.iadd, 1) := by decide +kernel
theorem dX8_told_70 : decode cX8_told 70 = .ok (.istore_n 2, 1) := by decide +kernel
theorem dX8_told_71 : decode cX8_told 71 = .ok (.iinc 3 1, 3) := by decide +kernel
theorem dX8_told_74 : decode cX8_told 74 = .ok (.goto (-31), 3) := by decide +kernel
theorem dX8_told_77 : decode cX8_told 77 = .ok (.iload_n 2, 1) := by decide +kernel
theorem dX8_told_78 : decode cX8_told 78 = .ok (.ireturn, 1) := by decide +kernel
theorem dX8_told_79 : decode cX8_told 79 = .ok (.aload_n 0, 1) := by decide +kernel
theorem dX8_told_80 : decode cX8_told 80 = .ok (.getfield 50, 3) := by decide +kernel
theorem dX8_told_83 : decode cX8_told 83 = .ok (.ireturn, 1) := by decide +kernel
theorem dX8_told_84 : decode cX8_told 84 = .ok (.aload_n 0, 1) := by decide +kernel
theorem dX8_told_85 : decode cX8_told 85 = .ok (.getfield 206, 3) := by decide +kernel
theorem dX8_told_88 : decode cX8_told 88 = .ok (.ireturn, 1) := by decide +kernel
theorem dX8_told_89 : decode cX8_told 89 = .ok (.iconst 0, 1) := by decide +kernel
theorem dX8_told_90 : decode cX8_told 90 = .ok (.istore_n 3, 1) := by decide +kernel
theorem dX8_told_91 : decode cX8_told 91 = .ok (.iload_n 3, 1) := by decide +kernel
theorem dX8_told_92 : decode cX8_told 92 = .ok (.aload_n 0, 1) := by decide +kernel
theorem dX8_told_93 : decode cX8_told 93 = .ok (.getfield 154, 3) := by decide +kernel
theorem dX8_told_96 : decode cX8_told 96 = .ok (.if_icmp .ge 18, 3) := by decide +kernel
theorem dX8_told_99 : decode cX8_told 99 = .ok (.iload_n 2, 1) := by decide +kernel
theorem dX8_told_100 : decode cX8_told 100 = .ok (.aload_n 0, 1) := by decide +kernel
theorem dX8_told_101 : decode cX8_told 101 = .ok (.getfield 47, 3) := by decide +kernel
theorem dX8_told_104 : decode cX8_told 104 = .ok (.iload_n 3, 1) := by decide +kernel
theorem dX8_told_105 : decode cX8_told 105 = .ok (.iaload, 1) := by decide +kernel
theorem dX8_told_106 : decode cX8_told 106 = .ok (.iadd, 1) := by decide +kernel
theorem dX8_told_107 : decode cX8_told 107 = .ok (.istore_n 2, 1) := by decide +kernel
theorem dX8_told_108 : decode cX8_told 108 = .ok (.iinc 3 1, 3) := by decide +kernel
theorem dX8_told_111 : decode cX8_told 111 = .ok (.goto (-20), 3) := by decide +kernel
theorem dX8_told_114 : decode cX8_told 114 = .ok (.iload_n 2, 1) := by decide +kernel
theorem dX8_told_115 : decode cX8_told 115 = .ok (.ireturn, 1) := by decide +kernel
theorem dX8_told_116 : decode cX8_told 116 = .ok (.bipush (-2), 2) := by decide +kernel
theorem dX8_told_118 : decode cX8_told 118 = .ok (.ireturn, 1) := by decide +kernel
theorem dL_law_0 : decode cL_law 0 = .ok (.new 7, 3) := by decide +kernel
theorem dL_law_3 : decode cL_law 3 = .ok (.dup, 1) := by decide +kernel
theorem dL_law_4 : decode cL_law 4 = .ok (.invokespecial 9, 3) := by decide +kernel
theorem dL_law_7 : decode cL_law 7 = .ok (.astore_n 1, 1) := by decide +kernel
theorem dL_law_8 : decode cL_law 8 = .ok (.new 10, 3) := by decide +kernel
theorem dL_law_11 : decode cL_law 11 = .ok (.dup, 1) := by decide +kernel
theorem dL_law_12 : decode cL_law 12 = .ok (.invokespecial 12, 3) := by decide +kernel
theorem dL_law_15 : decode cL_law 15 = .ok (.astore_n 2, 1) := by decide +kernel
theorem dL_law_16 : decode cL_law 16 = .ok (.iconst 0, 1) := by decide +kernel
theorem dL_law_17 : decode cL_law 17 = .ok (.istore_n 3, 1) := by decide +kernel
theorem dL_law_18 : decode cL_law 18 = .ok (.iload_n 3, 1) := by decide +kernel
theorem dL_law_19 : decode cL_law 19 = .ok (.aload_n 0, 1) := by decide +kernel
theorem dL_law_20 : decode cL_law 20 = .ok (.arraylength, 1) := by decide +kernel
theorem dL_law_21 : decode cL_law 21 = .ok (.bipush 6, 2) := by decide +kernel
theorem dL_law_23 : decode cL_law 23 = .ok (.isub, 1) := by decide +kernel
theorem dL_law_24 : decode cL_law 24 = .ok (.if_icmp .gt 1133, 3) := by decide +kernel
theorem dL_law_27 : decode cL_law 27 = .ok (.aload_n 0, 1) := by decide +kernel
theorem dL_law_28 : decode cL_law 28 = .ok (.iload_n 3, 1) := by decide +kernel
theorem dL_law_29 : decode cL_law 29 = .ok (.iaload, 1) := by decide +kernel
theorem dL_law_30 : decode cL_law 30 = .ok (.bipush 31, 2) := by decide +kernel
theorem dL_law_32 : decode cL_law 32 = .ok (.iand, 1) := by decide +kernel
theorem dL_law_33 : decode cL_law 33 = .ok (.tableswitch 1118 0 25 #[119, 162, 195, 258, 292, 336, 389, 442, 475, 519, 563, 607, 630, 683, 696, 730, 764, 777, 821, 865, 898, 941, 984, 1037, 1071, 1095], 119) := by decide +kernel
theorem dL_law_152 : decode cL_law 152 = .ok (.aload_n 1, 1) := by decide +kernel
theorem dL_law_153 : decode cL_law 153 = .ok (.aload_n 0, 1) := by decide +kernel
theorem dL_law_154 : decode cL_law 154 = .ok (.iload_n 3, 1) := by decide +kernel
theorem dL_law_155 : decode cL_law 155 = .ok (.iconst 1, 1) := by decide +kernel
theorem dL_law_156 : decode cL_law 156 = .ok (.iadd, 1) := by decide +kernel
theorem dL_law_157 : decode cL_law 157 = .ok (.iaload, 1) := by decide +kernel
theorem dL_law_158 : decode cL_law 158 = .ok (.aload_n 0, 1) := by decide +kernel
theorem dL_law_159 : decode cL_law 159 = .ok (.iload_n 3, 1) := by decide +kernel
theorem dL_law_160 : decode cL_law 160 = .ok (.iconst 2, 1) := by decide +kernel
theorem dL_law_161 : decode cL_law 161 = .ok (.iadd, 1) := by decide +kernel
theorem dL_law_162 : decode cL_law 162 = .ok (.iaload, 1) := by decide +kernel
theorem dL_law_163 : decode cL_law 163 = .ok (.aload_n 0, 1) := by decide +kernel
theorem dL_law_164 : decode cL_law 164 = .ok (.iload_n 3, 1) := by decide +kernel
theorem dL_law_165 : decode cL_law 165 = .ok (.iconst 3, 1) := by decide +kernel
theorem dL_law_166 : decode cL_law 166 = .ok (.iadd, 1) := by decide +kernel
theorem dL_law_167 : decode cL_law 167 = .ok (.iaload, 1) := by decide +kernel
theorem dL_law_168 : decode cL_law 168 = .ok (.invokevirtual 13, 3) := by decide +kernel
theorem dL_law_171 : decode cL_law 171 = .ok (.aload_n 2, 1) := by decide +kernel
theorem dL_law_172 : decode cL_law 172 = .ok (.aload_n 0, 1) := by decide +kernel
theorem dL_law_173 : decode cL_law 173 = .ok (.iload_n 3, 1) := by decide +kernel
theorem dL_law_174 : decode cL_law 174 = .ok (.iconst 1, 1) := by decide +kernel
theorem dL_law_175 : decode cL_law 175 = .ok (.iadd, 1) := by decide +kernel
theorem dL_law_176 : decode cL_law 176 = .ok (.iaload, 1) := by decide +kernel
theorem dL_law_177 : decode cL_law 177 = .ok (.aload_n 0, 1) := by decide +kernel
theorem dL_law_178 : decode cL_law 178 = .ok (.iload_n 3, 1) := by decide +kernel
theorem dL_law_179 : decode cL_law 179 = .ok (.iconst 2, 1) := by decide +kernel
theorem dL_law_180 : decode cL_law 180 = .ok (.iadd, 1) := by decide +kernel
theorem dL_law_181 : decode cL_law 181 = .ok (.iaload, 1) := by decide +kernel
theorem dL_law_182 : decode cL_law 182 = .ok (.aload_n 0, 1) := by decide +kernel
theorem dL_law_183 : decode cL_law 183 = .ok (.iload_n 3, 1) := by decide +kernel
theorem dL_law_184 : decode cL_law 184 = .ok (.iconst 3, 1) := by decide +kernel
theorem dL_law_185 : decode cL_law 185 = .ok (.iadd, 1) := by decide +kernel
theorem dL_law_186 : decode cL_law 186 = .ok (.iaload, 1) := by decide +kernel
theorem dL_law_187 : decode cL_law 187 = .ok (.invokevirtual 17, 3) := by decide +kernel
theorem dL_law_190 : decode cL_law 190 = .ok (.if_icmp .eq 961, 3) := by decide +kernel
theorem dL_law_193 : decode cL_law 193 = .ok (.iconst 0, 1) := by decide +kernel
theorem dL_law_194 : decode cL_law 194 = .ok (.ireturn, 1) := by decide +kernel
theorem dL_law_195 : decode cL_law 195 = .ok (.aload_n 1, 1) := by decide +kernel
theorem dL_law_196 : decode cL_law 196 = .ok (.aload_n 0, 1) := by decide +kernel
theorem dL_law_197 : decode cL_law 197 = .ok (.iload_n 3, 1) := by decide +kernel
theorem dL_law_198 : decode cL_law 198 = .ok (.iconst 1, 1) := by decide +kernel
theorem dL_law_199 : decode cL_law 199 = .ok (.iadd, 1) := by decide +kernel
theorem dL_law_200 : decode cL_law 200 = .ok (.iaload, 1) := by decide +kernel
theorem dL_law_201 : decode cL_law 201 = .ok (.aload_n 0, 1) := by decide +kernel
theorem dL_law_202 : decode cL_law 202 = .ok (.iload_n 3, 1) := by decide +kernel
theorem dL_law_203 : decode cL_law 203 = .ok (.iconst 2, 1) := by decide +kernel
theorem dL_law_204 : decode cL_law 204 = .ok (.iadd, 1) := by decide +kernel
theorem dL_law_205 : decode cL_law 205 = .ok (.iaload, 1) := by decide +kernel
theorem dL_law_206 : decode cL_law 206 = .ok (.invokevirtual 18, 3) := by decide +kernel
theorem dL_law_209 : decode cL_law 209 = .ok (.aload_n 2, 1) := by decide +kernel
theorem dL_law_210 : decode cL_law 210 = .ok (.aload_n 0, 1) := by decide +kernel
theorem dL_law_211 : decode cL_law 211 = .ok (.iload_n 3, 1) := by decide +kernel
theorem dL_law_212 : decode cL_law 212 = .ok (.iconst 1, 1) := by decide +kernel
theorem dL_law_213 : decode cL_law 213 = .ok (.iadd, 1) := by decide +kernel
theorem dL_law_214 : decode cL_law 214 = .ok (.iaload, 1) := by decide +kernel
theorem dL_law_215 : decode cL_law 215 = .ok (.aload_n 0, 1) := by decide +kernel
theorem dL_law_216 : decode cL_law 216 = .ok (.iload_n 3, 1) := by decide +kernel
theorem dL_law_217 : decode cL_law 217 = .ok (.iconst 2, 1) := by decide +kernel
theorem dL_law_218 : decode cL_law 218 = .ok (.iadd, 1) := by decide +kernel
theorem dL_law_219 : decode cL_law 219 = .ok (.iaload, 1) := by decide +kernel
theorem dL_law_220 : decode cL_law 220 = .ok (.invokevirtual 22, 3) := by decide +kernel
theorem dL_law_223 : decode cL_law 223 = .ok (.if_icmp .eq 928, 3) := by decide +kernel
theorem dL_law_226 : decode cL_law 226 = .ok (.iconst 0, 1) := by decide +kernel
theorem dL_law_227 : decode cL_law 227 = .ok (.ireturn, 1) := by decide +kernel
theorem dL_law_228 : decode cL_law 228 = .ok (.aload_n 1, 1) := by decide +kernel
theorem dL_law_229 : decode cL_law 229 = .ok (.aload_n 0, 1) := by decide +kernel
theorem dL_law_230 : decode cL_law 230 = .ok (.iload_n 3, 1) := by decide +kernel
theorem dL_law_231 : decode cL_law 231 = .ok (.iconst 1, 1) := by decide +kernel
theorem dL_law_232 : decode cL_law 232 = .ok (.iadd, 1) := by decide +kernel
theorem dL_law_233 : decode cL_law 233 = .ok (.iaload, 1) := by decide +kernel
theorem dL_law_234 : decode cL_law 234 = .ok (.aload_n 0, 1) := by decide +kernel
theorem dL_law_235 : decode cL_law 235 = .ok (.iload_n 3, 1) := by decide +kernel
theorem dL_law_236 : decode cL_law 236 = .ok (.iconst 2, 1) := by decide +kernel
theorem dL_law_237 : decode cL_law 237 = .ok (.iadd, 1) := by decide +kernel
theorem dL_law_238 : decode cL_law 238 = .ok (.iaload, 1) := by decide +kernel
theorem dL_law_239 : decode cL_law 239 = .ok (.aload_n 0, 1) := by decide +kernel
theorem dL_law_240 : decode cL_law 240 = .ok (.iload_n 3, 1) := by decide +kernel
theorem dL_law_241 : decode cL_law 241 = .ok (.iconst 3, 1) := by decide +kernel
theorem dL_law_242 : decode cL_law 242 = .ok (.iadd, 1) := by decide +kernel
theorem dL_law_243 : decode cL_law 243 = .ok (.iaload, 1) := by decide +kernel
theorem dL_law_244 : decode cL_law 244 = .ok (.aload_n 0, 1) := by decide +kernel
theorem dL_law_245 : decode cL_law 245 = .ok (.iload_n 3, 1) := by decide +kernel
theorem dL_law_246 : decode cL_law 246 = .ok (.iconst 4, 1) := by decide +kernel
theorem dL_law_247 : decode cL_law 247 = .ok (.iadd, 1) := by decide +kernel
theorem dL_law_248 : decode cL_law 248 = .ok (.iaload, 1) := by decide +kernel
theorem dL_law_249 : decode cL_law 249 = .ok (.aload_n 0, 1) := by decide +kernel
theorem dL_law_250 : decode cL_law 250 = .ok (.iload_n 3, 1) := by decide +kernel
theorem dL_law_251 : decode cL_law 251 = .ok (.iconst 5, 1) := by decide +kernel
theorem dL_law_252 : decode cL_law 252 = .ok (.iadd, 1) := by decide +kernel
theorem dL_law_253 : decode cL_law 253 = .ok (.iaload, 1) := by decide +kernel
theorem dL_law_254 : decode cL_law 254 = .ok (.invokevirtual 23, 3) := by decide +kernel
theorem dL_law_257 : decode cL_law 257 = .ok (.aload_n 2, 1) := by decide +kernel
theorem dL_law_258 : decode cL_law 258 = .ok (.aload_n 0, 1) := by decide +kernel
theorem dL_law_259 : decode cL_law 259 = .ok (.iload_n 3, 1) := by decide +kernel
theorem dL_law_260 : decode cL_law 260 = .ok (.iconst 1, 1) := by decide +kernel
theorem dL_law_261 : decode cL_law 261 = .ok (.iadd, 1) := by decide +kernel
theorem dL_law_262 : decode cL_law 262 = .ok (.iaload, 1) := by decide +kernel
theorem dL_law_263 : decode cL_law 263 = .ok (.aload_n 0, 1) := by decide +kernel
theorem dL_law_264 : decode cL_law 264 = .ok (.iload_n 3, 1) := by decide +kernel
theorem dL_law_265 : decode cL_law 265 = .ok (.iconst 2, 1) := by decide +kernel
theorem dL_law_266 : decode cL_law 266 = .ok (.iadd, 1) := by decide +kernel
theorem dL_law_267 : decode cL_law 267 = .ok (.iaload, 1) := by decide +kernel
theorem dL_law_268 : decode cL_law 268 = .ok (.aload_n 0, 1) := by decide +kernel
theorem dL_law_269 : decode cL_law 269 = .ok (.iload_n 3, 1) := by decide +kernel
theorem dL_law_270 : decode cL_law 270 = .ok (.iconst 3, 1) := by decide +kernel
theorem dL_law_271 : decode cL_law 271 = .ok (.iadd, 1) := by decide +kernel
theorem dL_law_272 : decode cL_law 272 = .ok (.iaload, 1) := by decide +kernel
theorem dL_law_273 : decode cL_law 273 = .ok (.aload_n 0, 1) := by decide +kernel
theorem dL_law_274 : decode cL_law 274 = .ok (.iload_n 3, 1) := by decide +kernel
theorem dL_law_275 : decode cL_law 275 = .ok (.iconst 4, 1) := by decide +kernel
theorem dL_law_276 : decode cL_law 276 = .ok (.iadd, 1) := by decide +kernel
theorem dL_law_277 : decode cL_law 277 = .ok (.iaload, 1) := by decide +kernel
theorem dL_law_278 : decode cL_law 278 = .ok (.aload_n 0, 1) := by decide +kernel
theorem dL_law_279 : decode cL_law 279 = .ok (.iload_n 3, 1) := by decide +kernel
theorem dL_law_280 : decode cL_law 280 = .ok (.iconst 5, 1) := by decide +kernel
theorem dL_law_281 : decode cL_law 281 = .ok (.iadd, 1) := by decide +kernel
theorem dL_law_282 : decode cL_law 282 = .ok (.iaload, 1) := by decide +kernel
theorem dL_law_283 : decode cL_law 283 = .ok (.invokevirtual 27, 3) := by decide +kernel
theorem dL_law_286 : decode cL_law 286 = .ok (.if_icmp .eq 865, 3) := by decide +kernel
theorem dL_law_289 : decode cL_law 289 = .ok (.iconst 0, 1) := by decide +kernel
theorem dL_law_290 : decode cL_law 290 = .ok (.ireturn, 1) := by decide +kernel
theorem dL_law_291 : decode cL_law 291 = .ok (.aload_n 1, 1) := by decide +kernel
theorem dL_law_292 : decode cL_law 292 = .ok (.aload_n 0, 1) := by decide +kernel
theorem dL_law_293 : decode cL_law 293 = .ok (.iload_n 3, 1) := by decide +kernel
theorem dL_law_294 : decode cL_law 294 = .ok (.iconst 1, 1) := by decide +kernel
theorem dL_law_295 : decode cL_law 295 = .ok (.iadd, 1) := by decide +kernel
theorem dL_law_296 : decode cL_law 296 = .ok (.iaload, 1) := by decide +kernel
theorem dL_law_297 : decode cL_law 297 = .ok (.aload_n 0, 1) := by decide +kernel
theorem dL_law_298 : decode cL_law 298 = .ok (.iload_n 3, 1) := by decide +kernel
theorem dL_law_299 : decode cL_law 299 = .ok (.iconst 2, 1) := by decide +kernel
theorem dL_law_300 : decode cL_law 300 = .ok (.iadd, 1) := by decide +kernel
theorem dL_law_301 : decode cL_law 301 = .ok (.iaload, 1) := by decide +kernel
theorem dL_law_302 : decode cL_law 302 = .ok (.invokevirtual 28, 3) := by decide +kernel
theorem dL_law_305 : decode cL_law 305 = .ok (.aload_n 2, 1) := by decide +kernel
theorem dL_law_306 : decode cL_law 306 = .ok (.aload_n 0, 1) := by decide +kernel
theorem dL_law_307 : decode cL_law 307 = .ok (.iload_n 3, 1) := by decide +kernel
theorem dL_law_308 : decode cL_law 308 = .ok (.iconst 1, 1) := by decide +kernel
theorem dL_law_309 : decode cL_law 309 = .ok (.iadd, 1) := by decide +kernel
theorem dL_law_310 : decode cL_law 310 = .ok (.iaload, 1) := by decide +kernel
theorem dL_law_311 : decode cL_law 311 = .ok (.aload_n 0, 1) := by decide +kernel
theorem dL_law_312 : decode cL_law 312 = .ok (.iload_n 3, 1) := by decide +kernel
theorem dL_law_313 : decode cL_law 313 = .ok (.iconst 2, 1) := by decide +kernel
theorem dL_law_314 : decode cL_law 314 = .ok (.iadd, 1) := by decide +kernel
theorem dL_law_315 : decode cL_law 315 = .ok (.iaload, 1) := by decide +kernel
theorem dL_law_316 : decode cL_law 316 = .ok (.invokevirtual 32, 3) := by decide +kernel
theorem dL_law_319 : decode cL_law 319 = .ok (.lcmp, 1) := by decide +kernel
theorem dL_law_320 : decode cL_law 320 = .ok (.ifCond .eq 831, 3) := by decide +kernel
theorem dL_law_323 : decode cL_law 323 = .ok (.iconst 0, 1) := by decide +kernel
theorem dL_law_324 : decode cL_law 324 = .ok (.ireturn, 1) := by decide +kernel
theorem dL_law_325 : decode cL_law 325 = .ok (.aload_n 1, 1) := by decide +kernel
theorem dL_law_326 : decode cL_law 326 = .ok (.aload_n 0, 1) := by decide +kernel
theorem dL_law_327 : decode cL_law 327 = .ok (.iload_n 3, 1) := by decide +kernel
theorem dL_law_328 : decode cL_law 328 = .ok (.iconst 1, 1) := by decide +kernel
theorem dL_law_329 : decode cL_law 329 = .ok (.iadd, 1) := by decide +kernel
theorem dL_law_330 : decode cL_law 330 = .ok (.iaload, 1) := by decide +kernel
theorem dL_law_331 : decode cL_law 331 = .ok (.aload_n 0, 1) := by decide +kernel
theorem dL_law_332 : decode cL_law 332 = .ok (.iload_n 3, 1) := by decide +kernel
theorem dL_law_333 : decode cL_law 333 = .ok (.iconst 2, 1) := by decide +kernel
theorem dL_law_334 : decode cL_law 334 = .ok (.iadd, 1) := by decide +kernel
theorem dL_law_335 : decode cL_law 335 = .ok (.iaload, 1) := by decide +kernel
theorem dL_law_336 : decode cL_law 336 = .ok (.aload_n 0, 1) := by decide +kernel
theorem dL_law_337 : decode cL_law 337 = .ok (.iload_n 3, 1) := by decide +kernel
theorem dL_law_338 : decode cL_law 338 = .ok (.iconst 3, 1) := by decide +kernel
theorem dL_law_339 : decode cL_law 339 = .ok (.iadd, 1) := by decide +kernel
theorem dL_law_340 : decode cL_law 340 = .ok (.iaload, 1) := by decide +kernel
theorem dL_law_341 : decode cL_law 341 = .ok (.invokevirtual 33, 3) := by decide +kernel
theorem dL_law_344 : decode cL_law 344 = .ok (.aload_n 2, 1) := by decide +kernel
theorem dL_law_345 : decode cL_law 345 = .ok (.aload_n 0, 1) := by decide +kernel
theorem dL_law_346 : decode cL_law 346 = .ok (.iload_n 3, 1) := by decide +kernel
theorem dL_law_347 : decode cL_law 347 = .ok (.iconst 1, 1) := by decide +kernel
theorem dL_law_348 : decode cL_law 348 = .ok (.iadd, 1) := by decide +kernel
theorem dL_law_349 : decode cL_law 349 = .ok (.iaload, 1) := by decide +kernel
theorem dL_law_350 : decode cL_law 350 = .ok (.aload_n 0, 1) := by decide +kernel
theorem dL_law_351 : decode cL_law 351 = .ok (.iload_n 3, 1) := by decide +kernel
theorem dL_law_352 : decode cL_law 352 = .ok (.iconst 2, 1) := by decide +kernel
theorem dL_law_353 : decode cL_law 353 = .ok (.iadd, 1) := by decide +kernel
theorem dL_law_354 : decode cL_law 354 = .ok (.iaload, 1) := by decide +kernel
theorem dL_law_355 : decode cL_law 355 = .ok (.aload_n 0, 1) := by decide +kernel
theorem dL_law_356 : decode cL_law 356 = .ok (.iload_n 3, 1) := by decide +kernel
theorem dL_law_357 : decode cL_law 357 = .ok (.iconst 3, 1) := by decide +kernel
theorem dL_law_358 : decode cL_law 358 = .ok (.iadd, 1) := by decide +kernel
theorem dL_law_359 : decode cL_law 359 = .ok (.iaload, 1) := by decide +kernel
theorem dL_law_360 : decode cL_law 360 = .ok (.invokevirtual 37, 3) := by decide +kernel
theorem dL_law_363 : decode cL_law 363 = .ok (.lcmp, 1) := by decide +kernel
theorem dL_law_364 : decode cL_law 364 = .ok (.ifCond .eq 787, 3) := by decide +kernel
theorem dL_law_367 : decode cL_law 367 = .ok (.iconst 0, 1) := by decide +kernel
theorem dL_law_368 : decode cL_law 368 = .ok (.ireturn, 1) := by decide +kernel
theorem dL_law_369 : decode cL_law 369 = .ok (.aload_n 1, 1) := by decide +kernel
theorem dL_law_370 : decode cL_law 370 = .ok (.aload_n 0, 1) := by decide +kernel
theorem dL_law_371 : decode cL_law 371 = .ok (.iload_n 3, 1) := by decide +kernel
theorem dL_law_372 : decode cL_law 372 = .ok (.iconst 1, 1) := by decide +kernel
theorem dL_law_373 : decode cL_law 373 = .ok (.iadd, 1) := by decide +kernel
theorem dL_law_374 : decode cL_law 374 = .ok (.iaload, 1) := by decide +kernel
theorem dL_law_375 : decode cL_law 375 = .ok (.aload_n 0, 1) := by decide +kernel
theorem dL_law_376 : decode cL_law 376 = .ok (.iload_n 3, 1) := by decide +kernel
theorem dL_law_377 : decode cL_law 377 = .ok (.iconst 2, 1) := by decide +kernel
theorem dL_law_378 : decode cL_law 378 = .ok (.iadd, 1) := by decide +kernel
theorem dL_law_379 : decode cL_law 379 = .ok (.iaload, 1) := by decide +kernel
theorem dL_law_380 : decode cL_law 380 = .ok (.aload_n 0, 1) := by decide +kernel
theorem dL_law_381 : decode cL_law 381 = .ok (.iload_n 3, 1) := by decide +kernel
theorem dL_law_382 : decode cL_law 382 = .ok (.iconst 3, 1) := by decide +kernel
theorem dL_law_383 : decode cL_law 383 = .ok (.iadd, 1) := by decide +kernel
theorem dL_law_384 : decode cL_law 384 = .ok (.iaload, 1) := by decide +kernel
theorem dL_law_385 : decode cL_law 385 = .ok (.aload_n 0, 1) := by decide +kernel
theorem dL_law_386 : decode cL_law 386 = .ok (.iload_n 3, 1) := by decide +kernel
theorem dL_law_387 : decode cL_law 387 = .ok (.iconst 4, 1) := by decide +kernel
theorem dL_law_388 : decode cL_law 388 = .ok (.iadd, 1) := by decide +kernel
theorem dL_law_389 : decode cL_law 389 = .ok (.iaload, 1) := by decide +kernel
theorem dL_law_390 : decode cL_law 390 = .ok (.invokevirtual 38, 3) := by decide +kernel
theorem dL_law_393 : decode cL_law 393 = .ok (.aload_n 2, 1) := by decide +kernel
theorem dL_law_394 : decode cL_law 394 = .ok (.aload_n 0, 1) := by decide +kernel
theorem dL_law_395 : decode cL_law 395 = .ok (.iload_n 3, 1) := by decide +kernel
theorem dL_law_396 : decode cL_law 396 = .ok (.iconst 1, 1) := by decide +kernel
theorem dL_law_397 : decode cL_law 397 = .ok (.iadd, 1) := by decide +kernel
theorem dL_law_398 : decode cL_law 398 = .ok (.iaload, 1) := by decide +kernel
theorem dL_law_399 : decode cL_law 399 = .ok (.aload_n 0, 1) := by decide +kernel
theorem dL_law_400 : decode cL_law 400 = .ok (.iload_n 3, 1) := by decide +kernel
theorem dL_law_401 : decode cL_law 401 = .ok (.iconst 2, 1) := by decide +kernel
theorem dL_law_402 : decode cL_law 402 = .ok (.iadd, 1) := by decide +kernel
theorem dL_law_403 : decode cL_law 403 = .ok (.iaload, 1) := by decide +kernel
theorem dL_law_404 : decode cL_law 404 = .ok (.aload_n 0, 1) := by decide +kernel
theorem dL_law_405 : decode cL_law 405 = .ok (.iload_n 3, 1) := by decide +kernel
theorem dL_law_406 : decode cL_law 406 = .ok (.iconst 3, 1) := by decide +kernel
theorem dL_law_407 : decode cL_law 407 = .ok (.iadd, 1) := by decide +kernel
theorem dL_law_408 : decode cL_law 408 = .ok (.iaload, 1) := by decide +kernel
theorem dL_law_409 : decode cL_law 409 = .ok (.aload_n 0, 1) := by decide +kernel
theorem dL_law_410 : decode cL_law 410 = .ok (.iload_n 3, 1) := by decide +kernel
theorem dL_law_411 : decode cL_law 411 = .ok (.iconst 4, 1) := by decide +kernel
theorem dL_law_412 : decode cL_law 412 = .ok (.iadd, 1) := by decide +kernel
theorem dL_law_413 : decode cL_law 413 = .ok (.iaload, 1) := by decide +kernel
theorem dL_law_414 : decode cL_law 414 = .ok (.invokevirtual 42, 3) := by decide +kernel
theorem dL_law_417 : decode cL_law 417 = .ok (.if_icmp .eq 734, 3) := by decide +kernel
theorem dL_law_420 : decode cL_law 420 = .ok (.iconst 0, 1) := by decide +kernel
theorem dL_law_421 : decode cL_law 421 = .ok (.ireturn, 1) := by decide +kernel
theorem dL_law_422 : decode cL_law 422 = .ok (.aload_n 1, 1) := by decide +kernel
theorem dL_law_423 : decode cL_law 423 = .ok (.aload_n 0, 1) := by decide +kernel
theorem dL_law_424 : decode cL_law 424 = .ok (.iload_n 3, 1) := by decide +kernel
theorem dL_law_425 : decode cL_law 425 = .ok (.iconst 1, 1) := by decide +kernel
theorem dL_law_426 : decode cL_law 426 = .ok (.iadd, 1) := by decide +kernel
theorem dL_law_427 : decode cL_law 427 = .ok (.iaload, 1) := by decide +kernel
theorem dL_law_428 : decode cL_law 428 = .ok (.aload_n 0, 1) := by decide +kernel
theorem dL_law_429 : decode cL_law 429 = .ok (.iload_n 3, 1) := by decide +kernel
theorem dL_law_430 : decode cL_law 430 = .ok (.iconst 2, 1) := by decide +kernel
theorem dL_law_431 : decode cL_law 431 = .ok (.iadd, 1) := by decide +kernel
theorem dL_law_432 : decode cL_law 432 = .ok (.iaload, 1) := by decide +kernel
theorem dL_law_433 : decode cL_law 433 = .ok (.aload_n 0, 1) := by decide +kernel
theorem dL_law_434 : decode cL_law 434 = .ok (.iload_n 3, 1) := by decide +kernel
theorem dL_law_435 : decode cL_law 435 = .ok (.iconst 3, 1) := by decide +kernel
theorem dL_law_436 : decode cL_law 436 = .ok (.iadd, 1) := by decide +kernel
theorem dL_law_437 : decode cL_law 437 = .ok (.iaload, 1) := by decide +kernel
theorem dL_law_438 : decode cL_law 438 = .ok (.aload_n 0, 1) := by decide +kernel
theorem dL_law_439 : decode cL_law 439 = .ok (.iload_n 3, 1) := by decide +kernel
theorem dL_law_440 : decode cL_law 440 = .ok (.iconst 4, 1) := by decide +kernel
theorem dL_law_441 : decode cL_law 441 = .ok (.iadd, 1) := by decide +kernel
theorem dL_law_442 : decode cL_law 442 = .ok (.iaload, 1) := by decide +kernel
theorem dL_law_443 : decode cL_law 443 = .ok (.invokevirtual 43, 3) := by decide +kernel
theorem dL_law_446 : decode cL_law 446 = .ok (.aload_n 2, 1) := by decide +kernel
theorem dL_law_447 : decode cL_law 447 = .ok (.aload_n 0, 1) := by decide +kernel
theorem dL_law_448 : decode cL_law 448 = .ok (.iload_n 3, 1) := by decide +kernel
theorem dL_law_449 : decode cL_law 449 = .ok (.iconst 1, 1) := by decide +kernel
theorem dL_law_450 : decode cL_law 450 = .ok (.iadd, 1) := by decide +kernel
theorem dL_law_451 : decode cL_law 451 = .ok (.iaload, 1) := by decide +kernel
theorem dL_law_452 : decode cL_law 452 = .ok (.aload_n 0, 1) := by decide +kernel
theorem dL_law_453 : decode cL_law 453 = .ok (.iload_n 3, 1) := by decide +kernel
theorem dL_law_454 : decode cL_law 454 = .ok (.iconst 2, 1) := by decide +kernel
theorem dL_law_455 : decode cL_law 455 = .ok (.iadd, 1) := by decide +kernel
theorem dL_law_456 : decode cL_law 456 = .ok (.iaload, 1) := by decide +kernel
theorem dL_law_457 : decode cL_law 457 = .ok (.aload_n 0, 1) := by decide +kernel
theorem dL_law_458 : decode cL_law 458 = .ok (.iload_n 3, 1) := by decide +kernel
theorem dL_law_459 : decode cL_law 459 = .ok (.iconst 3, 1) := by decide +kernel
theorem dL_law_460 : decode cL_law 460 = .ok (.iadd, 1) := by decide +kernel
theorem dL_law_461 : decode cL_law 461 = .ok (.iaload, 1) := by decide +kernel
theorem dL_law_462 : decode cL_law 462 = .ok (.aload_n 0, 1) := by decide +kernel
theorem dL_law_463 : decode cL_law 463 = .ok (.iload_n 3, 1) := by decide +kernel
theorem dL_law_464 : decode cL_law 464 = .ok (.iconst 4, 1) := by decide +kernel
theorem dL_law_465 : decode cL_law 465 = .ok (.iadd, 1) := by decide +kernel
theorem dL_law_466 : decode cL_law 466 = .ok (.iaload, 1) := by decide +kernel
theorem dL_law_467 : decode cL_law 467 = .ok (.invokevirtual 46, 3) := by decide +kernel
theorem dL_law_470 : decode cL_law 470 = .ok (.if_icmp .eq 681, 3) := by decide +kernel
theorem dL_law_473 : decode cL_law 473 = .ok (.iconst 0, 1) := by decide +kernel
theorem dL_law_474 : decode cL_law 474 = .ok (.ireturn, 1) := by decide +kernel
theorem dL_law_475 : decode cL_law 475 = .ok (.aload_n 1, 1) := by decide +kernel
theorem dL_law_476 : decode cL_law 476 = .ok (.aload_n 0, 1) := by decide +kernel
theorem dL_law_477 : decode cL_law 477 = .ok (.iload_n 3, 1) := by decide +kernel
theorem dL_law_478 : decode cL_law 478 = .ok (.iconst 1, 1) := by decide +kernel
theorem dL_law_479 : decode cL_law 479 = .ok (.iadd, 1) := by decide +kernel
theorem dL_law_480 : decode cL_law 480 = .ok (.iaload, 1) := by decide +kernel
theorem dL_law_481 : decode cL_law 481 = .ok (.aload_n 0, 1) := by decide +kernel
theorem dL_law_482 : decode cL_law 482 = .ok (.iload_n 3, 1) := by decide +kernel
theorem dL_law_483 : decode cL_law 483 = .ok (.iconst 2, 1) := by decide +kernel
theorem dL_law_484 : decode cL_law 484 = .ok (.iadd, 1) := by decide +kernel
theorem dL_law_485 : decode cL_law 485 = .ok (.iaload, 1) := by decide +kernel
theorem dL_law_486 : decode cL_law 486 = .ok (.invokevirtual 47, 3) := by decide +kernel
theorem dL_law_489 : decode cL_law 489 = .ok (.aload_n 2, 1) := by decide +kernel
theorem dL_law_490 : decode cL_law 490 = .ok (.aload_n 0, 1) := by decide +kernel
theorem dL_law_491 : decode cL_law 491 = .ok (.iload_n 3, 1) := by decide +kernel
theorem dL_law_492 : decode cL_law 492 = .ok (.iconst 1, 1) := by decide +kernel
theorem dL_law_493 : decode cL_law 493 = .ok (.iadd, 1) := by decide +kernel
theorem dL_law_494 : decode cL_law 494 = .ok (.iaload, 1) := by decide +kernel
theorem dL_law_495 : decode cL_law 495 = .ok (.aload_n 0, 1) := by decide +kernel
theorem dL_law_496 : decode cL_law 496 = .ok (.iload_n 3, 1) := by decide +kernel
theorem dL_law_497 : decode cL_law 497 = .ok (.iconst 2, 1) := by decide +kernel
theorem dL_law_498 : decode cL_law 498 = .ok (.iadd, 1) := by decide +kernel
theorem dL_law_499 : decode cL_law 499 = .ok (.iaload, 1) := by decide +kernel
theorem dL_law_500 : decode cL_law 500 = .ok (.invokevirtual 50, 3) := by decide +kernel
theorem dL_law_503 : decode cL_law 503 = .ok (.if_icmp .eq 648, 3) := by decide +kernel
theorem dL_law_506 : decode cL_law 506 = .ok (.iconst 0, 1) := by decide +kernel
theorem dL_law_507 : decode cL_law 507 = .ok (.ireturn, 1) := by decide +kernel
theorem dL_law_508 : decode cL_law 508 = .ok (.aload_n 1, 1) := by decide +kernel
theorem dL_law_509 : decode cL_law 509 = .ok (.aload_n 0, 1) := by decide +kernel
theorem dL_law_510 : decode cL_law 510 = .ok (.iload_n 3, 1) := by decide +kernel
theorem dL_law_511 : decode cL_law 511 = .ok (.iconst 1, 1) := by decide +kernel
theorem dL_law_512 : decode cL_law 512 = .ok (.iadd, 1) := by decide +kernel
theorem dL_law_513 : decode cL_law 513 = .ok (.iaload, 1) := by decide +kernel
theorem dL_law_514 : decode cL_law 514 = .ok (.aload_n 0, 1) := by decide +kernel
theorem dL_law_515 : decode cL_law 515 = .ok (.iload_n 3, 1) := by decide +kernel
theorem dL_law_516 : decode cL_law 516 = .ok (.iconst 2, 1) := by decide +kernel
theorem dL_law_517 : decode cL_law 517 = .ok (.iadd, 1) := by decide +kernel
theorem dL_law_518 : decode cL_law 518 = .ok (.iaload, 1) := by decide +kernel
theorem dL_law_519 : decode cL_law 519 = .ok (.aload_n 0, 1) := by decide +kernel
theorem dL_law_520 : decode cL_law 520 = .ok (.iload_n 3, 1) := by decide +kernel
theorem dL_law_521 : decode cL_law 521 = .ok (.iconst 3, 1) := by decide +kernel
theorem dL_law_522 : decode cL_law 522 = .ok (.iadd, 1) := by decide +kernel
theorem dL_law_523 : decode cL_law 523 = .ok (.iaload, 1) := by decide +kernel
theorem dL_law_524 : decode cL_law 524 = .ok (.invokevirtual 51, 3) := by decide +kernel
theorem dL_law_527 : decode cL_law 527 = .ok (.aload_n 2, 1) := by decide +kernel
theorem dL_law_528 : decode cL_law 528 = .ok (.aload_n 0, 1) := by decide +kernel
theorem dL_law_529 : decode cL_law 529 = .ok (.iload_n 3, 1) := by decide +kernel
theorem dL_law_530 : decode cL_law 530 = .ok (.iconst 1, 1) := by decide +kernel
theorem dL_law_531 : decode cL_law 531 = .ok (.iadd, 1) := by decide +kernel
theorem dL_law_532 : decode cL_law 532 = .ok (.iaload, 1) := by decide +kernel
theorem dL_law_533 : decode cL_law 533 = .ok (.aload_n 0, 1) := by decide +kernel
theorem dL_law_534 : decode cL_law 534 = .ok (.iload_n 3, 1) := by decide +kernel
theorem dL_law_535 : decode cL_law 535 = .ok (.iconst 2, 1) := by decide +kernel
theorem dL_law_536 : decode cL_law 536 = .ok (.iadd, 1) := by decide +kernel
theorem dL_law_537 : decode cL_law 537 = .ok (.iaload, 1) := by decide +kernel
theorem dL_law_538 : decode cL_law 538 = .ok (.aload_n 0, 1) := by decide +kernel
theorem dL_law_539 : decode cL_law 539 = .ok (.iload_n 3, 1) := by decide +kernel
theorem dL_law_540 : decode cL_law 540 = .ok (.iconst 3, 1) := by decide +kernel
theorem dL_law_541 : decode cL_law 541 = .ok (.iadd, 1) := by decide +kernel
theorem dL_law_542 : decode cL_law 542 = .ok (.iaload, 1) := by decide +kernel
theorem dL_law_543 : decode cL_law 543 = .ok (.invokevirtual 54, 3) := by decide +kernel
theorem dL_law_546 : decode cL_law 546 = .ok (.lcmp, 1) := by decide +kernel
theorem dL_law_547 : decode cL_law 547 = .ok (.ifCond .eq 604, 3) := by decide +kernel
theorem dL_law_550 : decode cL_law 550 = .ok (.iconst 0, 1) := by decide +kernel
theorem dL_law_551 : decode cL_law 551 = .ok (.ireturn, 1) := by decide +kernel
theorem dL_law_552 : decode cL_law 552 = .ok (.aload_n 1, 1) := by decide +kernel
theorem dL_law_553 : decode cL_law 553 = .ok (.aload_n 0, 1) := by decide +kernel
theorem dL_law_554 : decode cL_law 554 = .ok (.iload_n 3, 1) := by decide +kernel
theorem dL_law_555 : decode cL_law 555 = .ok (.iconst 1, 1) := by decide +kernel
theorem dL_law_556 : decode cL_law 556 = .ok (.iadd, 1) := by decide +kernel
theorem dL_law_557 : decode cL_law 557 = .ok (.iaload, 1) := by decide +kernel
theorem dL_law_558 : decode cL_law 558 = .ok (.aload_n 0, 1) := by decide +kernel
theorem dL_law_559 : decode cL_law 559 = .ok (.iload_n 3, 1) := by decide +kernel
theorem dL_law_560 : decode cL_law 560 = .ok (.iconst 2, 1) := by decide +kernel
theorem dL_law_561 : decode cL_law 561 = .ok (.iadd, 1) := by decide +kernel
theorem dL_law_562 : decode cL_law 562 = .ok (.iaload, 1) := by decide +kernel
theorem dL_law_563 : decode cL_law 563 = .ok (.aload_n 0, 1) := by decide +kernel
theorem dL_law_564 : decode cL_law 564 = .ok (.iload_n 3, 1) := by decide +kernel
theorem dL_law_565 : decode cL_law 565 = .ok (.iconst 3, 1) := by decide +kernel
theorem dL_law_566 : decode cL_law 566 = .ok (.iadd, 1) := by decide +kernel
theorem dL_law_567 : decode cL_law 567 = .ok (.iaload, 1) := by decide +kernel
theorem dL_law_568 : decode cL_law 568 = .ok (.invokevirtual 55, 3) := by decide +kernel
theorem dL_law_571 : decode cL_law 571 = .ok (.aload_n 2, 1) := by decide +kernel
theorem dL_law_572 : decode cL_law 572 = .ok (.aload_n 0, 1) := by decide +kernel
theorem dL_law_573 : decode cL_law 573 = .ok (.iload_n 3, 1) := by decide +kernel
theorem dL_law_574 : decode cL_law 574 = .ok (.iconst 1, 1) := by decide +kernel
theorem dL_law_575 : decode cL_law 575 = .ok (.iadd, 1) := by decide +kernel
theorem dL_law_576 : decode cL_law 576 = .ok (.iaload, 1) := by decide +kernel
theorem dL_law_577 : decode cL_law 577 = .ok (.aload_n 0, 1) := by decide +kernel
theorem dL_law_578 : decode cL_law 578 = .ok (.iload_n 3, 1) := by decide +kernel
theorem dL_law_579 : decode cL_law 579 = .ok (.iconst 2, 1) := by decide +kernel
theorem dL_law_580 : decode cL_law 580 = .ok (.iadd, 1) := by decide +kernel
theorem dL_law_581 : decode cL_law 581 = .ok (.iaload, 1) := by decide +kernel
theorem dL_law_582 : decode cL_law 582 = .ok (.aload_n 0, 1) := by decide +kernel
theorem dL_law_583 : decode cL_law 583 = .ok (.iload_n 3, 1) := by decide +kernel
theorem dL_law_584 : decode cL_law 584 = .ok (.iconst 3, 1) := by decide +kernel
theorem dL_law_585 : decode cL_law 585 = .ok (.iadd, 1) := by decide +kernel
theorem dL_law_586 : decode cL_law 586 = .ok (.iaload, 1) := by decide +kernel
theorem dL_law_587 : decode cL_law 587 = .ok (.invokevirtual 58, 3) := by decide +kernel
theorem dL_law_590 : decode cL_law 590 = .ok (.lcmp, 1) := by decide +kernel
theorem dL_law_591 : decode cL_law 591 = .ok (.ifCond .eq 560, 3) := by decide +kernel
theorem dL_law_594 : decode cL_law 594 = .ok (.iconst 0, 1) := by decide +kernel
theorem dL_law_595 : decode cL_law 595 = .ok (.ireturn, 1) := by decide +kernel
theorem dL_law_596 : decode cL_law 596 = .ok (.aload_n 1, 1) := by decide +kernel
theorem dL_law_597 : decode cL_law 597 = .ok (.aload_n 0, 1) := by decide +kernel
theorem dL_law_598 : decode cL_law 598 = .ok (.iload_n 3, 1) := by decide +kernel
theorem dL_law_599 : decode cL_law 599 = .ok (.iconst 1, 1) := by decide +kernel
theorem dL_law_600 : decode cL_law 600 = .ok (.iadd, 1) := by decide +kernel
theorem dL_law_601 : decode cL_law 601 = .ok (.iaload, 1) := by decide +kernel
theorem dL_law_602 : decode cL_law 602 = .ok (.aload_n 0, 1) := by decide +kernel
theorem dL_law_603 : decode cL_law 603 = .ok (.iload_n 3, 1) := by decide +kernel
theorem dL_law_604 : decode cL_law 604 = .ok (.iconst 2, 1) := by decide +kernel
theorem dL_law_605 : decode cL_law 605 = .ok (.iadd, 1) := by decide +kernel
theorem dL_law_606 : decode cL_law 606 = .ok (.iaload, 1) := by decide +kernel
theorem dL_law_607 : decode cL_law 607 = .ok (.aload_n 0, 1) := by decide +kernel
theorem dL_law_608 : decode cL_law 608 = .ok (.iload_n 3, 1) := by decide +kernel
theorem dL_law_609 : decode cL_law 609 = .ok (.iconst 3, 1) := by decide +kernel
theorem dL_law_610 : decode cL_law 610 = .ok (.iadd, 1) := by decide +kernel
theorem dL_law_611 : decode cL_law 611 = .ok (.iaload, 1) := by decide +kernel
theorem dL_law_612 : decode cL_law 612 = .ok (.invokevirtual 59, 3) := by decide +kernel
theorem dL_law_615 : decode cL_law 615 = .ok (.aload_n 2, 1) := by decide +kernel
theorem dL_law_616 : decode cL_law 616 = .ok (.aload_n 0, 1) := by decide +kernel
theorem dL_law_617 : decode cL_law 617 = .ok (.iload_n 3, 1) := by decide +kernel
theorem dL_law_618 : decode cL_law 618 = .ok (.iconst 1, 1) := by decide +kernel
theorem dL_law_619 : decode cL_law 619 = .ok (.iadd, 1) := by decide +kernel
theorem dL_law_620 : decode cL_law 620 = .ok (.iaload, 1) := by decide +kernel
theorem dL_law_621 : decode cL_law 621 = .ok (.aload_n 0, 1) := by decide +kernel
theorem dL_law_622 : decode cL_law 622 = .ok (.iload_n 3, 1) := by decide +kernel
theorem dL_law_623 : decode cL_law 623 = .ok (.iconst 2, 1) := by decide +kernel
theorem dL_law_624 : decode cL_law 624 = .ok (.iadd, 1) := by decide +kernel
theorem dL_law_625 : decode cL_law 625 = .ok (.iaload, 1) := by decide +kernel
theorem dL_law_626 : decode cL_law 626 = .ok (.aload_n 0, 1) := by decide +kernel
theorem dL_law_627 : decode cL_law 627 = .ok (.iload_n 3, 1) := by decide +kernel
theorem dL_law_628 : decode cL_law 628 = .ok (.iconst 3, 1) := by decide +kernel
theorem dL_law_629 : decode cL_law 629 = .ok (.iadd, 1) := by decide +kernel
theorem dL_law_630 : decode cL_law 630 = .ok (.iaload, 1) := by decide +kernel
theorem dL_law_631 : decode cL_law 631 = .ok (.invokevirtual 62, 3) := by decide +kernel
theorem dL_law_634 : decode cL_law 634 = .ok (.lcmp, 1) := by decide +kernel
theorem dL_law_635 : decode cL_law 635 = .ok (.ifCond .eq 516, 3) := by decide +kernel
theorem dL_law_638 : decode cL_law 638 = .ok (.iconst 0, 1) := by decide +kernel
theorem dL_law_639 : decode cL_law 639 = .ok (.ireturn, 1) := by decide +kernel
theorem dL_law_640 : decode cL_law 640 = .ok (.aload_n 1, 1) := by decide +kernel
theorem dL_law_641 : decode cL_law 641 = .ok (.aload_n 0, 1) := by decide +kernel
theorem dL_law_642 : decode cL_law 642 = .ok (.iload_n 3, 1) := by decide +kernel
theorem dL_law_643 : decode cL_law 643 = .ok (.iconst 1, 1) := by decide +kernel
theorem dL_law_644 : decode cL_law 644 = .ok (.iadd, 1) := by decide +kernel
theorem dL_law_645 : decode cL_law 645 = .ok (.iaload, 1) := by decide +kernel
theorem dL_law_646 : decode cL_law 646 = .ok (.invokevirtual 63, 3) := by decide +kernel
theorem dL_law_649 : decode cL_law 649 = .ok (.aload_n 2, 1) := by decide +kernel
theorem dL_law_650 : decode cL_law 650 = .ok (.aload_n 0, 1) := by decide +kernel
theorem dL_law_651 : decode cL_law 651 = .ok (.iload_n 3, 1) := by decide +kernel
theorem dL_law_652 : decode cL_law 652 = .ok (.iconst 1, 1) := by decide +kernel
theorem dL_law_653 : decode cL_law 653 = .ok (.iadd, 1) := by decide +kernel
theorem dL_law_654 : decode cL_law 654 = .ok (.iaload, 1) := by decide +kernel
theorem dL_law_655 : decode cL_law 655 = .ok (.invokevirtual 67, 3) := by decide +kernel
theorem dL_law_658 : decode cL_law 658 = .ok (.if_icmp .eq 493, 3) := by decide +kernel
theorem dL_law_661 : decode cL_law 661 = .ok (.iconst 0, 1) := by decide +kernel
theorem dL_law_662 : decode cL_law 662 = .ok (.ireturn, 1) := by decide +kernel
theorem dL_law_663 : decode cL_law 663 = .ok (.aload_n 1, 1) := by decide +kernel
theorem dL_law_664 : decode cL_law 664 = .ok (.aload_n 0, 1) := by decide +kernel
theorem dL_law_665 : decode cL_law 665 = .ok (.iload_n 3, 1) := by decide +kernel
theorem dL_law_666 : decode cL_law 666 = .ok (.iconst 1, 1) := by decide +kernel
theorem dL_law_667 : decode cL_law 667 = .ok (.iadd, 1) := by decide +kernel
theorem dL_law_668 : decode cL_law 668 = .ok (.iaload, 1) := by decide +kernel
theorem dL_law_669 : decode cL_law 669 = .ok (.aload_n 0, 1) := by decide +kernel
theorem dL_law_670 : decode cL_law 670 = .ok (.iload_n 3, 1) := by decide +kernel
theorem dL_law_671 : decode cL_law 671 = .ok (.iconst 2, 1) := by decide +kernel
theorem dL_law_672 : decode cL_law 672 = .ok (.iadd, 1) := by decide +kernel
theorem dL_law_673 : decode cL_law 673 = .ok (.iaload, 1) := by decide +kernel
theorem dL_law_674 : decode cL_law 674 = .ok (.aload_n 0, 1) := by decide +kernel
theorem dL_law_675 : decode cL_law 675 = .ok (.iload_n 3, 1) := by decide +kernel
theorem dL_law_676 : decode cL_law 676 = .ok (.iconst 3, 1) := by decide +kernel
theorem dL_law_677 : decode cL_law 677 = .ok (.iadd, 1) := by decide +kernel
theorem dL_law_678 : decode cL_law 678 = .ok (.iaload, 1) := by decide +kernel
theorem dL_law_679 : decode cL_law 679 = .ok (.aload_n 0, 1) := by decide +kernel
theorem dL_law_680 : decode cL_law 680 = .ok (.iload_n 3, 1) := by decide +kernel
theorem dL_law_681 : decode cL_law 681 = .ok (.iconst 4, 1) := by decide +kernel
theorem dL_law_682 : decode cL_law 682 = .ok (.iadd, 1) := by decide +kernel
theorem dL_law_683 : decode cL_law 683 = .ok (.iaload, 1) := by decide +kernel
theorem dL_law_684 : decode cL_law 684 = .ok (.invokevirtual 68, 3) := by decide +kernel
theorem dL_law_687 : decode cL_law 687 = .ok (.aload_n 2, 1) := by decide +kernel
theorem dL_law_688 : decode cL_law 688 = .ok (.aload_n 0, 1) := by decide +kernel
theorem dL_law_689 : decode cL_law 689 = .ok (.iload_n 3, 1) := by decide +kernel
theorem dL_law_690 : decode cL_law 690 = .ok (.iconst 1, 1) := by decide +kernel
theorem dL_law_691 : decode cL_law 691 = .ok (.iadd, 1) := by decide +kernel
theorem dL_law_692 : decode cL_law 692 = .ok (.iaload, 1) := by decide +kernel
theorem dL_law_693 : decode cL_law 693 = .ok (.aload_n 0, 1) := by decide +kernel
theorem dL_law_694 : decode cL_law 694 = .ok (.iload_n 3, 1) := by decide +kernel
theorem dL_law_695 : decode cL_law 695 = .ok (.iconst 2, 1) := by decide +kernel
theorem dL_law_696 : decode cL_law 696 = .ok (.iadd, 1) := by decide +kernel
theorem dL_law_697 : decode cL_law 697 = .ok (.iaload, 1) := by decide +kernel
theorem dL_law_698 : decode cL_law 698 = .ok (.aload_n 0, 1) := by decide +kernel
theorem dL_law_699 : decode cL_law 699 = .ok (.iload_n 3, 1) := by decide +kernel
theorem dL_law_700 : decode cL_law 700 = .ok (.iconst 3, 1) := by decide +kernel
theorem dL_law_701 : decode cL_law 701 = .ok (.iadd, 1) := by decide +kernel
theorem dL_law_702 : decode cL_law 702 = .ok (.iaload, 1) := by decide +kernel
theorem dL_law_703 : decode cL_law 703 = .ok (.aload_n 0, 1) := by decide +kernel
theorem dL_law_704 : decode cL_law 704 = .ok (.iload_n 3, 1) := by decide +kernel
theorem dL_law_705 : decode cL_law 705 = .ok (.iconst 4, 1) := by decide +kernel
theorem dL_law_706 : decode cL_law 706 = .ok (.iadd, 1) := by decide +kernel
theorem dL_law_707 : decode cL_law 707 = .ok (.iaload, 1) := by decide +kernel
theorem dL_law_708 : decode cL_law 708 = .ok (.invokevirtual 71, 3) := by decide +kernel
theorem dL_law_711 : decode cL_law 711 = .ok (.if_icmp .eq 440, 3) := by decide +kernel
theorem dL_law_714 : decode cL_law 714 = .ok (.iconst 0, 1) := by decide +kernel
theorem dL_law_715 : decode cL_law 715 = .ok (.ireturn, 1) := by decide +kernel
theorem dL_law_716 : decode cL_law 716 = .ok (.aload_n 1, 1) := by decide +kernel
theorem dL_law_717 : decode cL_law 717 = .ok (.invokevirtual 72, 3) := by decide +kernel
theorem dL_law_720 : decode cL_law 720 = .ok (.aload_n 2, 1) := by decide +kernel
theorem dL_law_721 : decode cL_law 721 = .ok (.invokevirtual 76, 3) := by decide +kernel
theorem dL_law_724 : decode cL_law 724 = .ok (.if_icmp .eq 427, 3) := by decide +kernel
theorem dL_law_727 : decode cL_law 727 = .ok (.iconst 0, 1) := by decide +kernel
theorem dL_law_728 : decode cL_law 728 = .ok (.ireturn, 1) := by decide +kernel
theorem dL_law_729 : decode cL_law 729 = .ok (.aload_n 1, 1) := by decide +kernel
theorem dL_law_730 : decode cL_law 730 = .ok (.aload_n 0, 1) := by decide +kernel
theorem dL_law_731 : decode cL_law 731 = .ok (.iload_n 3, 1) := by decide +kernel
theorem dL_law_732 : decode cL_law 732 = .ok (.iconst 1, 1) := by decide +kernel
theorem dL_law_733 : decode cL_law 733 = .ok (.iadd, 1) := by decide +kernel
theorem dL_law_734 : decode cL_law 734 = .ok (.iaload, 1) := by decide +kernel
theorem dL_law_735 : decode cL_law 735 = .ok (.aload_n 0, 1) := by decide +kernel
theorem dL_law_736 : decode cL_law 736 = .ok (.iload_n 3, 1) := by decide +kernel
theorem dL_law_737 : decode cL_law 737 = .ok (.iconst 2, 1) := by decide +kernel
theorem dL_law_738 : decode cL_law 738 = .ok (.iadd, 1) := by decide +kernel
theorem dL_law_739 : decode cL_law 739 = .ok (.iaload, 1) := by decide +kernel
theorem dL_law_740 : decode cL_law 740 = .ok (.invokevirtual 77, 3) := by decide +kernel
theorem dL_law_743 : decode cL_law 743 = .ok (.aload_n 2, 1) := by decide +kernel
theorem dL_law_744 : decode cL_law 744 = .ok (.aload_n 0, 1) := by decide +kernel
theorem dL_law_745 : decode cL_law 745 = .ok (.iload_n 3, 1) := by decide +kernel
theorem dL_law_746 : decode cL_law 746 = .ok (.iconst 1, 1) := by decide +kernel
theorem dL_law_747 : decode cL_law 747 = .ok (.iadd, 1) := by decide +kernel
theorem dL_law_748 : decode cL_law 748 = .ok (.iaload, 1) := by decide +kernel
theorem dL_law_749 : decode cL_law 749 = .ok (.aload_n 0, 1) := by decide +kernel
theorem dL_law_750 : decode cL_law 750 = .ok (.iload_n 3, 1) := by decide +kernel
theorem dL_law_751 : decode cL_law 751 = .ok (.iconst 2, 1) := by decide +kernel
theorem dL_law_752 : decode cL_law 752 = .ok (.iadd, 1) := by decide +kernel
theorem dL_law_753 : decode cL_law 753 = .ok (.iaload, 1) := by decide +kernel
theorem dL_law_754 : decode cL_law 754 = .ok (.invokevirtual 80, 3) := by decide +kernel
theorem dL_law_757 : decode cL_law 757 = .ok (.lcmp, 1) := by decide +kernel
theorem dL_law_758 : decode cL_law 758 = .ok (.ifCond .eq 393, 3) := by decide +kernel
theorem dL_law_761 : decode cL_law 761 = .ok (.iconst 0, 1) := by decide +kernel
theorem dL_law_762 : decode cL_law 762 = .ok (.ireturn, 1) := by decide +kernel
theorem dL_law_763 : decode cL_law 763 = .ok (.aload_n 1, 1) := by decide +kernel
theorem dL_law_764 : decode cL_law 764 = .ok (.aload_n 0, 1) := by decide +kernel
theorem dL_law_765 : decode cL_law 765 = .ok (.iload_n 3, 1) := by decide +kernel
theorem dL_law_766 : decode cL_law 766 = .ok (.iconst 1, 1) := by decide +kernel
theorem dL_law_767 : decode cL_law 767 = .ok (.iadd, 1) := by decide +kernel
theorem dL_law_768 : decode cL_law 768 = .ok (.iaload, 1) := by decide +kernel
theorem dL_law_769 : decode cL_law 769 = .ok (.aload_n 0, 1) := by decide +kernel
theorem dL_law_770 : decode cL_law 770 = .ok (.iload_n 3, 1) := by decide +kernel
theorem dL_law_771 : decode cL_law 771 = .ok (.iconst 2, 1) := by decide +kernel
theorem dL_law_772 : decode cL_law 772 = .ok (.iadd, 1) := by decide +kernel
theorem dL_law_773 : decode cL_law 773 = .ok (.iaload, 1) := by decide +kernel
theorem dL_law_774 : decode cL_law 774 = .ok (.invokevirtual 81, 3) := by decide +kernel
theorem dL_law_777 : decode cL_law 777 = .ok (.aload_n 2, 1) := by decide +kernel
theorem dL_law_778 : decode cL_law 778 = .ok (.aload_n 0, 1) := by decide +kernel
theorem dL_law_779 : decode cL_law 779 = .ok (.iload_n 3, 1) := by decide +kernel
theorem dL_law_780 : decode cL_law 780 = .ok (.iconst 1, 1) := by decide +kernel
theorem dL_law_781 : decode cL_law 781 = .ok (.iadd, 1) := by decide +kernel
theorem dL_law_782 : decode cL_law 782 = .ok (.iaload, 1) := by decide +kernel
theorem dL_law_783 : decode cL_law 783 = .ok (.aload_n 0, 1) := by decide +kernel
theorem dL_law_784 : decode cL_law 784 = .ok (.iload_n 3, 1) := by decide +kernel
theorem dL_law_785 : decode cL_law 785 = .ok (.iconst 2, 1) := by decide +kernel
theorem dL_law_786 : decode cL_law 786 = .ok (.iadd, 1) := by decide +kernel
theorem dL_law_787 : decode cL_law 787 = .ok (.iaload, 1) := by decide +kernel
theorem dL_law_788 : decode cL_law 788 = .ok (.invokevirtual 84, 3) := by decide +kernel
theorem dL_law_791 : decode cL_law 791 = .ok (.lcmp, 1) := by decide +kernel
theorem dL_law_792 : decode cL_law 792 = .ok (.ifCond .eq 359, 3) := by decide +kernel
theorem dL_law_795 : decode cL_law 795 = .ok (.iconst 0, 1) := by decide +kernel
theorem dL_law_796 : decode cL_law 796 = .ok (.ireturn, 1) := by decide +kernel
theorem dL_law_797 : decode cL_law 797 = .ok (.aload_n 1, 1) := by decide +kernel
theorem dL_law_798 : decode cL_law 798 = .ok (.invokevirtual 85, 3) := by decide +kernel
theorem dL_law_801 : decode cL_law 801 = .ok (.aload_n 2, 1) := by decide +kernel
theorem dL_law_802 : decode cL_law 802 = .ok (.invokevirtual 88, 3) := by decide +kernel
theorem dL_law_805 : decode cL_law 805 = .ok (.if_icmp .eq 346, 3) := by decide +kernel
theorem dL_law_808 : decode cL_law 808 = .ok (.iconst 0, 1) := by decide +kernel
theorem dL_law_809 : decode cL_law 809 = .ok (.ireturn, 1) := by decide +kernel
theorem dL_law_810 : decode cL_law 810 = .ok (.aload_n 1, 1) := by decide +kernel
theorem dL_law_811 : decode cL_law 811 = .ok (.aload_n 0, 1) := by decide +kernel
theorem dL_law_812 : decode cL_law 812 = .ok (.iload_n 3, 1) := by decide +kernel
theorem dL_law_813 : decode cL_law 813 = .ok (.iconst 1, 1) := by decide +kernel
theorem dL_law_814 : decode cL_law 814 = .ok (.iadd, 1) := by decide +kernel
theorem dL_law_815 : decode cL_law 815 = .ok (.iaload, 1) := by decide +kernel
theorem dL_law_816 : decode cL_law 816 = .ok (.aload_n 0, 1) := by decide +kernel
theorem dL_law_817 : decode cL_law 817 = .ok (.iload_n 3, 1) := by decide +kernel
theorem dL_law_818 : decode cL_law 818 = .ok (.iconst 2, 1) := by decide +kernel
theorem dL_law_819 : decode cL_law 819 = .ok (.iadd, 1) := by decide +kernel
theorem dL_law_820 : decode cL_law 820 = .ok (.iaload, 1) := by decide +kernel
theorem dL_law_821 : decode cL_law 821 = .ok (.aload_n 0, 1) := by decide +kernel
theorem dL_law_822 : decode cL_law 822 = .ok (.iload_n 3, 1) := by decide +kernel
theorem dL_law_823 : decode cL_law 823 = .ok (.iconst 3, 1) := by decide +kernel
theorem dL_law_824 : decode cL_law 824 = .ok (.iadd, 1) := by decide +kernel
theorem dL_law_825 : decode cL_law 825 = .ok (.iaload, 1) := by decide +kernel
theorem dL_law_826 : decode cL_law 826 = .ok (.invokevirtual 89, 3) := by decide +kernel
theorem dL_law_829 : decode cL_law 829 = .ok (.aload_n 2, 1) := by decide +kernel
theorem dL_law_830 : decode cL_law 830 = .ok (.aload_n 0, 1) := by decide +kernel
theorem dL_law_831 : decode cL_law 831 = .ok (.iload_n 3, 1) := by decide +kernel
theorem dL_law_832 : decode cL_law 832 = .ok (.iconst 1, 1) := by decide +kernel
theorem dL_law_833 : decode cL_law 833 = .ok (.iadd, 1) := by decide +kernel
theorem dL_law_834 : decode cL_law 834 = .ok (.iaload, 1) := by decide +kernel
theorem dL_law_835 : decode cL_law 835 = .ok (.aload_n 0, 1) := by decide +kernel
theorem dL_law_836 : decode cL_law 836 = .ok (.iload_n 3, 1) := by decide +kernel
theorem dL_law_837 : decode cL_law 837 = .ok (.iconst 2, 1) := by decide +kernel
theorem dL_law_838 : decode cL_law 838 = .ok (.iadd, 1) := by decide +kernel
theorem dL_law_839 : decode cL_law 839 = .ok (.iaload, 1) := by decide +kernel
theorem dL_law_840 : decode cL_law 840 = .ok (.aload_n 0, 1) := by decide +kernel
theorem dL_law_841 : decode cL_law 841 = .ok (.iload_n 3, 1) := by decide +kernel
theorem dL_law_842 : decode cL_law 842 = .ok (.iconst 3, 1) := by decide +kernel
theorem dL_law_843 : decode cL_law 843 = .ok (.iadd, 1) := by decide +kernel
theorem dL_law_844 : decode cL_law 844 = .ok (.iaload, 1) := by decide +kernel
theorem dL_law_845 : decode cL_law 845 = .ok (.invokevirtual 92, 3) := by decide +kernel
theorem dL_law_848 : decode cL_law 848 = .ok (.lcmp, 1) := by decide +kernel
theorem dL_law_849 : decode cL_law 849 = .ok (.ifCond .eq 302, 3) := by decide +kernel
theorem dL_law_852 : decode cL_law 852 = .ok (.iconst 0, 1) := by decide +kernel
theorem dL_law_853 : decode cL_law 853 = .ok (.ireturn, 1) := by decide +kernel
theorem dL_law_854 : decode cL_law 854 = .ok (.aload_n 1, 1) := by decide +kernel
theorem dL_law_855 : decode cL_law 855 = .ok (.aload_n 0, 1) := by decide +kernel
theorem dL_law_856 : decode cL_law 856 = .ok (.iload_n 3, 1) := by decide +kernel
theorem dL_law_857 : decode cL_law 857 = .ok (.iconst 1, 1) := by decide +kernel
theorem dL_law_858 : decode cL_law 858 = .ok (.iadd, 1) := by decide +kernel
theorem dL_law_859 : decode cL_law 859 = .ok (.iaload, 1) := by decide +kernel
theorem dL_law_860 : decode cL_law 860 = .ok (.aload_n 0, 1) := by decide +kernel
theorem dL_law_861 : decode cL_law 861 = .ok (.iload_n 3, 1) := by decide +kernel
theorem dL_law_862 : decode cL_law 862 = .ok (.iconst 2, 1) := by decide +kernel
theorem dL_law_863 : decode cL_law 863 = .ok (.iadd, 1) := by decide +kernel
theorem dL_law_864 : decode cL_law 864 = .ok (.iaload, 1) := by decide +kernel
theorem dL_law_865 : decode cL_law 865 = .ok (.aload_n 0, 1) := by decide +kernel
theorem dL_law_866 : decode cL_law 866 = .ok (.iload_n 3, 1) := by decide +kernel
theorem dL_law_867 : decode cL_law 867 = .ok (.iconst 3, 1) := by decide +kernel
theorem dL_law_868 : decode cL_law 868 = .ok (.iadd, 1) := by decide +kernel
theorem dL_law_869 : decode cL_law 869 = .ok (.iaload, 1) := by decide +kernel
theorem dL_law_870 : decode cL_law 870 = .ok (.invokevirtual 93, 3) := by decide +kernel
theorem dL_law_873 : decode cL_law 873 = .ok (.aload_n 2, 1) := by decide +kernel
theorem dL_law_874 : decode cL_law 874 = .ok (.aload_n 0, 1) := by decide +kernel
theorem dL_law_875 : decode cL_law 875 = .ok (.iload_n 3, 1) := by decide +kernel
theorem dL_law_876 : decode cL_law 876 = .ok (.iconst 1, 1) := by decide +kernel
theorem dL_law_877 : decode cL_law 877 = .ok (.iadd, 1) := by decide +kernel
theorem dL_law_878 : decode cL_law 878 = .ok (.iaload, 1) := by decide +kernel
theorem dL_law_879 : decode cL_law 879 = .ok (.aload_n 0, 1) := by decide +kernel
theorem dL_law_880 : decode cL_law 880 = .ok (.iload_n 3, 1) := by decide +kernel
theorem dL_law_881 : decode cL_law 881 = .ok (.iconst 2, 1) := by decide +kernel
theorem dL_law_882 : decode cL_law 882 = .ok (.iadd, 1) := by decide +kernel
theorem dL_law_883 : decode cL_law 883 = .ok (.iaload, 1) := by decide +kernel
theorem dL_law_884 : decode cL_law 884 = .ok (.aload_n 0, 1) := by decide +kernel
theorem dL_law_885 : decode cL_law 885 = .ok (.iload_n 3, 1) := by decide +kernel
theorem dL_law_886 : decode cL_law 886 = .ok (.iconst 3, 1) := by decide +kernel
theorem dL_law_887 : decode cL_law 887 = .ok (.iadd, 1) := by decide +kernel
theorem dL_law_888 : decode cL_law 888 = .ok (.iaload, 1) := by decide +kernel
theorem dL_law_889 : decode cL_law 889 = .ok (.invokevirtual 96, 3) := by decide +kernel
theorem dL_law_892 : decode cL_law 892 = .ok (.lcmp, 1) := by decide +kernel
theorem dL_law_893 : decode cL_law 893 = .ok (.ifCond .eq 258, 3) := by decide +kernel
theorem dL_law_896 : decode cL_law 896 = .ok (.iconst 0, 1) := by decide +kernel
theorem dL_law_897 : decode cL_law 897 = .ok (.ireturn, 1) := by decide +kernel
theorem dL_law_898 : decode cL_law 898 = .ok (.aload_n 1, 1) := by decide +kernel
theorem dL_law_899 : decode cL_law 899 = .ok (.aload_n 0, 1) := by decide +kernel
theorem dL_law_900 : decode cL_law 900 = .ok (.iload_n 3, 1) := by decide +kernel
theorem dL_law_901 : decode cL_law 901 = .ok (.iconst 1, 1) := by decide +kernel
theorem dL_law_902 : decode cL_law 902 = .ok (.iadd, 1) := by decide +kernel
theorem dL_law_903 : decode cL_law 903 = .ok (.iaload, 1) := by decide +kernel
theorem dL_law_904 : decode cL_law 904 = .ok (.aload_n 0, 1) := by decide +kernel
theorem dL_law_905 : decode cL_law 905 = .ok (.iload_n 3, 1) := by decide +kernel
theorem dL_law_906 : decode cL_law 906 = .ok (.iconst 2, 1) := by decide +kernel
theorem dL_law_907 : decode cL_law 907 = .ok (.iadd, 1) := by decide +kernel
theorem dL_law_908 : decode cL_law 908 = .ok (.iaload, 1) := by decide +kernel
theorem dL_law_909 : decode cL_law 909 = .ok (.invokevirtual 97, 3) := by decide +kernel
theorem dL_law_912 : decode cL_law 912 = .ok (.aload_n 2, 1) := by decide +kernel
theorem dL_law_913 : decode cL_law 913 = .ok (.aload_n 0, 1) := by decide +kernel
theorem dL_law_914 : decode cL_law 914 = .ok (.iload_n 3, 1) := by decide +kernel
theorem dL_law_915 : decode cL_law 915 = .ok (.iconst 1, 1) := by decide +kernel
theorem dL_law_916 : decode cL_law 916 = .ok (.iadd, 1) := by decide +kernel
theorem dL_law_917 : decode cL_law 917 = .ok (.iaload, 1) := by decide +kernel
theorem dL_law_918 : decode cL_law 918 = .ok (.aload_n 0, 1) := by decide +kernel
theorem dL_law_919 : decode cL_law 919 = .ok (.iload_n 3, 1) := by decide +kernel
theorem dL_law_920 : decode cL_law 920 = .ok (.iconst 2, 1) := by decide +kernel
theorem dL_law_921 : decode cL_law 921 = .ok (.iadd, 1) := by decide +kernel
theorem dL_law_922 : decode cL_law 922 = .ok (.iaload, 1) := by decide +kernel
theorem dL_law_923 : decode cL_law 923 = .ok (.invokevirtual 100, 3) := by decide +kernel
theorem dL_law_926 : decode cL_law 926 = .ok (.if_icmp .eq 225, 3) := by decide +kernel
theorem dL_law_929 : decode cL_law 929 = .ok (.iconst 0, 1) := by decide +kernel
theorem dL_law_930 : decode cL_law 930 = .ok (.ireturn, 1) := by decide +kernel
theorem dL_law_931 : decode cL_law 931 = .ok (.aload_n 1, 1) := by decide +kernel
theorem dL_law_932 : decode cL_law 932 = .ok (.aload_n 0, 1) := by decide +kernel
theorem dL_law_933 : decode cL_law 933 = .ok (.iload_n 3, 1) := by decide +kernel
theorem dL_law_934 : decode cL_law 934 = .ok (.iconst 1, 1) := by decide +kernel
theorem dL_law_935 : decode cL_law 935 = .ok (.iadd, 1) := by decide +kernel
theorem dL_law_936 : decode cL_law 936 = .ok (.iaload, 1) := by decide +kernel
theorem dL_law_937 : decode cL_law 937 = .ok (.aload_n 0, 1) := by decide +kernel
theorem dL_law_938 : decode cL_law 938 = .ok (.iload_n 3, 1) := by decide +kernel
theorem dL_law_939 : decode cL_law 939 = .ok (.iconst 2, 1) := by decide +kernel
theorem dL_law_940 : decode cL_law 940 = .ok (.iadd, 1) := by decide +kernel
theorem dL_law_941 : decode cL_law 941 = .ok (.iaload, 1) := by decide +kernel
theorem dL_law_942 : decode cL_law 942 = .ok (.aload_n 0, 1) := by decide +kernel
theorem dL_law_943 : decode cL_law 943 = .ok (.iload_n 3, 1) := by decide +kernel
theorem dL_law_944 : decode cL_law 944 = .ok (.iconst 3, 1) := by decide +kernel
theorem dL_law_945 : decode cL_law 945 = .ok (.iadd, 1) := by decide +kernel
theorem dL_law_946 : decode cL_law 946 = .ok (.iaload, 1) := by decide +kernel
theorem dL_law_947 : decode cL_law 947 = .ok (.invokevirtual 101, 3) := by decide +kernel
theorem dL_law_950 : decode cL_law 950 = .ok (.aload_n 2, 1) := by decide +kernel
theorem dL_law_951 : decode cL_law 951 = .ok (.aload_n 0, 1) := by decide +kernel
theorem dL_law_952 : decode cL_law 952 = .ok (.iload_n 3, 1) := by decide +kernel
theorem dL_law_953 : decode cL_law 953 = .ok (.iconst 1, 1) := by decide +kernel
theorem dL_law_954 : decode cL_law 954 = .ok (.iadd, 1) := by decide +kernel
theorem dL_law_955 : decode cL_law 955 = .ok (.iaload, 1) := by decide +kernel
theorem dL_law_956 : decode cL_law 956 = .ok (.aload_n 0, 1) := by decide +kernel
theorem dL_law_957 : decode cL_law 957 = .ok (.iload_n 3, 1) := by decide +kernel
theorem dL_law_958 : decode cL_law 958 = .ok (.iconst 2, 1) := by decide +kernel
theorem dL_law_959 : decode cL_law 959 = .ok (.iadd, 1) := by decide +kernel
theorem dL_law_960 : decode cL_law 960 = .ok (.iaload, 1) := by decide +kernel
theorem dL_law_961 : decode cL_law 961 = .ok (.aload_n 0, 1) := by decide +kernel
theorem dL_law_962 : decode cL_law 962 = .ok (.iload_n 3, 1) := by decide +kernel
theorem dL_law_963 : decode cL_law 963 = .ok (.iconst 3, 1) := by decide +kernel
theorem dL_law_964 : decode cL_law 964 = .ok (.iadd, 1) := by decide +kernel
theorem dL_law_965 : decode cL_law 965 = .ok (.iaload, 1) := by decide +kernel
theorem dL_law_966 : decode cL_law 966 = .ok (.invokevirtual 104, 3) := by decide +kernel
theorem dL_law_969 : decode cL_law 969 = .ok (.if_icmp .eq 182, 3) := by decide +kernel
theorem dL_law_972 : decode cL_law 972 = .ok (.iconst 0, 1) := by decide +kernel
theorem dL_law_973 : decode cL_law 973 = .ok (.ireturn, 1) := by decide +kernel
theorem dL_law_974 : decode cL_law 974 = .ok (.aload_n 1, 1) := by decide +kernel
theorem dL_law_975 : decode cL_law 975 = .ok (.aload_n 0, 1) := by decide +kernel
theorem dL_law_976 : decode cL_law 976 = .ok (.iload_n 3, 1) := by decide +kernel
theorem dL_law_977 : decode cL_law 977 = .ok (.iconst 1, 1) := by decide +kernel
theorem dL_law_978 : decode cL_law 978 = .ok (.iadd, 1) := by decide +kernel
theorem dL_law_979 : decode cL_law 979 = .ok (.iaload, 1) := by decide +kernel
theorem dL_law_980 : decode cL_law 980 = .ok (.aload_n 0, 1) := by decide +kernel
theorem dL_law_981 : decode cL_law 981 = .ok (.iload_n 3, 1) := by decide +kernel
theorem dL_law_982 : decode cL_law 982 = .ok (.iconst 2, 1) := by decide +kernel
theorem dL_law_983 : decode cL_law 983 = .ok (.iadd, 1) := by decide +kernel
theorem dL_law_984 : decode cL_law 984 = .ok (.iaload, 1) := by decide +kernel
theorem dL_law_985 : decode cL_law 985 = .ok (.aload_n 0, 1) := by decide +kernel
theorem dL_law_986 : decode cL_law 986 = .ok (.iload_n 3, 1) := by decide +kernel
theorem dL_law_987 : decode cL_law 987 = .ok (.iconst 3, 1) := by decide +kernel
theorem dL_law_988 : decode cL_law 988 = .ok (.iadd, 1) := by decide +kernel
theorem dL_law_989 : decode cL_law 989 = .ok (.iaload, 1) := by decide +kernel
theorem dL_law_990 : decode cL_law 990 = .ok (.invokevirtual 105, 3) := by decide +kernel
theorem dL_law_993 : decode cL_law 993 = .ok (.aload_n 2, 1) := by decide +kernel
theorem dL_law_994 : decode cL_law 994 = .ok (.aload_n 0, 1) := by decide +kernel
theorem dL_law_995 : decode cL_law 995 = .ok (.iload_n 3, 1) := by decide +kernel
theorem dL_law_996 : decode cL_law 996 = .ok (.iconst 1, 1) := by decide +kernel
theorem dL_law_997 : decode cL_law 997 = .ok (.iadd, 1) := by decide +kernel
theorem dL_law_998 : decode cL_law 998 = .ok (.iaload, 1) := by decide +kernel
theorem dL_law_999 : decode cL_law 999 = .ok (.aload_n 0, 1) := by decide +kernel
theorem dL_law_1000 : decode cL_law 1000 = .ok (.iload_n 3, 1) := by decide +kernel
theorem dL_law_1001 : decode cL_law 1001 = .ok (.iconst 2, 1) := by decide +kernel
theorem dL_law_1002 : decode cL_law 1002 = .ok (.iadd, 1) := by decide +kernel
theorem dL_law_1003 : decode cL_law 1003 = .ok (.iaload, 1) := by decide +kernel
theorem dL_law_1004 : decode cL_law 1004 = .ok (.aload_n 0, 1) := by decide +kernel
theorem dL_law_1005 : decode cL_law 1005 = .ok (.iload_n 3, 1) := by decide +kernel
theorem dL_law_1006 : decode cL_law 1006 = .ok (.iconst 3, 1) := by decide +kernel
theorem dL_law_1007 : decode cL_law 1007 = .ok (.iadd, 1) := by decide +kernel
theorem dL_law_1008 : decode cL_law 1008 = .ok (.iaload, 1) := by decide +kernel
theorem dL_law_1009 : decode cL_law 1009 = .ok (.invokevirtual 108, 3) := by decide +kernel
theorem dL_law_1012 : decode cL_law 1012 = .ok (.if_icmp .eq 139, 3) := by decide +kernel
theorem dL_law_1015 : decode cL_law 1015 = .ok (.iconst 0, 1) := by decide +kernel
theorem dL_law_1016 : decode cL_law 1016 = .ok (.ireturn, 1) := by decide +kernel
theorem dL_law_1017 : decode cL_law 1017 = .ok (.aload_n 1, 1) := by decide +kernel
theorem dL_law_1018 : decode cL_law 1018 = .ok (.aload_n 0, 1) := by decide +kernel
theorem dL_law_1019 : decode cL_law 1019 = .ok (.iload_n 3, 1) := by decide +kernel
theorem dL_law_1020 : decode cL_law 1020 = .ok (.iconst 1, 1) := by decide +kernel
theorem dL_law_1021 : decode cL_law 1021 = .ok (.iadd, 1) := by decide +kernel
theorem dL_law_1022 : decode cL_law 1022 = .ok (.iaload, 1) := by decide +kernel
theorem dL_law_1023 : decode cL_law 1023 = .ok (.aload_n 0, 1) := by decide +kernel
theorem dL_law_1024 : decode cL_law 1024 = .ok (.iload_n 3, 1) := by decide +kernel
theorem dL_law_1025 : decode cL_law 1025 = .ok (.iconst 2, 1) := by decide +kernel
theorem dL_law_1026 : decode cL_law 1026 = .ok (.iadd, 1) := by decide +kernel
theorem dL_law_1027 : decode cL_law 1027 = .ok (.iaload, 1) := by decide +kernel
theorem dL_law_1028 : decode cL_law 1028 = .ok (.aload_n 0, 1) := by decide +kernel
theorem dL_law_1029 : decode cL_law 1029 = .ok (.iload_n 3, 1) := by decide +kernel
theorem dL_law_1030 : decode cL_law 1030 = .ok (.iconst 3, 1) := by decide +kernel
theorem dL_law_1031 : decode cL_law 1031 = .ok (.iadd, 1) := by decide +kernel
theorem dL_law_1032 : decode cL_law 1032 = .ok (.iaload, 1) := by decide +kernel
theorem dL_law_1033 : decode cL_law 1033 = .ok (.aload_n 0, 1) := by decide +kernel
theorem dL_law_1034 : decode cL_law 1034 = .ok (.iload_n 3, 1) := by decide +kernel
theorem dL_law_1035 : decode cL_law 1035 = .ok (.iconst 4, 1) := by decide +kernel
theorem dL_law_1036 : decode cL_law 1036 = .ok (.iadd, 1) := by decide +kernel
theorem dL_law_1037 : decode cL_law 1037 = .ok (.iaload, 1) := by decide +kernel
theorem dL_law_1038 : decode cL_law 1038 = .ok (.invokevirtual 109, 3) := by decide +kernel
theorem dL_law_1041 : decode cL_law 1041 = .ok (.aload_n 2, 1) := by decide +kernel
end
section
theorem dL_law_1042 : decode cL_law 1042 = .ok (.aload_n 0, 1) := by decide +kernel
theorem dL_law_1043 : decode cL_law 1043 = .ok (.iload_n 3, 1) := by decide +kernel
theorem dL_law_1044 : decode cL_law 1044 = .ok (.iconst 1, 1) := by decide +kernel
theorem dL_law_1045 : decode cL_law 1045 = .ok (.iadd, 1) := by decide +kernel
theorem dL_law_1046 : decode cL_law 1046 = .ok (.iaload, 1) := by decide +kernel
theorem dL_law_1047 : decode cL_law 1047 = .ok (.aload_n 0, 1) := by decide +kernel
theorem dL_law_1048 : decode cL_law 1048 = .ok (.iload_n 3, 1) := by decide +kernel
theorem dL_law_1049 : decode cL_law 1049 = .ok (.iconst 2, 1) := by decide +kernel
theorem dL_law_1050 : decode cL_law 1050 = .ok (.iadd, 1) := by decide +kernel
theorem dL_law_1051 : decode cL_law 1051 = .ok (.iaload, 1) := by decide +kernel
theorem dL_law_1052 : decode cL_law 1052 = .ok (.aload_n 0, 1) := by decide +kernel
theorem dL_law_1053 : decode cL_law 1053 = .ok (.iload_n 3, 1) := by decide +kernel
theorem dL_law_1054 : decode cL_law 1054 = .ok (.iconst 3, 1) := by decide +kernel
theorem dL_law_1055 : decode cL_law 1055 = .ok (.iadd, 1) := by decide +kernel
theorem dL_law_1056 : decode cL_law 1056 = .ok (.iaload, 1) := by decide +kernel
theorem dL_law_1057 : decode cL_law 1057 = .ok (.aload_n 0, 1) := by decide +kernel
theorem dL_law_1058 : decode cL_law 1058 = .ok (.iload_n 3, 1) := by decide +kernel
theorem dL_law_1059 : decode cL_law 1059 = .ok (.iconst 4, 1) := by decide +kernel
theorem dL_law_1060 : decode cL_law 1060 = .ok (.iadd, 1) := by decide +kernel
theorem dL_law_1061 : decode cL_law 1061 = .ok (.iaload, 1) := by decide +kernel
theorem dL_law_1062 : decode cL_law 1062 = .ok (.invokevirtual 112, 3) := by decide +kernel
theorem dL_law_1065 : decode cL_law 1065 = .ok (.if_icmp .eq 86, 3) := by decide +kernel
theorem dL_law_1068 : decode cL_law 1068 = .ok (.iconst 0, 1) := by decide +kernel
theorem dL_law_1069 : decode cL_law 1069 = .ok (.ireturn, 1) := by decide +kernel
theorem dL_law_1070 : decode cL_law 1070 = .ok (.aload_n 1, 1) := by decide +kernel
theorem dL_law_1071 : decode cL_law 1071 = .ok (.aload_n 0, 1) := by decide +kernel
theorem dL_law_1072 : decode cL_law 1072 = .ok (.iload_n 3, 1) := by decide +kernel
theorem dL_law_1073 : decode cL_law 1073 = .ok (.iconst 1, 1) := by decide +kernel
theorem dL_law_1074 : decode cL_law 1074 = .ok (.iadd, 1) := by decide +kernel
theorem dL_law_1075 : decode cL_law 1075 = .ok (.iaload, 1) := by decide +kernel
theorem dL_law_1076 : decode cL_law 1076 = .ok (.aload_n 0, 1) := by decide +kernel
theorem dL_law_1077 : decode cL_law 1077 = .ok (.iload_n 3, 1) := by decide +kernel
theorem dL_law_1078 : decode cL_law 1078 = .ok (.iconst 2, 1) := by decide +kernel
theorem dL_law_1079 : decode cL_law 1079 = .ok (.iadd, 1) := by decide +kernel
theorem dL_law_1080 : decode cL_law 1080 = .ok (.iaload, 1) := by decide +kernel
theorem dL_law_1081 : decode cL_law 1081 = .ok (.invokevirtual 113, 3) := by decide +kernel
theorem dL_law_1084 : decode cL_law 1084 = .ok (.aload_n 2, 1) := by decide +kernel
theorem dL_law_1085 : decode cL_law 1085 = .ok (.aload_n 0, 1) := by decide +kernel
theorem dL_law_1086 : decode cL_law 1086 = .ok (.iload_n 3, 1) := by decide +kernel
theorem dL_law_1087 : decode cL_law 1087 = .ok (.iconst 1, 1) := by decide +kernel
theorem dL_law_1088 : decode cL_law 1088 = .ok (.iadd, 1) := by decide +kernel
theorem dL_law_1089 : decode cL_law 1089 = .ok (.iaload, 1) := by decide +kernel
theorem dL_law_1090 : decode cL_law 1090 = .ok (.aload_n 0, 1) := by decide +kernel
theorem dL_law_1091 : decode cL_law 1091 = .ok (.iload_n 3, 1) := by decide +kernel
theorem dL_law_1092 : decode cL_law 1092 = .ok (.iconst 2, 1) := by decide +kernel
theorem dL_law_1093 : decode cL_law 1093 = .ok (.iadd, 1) := by decide +kernel
theorem dL_law_1094 : decode cL_law 1094 = .ok (.iaload, 1) := by decide +kernel
theorem dL_law_1095 : decode cL_law 1095 = .ok (.invokevirtual 116, 3) := by decide +kernel
theorem dL_law_1098 : decode cL_law 1098 = .ok (.lcmp, 1) := by decide +kernel
theorem dL_law_1099 : decode cL_law 1099 = .ok (.ifCond .eq 52, 3) := by decide +kernel
theorem dL_law_1102 : decode cL_law 1102 = .ok (.iconst 0, 1) := by decide +kernel
theorem dL_law_1103 : decode cL_law 1103 = .ok (.ireturn, 1) := by decide +kernel
theorem dL_law_1104 : decode cL_law 1104 = .ok (.aload_n 1, 1) := by decide +kernel
theorem dL_law_1105 : decode cL_law 1105 = .ok (.aload_n 0, 1) := by decide +kernel
theorem dL_law_1106 : decode cL_law 1106 = .ok (.iload_n 3, 1) := by decide +kernel
theorem dL_law_1107 : decode cL_law 1107 = .ok (.iconst 1, 1) := by decide +kernel
theorem dL_law_1108 : decode cL_law 1108 = .ok (.iadd, 1) := by decide +kernel
theorem dL_law_1109 : decode cL_law 1109 = .ok (.iaload, 1) := by decide +kernel
theorem dL_law_1110 : decode cL_law 1110 = .ok (.invokevirtual 117, 3) := by decide +kernel
theorem dL_law_1113 : decode cL_law 1113 = .ok (.aload_n 2, 1) := by decide +kernel
theorem dL_law_1114 : decode cL_law 1114 = .ok (.aload_n 0, 1) := by decide +kernel
theorem dL_law_1115 : decode cL_law 1115 = .ok (.iload_n 3, 1) := by decide +kernel
theorem dL_law_1116 : decode cL_law 1116 = .ok (.iconst 1, 1) := by decide +kernel
theorem dL_law_1117 : decode cL_law 1117 = .ok (.iadd, 1) := by decide +kernel
theorem dL_law_1118 : decode cL_law 1118 = .ok (.iaload, 1) := by decide +kernel
theorem dL_law_1119 : decode cL_law 1119 = .ok (.invokevirtual 121, 3) := by decide +kernel
theorem dL_law_1122 : decode cL_law 1122 = .ok (.lcmp, 1) := by decide +kernel
theorem dL_law_1123 : decode cL_law 1123 = .ok (.ifCond .eq 28, 3) := by decide +kernel
theorem dL_law_1126 : decode cL_law 1126 = .ok (.iconst 0, 1) := by decide +kernel
theorem dL_law_1127 : decode cL_law 1127 = .ok (.ireturn, 1) := by decide +kernel
theorem dL_law_1128 : decode cL_law 1128 = .ok (.aload_n 1, 1) := by decide +kernel
theorem dL_law_1129 : decode cL_law 1129 = .ok (.aload_n 0, 1) := by decide +kernel
theorem dL_law_1130 : decode cL_law 1130 = .ok (.iload_n 3, 1) := by decide +kernel
theorem dL_law_1131 : decode cL_law 1131 = .ok (.iconst 1, 1) := by decide +kernel
theorem dL_law_1132 : decode cL_law 1132 = .ok (.iadd, 1) := by decide +kernel
theorem dL_law_1133 : decode cL_law 1133 = .ok (.iaload, 1) := by decide +kernel
theorem dL_law_1134 : decode cL_law 1134 = .ok (.invokevirtual 122, 3) := by decide +kernel
theorem dL_law_1137 : decode cL_law 1137 = .ok (.aload_n 2, 1) := by decide +kernel
theorem dL_law_1138 : decode cL_law 1138 = .ok (.aload_n 0, 1) := by decide +kernel
theorem dL_law_1139 : decode cL_law 1139 = .ok (.iload_n 3, 1) := by decide +kernel
theorem dL_law_1140 : decode cL_law 1140 = .ok (.iconst 1, 1) := by decide +kernel
theorem dL_law_1141 : decode cL_law 1141 = .ok (.iadd, 1) := by decide +kernel
theorem dL_law_1142 : decode cL_law 1142 = .ok (.iaload, 1) := by decide +kernel
theorem dL_law_1143 : decode cL_law 1143 = .ok (.invokevirtual 125, 3) := by decide +kernel
theorem dL_law_1146 : decode cL_law 1146 = .ok (.if_icmp .eq 5, 3) := by decide +kernel
theorem dL_law_1149 : decode cL_law 1149 = .ok (.iconst 0, 1) := by decide +kernel
theorem dL_law_1150 : decode cL_law 1150 = .ok (.ireturn, 1) := by decide +kernel
theorem dL_law_1151 : decode cL_law 1151 = .ok (.iinc 3 6, 3) := by decide +kernel
theorem dL_law_1154 : decode cL_law 1154 = .ok (.goto (-1136), 3) := by decide +kernel
theorem dL_law_1157 : decode cL_law 1157 = .ok (.iconst 1, 1) := by decide +kernel
theorem dL_law_1158 : decode cL_law 1158 = .ok (.ireturn, 1) := by decide +kernel
end
section
/-! A pure picture of the machine: locals as a row of places, the heap as a table of cells by address. -/
abbrev ax_F : Type := Nat → Option va_E
abbrev ax_P : Type := List (Option Value) → List Value → Nat → Nat → Nat → ax_F → Prop
abbrev ax_X : Type := Launch × va_G × (Nat → ClassId) × Heap × (Nat → Option (Nat × (Nat → Int32))) × (Nat → Nat)
abbrev ax_MI : Type := MethodName × ByteArray × Nat × Option FieldType × Nat
def ax_T : List Cond := lw_tbl.filter goodWord
theorem ax_good : ∀ w ∈ ax_T, goodWord w = true := fun w h => (List.mem_filter.mp h).2
theorem ax_inT {w : Cond} (h : w ∈ lw_tbl) (hg : goodWord w = true) : w ∈ ax_T := List.mem_filter.mpr ⟨h, hg⟩
def ax_ws (mi : ax_MI) : List Cond := .code mi.1 mi.2.1 mi.2.2.1 mi.2.2.2.1 :: ax_T
def ax_rm (d mc ms : Nat) : Room := { frames := d, cells := mc, slots := ms, locals := 64 * d }
abbrev ax_A (X : ax_X) : Nat → Prop := fun q => X.2.2.2.1.size ≤ q
abbrev ax_tys (X : ax_X) : List (ClassId × FieldType) := [(X.2.2.1 0, .int), (X.2.2.1 1, .long), (X.2.2.1 2, .boolean), (X.2.2.1 3, .object RX4), (X.2.2.1 4, .object RX5), (X.2.2.1 5, .array .long)]
def ax_stf : List (String × String) := [(RX4, "FIRST"), (RX4, "LEAST"), (RX4, "MOST"), (RX4, "DROP_BY_BORE"), (RX1, "SUMS")]
def ax_K (X : ax_X) (U : State) : Prop :=
  va_K X.2.1 vwCl (ax_tys X) U ∧ (∀ (a : String) (i : Nat) (x : MethodName) (h : String), Cond.methodLinkNest a i x h ∈ lw_tbl → va_Nw (.methodLinkNest a i x h) U) ∧ (∀ (a : String) (i : Nat) (b n d h : String), Cond.fieldLinkNest a i b n d h ∈ lw_tbl → va_Nw (.fieldLinkNest a i b n d h) U) ∧
  va_AO RX4 U ∧ va_AO RX5 U ∧
  (∀ (a n : Nat) (g : Nat → Int32), X.2.2.2.2.1 a = some (n, g) → va_T .int a n (fun j => .int (g j)) (ax_A X) U X.2.2.2.1) ∧
  (∀ (k : Nat) (q : String × String), ax_stf[k]? = some q → va_Z q.1 q.2 "[I" (.ref (X.2.2.2.2.2 k)) (ax_A X) U X.2.2.2.1)
theorem ax_K_warm {X : ax_X} {s U : State} (h : ax_K X s) (hW : s.WarmedH U.vm) : ax_K X U := by
  obtain ⟨h1, h2, h3, h4, h5, h6, h7⟩ := h
  exact ⟨h1.moved hW.alike, fun a i x h q => (h2 a i x h q).warmM hW, fun a i b n d h q => (h3 a i b n d h q).warmF hW, h4.moved hW.alike, h5.moved hW.alike, fun a n g q => (h6 a n g q).moved hW.alike, fun k q hq => (h7 k q hq).moved hW.alike⟩
theorem ax_K_same {X : ax_X} {s U : State} (h : ax_K X s) (hv : s.vm = U.vm) : ax_K X U := by
  obtain ⟨h1, h2, h3, h4, h5, h6, h7⟩ := h
  have ha : s.vm.Alike U.vm := by rw [hv]; exact Vm.Alike.refl _
  exact ⟨h1.moved ha, fun a i x h q => (h2 a i x h q).same rfl hv, fun a i b n d h q => (h3 a i b n d h q).same rfl hv, h4.moved ha, h5.moved ha, fun a n g q => (h6 a n g q).moved ha, fun k q hq => (h7 k q hq).moved ha⟩
/-- the heap holds the table of cells; below it nothing has changed -/
def ax_R (X : ax_X) (z : Nat) (f : ax_F) (H : Heap) : Prop :=
  H.size = z ∧ X.2.2.2.1.size ≤ z ∧ (∀ q : Nat, q < X.2.2.2.1.size → H[q]? = X.2.2.2.1[q]?) ∧ ∀ (a : Nat) (e : va_E), f a = some e → X.2.2.2.1.size ≤ a ∧ va_at X.2.1 vwCl (a, e) H
theorem ax_R.set {X : ax_X} {z : Nat} {f : ax_F} {H H1 : Heap} {a : Nat} {e e0 : va_E} (h : ax_R X z f H) (h0 : f a = some e0) (hz : H1.size = H.size) (ho : ∀ q : Nat, q ≠ a → H1[q]? = H[q]?) (he : va_at X.2.1 vwCl (a, e) H1) : ax_R X z (va_up f a (some e)) H1 := by
  obtain ⟨r1, r2, r3, r4⟩ := h
  have ha : X.2.2.2.1.size ≤ a := (r4 a e0 h0).1
  refine ⟨hz.trans r1, r2, fun q hq => (ho q (by omega)).trans (r3 q hq), fun b e1 hb => ?_⟩
  unfold va_up at hb
  by_cases hba : b = a
  · rw [if_pos hba] at hb
    cases hb
    subst hba
    exact ⟨ha, he⟩
  · rw [if_neg hba] at hb
    exact ⟨(r4 b e1 hb).1, (r4 b e1 hb).2.kept (ho b hba)⟩
theorem ax_R.push {X : ax_X} {z : Nat} {f : ax_F} {H H1 : Heap} {e : va_E} (h : ax_R X z f H) (hz : H1.size = H.size + 1) (ho : ∀ q : Nat, q < H.size → H1[q]? = H[q]?) (he : va_at X.2.1 vwCl (z, e) H1) : ax_R X (z + 1) (va_up f z (some e)) H1 := by
  obtain ⟨r1, r2, r3, r4⟩ := h
  refine ⟨by rw [hz, r1], by omega, fun q hq => (ho q (by omega)).trans (r3 q hq), fun b e1 hb => ?_⟩
  unfold va_up at hb
  by_cases hba : b = z
  · rw [if_pos hba] at hb
    cases hb
    subst hba
    exact ⟨r2, he⟩
  · rw [if_neg hba] at hb
    have hl := (r4 b e1 hb).2.lt
    exact ⟨(r4 b e1 hb).1, (r4 b e1 hb).2.kept (ho b hl)⟩
/-! locals -/
def ax_nth : List (Option Value) → Nat → Option Value
  | [], _ => none
  | x :: _, 0 => x
  | _ :: t, k + 1 => ax_nth t k
def ax_k2 (x : Option Value) : Option Value := match x with
  | some (.long _) => none
  | some (.double _) => none
  | y => y
theorem ax_k2_spec {x : Option Value} {w : Value} (h : ax_k2 x = some w) : x = some w ∧ ¬ w.category = 2 := by
  cases x with
  | none => simp [ax_k2] at h
  | some v => cases v <;> simp [ax_k2] at h <;> subst h <;> exact ⟨rfl, by simp [Value.category]⟩
def ax_p1 : List (Option Value) → Nat → Value → List (Option Value)
  | [], _, _ => []
  | _ :: t, 0, v => some v :: t
  | x :: t, k + 1, v => (if k = 0 then ax_k2 x else x) :: ax_p1 t k v
def ax_nh : List (Option Value) → List (Option Value)
  | [] => []
  | _ :: t => none :: t
def ax_p2 : List (Option Value) → Nat → Value → List (Option Value)
  | [], _, _ => []
  | _ :: t, 0, v => some v :: ax_nh t
  | x :: t, k + 1, v => (if k = 0 then ax_k2 x else x) :: ax_p2 t k v
theorem ax_p1_spec (v : Value) : ∀ (ls : List (Option Value)) (i j : Nat) (w : Value), ax_nth (ax_p1 ls i v) j = some w → (j = i ∧ w = v) ∨ (j ≠ i ∧ ax_nth ls j = some w ∧ ¬ (j + 1 = i ∧ w.category = 2))
  | [], i, j, w, h => by simp [ax_p1, ax_nth] at h
  | x :: t, 0, 0, w, h => by
    simp [ax_p1, ax_nth] at h
    exact Or.inl ⟨rfl, h.symm⟩
  | x :: t, 0, j + 1, w, h => by
    simp only [ax_p1, ax_nth] at h
    exact Or.inr ⟨by omega, by simpa [ax_nth] using h, by omega⟩
  | x :: t, i + 1, 0, w, h => by
    simp only [ax_p1, ax_nth] at h
    by_cases hi : i = 0
    · rw [if_pos hi] at h
      obtain ⟨h1, h2⟩ := ax_k2_spec h
      exact Or.inr ⟨by omega, by simpa [ax_nth] using h1, fun q => h2 q.2⟩
    · rw [if_neg hi] at h
      exact Or.inr ⟨by omega, by simpa [ax_nth] using h, by omega⟩
  | x :: t, i + 1, j + 1, w, h => by
    simp only [ax_p1, ax_nth] at h
    rcases ax_p1_spec v t i j w h with ⟨h1, h2⟩ | ⟨h1, h2, h3⟩
    · exact Or.inl ⟨by omega, h2⟩
    · exact Or.inr ⟨by omega, by simpa [ax_nth] using h2, fun q => h3 ⟨by omega, q.2⟩⟩
theorem ax_p2_spec (v : Value) : ∀ (ls : List (Option Value)) (i j : Nat) (w : Value), ax_nth (ax_p2 ls i v) j = some w → (j = i ∧ w = v) ∨ (j ≠ i ∧ j ≠ i + 1 ∧ ax_nth ls j = some w ∧ ¬ (j + 1 = i ∧ w.category = 2))
  | [], i, j, w, h => by simp [ax_p2, ax_nth] at h
  | x :: t, 0, 0, w, h => by
    simp [ax_p2, ax_nth] at h
    exact Or.inl ⟨rfl, h.symm⟩
  | x :: t, 0, j + 1, w, h => by
    simp only [ax_p2, ax_nth] at h
    cases t with
    | nil => simp [ax_nh, ax_nth] at h
    | cons y u =>
      cases j with
      | zero => simp [ax_nh, ax_nth] at h
      | succ j =>
        simp only [ax_nh, ax_nth] at h
        exact Or.inr ⟨by omega, by omega, by simpa [ax_nth] using h, by omega⟩
  | x :: t, i + 1, 0, w, h => by
    simp only [ax_p2, ax_nth] at h
    by_cases hi : i = 0
    · rw [if_pos hi] at h
      obtain ⟨h1, h2⟩ := ax_k2_spec h
      exact Or.inr ⟨by omega, by omega, by simpa [ax_nth] using h1, fun q => h2 q.2⟩
    · rw [if_neg hi] at h
      exact Or.inr ⟨by omega, by omega, by simpa [ax_nth] using h, by omega⟩
  | x :: t, i + 1, j + 1, w, h => by
    simp only [ax_p2, ax_nth] at h
    rcases ax_p2_spec v t i j w h with ⟨h1, h2⟩ | ⟨h1, h1', h2, h3⟩
    · exact Or.inl ⟨by omega, h2⟩
    · exact Or.inr ⟨by omega, by omega, by simpa [ax_nth] using h2, fun q => h3 ⟨by omega, q.2⟩⟩
def ax_lv (ls : Array Slot) (nL : Nat) (l : List (Option Value)) : Prop := ls.size = nL ∧ lv_wf ls ∧ ∀ (i : Nat) (v : Value), ax_nth l i = some v → ls[i]? = some (.val v)
def ax_pr (nL : Nat) (l : List (Option Value)) : List (Nat × Value) := (List.range nL).filterMap (fun i => (ax_nth l i).map (fun v => (i, v)))
theorem ax_pr_mem {nL : Nat} {l : List (Option Value)} {i : Nat} {v : Value} : (i, v) ∈ ax_pr nL l ↔ i < nL ∧ ax_nth l i = some v := by
  unfold ax_pr
  rw [List.mem_filterMap]
  constructor
  · rintro ⟨j, hj, h⟩
    cases hn : ax_nth l j with
    | none => rw [hn] at h; simp at h
    | some w =>
      rw [hn] at h
      simp at h
      obtain ⟨rfl, rfl⟩ := h
      exact ⟨List.mem_range.mp hj, hn⟩
  · rintro ⟨h1, h2⟩
    exact ⟨i, List.mem_range.mpr h1, by rw [h2]; rfl⟩
theorem ax_lv.has {ls : Array Slot} {nL : Nat} {l : List (Option Value)} (h : ax_lv ls nL l) : lv_has ls nL (ax_pr nL l) :=
  ⟨h.1, h.2.1, fun q hq => h.2.2 q.1 q.2 (ax_pr_mem.mp (show (q.1, q.2) ∈ ax_pr nL l from hq)).2⟩
theorem ax_lv.lt {ls : Array Slot} {nL : Nat} {l : List (Option Value)} (h : ax_lv ls nL l) {i : Nat} {v : Value} (hi : ax_nth l i = some v) : i < nL := by
  rw [← h.1]
  exact lv_lt (h.2.2 i v hi)
theorem ax_lv.st1 {ls ls' : Array Slot} {nL i : Nat} {l : List (Option Value)} {v : Value} (h : ax_lv ls nL l) (h' : lv_has ls' nL ((i, v) :: (ax_pr nL l).filter (fun q => !(q.1 == i) && !(q.1 + 1 == i && q.2.category == 2)))) : ax_lv ls' nL (ax_p1 l i v) := by
  refine ⟨h'.1, h'.2.1, fun j w hj => ?_⟩
  rcases ax_p1_spec v l i j w hj with ⟨rfl, rfl⟩ | ⟨h1, h2, h3⟩
  · exact h'.2.2 _ List.mem_cons_self
  · refine h'.2.2 (j, w) (List.mem_cons_of_mem _ (List.mem_filter.mpr ⟨ax_pr_mem.mpr ⟨h.lt h2, h2⟩, ?_⟩))
    by_cases hc : w.category = 2
    · have : ¬ j + 1 = i := fun q => h3 ⟨q, hc⟩
      simp [h1, this]
    · simp [h1, hc]
theorem ax_lv.st2 {ls ls' : Array Slot} {nL i : Nat} {l : List (Option Value)} {v : Value} (h : ax_lv ls nL l) (h' : lv_has ls' nL ((i, v) :: (ax_pr nL l).filter (fun q => !(q.1 == i) && (!(q.1 == i + 1) && !(q.1 + 1 == i && q.2.category == 2))))) : ax_lv ls' nL (ax_p2 l i v) := by
  refine ⟨h'.1, h'.2.1, fun j w hj => ?_⟩
  rcases ax_p2_spec v l i j w hj with ⟨rfl, rfl⟩ | ⟨h1, h1', h2, h3⟩
  · exact h'.2.2 _ List.mem_cons_self
  · refine h'.2.2 (j, w) (List.mem_cons_of_mem _ (List.mem_filter.mpr ⟨ax_pr_mem.mpr ⟨h.lt h2, h2⟩, ?_⟩))
    by_cases hc : w.category = 2
    · have : ¬ j + 1 = i := fun q => h3 ⟨q, hc⟩
      simp [h1, h1', this]
    · simp [h1, h1', hc]
def ax_ag : List Value → List (Option Value)
  | [] => []
  | v :: t => if v.category = 2 then some v :: none :: ax_ag t else some v :: ax_ag t
def ax_ent (as : List Value) (n : Nat) : List (Option Value) := ax_ag as ++ List.replicate (n - (ax_ag as).length) none
theorem ax_ag_mem : ∀ (as : List Value) (k i : Nat) (v : Value) (r : List (Option Value)), (∀ j : Nat, ax_nth r j = none) → ax_nth (ax_ag as ++ r) i = some v → (k + i, v) ∈ lv_args k as
  | [], k, i, v, r, hr, h => by
    simp only [ax_ag, List.nil_append] at h
    rw [hr i] at h
    cases h
  | u :: t, k, i, v, r, hr, h => by
    unfold lv_args
    unfold ax_ag at h
    by_cases hc : u.category = 2
    · rw [if_pos hc] at h ⊢
      match i, h with
      | 0, h => simp [ax_nth] at h; subst h; exact List.mem_cons_self
      | 1, h => simp [ax_nth] at h
      | i + 2, h =>
        simp only [List.cons_append, ax_nth] at h
        have := ax_ag_mem t (k + 2) i v r hr h
        exact List.mem_cons_of_mem _ (by rwa [show k + (i + 2) = k + 2 + i by omega])
    · rw [if_neg hc] at h ⊢
      match i, h with
      | 0, h => simp [ax_nth] at h; subst h; exact List.mem_cons_self
      | i + 1, h =>
        simp only [List.cons_append, ax_nth] at h
        have := ax_ag_mem t (k + 1) i v r hr h
        exact List.mem_cons_of_mem _ (by rwa [show k + (i + 1) = k + 1 + i by omega])
theorem ax_nth_rep : ∀ (n j : Nat), ax_nth (List.replicate n none) j = none
  | 0, j => by simp [ax_nth]
  | n + 1, 0 => by simp [List.replicate_succ, ax_nth]
  | n + 1, j + 1 => by
    rw [List.replicate_succ]
    exact ax_nth_rep n j
theorem ax_lv.entry {as : List Value} {n : Nat} {ls : Array Slot} (h : lv_has ls n (lv_args 0 as)) : ax_lv ls n (ax_ent as n) :=
  ⟨h.1, h.2.1, fun i v hi => by
    have := ax_ag_mem as 0 i v _ (ax_nth_rep (n - (ax_ag as).length)) hi
    rw [Nat.zero_add] at this
    exact h.2.2 (i, v) this⟩
/-! the method's judgement -/
def ax_Q (X : ax_X) (Q : Option Value → Nat → ax_F → Prop) : Array Value → State → Outcome → State → Prop := fun _ _ o t => ∃ (v : Option Value) (z : Nat) (f : ax_F), o = .returned v ∧ Q v z f ∧ ax_R X z f t.heap
def ax_M (X : ax_X) (mi : ax_MI) (mc ms : Nat) (as : List Value) (z : Nat) (f : ax_F) (Q : Option Value → Nat → ax_F → Prop) : Prop :=
  Met X.1 mi.1 (ax_ws mi) (ax_rm mi.2.2.2.2 mc ms) (va_Pc as (fun U => ax_K X U ∧ ax_R X z f U.heap)) (ax_Q X Q) mc ms (ax_A X)
def ax_C (X : ax_X) (mi : ax_MI) (p : Program) (s : State) (m : MethodId) (args : Array Value) (meth : Method) (c : Code) : Prop :=
  p.tables.exec = Jvm.exec ∧ c.code = mi.2.1 ∧ c.maxLocals = mi.2.2.1 ∧ s.vm.findClass mi.1.cls = some m.cls ∧ (∀ w ∈ ax_ws mi, w.before args s = true) ∧ meth.sig.returnType = mi.2.2.2.1 ∧ meth.locks = false ∧ meth.name = mi.1.name ∧ ax_K X s ∧ X.2.2.2.1.size ≤ s.heap.size ∧ (∀ q : Nat, q < X.2.2.2.1.size → s.heap[q]? = X.2.2.2.1[q]?)
def ax_G (X : ax_X) (mi : ax_MI) (mc ms : Nat) (Q : Option Value → Nat → ax_F → Prop) (pc : Nat) : ax_P := fun ls st c n z f =>
  ∀ (p : Program) (e : Env) (s : State) (m : MethodId) (args : Array Value) (below : List Frame) (meth : Method) (co : Code), ax_C X mi p s m args meth co →
    ∀ (H : Heap) (locs : List Loc) (la : Array Slot), ax_lv la mi.2.2.1 ls → ax_R X z f H → (∀ q ∈ locs, ax_A X q.base) → s.heap.size ≤ H.size →
      W p X.1 e (ax_rm mi.2.2.2.2 mc ms) s m args below meth co H locs c n (MQ below (ax_Q X Q) args s mc ms (ax_A X)) (F0 m pc la st)
def ax_S (X : ax_X) (mi : ax_MI) (mc ms : Nat) (Q : Option Value → Nat → ax_F → Prop) (pc : Nat) (k : ax_P) : Prop := ∀ (ls : List (Option Value)) (st : List Value) (c n z : Nat) (f : ax_F), k ls st c n z f → ax_G X mi mc ms Q pc ls st c n z f
theorem ax_id {X : ax_X} {mi : ax_MI} {mc ms : Nat} {Q : Option Value → Nat → ax_F → Prop} {pc : Nat} : ax_S X mi mc ms Q pc (ax_G X mi mc ms Q pc) := fun _ _ _ _ _ _ h => h
/-- a method's contract out of the walk from its entry -/
theorem ax_met {X : ax_X} {mi : ax_MI} {mc ms : Nat} {as : List Value} {z : Nat} {f : ax_F} {Q : Option Value → Nat → ax_F → Prop} (hy : plainName mi.1.cls = true) (hl : (lg_sl as).length ≤ mi.2.2.1)
    (h : ax_G X mi mc ms Q 0 (ax_ent as mi.2.2.1) [] 0 0 z f) : ax_M X mi mc ms as z f Q := by
  refine Met.ofW (cc := mi.2.1) (maxL := mi.2.2.1) (ret := mi.2.2.2.1) hy rfl ?_
  intro p e s m args below meth c s₁ B hml hv
  obtain ⟨rfl, hK, hR⟩ := hv
  have hts := atoms_spec (ws := ax_ws mi) B.pre
  have hown : s.vm.findClass mi.1.cls = some m.cls := findClass_of_methodNamed B.named
  have hnm : meth.name = mi.1.name := (name_of_methodNamed B.named B.method).1
  rw [lg_entry_eq]
  have hl := lv_entry as hl
  exact h p e s m as.toArray below meth c ⟨B.exec, B.bytes, hml, hown, hts, B.returns, B.notSynchronized, hnm, hK, by rw [hR.1]; exact hR.2.1, hR.2.2.1⟩ s.heap [] _ (ax_lv.entry hl) hR (fun q hq => by simp at hq) (Nat.le_refl _)
end
section
def ax_ic (v : Int32) (k : ax_P) : ax_P := fun ls st c n z f => k ls (.int v :: st) c n z f
def ax_lc (v : Int64) (k : ax_P) : ax_P := fun ls st c n z f => k ls (.long v :: st) c n z f
def ax_nul (k : ax_P) : ax_P := fun ls st c n z f => k ls (.null :: st) c n z f
def ax_il (i : Nat) (k : ax_P) : ax_P := fun ls st c n z f => match ax_nth ls i with
  | some (.int x) => k ls (.int x :: st) c n z f
  | _ => False
def ax_ll (i : Nat) (k : ax_P) : ax_P := fun ls st c n z f => match ax_nth ls i with
  | some (.long x) => k ls (.long x :: st) c n z f
  | _ => False
def ax_al (i : Nat) (k : ax_P) : ax_P := fun ls st c n z f => match ax_nth ls i with
  | some (.ref x) => k ls (.ref x :: st) c n z f
  | some .null => k ls (.null :: st) c n z f
  | _ => False
def ax_is (i : Nat) (k : ax_P) : ax_P := fun ls st c n z f => match st with
  | .int x :: r => k (ax_p1 ls i (.int x)) r c n z f
  | _ => False
def ax_ls (i : Nat) (k : ax_P) : ax_P := fun ls st c n z f => match st with
  | .long x :: r => k (ax_p2 ls i (.long x)) r c n z f
  | _ => False
def ax_as (i : Nat) (k : ax_P) : ax_P := fun ls st c n z f => match st with
  | .ref x :: r => k (ax_p1 ls i (.ref x)) r c n z f
  | .null :: r => k (ax_p1 ls i .null) r c n z f
  | _ => False
def ax_inc (i : Nat) (v : Int32) (k : ax_P) : ax_P := fun ls st c n z f => match ax_nth ls i with
  | some (.int x) => k (ax_p1 ls i (.int (x + v))) st c n z f
  | _ => False
section AXI
variable {X : ax_X} {mi : ax_MI} {mc ms : Nat} {Q : Option Value → Nat → ax_F → Prop} {pc : Nat} {k kt kf : ax_P}
theorem sn_iconst {n0 : Int} {v : Int32} (hd : decode mi.2.1 pc = .ok (.iconst n0, 1)) (hv : Int32.ofInt n0 = v) (hk : ax_S X mi mc ms Q (pc + 1) k) : ax_S X mi mc ms Q pc (ax_ic v k) := by
  intro ls st c n z f h p e s m args below meth co C H locs la hl hR hL hz
  exact lv_iconst C.1 C.2.1 hd hv (hk _ _ _ _ _ _ h p e s m args below meth co C H locs la hl hR hL hz)
theorem sn_bipush {n0 : Int} {v : Int32} (hd : decode mi.2.1 pc = .ok (.bipush n0, 2)) (hv : (Int8.ofInt n0).toInt32 = v) (hk : ax_S X mi mc ms Q (pc + 2) k) : ax_S X mi mc ms Q pc (ax_ic v k) := by
  intro ls st c n z f h p e s m args below meth co C H locs la hl hR hL hz
  exact lv_bipush C.1 C.2.1 hd hv (hk _ _ _ _ _ _ h p e s m args below meth co C H locs la hl hR hL hz)
theorem sn_sipush {n0 : Int} {v : Int32} (hd : decode mi.2.1 pc = .ok (.sipush n0, 3)) (hv : (Int16.ofInt n0).toInt32 = v) (hk : ax_S X mi mc ms Q (pc + 3) k) : ax_S X mi mc ms Q pc (ax_ic v k) := by
  intro ls st c n z f h p e s m args below meth co C H locs la hl hR hL hz
  exact lv_sipush C.1 C.2.1 hd hv (hk _ _ _ _ _ _ h p e s m args below meth co C H locs la hl hR hL hz)
theorem sn_lconst {n0 : Fin 2} {v : Int64} (hd : decode mi.2.1 pc = .ok (.lconst n0, 1)) (hv : Int64.ofNat (n0 : Nat) = v) (hk : ax_S X mi mc ms Q (pc + 1) k) : ax_S X mi mc ms Q pc (ax_lc v k) := by
  intro ls st c n z f h p e s m args below meth co C H locs la hl hR hL hz
  exact lv_lconst C.1 C.2.1 hd hv (hk _ _ _ _ _ _ h p e s m args below meth co C H locs la hl hR hL hz)
theorem sn_ldc {idx : Nat} {v : Int32} (hd : decode mi.2.1 pc = .ok (.ldc idx, 2)) (hw : Cond.constant mi.1.cls idx v ∈ ax_T) (hk : ax_S X mi mc ms Q (pc + 2) k) : ax_S X mi mc ms Q pc (ax_ic v k) := by
  intro ls st c n z f h p e s m args below meth co C H locs la hl hR hL hz
  exact lv_ldc C.1 C.2.1 C.2.2.2.1 (C.2.2.2.2.1 _ (List.mem_cons_of_mem _ hw)) hd (hk _ _ _ _ _ _ h p e s m args below meth co C H locs la hl hR hL hz)
theorem sn_ldc2 {idx : Nat} {v : Int64} (hd : decode mi.2.1 pc = .ok (.ldc2_w idx, 3)) (hw : Cond.constantLong mi.1.cls idx v ∈ ax_T) (hk : ax_S X mi mc ms Q (pc + 3) k) : ax_S X mi mc ms Q pc (ax_lc v k) := by
  intro ls st c n z f h p e s m args below meth co C H locs la hl hR hL hz
  exact lv_ldc2 C.1 C.2.1 C.2.2.2.1 (C.2.2.2.2.1 _ (List.mem_cons_of_mem _ hw)) hd (hk _ _ _ _ _ _ h p e s m args below meth co C H locs la hl hR hL hz)
theorem sn_null (hd : decode mi.2.1 pc = .ok (.aconst_null, 1)) (hk : ax_S X mi mc ms Q (pc + 1) k) : ax_S X mi mc ms Q pc (ax_nul k) := by
  intro ls st c n z f h p e s m args below meth co C H locs la hl hR hL hz
  exact lv_null C.1 C.2.1 hd (hk _ _ _ _ _ _ h p e s m args below meth co C H locs la hl hR hL hz)
theorem sn_iload_n {i : Nat} {kk : Fin 4} (hd : decode mi.2.1 pc = .ok (.iload_n kk, 1)) (hi : (kk : Nat) = i) (hk : ax_S X mi mc ms Q (pc + 1) k) : ax_S X mi mc ms Q pc (ax_il i k) := by
  intro ls st c n z f h p e s m args below meth co C H locs la hl hR hL hz
  unfold ax_il at h
  split at h
  · rename_i x hx
    exact lv_iload_n C.1 C.2.1 hd hi (hl.2.2 i _ hx) (hk _ _ _ _ _ _ h p e s m args below meth co C H locs la hl hR hL hz)
  · exact h.elim
theorem sn_iload {i : Nat} (hd : decode mi.2.1 pc = .ok (.iload i, 2)) (hk : ax_S X mi mc ms Q (pc + 2) k) : ax_S X mi mc ms Q pc (ax_il i k) := by
  intro ls st c n z f h p e s m args below meth co C H locs la hl hR hL hz
  unfold ax_il at h
  split at h
  · rename_i x hx
    exact lv_iload C.1 C.2.1 hd (hl.2.2 i _ hx) (hk _ _ _ _ _ _ h p e s m args below meth co C H locs la hl hR hL hz)
  · exact h.elim
theorem sn_lload_n {i : Nat} {kk : Fin 4} (hd : decode mi.2.1 pc = .ok (.lload_n kk, 1)) (hi : (kk : Nat) = i) (hk : ax_S X mi mc ms Q (pc + 1) k) : ax_S X mi mc ms Q pc (ax_ll i k) := by
  intro ls st c n z f h p e s m args below meth co C H locs la hl hR hL hz
  unfold ax_ll at h
  split at h
  · rename_i x hx
    exact lv_lload_n C.1 C.2.1 hd hi (hl.2.2 i _ hx) (hk _ _ _ _ _ _ h p e s m args below meth co C H locs la hl hR hL hz)
  · exact h.elim
theorem sn_lload {i : Nat} (hd : decode mi.2.1 pc = .ok (.lload i, 2)) (hk : ax_S X mi mc ms Q (pc + 2) k) : ax_S X mi mc ms Q pc (ax_ll i k) := by
  intro ls st c n z f h p e s m args below meth co C H locs la hl hR hL hz
  unfold ax_ll at h
  split at h
  · rename_i x hx
    exact lv_lload C.1 C.2.1 hd (hl.2.2 i _ hx) (hk _ _ _ _ _ _ h p e s m args below meth co C H locs la hl hR hL hz)
  · exact h.elim
theorem sn_aload_n {i : Nat} {kk : Fin 4} (hd : decode mi.2.1 pc = .ok (.aload_n kk, 1)) (hi : (kk : Nat) = i) (hk : ax_S X mi mc ms Q (pc + 1) k) : ax_S X mi mc ms Q pc (ax_al i k) := by
  intro ls st c n z f h p e s m args below meth co C H locs la hl hR hL hz
  unfold ax_al at h
  split at h
  · rename_i x hx
    exact lv_aload_n C.1 C.2.1 hd hi (hl.2.2 i _ hx) (hk _ _ _ _ _ _ h p e s m args below meth co C H locs la hl hR hL hz)
  · rename_i hx
    exact lv_aload_nN C.1 C.2.1 hd hi (hl.2.2 i _ hx) (hk _ _ _ _ _ _ h p e s m args below meth co C H locs la hl hR hL hz)
  · exact h.elim
theorem sn_aload {i : Nat} (hd : decode mi.2.1 pc = .ok (.aload i, 2)) (hk : ax_S X mi mc ms Q (pc + 2) k) : ax_S X mi mc ms Q pc (ax_al i k) := by
  intro ls st c n z f h p e s m args below meth co C H locs la hl hR hL hz
  unfold ax_al at h
  split at h
  · rename_i x hx
    exact lv_aload C.1 C.2.1 hd (hl.2.2 i _ hx) (hk _ _ _ _ _ _ h p e s m args below meth co C H locs la hl hR hL hz)
  · rename_i hx
    exact lv_aloadN C.1 C.2.1 hd (hl.2.2 i _ hx) (hk _ _ _ _ _ _ h p e s m args below meth co C H locs la hl hR hL hz)
  · exact h.elim
theorem sn_istore_n {i : Nat} {kk : Fin 4} (hd : decode mi.2.1 pc = .ok (.istore_n kk, 1)) (hi : (kk : Nat) = i) (hn : i < mi.2.2.1) (hk : ax_S X mi mc ms Q (pc + 1) k) : ax_S X mi mc ms Q pc (ax_is i k) := by
  intro ls st c n z f h p e s m args below meth co C H locs la hl hR hL hz
  unfold ax_is at h
  split at h
  · exact lv_istore_n C.1 C.2.1 hd hi hl.has hn rfl (fun la' hl' => hk _ _ _ _ _ _ h p e s m args below meth co C H locs la' (hl.st1 hl') hR hL hz)
  · exact h.elim
theorem sn_istore {i : Nat} (hd : decode mi.2.1 pc = .ok (.istore i, 2)) (hn : i < mi.2.2.1) (hk : ax_S X mi mc ms Q (pc + 2) k) : ax_S X mi mc ms Q pc (ax_is i k) := by
  intro ls st c n z f h p e s m args below meth co C H locs la hl hR hL hz
  unfold ax_is at h
  split at h
  · exact lv_istore C.1 C.2.1 hd hl.has hn rfl (fun la' hl' => hk _ _ _ _ _ _ h p e s m args below meth co C H locs la' (hl.st1 hl') hR hL hz)
  · exact h.elim
theorem sn_lstore_n {i : Nat} {kk : Fin 4} (hd : decode mi.2.1 pc = .ok (.lstore_n kk, 1)) (hi : (kk : Nat) = i) (hn : i + 1 < mi.2.2.1) (hk : ax_S X mi mc ms Q (pc + 1) k) : ax_S X mi mc ms Q pc (ax_ls i k) := by
  intro ls st c n z f h p e s m args below meth co C H locs la hl hR hL hz
  unfold ax_ls at h
  split at h
  · exact lv_lstore_n C.1 C.2.1 hd hi hl.has hn rfl (fun la' hl' => hk _ _ _ _ _ _ h p e s m args below meth co C H locs la' (hl.st2 hl') hR hL hz)
  · exact h.elim
theorem sn_lstore {i : Nat} (hd : decode mi.2.1 pc = .ok (.lstore i, 2)) (hn : i + 1 < mi.2.2.1) (hk : ax_S X mi mc ms Q (pc + 2) k) : ax_S X mi mc ms Q pc (ax_ls i k) := by
  intro ls st c n z f h p e s m args below meth co C H locs la hl hR hL hz
  unfold ax_ls at h
  split at h
  · exact lv_lstore C.1 C.2.1 hd hl.has hn rfl (fun la' hl' => hk _ _ _ _ _ _ h p e s m args below meth co C H locs la' (hl.st2 hl') hR hL hz)
  · exact h.elim
theorem sn_astore_n {i : Nat} {kk : Fin 4} (hd : decode mi.2.1 pc = .ok (.astore_n kk, 1)) (hi : (kk : Nat) = i) (hn : i < mi.2.2.1) (hk : ax_S X mi mc ms Q (pc + 1) k) : ax_S X mi mc ms Q pc (ax_as i k) := by
  intro ls st c n z f h p e s m args below meth co C H locs la hl hR hL hz
  unfold ax_as at h
  split at h
  · exact lv_astore_n C.1 C.2.1 hd hi hl.has hn rfl (fun la' hl' => hk _ _ _ _ _ _ h p e s m args below meth co C H locs la' (hl.st1 hl') hR hL hz)
  · exact lv_astore_nN C.1 C.2.1 hd hi hl.has hn rfl (fun la' hl' => hk _ _ _ _ _ _ h p e s m args below meth co C H locs la' (hl.st1 hl') hR hL hz)
  · exact h.elim
theorem sn_astore {i : Nat} (hd : decode mi.2.1 pc = .ok (.astore i, 2)) (hn : i < mi.2.2.1) (hk : ax_S X mi mc ms Q (pc + 2) k) : ax_S X mi mc ms Q pc (ax_as i k) := by
  intro ls st c n z f h p e s m args below meth co C H locs la hl hR hL hz
  unfold ax_as at h
  split at h
  · exact lv_astore C.1 C.2.1 hd hl.has hn rfl (fun la' hl' => hk _ _ _ _ _ _ h p e s m args below meth co C H locs la' (hl.st1 hl') hR hL hz)
  · exact lv_astoreN C.1 C.2.1 hd hl.has hn rfl (fun la' hl' => hk _ _ _ _ _ _ h p e s m args below meth co C H locs la' (hl.st1 hl') hR hL hz)
  · exact h.elim
theorem sn_iinc {i : Nat} {n0 : Int} {v : Int32} (hd : decode mi.2.1 pc = .ok (.iinc i n0, 3)) (hv : Int32.ofInt n0 = v) (hn : i < mi.2.2.1) (hk : ax_S X mi mc ms Q (pc + 3) k) : ax_S X mi mc ms Q pc (ax_inc i v k) := by
  intro ls st c n z f h p e s m args below meth co C H locs la hl hR hL hz
  subst hv
  unfold ax_inc at h
  split at h
  · rename_i x hx
    obtain ⟨q, hq⟩ := List.getElem?_of_mem (ax_pr_mem.mpr ⟨hn, hx⟩)
    exact lv_iinc C.1 C.2.1 hd hl.has hq rfl hn rfl (fun la' hl' => hk _ _ _ _ _ _ h p e s m args below meth co C H locs la' (hl.st1 hl') hR hL hz)
  · exact h.elim
def ax_iadd (k : ax_P) : ax_P := fun ls st c n z f => match st with
  | .int y :: .int x :: r => k ls (.int (x + y) :: r) c n z f
  | _ => False
theorem sn_iadd (hd : decode mi.2.1 pc = .ok (.iadd, 1)) (hk : ax_S X mi mc ms Q (pc + 1) k) : ax_S X mi mc ms Q pc (ax_iadd k) := by
  intro ls st c n z f h p e s m args below meth co C H locs la hl hR hL hz
  unfold ax_iadd at h
  split at h
  · exact lv_iadd C.1 C.2.1 hd (hk _ _ _ _ _ _ h p e s m args below meth co C H locs la hl hR hL hz)
  · exact h.elim
def ax_isub (k : ax_P) : ax_P := fun ls st c n z f => match st with
  | .int y :: .int x :: r => k ls (.int (x - y) :: r) c n z f
  | _ => False
theorem sn_isub (hd : decode mi.2.1 pc = .ok (.isub, 1)) (hk : ax_S X mi mc ms Q (pc + 1) k) : ax_S X mi mc ms Q pc (ax_isub k) := by
  intro ls st c n z f h p e s m args below meth co C H locs la hl hR hL hz
  unfold ax_isub at h
  split at h
  · exact lv_isub C.1 C.2.1 hd (hk _ _ _ _ _ _ h p e s m args below meth co C H locs la hl hR hL hz)
  · exact h.elim
def ax_imul (k : ax_P) : ax_P := fun ls st c n z f => match st with
  | .int y :: .int x :: r => k ls (.int (x * y) :: r) c n z f
  | _ => False
theorem sn_imul (hd : decode mi.2.1 pc = .ok (.imul, 1)) (hk : ax_S X mi mc ms Q (pc + 1) k) : ax_S X mi mc ms Q pc (ax_imul k) := by
  intro ls st c n z f h p e s m args below meth co C H locs la hl hR hL hz
  unfold ax_imul at h
  split at h
  · exact lv_imul C.1 C.2.1 hd (hk _ _ _ _ _ _ h p e s m args below meth co C H locs la hl hR hL hz)
  · exact h.elim
def ax_iand (k : ax_P) : ax_P := fun ls st c n z f => match st with
  | .int y :: .int x :: r => k ls (.int (x &&& y) :: r) c n z f
  | _ => False
theorem sn_iand (hd : decode mi.2.1 pc = .ok (.iand, 1)) (hk : ax_S X mi mc ms Q (pc + 1) k) : ax_S X mi mc ms Q pc (ax_iand k) := by
  intro ls st c n z f h p e s m args below meth co C H locs la hl hR hL hz
  unfold ax_iand at h
  split at h
  · exact lv_iand C.1 C.2.1 hd (hk _ _ _ _ _ _ h p e s m args below meth co C H locs la hl hR hL hz)
  · exact h.elim
def ax_ior (k : ax_P) : ax_P := fun ls st c n z f => match st with
  | .int y :: .int x :: r => k ls (.int (x ||| y) :: r) c n z f
  | _ => False
theorem sn_ior (hd : decode mi.2.1 pc = .ok (.ior, 1)) (hk : ax_S X mi mc ms Q (pc + 1) k) : ax_S X mi mc ms Q pc (ax_ior k) := by
  intro ls st c n z f h p e s m args below meth co C H locs la hl hR hL hz
  unfold ax_ior at h
  split at h
  · exact lv_ior C.1 C.2.1 hd (hk _ _ _ _ _ _ h p e s m args below meth co C H locs la hl hR hL hz)
  · exact h.elim
def ax_idiv (k : ax_P) : ax_P := fun ls st c n z f => match st with
  | .int y :: .int x :: r => ¬ y = 0 ∧ k ls (.int (x / y) :: r) c n z f
  | _ => False
theorem sn_idiv (hd : decode mi.2.1 pc = .ok (.idiv, 1)) (hk : ax_S X mi mc ms Q (pc + 1) k) : ax_S X mi mc ms Q pc (ax_idiv k) := by
  intro ls st c n z f h p e s m args below meth co C H locs la hl hR hL hz
  unfold ax_idiv at h
  split at h
  · exact lv_idiv C.1 C.2.1 hd h.1 (hk _ _ _ _ _ _ h.2 p e s m args below meth co C H locs la hl hR hL hz)
  · exact h.elim
def ax_irem (k : ax_P) : ax_P := fun ls st c n z f => match st with
  | .int y :: .int x :: r => ¬ y = 0 ∧ k ls (.int (x - x / y * y) :: r) c n z f
  | _ => False
theorem sn_irem (hd : decode mi.2.1 pc = .ok (.irem, 1)) (hk : ax_S X mi mc ms Q (pc + 1) k) : ax_S X mi mc ms Q pc (ax_irem k) := by
  intro ls st c n z f h p e s m args below meth co C H locs la hl hR hL hz
  unfold ax_irem at h
  split at h
  · exact lv_irem C.1 C.2.1 hd h.1 (hk _ _ _ _ _ _ h.2 p e s m args below meth co C H locs la hl hR hL hz)
  · exact h.elim
def ax_ishl (k : ax_P) : ax_P := fun ls st c n z f => match st with
  | .int y :: .int x :: r => k ls (.int (x <<< (y &&& 31)) :: r) c n z f
  | _ => False
theorem sn_ishl (hd : decode mi.2.1 pc = .ok (.ishl, 1)) (hk : ax_S X mi mc ms Q (pc + 1) k) : ax_S X mi mc ms Q pc (ax_ishl k) := by
  intro ls st c n z f h p e s m args below meth co C H locs la hl hR hL hz
  unfold ax_ishl at h
  split at h
  · exact lv_ishl C.1 C.2.1 hd (hk _ _ _ _ _ _ h p e s m args below meth co C H locs la hl hR hL hz)
  · exact h.elim
def ax_ishr (k : ax_P) : ax_P := fun ls st c n z f => match st with
  | .int y :: .int x :: r => k ls (.int (x >>> (y &&& 31)) :: r) c n z f
  | _ => False
theorem sn_ishr (hd : decode mi.2.1 pc = .ok (.ishr, 1)) (hk : ax_S X mi mc ms Q (pc + 1) k) : ax_S X mi mc ms Q pc (ax_ishr k) := by
  intro ls st c n z f h p e s m args below meth co C H locs la hl hR hL hz
  unfold ax_ishr at h
  split at h
  · exact lv_ishr C.1 C.2.1 hd (hk _ _ _ _ _ _ h p e s m args below meth co C H locs la hl hR hL hz)
  · exact h.elim
def ax_ladd (k : ax_P) : ax_P := fun ls st c n z f => match st with
  | .long y :: .long x :: r => k ls (.long (x + y) :: r) c n z f
  | _ => False
theorem sn_ladd (hd : decode mi.2.1 pc = .ok (.ladd, 1)) (hk : ax_S X mi mc ms Q (pc + 1) k) : ax_S X mi mc ms Q pc (ax_ladd k) := by
  intro ls st c n z f h p e s m args below meth co C H locs la hl hR hL hz
  unfold ax_ladd at h
  split at h
  · exact lv_ladd C.1 C.2.1 hd (hk _ _ _ _ _ _ h p e s m args below meth co C H locs la hl hR hL hz)
  · exact h.elim
def ax_lsub (k : ax_P) : ax_P := fun ls st c n z f => match st with
  | .long y :: .long x :: r => k ls (.long (x - y) :: r) c n z f
  | _ => False
theorem sn_lsub (hd : decode mi.2.1 pc = .ok (.lsub, 1)) (hk : ax_S X mi mc ms Q (pc + 1) k) : ax_S X mi mc ms Q pc (ax_lsub k) := by
  intro ls st c n z f h p e s m args below meth co C H locs la hl hR hL hz
  unfold ax_lsub at h
  split at h
  · exact lv_lsub C.1 C.2.1 hd (hk _ _ _ _ _ _ h p e s m args below meth co C H locs la hl hR hL hz)
  · exact h.elim
def ax_lmul (k : ax_P) : ax_P := fun ls st c n z f => match st with
  | .long y :: .long x :: r => k ls (.long (x * y) :: r) c n z f
  | _ => False
theorem sn_lmul (hd : decode mi.2.1 pc = .ok (.lmul, 1)) (hk : ax_S X mi mc ms Q (pc + 1) k) : ax_S X mi mc ms Q pc (ax_lmul k) := by
  intro ls st c n z f h p e s m args below meth co C H locs la hl hR hL hz
  unfold ax_lmul at h
  split at h
  · exact lv_lmul C.1 C.2.1 hd (hk _ _ _ _ _ _ h p e s m args below meth co C H locs la hl hR hL hz)
  · exact h.elim
def ax_ldiv (k : ax_P) : ax_P := fun ls st c n z f => match st with
  | .long y :: .long x :: r => ¬ y = 0 ∧ k ls (.long (x / y) :: r) c n z f
  | _ => False
theorem sn_ldiv (hd : decode mi.2.1 pc = .ok (.ldiv, 1)) (hk : ax_S X mi mc ms Q (pc + 1) k) : ax_S X mi mc ms Q pc (ax_ldiv k) := by
  intro ls st c n z f h p e s m args below meth co C H locs la hl hR hL hz
  unfold ax_ldiv at h
  split at h
  · exact lv_ldiv C.1 C.2.1 hd h.1 (hk _ _ _ _ _ _ h.2 p e s m args below meth co C H locs la hl hR hL hz)
  · exact h.elim
def ax_lrem (k : ax_P) : ax_P := fun ls st c n z f => match st with
  | .long y :: .long x :: r => ¬ y = 0 ∧ k ls (.long (x - x / y * y) :: r) c n z f
  | _ => False
theorem sn_lrem (hd : decode mi.2.1 pc = .ok (.lrem, 1)) (hk : ax_S X mi mc ms Q (pc + 1) k) : ax_S X mi mc ms Q pc (ax_lrem k) := by
  intro ls st c n z f h p e s m args below meth co C H locs la hl hR hL hz
  unfold ax_lrem at h
  split at h
  · exact lv_lrem C.1 C.2.1 hd h.1 (hk _ _ _ _ _ _ h.2 p e s m args below meth co C H locs la hl hR hL hz)
  · exact h.elim
def ax_ineg (k : ax_P) : ax_P := fun ls st c n z f => match st with
  | .int x :: r => k ls (.int (-x) :: r) c n z f
  | _ => False
theorem sn_ineg (hd : decode mi.2.1 pc = .ok (.ineg, 1)) (hk : ax_S X mi mc ms Q (pc + 1) k) : ax_S X mi mc ms Q pc (ax_ineg k) := by
  intro ls st c n z f h p e s m args below meth co C H locs la hl hR hL hz
  unfold ax_ineg at h
  split at h
  · exact lv_ineg C.1 C.2.1 hd (hk _ _ _ _ _ _ h p e s m args below meth co C H locs la hl hR hL hz)
  · exact h.elim
def ax_lneg (k : ax_P) : ax_P := fun ls st c n z f => match st with
  | .long x :: r => k ls (.long (-x) :: r) c n z f
  | _ => False
theorem sn_lneg (hd : decode mi.2.1 pc = .ok (.lneg, 1)) (hk : ax_S X mi mc ms Q (pc + 1) k) : ax_S X mi mc ms Q pc (ax_lneg k) := by
  intro ls st c n z f h p e s m args below meth co C H locs la hl hR hL hz
  unfold ax_lneg at h
  split at h
  · exact lv_lneg C.1 C.2.1 hd (hk _ _ _ _ _ _ h p e s m args below meth co C H locs la hl hR hL hz)
  · exact h.elim
def ax_i2l (k : ax_P) : ax_P := fun ls st c n z f => match st with
  | .int x :: r => k ls (.long (x.toInt64) :: r) c n z f
  | _ => False
theorem sn_i2l (hd : decode mi.2.1 pc = .ok (.i2l, 1)) (hk : ax_S X mi mc ms Q (pc + 1) k) : ax_S X mi mc ms Q pc (ax_i2l k) := by
  intro ls st c n z f h p e s m args below meth co C H locs la hl hR hL hz
  unfold ax_i2l at h
  split at h
  · exact lv_i2l C.1 C.2.1 hd rfl (hk _ _ _ _ _ _ h p e s m args below meth co C H locs la hl hR hL hz)
  · exact h.elim
def ax_l2i (k : ax_P) : ax_P := fun ls st c n z f => match st with
  | .long x :: r => k ls (.int (x.toInt32) :: r) c n z f
  | _ => False
theorem sn_l2i (hd : decode mi.2.1 pc = .ok (.l2i, 1)) (hk : ax_S X mi mc ms Q (pc + 1) k) : ax_S X mi mc ms Q pc (ax_l2i k) := by
  intro ls st c n z f h p e s m args below meth co C H locs la hl hR hL hz
  unfold ax_l2i at h
  split at h
  · exact lv_l2i C.1 C.2.1 hd rfl (hk _ _ _ _ _ _ h p e s m args below meth co C H locs la hl hR hL hz)
  · exact h.elim
def ax_lcmp (k : ax_P) : ax_P := fun ls st c n z f => match st with
  | .long y :: .long x :: r => k ls (.int (lg_cmp x y) :: r) c n z f
  | _ => False
theorem sn_lcmp (hd : decode mi.2.1 pc = .ok (.lcmp, 1)) (hk : ax_S X mi mc ms Q (pc + 1) k) : ax_S X mi mc ms Q pc (ax_lcmp k) := by
  intro ls st c n z f h p e s m args below meth co C H locs la hl hR hL hz
  unfold ax_lcmp at h
  split at h
  · exact W.lcmp C.1 C.2.1 hd (hk _ _ _ _ _ _ h p e s m args below meth co C H locs la hl hR hL hz)
  · exact h.elim
def ax_dup (k : ax_P) : ax_P := fun ls st c n z f => match st with
  | v :: r => v.category = 1 ∧ k ls (v :: v :: r) c n z f
  | _ => False
theorem sn_dup (hd : decode mi.2.1 pc = .ok (.dup, 1)) (hk : ax_S X mi mc ms Q (pc + 1) k) : ax_S X mi mc ms Q pc (ax_dup k) := by
  intro ls st c n z f h p e s m args below meth co C H locs la hl hR hL hz
  unfold ax_dup at h
  split at h
  · exact lv_dup C.1 C.2.1 hd h.1 (hk _ _ _ _ _ _ h.2 p e s m args below meth co C H locs la hl hR hL hz)
  · exact h.elim
def ax_pop1 (k : ax_P) : ax_P := fun ls st c n z f => match st with
  | v :: r => v.category = 1 ∧ k ls r c n z f
  | _ => False
theorem sn_pop (hd : decode mi.2.1 pc = .ok (.pop, 1)) (hk : ax_S X mi mc ms Q (pc + 1) k) : ax_S X mi mc ms Q pc (ax_pop1 k) := by
  intro ls st c n z f h p e s m args below meth co C H locs la hl hR hL hz
  unfold ax_pop1 at h
  split at h
  · exact lv_pop C.1 C.2.1 hd h.1 (hk _ _ _ _ _ _ h.2 p e s m args below meth co C H locs la hl hR hL hz)
  · exact h.elim
def ax_dupx1 (k : ax_P) : ax_P := fun ls st c n z f => match st with
  | v :: w :: r => v.category = 1 ∧ w.category = 1 ∧ k ls (v :: w :: v :: r) c n z f
  | _ => False
theorem sn_dupx1 (hd : decode mi.2.1 pc = .ok (.dup_x1, 1)) (hk : ax_S X mi mc ms Q (pc + 1) k) : ax_S X mi mc ms Q pc (ax_dupx1 k) := by
  intro ls st c n z f h p e s m args below meth co C H locs la hl hR hL hz
  unfold ax_dupx1 at h
  split at h
  · exact lv_dup_x1 C.1 C.2.1 hd h.1 h.2.1 (hk _ _ _ _ _ _ h.2.2 p e s m args below meth co C H locs la hl hR hL hz)
  · exact h.elim
def ax_dup2 (k : ax_P) : ax_P := fun ls st c n z f => match st with
  | v :: w :: r => v.category = 1 ∧ w.category = 1 ∧ k ls (v :: w :: v :: w :: r) c n z f
  | _ => False
theorem sn_dup2 (hd : decode mi.2.1 pc = .ok (.dup2, 1)) (hk : ax_S X mi mc ms Q (pc + 1) k) : ax_S X mi mc ms Q pc (ax_dup2 k) := by
  intro ls st c n z f h p e s m args below meth co C H locs la hl hR hL hz
  unfold ax_dup2 at h
  split at h
  · exact lv_dup2_11 C.1 C.2.1 hd h.1 h.2.1 (hk _ _ _ _ _ _ h.2.2 p e s m args below meth co C H locs la hl hR hL hz)
  · exact h.elim
def ax_ifeq (kt kf : ax_P) : ax_P := fun ls st c n z f => match st with
  | .int x :: r => (x = 0 → kt ls r c n z f) ∧ (¬ x = 0 → kf ls r c n z f)
  | _ => False
theorem sn_ifeq {off : Int} {tgt : Nat} (hd : decode mi.2.1 pc = .ok (.ifCond .eq off, 3)) (ht : (pc : Int) + off = (tgt : Int)) (hkt : ax_S X mi mc ms Q tgt kt) (hkf : ax_S X mi mc ms Q (pc + 3) kf) : ax_S X mi mc ms Q pc (ax_ifeq kt kf) := by
  intro ls st c n z f h p e s m args below meth co C H locs la hl hR hL hz
  unfold ax_ifeq at h
  split at h
  · exact lv_if_eq C.1 C.2.1 hd ht (fun q => hkt _ _ _ _ _ _ (h.1 q) p e s m args below meth co C H locs la hl hR hL hz) (fun q => hkf _ _ _ _ _ _ (h.2 q) p e s m args below meth co C H locs la hl hR hL hz)
  · exact h.elim
def ax_iceq (kt kf : ax_P) : ax_P := fun ls st c n z f => match st with
  | .int y :: .int x :: r => (x = y → kt ls r c n z f) ∧ (¬ x = y → kf ls r c n z f)
  | _ => False
theorem sn_iceq {off : Int} {tgt : Nat} (hd : decode mi.2.1 pc = .ok (.if_icmp .eq off, 3)) (ht : (pc : Int) + off = (tgt : Int)) (hkt : ax_S X mi mc ms Q tgt kt) (hkf : ax_S X mi mc ms Q (pc + 3) kf) : ax_S X mi mc ms Q pc (ax_iceq kt kf) := by
  intro ls st c n z f h p e s m args below meth co C H locs la hl hR hL hz
  unfold ax_iceq at h
  split at h
  · exact lv_icmp_eq C.1 C.2.1 hd ht (fun q => hkt _ _ _ _ _ _ (h.1 q) p e s m args below meth co C H locs la hl hR hL hz) (fun q => hkf _ _ _ _ _ _ (h.2 q) p e s m args below meth co C H locs la hl hR hL hz)
  · exact h.elim
def ax_ifne (kt kf : ax_P) : ax_P := fun ls st c n z f => match st with
  | .int x :: r => (¬ x = 0 → kt ls r c n z f) ∧ (x = 0 → kf ls r c n z f)
  | _ => False
theorem sn_ifne {off : Int} {tgt : Nat} (hd : decode mi.2.1 pc = .ok (.ifCond .ne off, 3)) (ht : (pc : Int) + off = (tgt : Int)) (hkt : ax_S X mi mc ms Q tgt kt) (hkf : ax_S X mi mc ms Q (pc + 3) kf) : ax_S X mi mc ms Q pc (ax_ifne kt kf) := by
  intro ls st c n z f h p e s m args below meth co C H locs la hl hR hL hz
  unfold ax_ifne at h
  split at h
  · exact lv_if_ne C.1 C.2.1 hd ht (fun q => hkt _ _ _ _ _ _ (h.1 q) p e s m args below meth co C H locs la hl hR hL hz) (fun q => hkf _ _ _ _ _ _ (h.2 q) p e s m args below meth co C H locs la hl hR hL hz)
  · exact h.elim
def ax_icne (kt kf : ax_P) : ax_P := fun ls st c n z f => match st with
  | .int y :: .int x :: r => (¬ x = y → kt ls r c n z f) ∧ (x = y → kf ls r c n z f)
  | _ => False
theorem sn_icne {off : Int} {tgt : Nat} (hd : decode mi.2.1 pc = .ok (.if_icmp .ne off, 3)) (ht : (pc : Int) + off = (tgt : Int)) (hkt : ax_S X mi mc ms Q tgt kt) (hkf : ax_S X mi mc ms Q (pc + 3) kf) : ax_S X mi mc ms Q pc (ax_icne kt kf) := by
  intro ls st c n z f h p e s m args below meth co C H locs la hl hR hL hz
  unfold ax_icne at h
  split at h
  · exact lv_icmp_ne C.1 C.2.1 hd ht (fun q => hkt _ _ _ _ _ _ (h.1 q) p e s m args below meth co C H locs la hl hR hL hz) (fun q => hkf _ _ _ _ _ _ (h.2 q) p e s m args below meth co C H locs la hl hR hL hz)
  · exact h.elim
def ax_iflt (kt kf : ax_P) : ax_P := fun ls st c n z f => match st with
  | .int x :: r => (x < 0 → kt ls r c n z f) ∧ (¬ x < 0 → kf ls r c n z f)
  | _ => False
theorem sn_iflt {off : Int} {tgt : Nat} (hd : decode mi.2.1 pc = .ok (.ifCond .lt off, 3)) (ht : (pc : Int) + off = (tgt : Int)) (hkt : ax_S X mi mc ms Q tgt kt) (hkf : ax_S X mi mc ms Q (pc + 3) kf) : ax_S X mi mc ms Q pc (ax_iflt kt kf) := by
  intro ls st c n z f h p e s m args below meth co C H locs la hl hR hL hz
  unfold ax_iflt at h
  split at h
  · exact lv_if_lt C.1 C.2.1 hd ht (fun q => hkt _ _ _ _ _ _ (h.1 q) p e s m args below meth co C H locs la hl hR hL hz) (fun q => hkf _ _ _ _ _ _ (h.2 q) p e s m args below meth co C H locs la hl hR hL hz)
  · exact h.elim
def ax_iclt (kt kf : ax_P) : ax_P := fun ls st c n z f => match st with
  | .int y :: .int x :: r => (x < y → kt ls r c n z f) ∧ (¬ x < y → kf ls r c n z f)
  | _ => False
theorem sn_iclt {off : Int} {tgt : Nat} (hd : decode mi.2.1 pc = .ok (.if_icmp .lt off, 3)) (ht : (pc : Int) + off = (tgt : Int)) (hkt : ax_S X mi mc ms Q tgt kt) (hkf : ax_S X mi mc ms Q (pc + 3) kf) : ax_S X mi mc ms Q pc (ax_iclt kt kf) := by
  intro ls st c n z f h p e s m args below meth co C H locs la hl hR hL hz
  unfold ax_iclt at h
  split at h
  · exact lv_icmp_lt C.1 C.2.1 hd ht (fun q => hkt _ _ _ _ _ _ (h.1 q) p e s m args below meth co C H locs la hl hR hL hz) (fun q => hkf _ _ _ _ _ _ (h.2 q) p e s m args below meth co C H locs la hl hR hL hz)
  · exact h.elim
def ax_ifge (kt kf : ax_P) : ax_P := fun ls st c n z f => match st with
  | .int x :: r => (0 ≤ x → kt ls r c n z f) ∧ (¬ 0 ≤ x → kf ls r c n z f)
  | _ => False
theorem sn_ifge {off : Int} {tgt : Nat} (hd : decode mi.2.1 pc = .ok (.ifCond .ge off, 3)) (ht : (pc : Int) + off = (tgt : Int)) (hkt : ax_S X mi mc ms Q tgt kt) (hkf : ax_S X mi mc ms Q (pc + 3) kf) : ax_S X mi mc ms Q pc (ax_ifge kt kf) := by
  intro ls st c n z f h p e s m args below meth co C H locs la hl hR hL hz
  unfold ax_ifge at h
  split at h
  · exact lv_if_ge C.1 C.2.1 hd ht (fun q => hkt _ _ _ _ _ _ (h.1 q) p e s m args below meth co C H locs la hl hR hL hz) (fun q => hkf _ _ _ _ _ _ (h.2 q) p e s m args below meth co C H locs la hl hR hL hz)
  · exact h.elim
def ax_icge (kt kf : ax_P) : ax_P := fun ls st c n z f => match st with
  | .int y :: .int x :: r => (y ≤ x → kt ls r c n z f) ∧ (¬ y ≤ x → kf ls r c n z f)
  | _ => False
theorem sn_icge {off : Int} {tgt : Nat} (hd : decode mi.2.1 pc = .ok (.if_icmp .ge off, 3)) (ht : (pc : Int) + off = (tgt : Int)) (hkt : ax_S X mi mc ms Q tgt kt) (hkf : ax_S X mi mc ms Q (pc + 3) kf) : ax_S X mi mc ms Q pc (ax_icge kt kf) := by
  intro ls st c n z f h p e s m args below meth co C H locs la hl hR hL hz
  unfold ax_icge at h
  split at h
  · exact lv_icmp_ge C.1 C.2.1 hd ht (fun q => hkt _ _ _ _ _ _ (h.1 q) p e s m args below meth co C H locs la hl hR hL hz) (fun q => hkf _ _ _ _ _ _ (h.2 q) p e s m args below meth co C H locs la hl hR hL hz)
  · exact h.elim
def ax_ifgt (kt kf : ax_P) : ax_P := fun ls st c n z f => match st with
  | .int x :: r => (0 < x → kt ls r c n z f) ∧ (¬ 0 < x → kf ls r c n z f)
  | _ => False
theorem sn_ifgt {off : Int} {tgt : Nat} (hd : decode mi.2.1 pc = .ok (.ifCond .gt off, 3)) (ht : (pc : Int) + off = (tgt : Int)) (hkt : ax_S X mi mc ms Q tgt kt) (hkf : ax_S X mi mc ms Q (pc + 3) kf) : ax_S X mi mc ms Q pc (ax_ifgt kt kf) := by
  intro ls st c n z f h p e s m args below meth co C H locs la hl hR hL hz
  unfold ax_ifgt at h
  split at h
  · exact lv_if_gt C.1 C.2.1 hd ht (fun q => hkt _ _ _ _ _ _ (h.1 q) p e s m args below meth co C H locs la hl hR hL hz) (fun q => hkf _ _ _ _ _ _ (h.2 q) p e s m args below meth co C H locs la hl hR hL hz)
  · exact h.elim
def ax_icgt (kt kf : ax_P) : ax_P := fun ls st c n z f => match st with
  | .int y :: .int x :: r => (y < x → kt ls r c n z f) ∧ (¬ y < x → kf ls r c n z f)
  | _ => False
theorem sn_icgt {off : Int} {tgt : Nat} (hd : decode mi.2.1 pc = .ok (.if_icmp .gt off, 3)) (ht : (pc : Int) + off = (tgt : Int)) (hkt : ax_S X mi mc ms Q tgt kt) (hkf : ax_S X mi mc ms Q (pc + 3) kf) : ax_S X mi mc ms Q pc (ax_icgt kt kf) := by
  intro ls st c n z f h p e s m args below meth co C H locs la hl hR hL hz
  unfold ax_icgt at h
  split at h
  · exact lv_icmp_gt C.1 C.2.1 hd ht (fun q => hkt _ _ _ _ _ _ (h.1 q) p e s m args below meth co C H locs la hl hR hL hz) (fun q => hkf _ _ _ _ _ _ (h.2 q) p e s m args below meth co C H locs la hl hR hL hz)
  · exact h.elim
def ax_ifle (kt kf : ax_P) : ax_P := fun ls st c n z f => match st with
  | .int x :: r => (x ≤ 0 → kt ls r c n z f) ∧ (¬ x ≤ 0 → kf ls r c n z f)
  | _ => False
theorem sn_ifle {off : Int} {tgt : Nat} (hd : decode mi.2.1 pc = .ok (.ifCond .le off, 3)) (ht : (pc : Int) + off = (tgt : Int)) (hkt : ax_S X mi mc ms Q tgt kt) (hkf : ax_S X mi mc ms Q (pc + 3) kf) : ax_S X mi mc ms Q pc (ax_ifle kt kf) := by
  intro ls st c n z f h p e s m args below meth co C H locs la hl hR hL hz
  unfold ax_ifle at h
  split at h
  · exact lv_if_le C.1 C.2.1 hd ht (fun q => hkt _ _ _ _ _ _ (h.1 q) p e s m args below meth co C H locs la hl hR hL hz) (fun q => hkf _ _ _ _ _ _ (h.2 q) p e s m args below meth co C H locs la hl hR hL hz)
  · exact h.elim
def ax_icle (kt kf : ax_P) : ax_P := fun ls st c n z f => match st with
  | .int y :: .int x :: r => (x ≤ y → kt ls r c n z f) ∧ (¬ x ≤ y → kf ls r c n z f)
  | _ => False
theorem sn_icle {off : Int} {tgt : Nat} (hd : decode mi.2.1 pc = .ok (.if_icmp .le off, 3)) (ht : (pc : Int) + off = (tgt : Int)) (hkt : ax_S X mi mc ms Q tgt kt) (hkf : ax_S X mi mc ms Q (pc + 3) kf) : ax_S X mi mc ms Q pc (ax_icle kt kf) := by
  intro ls st c n z f h p e s m args below meth co C H locs la hl hR hL hz
  unfold ax_icle at h
  split at h
  · exact lv_icmp_le C.1 C.2.1 hd ht (fun q => hkt _ _ _ _ _ _ (h.1 q) p e s m args below meth co C H locs la hl hR hL hz) (fun q => hkf _ _ _ _ _ _ (h.2 q) p e s m args below meth co C H locs la hl hR hL hz)
  · exact h.elim
def ax_ifnull (kt kf : ax_P) : ax_P := fun ls st c n z f => match st with
  | .null :: r => kt ls r c n z f
  | .ref _ :: r => kf ls r c n z f
  | _ => False
theorem sn_ifnull {off : Int} {tgt : Nat} (hd : decode mi.2.1 pc = .ok (.ifnull off, 3)) (ht : (pc : Int) + off = (tgt : Int)) (hkt : ax_S X mi mc ms Q tgt kt) (hkf : ax_S X mi mc ms Q (pc + 3) kf) : ax_S X mi mc ms Q pc (ax_ifnull kt kf) := by
  intro ls st c n z f h p e s m args below meth co C H locs la hl hR hL hz
  unfold ax_ifnull at h
  split at h
  · exact lv_ifnullN C.1 C.2.1 hd ht (hkt _ _ _ _ _ _ h p e s m args below meth co C H locs la hl hR hL hz)
  · exact lv_ifnull C.1 C.2.1 hd (hkf _ _ _ _ _ _ h p e s m args below meth co C H locs la hl hR hL hz)
  · exact h.elim
def ax_ifnn (kt kf : ax_P) : ax_P := fun ls st c n z f => match st with
  | .null :: r => kf ls r c n z f
  | .ref _ :: r => kt ls r c n z f
  | _ => False
theorem sn_ifnn {off : Int} {tgt : Nat} (hd : decode mi.2.1 pc = .ok (.ifnonnull off, 3)) (ht : (pc : Int) + off = (tgt : Int)) (hkt : ax_S X mi mc ms Q tgt kt) (hkf : ax_S X mi mc ms Q (pc + 3) kf) : ax_S X mi mc ms Q pc (ax_ifnn kt kf) := by
  intro ls st c n z f h p e s m args below meth co C H locs la hl hR hL hz
  unfold ax_ifnn at h
  split at h
  · exact lv_ifnonnullN C.1 C.2.1 hd (hkf _ _ _ _ _ _ h p e s m args below meth co C H locs la hl hR hL hz)
  · exact lv_ifnonnull C.1 C.2.1 hd ht (hkt _ _ _ _ _ _ h p e s m args below meth co C H locs la hl hR hL hz)
  · exact h.elim
theorem sn_goto {off : Int} {tgt : Nat} (hd : decode mi.2.1 pc = .ok (.goto off, 3)) (ht : (pc : Int) + off = (tgt : Int)) (hk : ax_S X mi mc ms Q tgt k) : ax_S X mi mc ms Q pc k := by
  intro ls st c n z f h p e s m args below meth co C H locs la hl hR hL hz
  exact lv_goto C.1 C.2.1 hd ht (hk _ _ _ _ _ _ h p e s m args below meth co C H locs la hl hR hL hz)
/-- a switch: the row of targets by the number, else the default's -/
def ax_sw (lo hi : Int) (K : Nat → ax_P) (kd : ax_P) : ax_P := fun ls st c n z f => match st with
  | .int x :: r => ((x.toInt < lo ∨ hi < x.toInt) → kd ls r c n z f) ∧ ∀ j : Nat, x.toInt = lo + j → x.toInt ≤ hi → K j ls r c n z f
  | _ => False
theorem sn_sw {dflt lo hi : Int} {offs : Array Int} {len td : Nat} {K : Nat → ax_P} {kd : ax_P} (hd : decode mi.2.1 pc = .ok (.tableswitch dflt lo hi offs, len)) (ht : (pc : Int) + dflt = (td : Int)) (hkd : ax_S X mi mc ms Q td kd)
    (hK : ∀ j : Nat, lo + j ≤ hi → ∃ (off : Int) (t : Nat), offs[j]? = some off ∧ (pc : Int) + off = (t : Int) ∧ ax_S X mi mc ms Q t (K j)) : ax_S X mi mc ms Q pc (ax_sw lo hi K kd) := by
  intro ls st c n z f h p e s m args below meth co C H locs la hl hR hL hz
  unfold ax_sw at h
  split at h
  · rename_i x r
    by_cases hx : x.toInt < lo ∨ hi < x.toInt
    · exact lv_tableOut C.1 C.2.1 hd hx ht (hkd _ _ _ _ _ _ (h.1 hx) p e s m args below meth co C H locs la hl hR hL hz)
    · have h1 : ¬ x.toInt < lo := fun q => hx (Or.inl q)
      have h2 : ¬ hi < x.toInt := fun q => hx (Or.inr q)
      have hj : x.toInt = lo + ((x.toInt - lo).toNat : Int) := by omega
      obtain ⟨off, t, ho, hto, hS⟩ := hK (x.toInt - lo).toNat (by omega)
      exact lv_tableIn C.1 C.2.1 hd h1 h2 ho hto (hS _ _ _ _ _ _ (h.2 _ hj (by omega)) p e s m args below meth co C H locs la hl hR hL hz)
  · exact h.elim
/-! the returns -/
def ax_Rt (mc ms : Nat) (Q : Option Value → Nat → ax_F → Prop) (v : Option Value) (c n z : Nat) (f : ax_F) : Prop := c ≤ mc ∧ n ≤ ms ∧ Q v z f
def ax_iret (T : Option Value → Nat → Nat → Nat → ax_F → Prop) : ax_P := fun _ st c n z f => match st with
  | [.int x] => T (some (.int x)) c n z f
  | _ => False
def ax_zret (T : Option Value → Nat → Nat → Nat → ax_F → Prop) : ax_P := fun _ st c n z f => match st with
  | [.int x] => (x = 0 ∨ x = 1) ∧ T (some (.int x)) c n z f
  | _ => False
def ax_lret (T : Option Value → Nat → Nat → Nat → ax_F → Prop) : ax_P := fun _ st c n z f => match st with
  | [.long x] => T (some (.long x)) c n z f
  | _ => False
def ax_vret (T : Option Value → Nat → Nat → Nat → ax_F → Prop) : ax_P := fun _ st c n z f => match st with
  | [] => T none c n z f
  | _ => False
def ax_aret (T : Option Value → Nat → Nat → Nat → ax_F → Prop) : ax_P := fun _ st c n z f => match st with
  | [.ref a] => T (some (.ref a)) c n z f
  | [.null] => T (some .null) c n z f
  | _ => False
theorem sn_iret (hd : decode mi.2.1 pc = .ok (.ireturn, 1)) (hr : mi.2.2.2.1 = some .int) : ax_S X mi mc ms Q pc (ax_iret (ax_Rt mc ms Q)) := by
  intro ls st c n z f h p e s m args below meth co C H locs la hl hR hL hz
  unfold ax_iret at h
  split at h
  · have hlk := C.2.2.2.2.2.2.1
    exact W.widen h.1 h.2.1 (W.iret C.1 C.2.1 (C.2.2.2.2.2.1.trans hr) (fun t ht _ => ⟨_, _, _, rfl, h.2.2, by rw [ht]; exact hR⟩) hL hd hlk)
  · exact h.elim
theorem sn_zret (hd : decode mi.2.1 pc = .ok (.ireturn, 1)) (hr : mi.2.2.2.1 = some .boolean) : ax_S X mi mc ms Q pc (ax_zret (ax_Rt mc ms Q)) := by
  intro ls st c n z f h p e s m args below meth co C H locs la hl hR hL hz
  unfold ax_zret at h
  split at h
  · have hlk := C.2.2.2.2.2.2.1
    exact W.widen h.2.1 h.2.2.1 (W.zret C.1 C.2.1 (C.2.2.2.2.2.1.trans hr) (by rcases h.1 with q | q <;> rw [q] <;> decide) (fun t ht _ => ⟨_, _, _, rfl, h.2.2.2, by rw [ht]; exact hR⟩) hL hd hlk)
  · exact h.elim
theorem sn_lret (hd : decode mi.2.1 pc = .ok (.lreturn, 1)) (hr : mi.2.2.2.1 = some .long) : ax_S X mi mc ms Q pc (ax_lret (ax_Rt mc ms Q)) := by
  intro ls st c n z f h p e s m args below meth co C H locs la hl hR hL hz
  unfold ax_lret at h
  split at h
  · have hlk := C.2.2.2.2.2.2.1
    exact W.widen h.1 h.2.1 (W.lret C.1 C.2.1 (C.2.2.2.2.2.1.trans hr) (fun t ht _ => ⟨_, _, _, rfl, h.2.2, by rw [ht]; exact hR⟩) hL hd hlk)
  · exact h.elim
theorem sn_vret (hd : decode mi.2.1 pc = .ok (.return_, 1)) (hr : mi.2.2.2.1 = none) : ax_S X mi mc ms Q pc (ax_vret (ax_Rt mc ms Q)) := by
  intro ls st c n z f h p e s m args below meth co C H locs la hl hR hL hz
  unfold ax_vret at h
  split at h
  · have hlk := C.2.2.2.2.2.2.1
    exact W.widen h.1 h.2.1 (W.vret C.1 C.2.1 (C.2.2.2.2.2.1.trans hr) (fun t ht _ => ⟨_, _, _, rfl, h.2.2, by rw [ht]; exact hR⟩) hL hd hlk)
  · exact h.elim
theorem sn_aret {C0 : String} (hd : decode mi.2.1 pc = .ok (.areturn, 1)) (hr : mi.2.2.2.1 = some (.object C0)) : ax_S X mi mc ms Q pc (ax_aret (ax_Rt mc ms Q)) := by
  intro ls st c n z f h p e s m args below meth co C H locs la hl hR hL hz
  unfold ax_aret at h
  split at h
  · have hlk := C.2.2.2.2.2.2.1
    exact W.widen h.1 h.2.1 (W.aret C.1 C.2.1 (C.2.2.2.2.2.1.trans hr) (Or.inl ⟨_, rfl⟩) (Or.inr ⟨_, rfl⟩) (fun t ht _ => ⟨_, _, _, rfl, h.2.2, by rw [ht]; exact hR⟩) hL hd hlk)
  · have hlk := C.2.2.2.2.2.2.1
    exact W.widen h.1 h.2.1 (W.aret C.1 C.2.1 (C.2.2.2.2.2.1.trans hr) (Or.inl ⟨_, rfl⟩) (Or.inl rfl) (fun t ht _ => ⟨_, _, _, rfl, h.2.2, by rw [ht]; exact hR⟩) hL hd hlk)
  · exact h.elim
end AXI
end
section
theorem ax_R.one {X : ax_X} {z : Nat} {f : ax_F} {H : Heap} {a : Nat} {e : va_E} (h : ax_R X z f H) (ha : f a = some e) : va_P X.2.1 vwCl [(a, e)] H := by
  intro k q hq
  have hk : k < 1 := (List.getElem?_eq_some_iff.mp hq).1
  rw [show k = 0 by omega] at hq
  cases hq
  exact (h.2.2.2 a e ha).2
/-! fields -/
def ax_gf (ci k : Nat) (kk : ax_P) : ax_P := fun ls st c n z f => match st with
  | .ref a :: r => (match f a with
    | some (.inr (cj, fs)) => cj = ci ∧ (match fs[k]? with
      | some v => kk ls (v :: r) c n z f
      | none => False)
    | _ => False)
  | _ => False
def ax_pfi (ci k : Nat) (kk : ax_P) : ax_P := fun ls st c n z f => match st with
  | .int x :: .ref a :: r => (match f a with
    | some (.inr (cj, fs)) => cj = ci ∧ k < fs.length ∧ kk ls r c n z (va_up f a (some (.inr (ci, fs.set k (.int x)))))
    | _ => False)
  | _ => False
def ax_pfz (ci k : Nat) (kk : ax_P) : ax_P := fun ls st c n z f => match st with
  | .int x :: .ref a :: r => (match f a with
    | some (.inr (cj, fs)) => cj = ci ∧ k < fs.length ∧ (x = 0 ∨ x = 1) ∧ kk ls r c n z (va_up f a (some (.inr (ci, fs.set k (.int x)))))
    | _ => False)
  | _ => False
def ax_pfl (ci k : Nat) (kk : ax_P) : ax_P := fun ls st c n z f => match st with
  | .long x :: .ref a :: r => (match f a with
    | some (.inr (cj, fs)) => cj = ci ∧ k < fs.length ∧ kk ls r c n z (va_up f a (some (.inr (ci, fs.set k (.long x)))))
    | _ => False)
  | _ => False
def ax_pfr (ci k : Nat) (kk : ax_P) : ax_P := fun ls st c n z f => match st with
  | .ref x :: .ref a :: r => (match f a with
    | some (.inr (cj, fs)) => cj = ci ∧ k < fs.length ∧ kk ls r c n z (va_up f a (some (.inr (ci, fs.set k (.ref x)))))
    | _ => False)
  | _ => False
section AXH
variable {X : ax_X} {mi : ax_MI} {mc ms : Nat} {Q : Option Value → Nat → ax_F → Prop} {pc : Nat} {kk : ax_P}
theorem sn_gf {idx ci k N : Nat} {Cn ref : String} {T : u_T} (hd : decode mi.2.1 pc = .ok (.getfield idx, 3)) (hc : vwCl[ci]? = some (Cn, T, N)) (hin : ∀ w ∈ u_ws Cn T N, w ∈ ax_T) (hkN : k < N) (hrf : ref = (T k).1) (hw : Cond.fieldLink mi.1.cls idx ref (T k).2.1 (T k).2.2.1 ∈ ax_T)
    (hk : ax_S X mi mc ms Q (pc + 3) kk) : ax_S X mi mc ms Q pc (ax_gf ci k kk) := by
  intro ls st c n z f h p e s m args below meth co C H locs la hl hR hL hz
  subst hrf
  unfold ax_gf at h
  split at h
  · split at h
    · rename_i ha
      obtain ⟨rfl, h⟩ := h
      split at h
      · rename_i hv
        exact va_get C.1 C.2.1 C.2.2.2.2.1 (fun w hw => List.mem_cons_of_mem _ (hin w hw)) C.2.2.2.1 C.2.2.2.2.2.2.2.2.1.1 (hR.one ha) 0 rfl hc k hkN (C.2.2.2.2.1 _ (List.mem_cons_of_mem _ hw)) (fun _ h9 => h9) hv hd (hk _ _ _ _ _ _ h p e s m args below meth co C H locs la hl hR hL hz)
      · exact h.elim
    · exact h.elim
  · exact h.elim
theorem sn_gfN {idx ci k N : Nat} {Cn ref host : String} {T : u_T} (hd : decode mi.2.1 pc = .ok (.getfield idx, 3)) (hc : vwCl[ci]? = some (Cn, T, N)) (hin : ∀ w ∈ u_ws Cn T N, w ∈ ax_T) (hkN : k < N) (hrf : ref = (T k).1) (hw : Cond.fieldLinkNest mi.1.cls idx ref (T k).2.1 (T k).2.2.1 host ∈ lw_tbl)
    (hk : ax_S X mi mc ms Q (pc + 3) kk) : ax_S X mi mc ms Q pc (ax_gf ci k kk) := by
  intro ls st c n z f h p e s m args below meth co C H locs la hl hR hL hz
  subst hrf
  unfold ax_gf at h
  split at h
  · split at h
    · rename_i ha
      obtain ⟨rfl, h⟩ := h
      split at h
      · rename_i hv
        exact va_getN C.1 C.2.1 C.2.2.2.2.1 (fun w hw => List.mem_cons_of_mem _ (hin w hw)) C.2.2.2.1 C.2.2.2.2.2.2.2.2.1.1 (hR.one ha) 0 rfl hc k hkN ((C.2.2.2.2.2.2.2.2.1.2.2.1 _ _ _ _ _ _ hw).use rfl) (fun _ h9 => h9) hv hd (hk _ _ _ _ _ _ h p e s m args below meth co C H locs la hl hR hL hz)
      · exact h.elim
    · exact h.elim
  · exact h.elim
/-- a store into a field, the pure part: the cell that comes of it -/
theorem ax_put_at {s : State} {args : Array Value} {ci k N a : Nat} {Cn : String} {T : u_T} {fs : List Value} {v : Value} {cell : Cell} {H1 : Heap} {ty0 : Nat → FieldType} (hc : vwCl[ci]? = some (Cn, T, N)) (hts : ∀ w ∈ ax_ws mi, w.before args s = true) (hin : ∀ w ∈ u_ws Cn T N, w ∈ ax_T) (hty : ∀ k, k < N → parseFieldDescriptor (T k).2.2.1 = some (ty0 k)) (hnm : ∀ a, a < N → ∀ b, b < N → a ≠ b → (T a).2.1 ≠ (T b).2.1) (hK : ax_K X s) (hkN : k < N) (hl : k < fs.length)
    (q2 : cell.cls = X.2.1.1 ci) (q3 : cell.vm = .none) (q4 : ∀ k, k < N → cell.slots[X.2.1.2 ci k]? = some (vp_V fs k)) (e1 : H1[a]? = some (cell.setSlot (X.2.1.2 ci k) v)) : va_at X.2.1 vwCl (a, .inr (ci, fs.set k v)) H1 := by
  have hap := va_apart (own := "") hts (fun w hw => List.mem_cons_of_mem _ (hin w hw)) ty0 hty hnm hK.1 hc
  exact ⟨_, hc, t_OB.to (V := updV (vp_V fs) k v) ⟨_, e1, q2, q3, t_set q4 hap hkN v⟩ (fun j _ => vp_updV_set hl v j)⟩
theorem ax_put {p : Program} {e : Env} {s : State} {m : MethodId} {args : Array Value} {below : List Frame} {meth : Method} {co : Code} {H : Heap} {locs : List Loc} {la : Array Slot} {c n z : Nat} {f : ax_F} {r : List Value} {Qw : State → Prop} {R : Room}
    {idx ci k N a : Nat} {Cn ref : String} {T : u_T} {fs : List Value} {v : Value} {ty : FieldType} {ty0 : Nat → FieldType} (C : ax_C X mi p s m args meth co) (hR : ax_R X z f H) (ha : f a = some (.inr (ci, fs)))
    (hd : decode mi.2.1 pc = .ok (.putfield idx, 3)) (hc : vwCl[ci]? = some (Cn, T, N)) (hin : ∀ w ∈ u_ws Cn T N, w ∈ ax_T) (hty : ∀ k, k < N → parseFieldDescriptor (T k).2.2.1 = some (ty0 k)) (hnm : ∀ a, a < N → ∀ b, b < N → a ≠ b → (T a).2.1 ≠ (T b).2.1) (hkN : k < N) (hrf : ref = (T k).1) (hw : Cond.fieldLink mi.1.cls idx ref (T k).2.1 (T k).2.2.1 ∈ ax_T)
    (hfin : (T k).2.2.2 = false ∨ ((T k).2.2.2 = true ∧ mi.1.name = "<init>" ∧ (T k).1 = mi.1.cls)) (hdt : parseFieldDescriptor (T k).2.2.1 = some ty) (hn : narrow ty v = v) (hfit : fits ty v = true) (hl : k < fs.length)
    (hkk : ∀ (H1 : Heap) (locs1 : List Loc), ax_R X z (va_up f a (some (.inr (ci, fs.set k v)))) H1 → (∀ q ∈ locs1, q ∈ locs ∨ q.base = a) → H1.size = H.size → W p X.1 e R s m args below meth co H1 locs1 c n Qw (F0 m (pc + 3) la r)) :
    W p X.1 e R s m args below meth co H locs c n Qw (F0 m pc la (v :: .ref a :: r)) := by
  subst hrf
  obtain ⟨hx, hb, hml, hown, hts, hrt, hlk, hname, hK, -⟩ := C
  have hinT : ∀ w ∈ u_ws Cn T N, w ∈ ax_ws mi := fun w hw => List.mem_cons_of_mem _ (hin w hw)
  obtain ⟨r', h1, cell, q1, q2, q3, q4⟩ := (hR.2.2.2 a _ ha).2
  have hr' : r' = (Cn, T, N) := Option.some.inj (h1.symm.trans hc)
  subst hr'
  obtain ⟨hS, hfc, kC, hkC, hkind⟩ := hK.1.1 ci _ hc
  obtain ⟨cf, kf, fi, fd, hi, hsl⟩ := hS k hkN
  have hlay := hts _ (hinT _ (u_in_lay hkN))
  unfold u_lay at hlay
  have hst := (u_facts hfc hkC (u_lays hts hinT hkN) hi).1
  rcases hfin with hfin | ⟨hfin, hin2, hdecl⟩
  · rw [if_neg (by rw [hfin]; decide)] at hlay
    have h6 := u_store hfc hkC hkind hlay hi hdt hn hfit
    refine W.putK hx hb (f := fd) ⟨hown, hts _ (List.mem_cons_of_mem _ hw), ⟨_, _, _, hi⟩, hst⟩ (by rw [q2]; exact h6) q1 q3 (by rw [hsl]; exact k2_hasslot (q4 k hkN)) rfl rfl hd fun H' e1 e2 e3 => ?_
    rw [hsl] at e1
    exact hkk H' _ (hR.set ha e2 e3 (ax_put_at hc hts hin hty hnm hK hkN hl q2 q3 q4 e1)) (fun q hq => by
      rcases List.mem_append.mp hq with h | h
      · exact Or.inl h
      · exact Or.inr (by rw [List.mem_singleton.mp h])) e2
  · rw [if_pos hfin] at hlay
    have hcf : m.cls = cf := by
      obtain ⟨_, _, c', _, _, _, -, -, hf', -, -, -, hown2, -⟩ := Cond.laysFinal_spec hlay
      have e1 : c' = cf := by have := hi.symm.trans hf'; simp at this; exact this.1.symm
      rw [hdecl] at hown2
      rw [← e1]; exact Option.some.inj (hown.symm.trans hown2)
    have h6 := u_fits hfc hkC hkind (Or.inr hlay) hi hdt hn hfit
    refine W.putFinK hx hb hown (hts _ (List.mem_cons_of_mem _ hw)) hi hst hcf (hname.trans hin2) (by rw [q2]; exact h6) q1 q3 (by rw [hsl]; exact k2_hasslot (q4 k hkN)) rfl rfl hd fun H' e1 e2 e3 => ?_
    rw [hsl] at e1
    exact hkk H' _ (hR.set ha e2 e3 (ax_put_at hc hts hin hty hnm hK hkN hl q2 q3 q4 e1)) (fun q hq => by
      rcases List.mem_append.mp hq with h | h
      · exact Or.inl h
      · exact Or.inr (by rw [List.mem_singleton.mp h])) e2
theorem sn_pfi {idx ci k N : Nat} {Cn ref : String} {T : u_T} {ty0 : Nat → FieldType} (hd : decode mi.2.1 pc = .ok (.putfield idx, 3)) (hc : vwCl[ci]? = some (Cn, T, N)) (hin : ∀ w ∈ u_ws Cn T N, w ∈ ax_T) (hty : ∀ k, k < N → parseFieldDescriptor (T k).2.2.1 = some (ty0 k)) (hnm : ∀ a, a < N → ∀ b, b < N → a ≠ b → (T a).2.1 ≠ (T b).2.1) (hkN : k < N) (hrf : ref = (T k).1) (hw : Cond.fieldLink mi.1.cls idx ref (T k).2.1 (T k).2.2.1 ∈ ax_T)
    (hfin : (T k).2.2.2 = false ∨ ((T k).2.2.2 = true ∧ mi.1.name = "<init>" ∧ (T k).1 = mi.1.cls)) (hdt : parseFieldDescriptor (T k).2.2.1 = some .int) (hk : ax_S X mi mc ms Q (pc + 3) kk) : ax_S X mi mc ms Q pc (ax_pfi ci k kk) := by
  intro ls st c n z f h p e s m args below meth co C H locs la hl hR hL hz
  unfold ax_pfi at h
  split at h
  · rename_i x a r
    split at h
    · rename_i ha
      obtain ⟨rfl, hlen, h⟩ := h
      have hA := (hR.2.2.2 _ _ ha).1
      exact ax_put C hR ha hd hc hin hty hnm hkN hrf hw hfin hdt rfl rfl hlen fun H1 locs1 hR1 hL1 hz1 => hk _ _ _ _ _ _ h p e s m args below meth co C H1 locs1 la hl hR1 (fun q hq => (hL1 q hq).elim (hL q) (fun e => by rw [e]; exact hA)) (by rw [hz1]; exact hz)
    · exact h.elim
  · exact h.elim
theorem sn_pfz {idx ci k N : Nat} {Cn ref : String} {T : u_T} {ty0 : Nat → FieldType} (hd : decode mi.2.1 pc = .ok (.putfield idx, 3)) (hc : vwCl[ci]? = some (Cn, T, N)) (hin : ∀ w ∈ u_ws Cn T N, w ∈ ax_T) (hty : ∀ k, k < N → parseFieldDescriptor (T k).2.2.1 = some (ty0 k)) (hnm : ∀ a, a < N → ∀ b, b < N → a ≠ b → (T a).2.1 ≠ (T b).2.1) (hkN : k < N) (hrf : ref = (T k).1) (hw : Cond.fieldLink mi.1.cls idx ref (T k).2.1 (T k).2.2.1 ∈ ax_T)
    (hfin : (T k).2.2.2 = false ∨ ((T k).2.2.2 = true ∧ mi.1.name = "<init>" ∧ (T k).1 = mi.1.cls)) (hdt : parseFieldDescriptor (T k).2.2.1 = some .boolean) (hk : ax_S X mi mc ms Q (pc + 3) kk) : ax_S X mi mc ms Q pc (ax_pfz ci k kk) := by
  intro ls st c n z f h p e s m args below meth co C H locs la hl hR hL hz
  unfold ax_pfz at h
  split at h
  · rename_i x a r
    split at h
    · rename_i ha
      obtain ⟨rfl, hlen, h01, h⟩ := h
      have hA := (hR.2.2.2 _ _ ha).1
      exact ax_put C hR ha hd hc hin hty hnm hkN hrf hw hfin hdt (by rcases h01 with q | q <;> rw [q] <;> decide) (by rcases h01 with q | q <;> rw [q] <;> decide) hlen fun H1 locs1 hR1 hL1 hz1 => hk _ _ _ _ _ _ h p e s m args below meth co C H1 locs1 la hl hR1 (fun q hq => (hL1 q hq).elim (hL q) (fun e => by rw [e]; exact hA)) (by rw [hz1]; exact hz)
    · exact h.elim
  · exact h.elim
theorem sn_pfl {idx ci k N : Nat} {Cn ref : String} {T : u_T} {ty0 : Nat → FieldType} (hd : decode mi.2.1 pc = .ok (.putfield idx, 3)) (hc : vwCl[ci]? = some (Cn, T, N)) (hin : ∀ w ∈ u_ws Cn T N, w ∈ ax_T) (hty : ∀ k, k < N → parseFieldDescriptor (T k).2.2.1 = some (ty0 k)) (hnm : ∀ a, a < N → ∀ b, b < N → a ≠ b → (T a).2.1 ≠ (T b).2.1) (hkN : k < N) (hrf : ref = (T k).1) (hw : Cond.fieldLink mi.1.cls idx ref (T k).2.1 (T k).2.2.1 ∈ ax_T)
    (hfin : (T k).2.2.2 = false ∨ ((T k).2.2.2 = true ∧ mi.1.name = "<init>" ∧ (T k).1 = mi.1.cls)) (hdt : parseFieldDescriptor (T k).2.2.1 = some .long) (hk : ax_S X mi mc ms Q (pc + 3) kk) : ax_S X mi mc ms Q pc (ax_pfl ci k kk) := by
  intro ls st c n z f h p e s m args below meth co C H locs la hl hR hL hz
  unfold ax_pfl at h
  split at h
  · rename_i x a r
    split at h
    · rename_i ha
      obtain ⟨rfl, hlen, h⟩ := h
      have hA := (hR.2.2.2 _ _ ha).1
      exact ax_put C hR ha hd hc hin hty hnm hkN hrf hw hfin hdt rfl rfl hlen fun H1 locs1 hR1 hL1 hz1 => hk _ _ _ _ _ _ h p e s m args below meth co C H1 locs1 la hl hR1 (fun q hq => (hL1 q hq).elim (hL q) (fun e => by rw [e]; exact hA)) (by rw [hz1]; exact hz)
    · exact h.elim
  · exact h.elim
theorem sn_pfr {idx ci k N : Nat} {Cn ref : String} {T : u_T} {ty : FieldType} {ty0 : Nat → FieldType} (hd : decode mi.2.1 pc = .ok (.putfield idx, 3)) (hc : vwCl[ci]? = some (Cn, T, N)) (hin : ∀ w ∈ u_ws Cn T N, w ∈ ax_T) (hty : ∀ k, k < N → parseFieldDescriptor (T k).2.2.1 = some (ty0 k)) (hnm : ∀ a, a < N → ∀ b, b < N → a ≠ b → (T a).2.1 ≠ (T b).2.1) (hkN : k < N) (hrf : ref = (T k).1) (hw : Cond.fieldLink mi.1.cls idx ref (T k).2.1 (T k).2.2.1 ∈ ax_T)
    (hfin : (T k).2.2.2 = false ∨ ((T k).2.2.2 = true ∧ mi.1.name = "<init>" ∧ (T k).1 = mi.1.cls)) (hdt : parseFieldDescriptor (T k).2.2.1 = some ty) (hrt : ty.isReference = true) (hk : ax_S X mi mc ms Q (pc + 3) kk) : ax_S X mi mc ms Q pc (ax_pfr ci k kk) := by
  intro ls st c n z f h p e s m args below meth co C H locs la hl hR hL hz
  unfold ax_pfr at h
  split at h
  · rename_i x a r
    split at h
    · rename_i ha
      obtain ⟨rfl, hlen, h⟩ := h
      have hA := (hR.2.2.2 _ _ ha).1
      exact ax_put C hR ha hd hc hin hty hnm hkN hrf hw hfin hdt (by cases ty <;> first | rfl | cases hrt) (by cases ty <;> first | rfl | cases hrt) hlen fun H1 locs1 hR1 hL1 hz1 => hk _ _ _ _ _ _ h p e s m args below meth co C H1 locs1 la hl hR1 (fun q hq => (hL1 q hq).elim (hL q) (fun e => by rw [e]; exact hA)) (by rw [hz1]; exact hz)
    · exact h.elim
  · exact h.elim
end AXH
end
section
theorem ax_sti (cA : ClassId) (n i : Nat) (g : Nat → Int32) (x : Int32) : (vp_cell cA (n, .inl g)).setSlot i (.int x) = vp_cell cA (n, .inl (va_up g i x)) := by
  rw [vp_cell_i, vp_cell_i, arrV_store]
  congr 1
  funext q
  by_cases hq : q = i <;> simp [updV, va_up, hq]
theorem ax_stl (cA : ClassId) (n i : Nat) (g : Nat → Int64) (x : Int64) : (vp_cell cA (n, .inr (.inl g))).setSlot i (.long x) = vp_cell cA (n, .inr (.inl (va_up g i x))) := by
  rw [vp_cell_l, vp_cell_l, arrV_store]
  congr 1
  funext q
  by_cases hq : q = i <;> simp [updV, va_up, hq]
theorem ax_stq (cA : ClassId) (n i v : Nat) (g : Nat → Option Nat) : (vp_cell cA (n, .inr (.inr (.inr (.inr g))))).setSlot i (.ref v) = vp_cell cA (n, .inr (.inr (.inr (.inr (va_up g i (some v)))))) := by
  rw [vp_cell_q, vp_cell_q, arrV_store]
  congr 1
  funext q
  by_cases hq : q = i <;> simp [updV, va_up, hq, va_rf]
def ax_iald (X : ax_X) (k : ax_P) : ax_P := fun ls st c n z f => match st with
  | .int i :: .ref a :: r => (match f a with
    | some (.inl (cA, nn, .inl g)) => cA = X.2.2.1 0 ∧ vp_in i nn ∧ k ls (.int (g i.toNatClampNeg) :: r) c n z f
    | _ => False)
  | _ => False
def ax_zald (X : ax_X) (k : ax_P) : ax_P := fun ls st c n z f => match st with
  | .int i :: .ref a :: r => (match f a with
    | some (.inl (cA, nn, .inl g)) => cA = X.2.2.1 2 ∧ vp_in i nn ∧ k ls (.int (g i.toNatClampNeg) :: r) c n z f
    | _ => False)
  | _ => False
def ax_lald (X : ax_X) (k : ax_P) : ax_P := fun ls st c n z f => match st with
  | .int i :: .ref a :: r => (match f a with
    | some (.inl (cA, nn, .inr (.inl g))) => cA = X.2.2.1 1 ∧ vp_in i nn ∧ k ls (.long (g i.toNatClampNeg) :: r) c n z f
    | _ => False)
  | _ => False
def ax_aald (X : ax_X) (t : Nat) (k : ax_P) : ax_P := fun ls st c n z f => match st with
  | .int i :: .ref a :: r => (match f a with
    | some (.inl (cA, nn, .inr (.inr (.inr (.inr g))))) => cA = X.2.2.1 t ∧ vp_in i nn ∧ k ls (va_rf (g i.toNatClampNeg) :: r) c n z f
    | _ => False)
  | _ => False
def ax_iast (X : ax_X) (k : ax_P) : ax_P := fun ls st c n z f => match st with
  | .int x :: .int i :: .ref a :: r => (match f a with
    | some (.inl (cA, nn, .inl g)) => cA = X.2.2.1 0 ∧ vp_in i nn ∧ k ls r c n z (va_up f a (some (.inl (cA, nn, .inl (va_up g i.toNatClampNeg x)))))
    | _ => False)
  | _ => False
def ax_zast (X : ax_X) (k : ax_P) : ax_P := fun ls st c n z f => match st with
  | .int x :: .int i :: .ref a :: r => (match f a with
    | some (.inl (cA, nn, .inl g)) => cA = X.2.2.1 2 ∧ vp_in i nn ∧ (x = 0 ∨ x = 1) ∧ k ls r c n z (va_up f a (some (.inl (cA, nn, .inl (va_up g i.toNatClampNeg x)))))
    | _ => False)
  | _ => False
def ax_last (X : ax_X) (k : ax_P) : ax_P := fun ls st c n z f => match st with
  | .long x :: .int i :: .ref a :: r => (match f a with
    | some (.inl (cA, nn, .inr (.inl g))) => cA = X.2.2.1 1 ∧ vp_in i nn ∧ k ls r c n z (va_up f a (some (.inl (cA, nn, .inr (.inl (va_up g i.toNatClampNeg x))))))
    | _ => False)
  | _ => False
def ax_aast (X : ax_X) (t ci : Nat) (k : ax_P) : ax_P := fun ls st c n z f => match st with
  | .ref v :: .int i :: .ref a :: r => (match f a with
    | some (.inl (cA, nn, .inr (.inr (.inr (.inr g))))) => cA = X.2.2.1 t ∧ vp_in i nn ∧ (match f v with
      | some (.inr (cj, _)) => cj = ci ∧ k ls r c n z (va_up f a (some (.inl (cA, nn, .inr (.inr (.inr (.inr (va_up g i.toNatClampNeg (some v)))))))))
      | _ => False)
    | _ => False)
  | _ => False
/-- the length of a row that was made: which kind it is of plays no part -/
def ax_alen (X : ax_X) (t : Nat) (k : ax_P) : ax_P := fun ls st c n z f => match st with
  | .ref a :: r => (match f a with
    | some (.inl (cA, nn, _)) => cA = X.2.2.1 t ∧ k ls (.int (Int32.ofNat nn) :: r) c n z f
    | _ => False)
  | _ => False
/-! rows that are only read: the script, the statics -/
def ax_ialdR (X : ax_X) (k : ax_P) : ax_P := fun ls st c n z f => match st with
  | .int i :: .ref a :: r => (match X.2.2.2.2.1 a with
    | some (nn, g) => vp_in i nn ∧ k ls (.int (g i.toNatClampNeg) :: r) c n z f
    | none => False)
  | _ => False
def ax_alenR (X : ax_X) (k : ax_P) : ax_P := fun ls st c n z f => match st with
  | .ref a :: r => (match X.2.2.2.2.1 a with
    | some (nn, _) => k ls (.int (Int32.ofNat nn) :: r) c n z f
    | none => False)
  | _ => False
def ax_gst (X : ax_X) (j : Nat) (k : ax_P) : ax_P := fun ls st c n z f => k ls (.ref (X.2.2.2.2.2 j) :: st) c n z f
/-! new cells -/
def ax_new (mc ms ci N : Nat) (fs : List Value) (k : ax_P) : ax_P := fun ls st c n z f => c + 1 ≤ mc ∧ n + N ≤ ms ∧ k ls (.ref z :: st) (c + 1) (n + N) (z + 1) (va_up f z (some (.inr (ci, fs))))
def ax_nwi (X : ax_X) (mc ms t : Nat) (k : ax_P) : ax_P := fun ls st c n z f => match st with
  | .int N :: r => ¬ N < 0 ∧ N.toNatClampNeg ≤ 1000000 ∧ c + 1 ≤ mc ∧ n + N.toNatClampNeg ≤ ms ∧ k ls (.ref z :: r) (c + 1) (n + N.toNatClampNeg) (z + 1) (va_up f z (some (.inl (X.2.2.1 t, N.toNatClampNeg, .inl (fun _ => 0)))))
  | _ => False
def ax_nwl (X : ax_X) (mc ms : Nat) (k : ax_P) : ax_P := fun ls st c n z f => match st with
  | .int N :: r => ¬ N < 0 ∧ N.toNatClampNeg ≤ 1000000 ∧ c + 1 ≤ mc ∧ n + N.toNatClampNeg ≤ ms ∧ k ls (.ref z :: r) (c + 1) (n + N.toNatClampNeg) (z + 1) (va_up f z (some (.inl (X.2.2.1 1, N.toNatClampNeg, .inr (.inl (fun _ => 0))))))
  | _ => False
def ax_nwq (X : ax_X) (mc ms t : Nat) (k : ax_P) : ax_P := fun ls st c n z f => match st with
  | .int N :: r => ¬ N < 0 ∧ N.toNatClampNeg ≤ 1000000 ∧ c + 1 ≤ mc ∧ n + N.toNatClampNeg ≤ ms ∧ k ls (.ref z :: r) (c + 1) (n + N.toNatClampNeg) (z + 1) (va_up f z (some (.inl (X.2.2.1 t, N.toNatClampNeg, .inr (.inr (.inr (.inr (fun _ => none))))))))
  | _ => False
section AXA
variable {X : ax_X} {mi : ax_MI} {mc ms : Nat} {Q : Option Value → Nat → ax_F → Prop} {pc : Nat} {k : ax_P}
theorem sn_iald (hd : decode mi.2.1 pc = .ok (.iaload, 1)) (hk : ax_S X mi mc ms Q (pc + 1) k) : ax_S X mi mc ms Q pc (ax_iald X k) := by
  intro ls st c n z f h p e s m args below meth co C H locs la hl hR hL hz
  unfold ax_iald at h
  split at h
  · split at h
    · rename_i ha
      obtain ⟨rfl, hin, h⟩ := h
      exact va_iald C.1 C.2.1 C.2.2.2.2.2.2.2.2.1.1 (hR.one ha) 0 0 rfl rfl hin hd (hk _ _ _ _ _ _ h p e s m args below meth co C H locs la hl hR hL hz)
    · exact h.elim
  · exact h.elim
theorem sn_zald (hd : decode mi.2.1 pc = .ok (.baload, 1)) (hk : ax_S X mi mc ms Q (pc + 1) k) : ax_S X mi mc ms Q pc (ax_zald X k) := by
  intro ls st c n z f h p e s m args below meth co C H locs la hl hR hL hz
  unfold ax_zald at h
  split at h
  · split at h
    · rename_i ha
      obtain ⟨rfl, hin, h⟩ := h
      exact va_zald C.1 C.2.1 C.2.2.2.2.2.2.2.2.1.1 (hR.one ha) 0 2 rfl rfl hin hd (hk _ _ _ _ _ _ h p e s m args below meth co C H locs la hl hR hL hz)
    · exact h.elim
  · exact h.elim
theorem sn_lald (hd : decode mi.2.1 pc = .ok (.laload, 1)) (hk : ax_S X mi mc ms Q (pc + 1) k) : ax_S X mi mc ms Q pc (ax_lald X k) := by
  intro ls st c n z f h p e s m args below meth co C H locs la hl hR hL hz
  unfold ax_lald at h
  split at h
  · split at h
    · rename_i ha
      obtain ⟨rfl, hin, h⟩ := h
      exact va_lald C.1 C.2.1 C.2.2.2.2.2.2.2.2.1.1 (hR.one ha) 0 1 rfl rfl hin hd (hk _ _ _ _ _ _ h p e s m args below meth co C H locs la hl hR hL hz)
    · exact h.elim
  · exact h.elim
theorem sn_aald {t : Nat} {ty : FieldType} (hd : decode mi.2.1 pc = .ok (.aaload, 1)) (ht : (ax_tys X)[t]? = some (X.2.2.1 t, ty)) (hty : ty.isReference = true) (hk : ax_S X mi mc ms Q (pc + 1) k) : ax_S X mi mc ms Q pc (ax_aald X t k) := by
  intro ls st c n z f h p e s m args below meth co C H locs la hl hR hL hz
  unfold ax_aald at h
  split at h
  · rename_i i a r
    split at h
    · rename_i cA nn g ha
      obtain ⟨rfl, hin, h⟩ := h
      have hlt : i.toNatClampNeg < nn := Nat.not_le.mp fun q => hin (Or.inr q)
      exact W.aald (v := va_rf (g i.toNatClampNeg)) C.1 C.2.1 (hR.one ha 0 _ rfl) ((C.2.2.2.2.2.2.2.2.1.1.2 t _ ht).1 nn (fun j => va_rf (g j))) hty (fun q => by cases q) (by show ¬ (i < 0 ∨ (arrV _ _ _).slots.size ≤ _); rw [arrV_size]; exact hin) (by show (arrV _ _ _).slots[_]? = _; rw [arrV_read _ _ hlt]) rfl rfl hd (hk _ _ _ _ _ _ h p e s m args below meth co C H locs la hl hR hL hz)
    · exact h.elim
  · exact h.elim
theorem sn_iast (hd : decode mi.2.1 pc = .ok (.iastore, 1)) (hk : ax_S X mi mc ms Q (pc + 1) k) : ax_S X mi mc ms Q pc (ax_iast X k) := by
  intro ls st c n z f h p e s m args below meth co C H locs la hl hR hL hz
  unfold ax_iast at h
  split at h
  · rename_i x i a r
    split at h
    · rename_i cA nn g ha
      obtain ⟨rfl, hin, h⟩ := h
      have hA := (hR.2.2.2 _ _ ha).1
      refine W.iast C.1 C.2.1 (hR.one ha 0 _ rfl) ((C.2.2.2.2.2.2.2.2.1.1.2 0 _ rfl).1 nn (fun j => .int (g j))) (fun q => by cases q) (by show ¬ (i < 0 ∨ (arrV _ _ _).slots.size ≤ _); rw [arrV_size]; exact hin) rfl rfl hd fun H1 e1 z1 oq => ?_
      exact hk _ _ _ _ _ _ h p e s m args below meth co C H1 _ la hl (hR.set ha z1 oq (by show H1[a]? = some (vp_cell _ _); rw [e1]; exact congrArg some (ax_sti _ _ _ _ _))) (fun q hq => (List.mem_append.mp hq).elim (hL q) (fun h9 => by rw [List.mem_singleton.mp h9]; exact hA)) (by rw [z1]; exact hz)
    · exact h.elim
  · exact h.elim
theorem sn_zast (hd : decode mi.2.1 pc = .ok (.bastore, 1)) (hk : ax_S X mi mc ms Q (pc + 1) k) : ax_S X mi mc ms Q pc (ax_zast X k) := by
  intro ls st c n z f h p e s m args below meth co C H locs la hl hR hL hz
  unfold ax_zast at h
  split at h
  · rename_i x i a r
    split at h
    · rename_i cA nn g ha
      obtain ⟨rfl, hin, h01, h⟩ := h
      have hA := (hR.2.2.2 _ _ ha).1
      have hnr : narrow .boolean (.int x) = .int x := by rcases h01 with q | q <;> rw [q] <;> decide
      refine W.zast C.1 C.2.1 (hR.one ha 0 _ rfl) ((C.2.2.2.2.2.2.2.2.1.1.2 2 _ rfl).1 nn (fun j => .int (g j))) (fun q => by cases q) (by show ¬ (i < 0 ∨ (arrV _ _ _).slots.size ≤ _); rw [arrV_size]; exact hin) rfl rfl hd fun H1 e1 z1 oq => ?_
      rw [hnr] at e1
      exact hk _ _ _ _ _ _ h p e s m args below meth co C H1 _ la hl (hR.set ha z1 oq (by show H1[a]? = some (vp_cell _ _); rw [e1]; exact congrArg some (ax_sti _ _ _ _ _))) (fun q hq => (List.mem_append.mp hq).elim (hL q) (fun h9 => by rw [List.mem_singleton.mp h9]; exact hA)) (by rw [z1]; exact hz)
    · exact h.elim
  · exact h.elim
theorem sn_last (hd : decode mi.2.1 pc = .ok (.lastore, 1)) (hk : ax_S X mi mc ms Q (pc + 1) k) : ax_S X mi mc ms Q pc (ax_last X k) := by
  intro ls st c n z f h p e s m args below meth co C H locs la hl hR hL hz
  unfold ax_last at h
  split at h
  · rename_i x i a r
    split at h
    · rename_i cA nn g ha
      obtain ⟨rfl, hin, h⟩ := h
      have hA := (hR.2.2.2 _ _ ha).1
      refine W.last C.1 C.2.1 (hR.one ha 0 _ rfl) ((C.2.2.2.2.2.2.2.2.1.1.2 1 _ rfl).1 nn (fun j => .long (g j))) (fun q => by cases q) (by show ¬ (i < 0 ∨ (arrV _ _ _).slots.size ≤ _); rw [arrV_size]; exact hin) rfl rfl hd fun H1 e1 z1 oq => ?_
      exact hk _ _ _ _ _ _ h p e s m args below meth co C H1 _ la hl (hR.set ha z1 oq (by show H1[a]? = some (vp_cell _ _); rw [e1]; exact congrArg some (ax_stl _ _ _ _ _))) (fun q hq => (List.mem_append.mp hq).elim (hL q) (fun h9 => by rw [List.mem_singleton.mp h9]; exact hA)) (by rw [z1]; exact hz)
    · exact h.elim
  · exact h.elim
theorem sn_aast {t ci : Nat} {r0 : vw_C} (hd : decode mi.2.1 pc = .ok (.aastore, 1)) (ht : (ax_tys X)[t]? = some (X.2.2.1 t, .object r0.1)) (hc : vwCl[ci]? = some r0) (hk : ax_S X mi mc ms Q (pc + 1) k) : ax_S X mi mc ms Q pc (ax_aast X t ci k) := by
  intro ls st c n z f h p e s m args below meth co C H locs la hl hR hL hz
  unfold ax_aast at h
  split at h
  · rename_i v i a r
    split at h
    · rename_i cA nn g ha
      obtain ⟨rfl, hin, h⟩ := h
      split at h
      · rename_i cj fs hv
        obtain ⟨rfl, h⟩ := h
        have hA := (hR.2.2.2 _ _ ha).1
        have hK := C.2.2.2.2.2.2.2.2.1.1
        have hlt : i.toNatClampNeg < nn := Nat.not_le.mp fun q => hin (Or.inr q)
        have h0 : ¬ i < 0 := fun q => hin (Or.inl q)
        obtain ⟨r', hr', cellV, g1, g2, g3, -⟩ := (hR.2.2.2 _ _ hv).2
        have hcls := (hK.1 cj r0 hc).2
        obtain ⟨kA, comp, k1, k2, k3, -⟩ := (hK.2 t _ ht).2
        have hcomp : comp = X.2.1.1 cj := Option.some.inj (k3.symm.trans hcls.1)
        subst hcomp
        obtain ⟨kC, hkC, -⟩ := hcls.2
        refine W.aast C.1 C.2.1 (hR.one ha 0 _ rfl) (fun q h => by cases h) (fun h => by cases h) k1 k2 rfl hkC ⟨h0, by show _ < (arrV _ _ _).slots.size; rw [arrV_size]; exact hlt⟩ g1 (fun q h => by rw [g3] at h; cases h) (by rw [g2]; exact hkC) (by rw [g2]; exact va_assign hcls) rfl rfl hd fun H1 e1 z1 oq => ?_
        exact hk _ _ _ _ _ _ h p e s m args below meth co C H1 _ la hl (hR.set ha z1 oq (by show H1[a]? = some (vp_cell _ _); rw [e1]; exact congrArg some (ax_stq _ _ _ _ _))) (fun q hq => (List.mem_append.mp hq).elim (hL q) (fun h9 => by rw [List.mem_singleton.mp h9]; exact hA)) (by rw [z1]; exact hz)
      · exact h.elim
    · exact h.elim
  · exact h.elim
theorem sn_alen {t : Nat} {ty : FieldType} (hd : decode mi.2.1 pc = .ok (.arraylength, 1)) (ht : (ax_tys X)[t]? = some (X.2.2.1 t, ty)) (hk : ax_S X mi mc ms Q (pc + 1) k) : ax_S X mi mc ms Q pc (ax_alen X t k) := by
  intro ls st c n z f h p e s m args below meth co C H locs la hl hR hL hz
  unfold ax_alen at h
  split at h
  · split at h
    · rename_i ha
      obtain ⟨rfl, h⟩ := h
      exact va_alen C.1 C.2.1 C.2.2.2.2.2.2.2.2.1.1 (hR.one ha) 0 t rfl ht rfl hd (hk _ _ _ _ _ _ h p e s m args below meth co C H locs la hl hR hL hz)
    · exact h.elim
  · exact h.elim
theorem ax_old {p : Program} {s : State} {m : MethodId} {args : Array Value} {meth : Method} {co : Code} {H : Heap} {locs : List Loc} {z : Nat} {f : ax_F} (C : ax_C X mi p s m args meth co) (hR : ax_R X z f H) (hL : ∀ q ∈ locs, ax_A X q.base) (hz : s.heap.size ≤ H.size) :
    (∀ a : Nat, a < X.2.2.2.1.size → ¬ ax_A X a → s.heap[a]? = X.2.2.2.1[a]?) ∧ va_S (ax_A X) s.heap H locs := by
  obtain ⟨-, -, -, -, -, -, -, -, -, -, ho⟩ := C
  exact ⟨fun a h1 _ => ho a h1, hz, fun q _ h2 => by rw [hR.2.2.1 q (Nat.not_le.mp h2), ho q (Nat.not_le.mp h2)], hL⟩
theorem sn_ialdR (hd : decode mi.2.1 pc = .ok (.iaload, 1)) (hk : ax_S X mi mc ms Q (pc + 1) k) : ax_S X mi mc ms Q pc (ax_ialdR X k) := by
  intro ls st c n z f h p e s m args below meth co C H locs la hl hR hL hz
  obtain ⟨ho, hS⟩ := ax_old C hR hL hz
  unfold ax_ialdR at h
  split at h
  · split at h
    · rename_i ha
      exact va_ti C.1 C.2.1 ((C.2.2.2.2.2.2.2.2.1.2.2.2.2.2.1 _ _ _ ha).kept ho) hS h.1 rfl hd (hk _ _ _ _ _ _ h.2 p e s m args below meth co C H locs la hl hR hL hz)
    · exact h.elim
  · exact h.elim
theorem sn_alenR (hd : decode mi.2.1 pc = .ok (.arraylength, 1)) (hk : ax_S X mi mc ms Q (pc + 1) k) : ax_S X mi mc ms Q pc (ax_alenR X k) := by
  intro ls st c n z f h p e s m args below meth co C H locs la hl hR hL hz
  obtain ⟨ho, hS⟩ := ax_old C hR hL hz
  unfold ax_alenR at h
  split at h
  · split at h
    · rename_i ha
      exact va_tlen C.1 C.2.1 ((C.2.2.2.2.2.2.2.2.1.2.2.2.2.2.1 _ _ _ ha).kept ho) hS rfl hd (hk _ _ _ _ _ _ h p e s m args below meth co C H locs la hl hR hL hz)
    · exact h.elim
  · exact h.elim
theorem sn_gst {j idx : Nat} {q : String × String} (hd : decode mi.2.1 pc = .ok (.getstatic idx, 3)) (hj : ax_stf[j]? = some q) (hw : Cond.fieldLink mi.1.cls idx q.1 q.2 "[I" ∈ ax_T) (hk : ax_S X mi mc ms Q (pc + 3) k) : ax_S X mi mc ms Q pc (ax_gst X j k) := by
  intro ls st c n z f h p e s m args below meth co C H locs la hl hR hL hz
  obtain ⟨ho, hS⟩ := ax_old C hR hL hz
  exact va_gets C.1 C.2.1 ((C.2.2.2.2.2.2.2.2.1.2.2.2.2.2.2 j q hj).kept ho) hS C.2.2.2.1 (C.2.2.2.2.1 _ (List.mem_cons_of_mem _ hw)) (fun _ h9 => h9) hd (hk _ _ _ _ _ _ h p e s m args below meth co C H locs la hl hR hL hz)
theorem sn_new {idx ci N : Nat} {Cn : String} {T : u_T} {ty0 : Nat → FieldType} {fs : List Value} (hd : decode mi.2.1 pc = .ok (.new idx, 3)) (hc : vwCl[ci]? = some (Cn, T, N)) (hin : ∀ w ∈ u_ws Cn T N, w ∈ ax_T) (hty : ∀ k, k < N → parseFieldDescriptor (T k).2.2.1 = some (ty0 k)) (hw1 : Cond.classLink mi.1.cls idx Cn ∈ ax_T) (hw2 : Cond.instantiable Cn N ∈ ax_T) (hw3 : Cond.initialized Cn ∈ ax_T)
    (hfs : ∀ j, j < N → defaultValue (ty0 j) = vp_V fs j) (hk : ax_S X mi mc ms Q (pc + 3) k) : ax_S X mi mc ms Q pc (ax_new mc ms ci N fs k) := by
  intro ls st c n z f h p e s m args below meth co C H locs la hl hR hL hz
  obtain ⟨h1, h2, h⟩ := h
  have hts := C.2.2.2.2.1
  have hKn := C.2.2.2.2.2.2.2.2.1.1.1 ci _ hc
  refine W.newcK C.1 C.2.1 C.2.2.2.1 (hts _ (List.mem_cons_of_mem _ hw1)) (hts _ (List.mem_cons_of_mem _ hw2)) (hts _ (List.mem_cons_of_mem _ hw3)) rfl hd h1 h2 hKn.2.1 hR.1 fun H1 kC hkC e1 z1 o1 => ?_
  exact hk _ _ _ _ _ _ h p e s m args below meth co C H1 locs la hl (hR.push (by rw [z1, hR.1]) (fun q hq => o1 q (by rw [hR.1] at hq; exact hq)) ⟨_, hc, (u_born ty0 hts (fun w hw => List.mem_cons_of_mem _ (hin w hw)) hKn hkC e1 hty).to hfs⟩) hL (by rw [z1, ← hR.1]; omega)
theorem sn_nwi {t : Nat} {at0 : ArrayType} (hd : decode mi.2.1 pc = .ok (.newarray at0, 2)) (hw : Cond.arrayClass (newarray.typeOf at0) ∈ ax_T) (ht : (ax_tys X)[t]? = some (X.2.2.1 t, newarray.typeOf at0)) (hdv : defaultValue (newarray.typeOf at0) = .int 0) (hcb : componentBytes (newarray.typeOf at0) ≤ 8) (hra : ∀ (U : State) (cA : ClassId), va_RA U cA (newarray.typeOf at0) → U.vm.findClass ("[" ++ (newarray.typeOf at0).toString) = some cA) (hk : ax_S X mi mc ms Q (pc + 2) k) : ax_S X mi mc ms Q pc (ax_nwi X mc ms t k) := by
  intro ls st c n z f h p e s m args below meth co C H locs la hl hR hL hz
  unfold ax_nwi at h
  split at h
  · rename_i N r
    obtain ⟨h0, hb, h1, h2, h⟩ := h
    refine va_newaK C.1 C.2.1 (C.2.2.2.2.1 _ (List.mem_cons_of_mem _ hw)) rfl hd rfl h0 rfl (by have := Nat.mul_le_mul hb hcb; omega) h1 h2 hR.1 fun H1 cA e1 z1 o1 hAr hNm => ?_
    have hcA : cA = X.2.2.1 t := Option.some.inj (hNm.symm.trans (hra s _ (C.2.2.2.2.2.2.2.2.1.1.2 t _ ht).2))
    subst hcA
    exact hk _ _ _ _ _ _ h p e s m args below meth co C H1 locs la hl (hR.push (by rw [z1, hR.1]) (fun q hq => o1 q (by rw [hR.1] at hq; exact hq)) (by show H1[z]? = some (vp_cell _ _); rw [e1, hdv]; rfl)) hL (by rw [z1, ← hR.1]; omega)
  · exact h.elim
theorem sn_nwl {at0 : ArrayType} (hd : decode mi.2.1 pc = .ok (.newarray at0, 2)) (hw : Cond.arrayClass (newarray.typeOf at0) ∈ ax_T) (ht : newarray.typeOf at0 = .long) (hk : ax_S X mi mc ms Q (pc + 2) k) : ax_S X mi mc ms Q pc (ax_nwl X mc ms k) := by
  intro ls st c n z f h p e s m args below meth co C H locs la hl hR hL hz
  unfold ax_nwl at h
  split at h
  · rename_i N r
    obtain ⟨h0, hb, h1, h2, h⟩ := h
    refine va_newaK C.1 C.2.1 (C.2.2.2.2.1 _ (List.mem_cons_of_mem _ hw)) rfl hd rfl h0 rfl (by rw [ht]; have := Nat.mul_le_mul hb (show componentBytes .long ≤ 8 by decide); omega) h1 h2 hR.1 fun H1 cA e1 z1 o1 hAr hNm => ?_
    rw [ht] at e1 hNm
    have hcA : cA = X.2.2.1 1 := Option.some.inj (hNm.symm.trans (C.2.2.2.2.2.2.2.2.1.1.2 1 _ rfl).2)
    subst hcA
    exact hk _ _ _ _ _ _ h p e s m args below meth co C H1 locs la hl (hR.push (by rw [z1, hR.1]) (fun q hq => o1 q (by rw [hR.1] at hq; exact hq)) (by show H1[z]? = some (vp_cell _ _); rw [e1]; rfl)) hL (by rw [z1, ← hR.1]; omega)
  · exact h.elim
theorem sn_nwq {t idx : Nat} {Cn : String} (hd : decode mi.2.1 pc = .ok (.anewarray idx, 3)) (hw : Cond.classLink mi.1.cls idx Cn ∈ ax_T) (ht : (ax_tys X)[t]? = some (X.2.2.1 t, .object Cn)) (hov : ∀ U : State, ax_K X U → va_AO Cn U) (hk : ax_S X mi mc ms Q (pc + 3) k) : ax_S X mi mc ms Q pc (ax_nwq X mc ms t k) := by
  intro ls st c n z f h p e s m args below meth co C H locs la hl hR hL hz
  unfold ax_nwq at h
  split at h
  · rename_i N r
    obtain ⟨h0, hb, h1, h2, h⟩ := h
    refine W.anew C.1 C.2.1 C.2.2.2.1 (C.2.2.2.2.1 _ (List.mem_cons_of_mem _ hw)) (va_AO.use (hov s C.2.2.2.2.2.2.2.2.1)) rfl hd rfl h0 (by omega) h1 h2 fun cA kA comp f1 f2 f3 f4 => ?_
    obtain ⟨kA', comp', k1, k2, k3, k4⟩ := (C.2.2.2.2.2.2.2.2.1.1.2 t _ ht).2
    have hcA : cA = X.2.2.1 t := Option.some.inj (f1.symm.trans k4)
    subst hcA
    have hz1 : H.size = z := hR.1
    generalize hH1 : H.push ({ cls := X.2.2.1 t, slots := Array.replicate N.toNatClampNeg .null, vm := .none } : Cell) = H1
    have z1 : H1.size = H.size + 1 := by rw [← hH1, Array.size_push]
    have e1 : H1[H.size]? = some (arrV (X.2.2.1 t) N.toNatClampNeg (fun _ => .null)) := by rw [← hH1, Array.getElem?_push_size, ← arrV_new]
    have o1 : ∀ q : Nat, q < H.size → H1[q]? = H[q]? := fun q hq => by rw [← hH1, Array.getElem?_push, if_neg (Nat.ne_of_lt hq)]
    show W p X.1 e _ s m args below meth co H1 locs (c + 1) (n + N.toNatClampNeg) _ (F0 m (pc + 3) la (.ref H.size :: r))
    rw [hz1]
    exact hk _ _ _ _ _ _ h p e s m args below meth co C H1 locs la hl (hR.push z1 o1 (by show H1[z]? = some (vp_cell _ _); rw [← hz1, e1]; rfl)) hL (by rw [z1]; omega)
  · exact h.elim
end AXA
end
section
def ax_popn : Nat → List Value → List Value → Option (List Value × List Value)
  | 0, acc, st => some (acc, st)
  | _ + 1, _, [] => none
  | k + 1, acc, v :: st => ax_popn k (v :: acc) st
theorem ax_popn_spec : ∀ (k : Nat) (acc st as r : List Value), ax_popn k acc st = some (as, r) → as.reverse ++ r = acc.reverse ++ st ∧ as.length = k + acc.length
  | 0, acc, st, as, r, h => by
    simp only [ax_popn] at h
    cases h
    exact ⟨rfl, by omega⟩
  | k + 1, acc, [], as, r, h => by simp [ax_popn] at h
  | k + 1, acc, v :: st, as, r, h => by
    simp only [ax_popn] at h
    obtain ⟨h1, h2⟩ := ax_popn_spec k (v :: acc) st as r h
    refine ⟨by rw [h1]; simp, by rw [h2, List.length_cons]; omega⟩
abbrev ax_cont (X : ax_X) (mi' : ax_MI) (mc ms : Nat) (k : ax_P) (ls : List (Option Value)) (as r : List Value) (c n z : Nat) (f : ax_F) : Prop :=
  (r.map fun v => v.category).sum ≤ 8 ∧ ∃ (mc' ms' : Nat) (Q' : Option Value → Nat → ax_F → Prop), ax_M X mi' mc' ms' as z f Q' ∧ c + mc' ≤ mc ∧ n + ms' ≤ ms ∧ ∀ (v : Option Value) (z' : Nat) (f' : ax_F), Q' v z' f' → k ls (v.toList ++ r) (c + mc') (n + ms') z' f'
def ax_call (X : ax_X) (mi' : ax_MI) (na mc ms : Nat) (k : ax_P) : ax_P := fun ls st c n z f => match ax_popn na [] st with
  | some (as, r) => ax_cont X mi' mc ms k ls as r c n z f
  | none => False
def ax_isO (f : ax_F) (ci : Nat) (v : Value) : Prop := match v with
  | .ref b => ∃ fs : List Value, f b = some (.inr (ci, fs))
  | _ => False
def ax_calv (X : ax_X) (mi' : ax_MI) (ci na mc ms : Nat) (k : ax_P) : ax_P := fun ls st c n z f => match ax_popn na [] st with
  | some (b :: as, r) => ax_isO f ci b ∧ ax_cont X mi' mc ms k ls (b :: as) r c n z f
  | _ => False
def ax_obj (k : ax_P) : ax_P := fun ls st c n z f => match st with
  | .ref _ :: r => (r.map fun v => v.category).sum ≤ 8 ∧ k ls r c n z f
  | _ => False
section AXC
variable {X : ax_X} {mi mi' : ax_MI} {mc ms : Nat} {Q : Option Value → Nat → ax_F → Prop} {pc : Nat} {k : ax_P}
theorem ax_blind {as : List Value} {z : Nat} {f : ax_F} : FrameBlind (va_Pc as (fun U => ax_K X U ∧ ax_R X z f U.heap)) := fun a U g mk h => ⟨h.1, ax_K_same h.2.1 rfl, h.2.2⟩
theorem ax_goodin (hw : Cond.code mi'.1 mi'.2.1 mi'.2.2.1 mi'.2.2.2.1 ∈ ax_T) : GoodIn (ax_ws mi) (ax_ws mi') := by
  intro w h
  have hT : w ∈ ax_T := by
    rcases List.mem_cons.mp h with rfl | h
    · exact hw
    · exact h
  exact ⟨List.mem_cons_of_mem _ hT, good_of_word (ax_good w hT)⟩
theorem ax_roomok {d d' nL mc ms mc' ms' : Nat} (hd : d' + 1 ≤ d) (hn : nL ≤ 45) : (ax_rm d' mc' ms').frames + 1 ≤ (ax_rm d mc ms).frames ∧ 8 + (nL + 11) + (ax_rm d' mc' ms').locals ≤ (ax_rm d mc ms).locals := by
  refine ⟨hd, ?_⟩
  show 8 + (nL + 11) + 64 * d' ≤ 64 * d
  omega
theorem ax_after {p : Program} {e : Env} {s : State} {m : MethodId} {args : Array Value} {below : List Frame} {meth : Method} {co : Code} {H : Heap} {locs : List Loc} {la : Array Slot} {ls : List (Option Value)} {c n mc' ms' : Nat} {st0 r : List Value} {Q' : Option Value → Nat → ax_F → Prop} {a : Array Value}
    (C : ax_C X mi p s m args meth co) (hl : ax_lv la mi.2.2.1 ls) (hL : ∀ q ∈ locs, ax_A X q.base)
    (hr : va_Run p X.1 e (ax_rm mi.2.2.2.2 mc ms) s m args below meth co H locs c n mc' ms' (F0 m pc la st0) r (ax_Q X Q' a) (ax_A X))
    (hk : ax_S X mi mc ms Q (pc + 3) k) (h : ∀ (v : Option Value) (z' : Nat) (f' : ax_F), Q' v z' f' → k ls (v.toList ++ r) (c + mc') (n + ms') z' f') :
    W p X.1 e (ax_rm mi.2.2.2.2 mc ms) s m args below meth co H locs c n (MQ below (ax_Q X Q) args s mc ms (ax_A X)) (F0 m pc la st0) := by
  intro T hT Xs
  obtain ⟨v, st₀, t, T', L, h0, X', hLL, e1, e2, ⟨v', z', f', hv, hq, hR'⟩, st⟩ := hr T hT Xs
  cases hv
  obtain ⟨t2, a1, b1⟩ := hk _ _ _ _ _ _ (h v z' f' hq) p e s m args below meth co C T'.heap (locs ++ L) la hl (by rw [e1]; exact hR') (fun q hq => (List.mem_append.mp hq).elim (hL q) (hLL q)) X'.same.2.1 T' rfl X'
  exact ⟨t2, st t2 a1, b1⟩
/-- a static method of the same kit of words, or of another that is known as begun -/
theorem sn_call {idx na : Nat} (hd : decode mi.2.1 pc = .ok (.invokestatic idx, 3)) (hc : Cond.code mi'.1 mi'.2.1 mi'.2.2.1 mi'.2.2.2.1 ∈ ax_T) (hw1 : Cond.methodLink mi.1.cls idx mi'.1 ∈ ax_T) (hw2 : Cond.static mi'.1 ∈ ax_T) (hw3 : Cond.initialized mi'.1.cls ∈ ax_T)
    (hn : mi'.1.cls ≠ "java/lang/invoke/MethodHandle" ∧ mi'.1.cls ≠ "java/lang/invoke/VarHandle" ∧ (parseMethodDescriptor mi'.1.desc).map (fun d => d.parameters.length) = some na) (hdp : mi'.2.2.2.2 + 1 ≤ mi.2.2.2.2) (hnl : mi'.2.2.1 ≤ 45)
    (hk : ax_S X mi mc ms Q (pc + 3) k) : ax_S X mi mc ms Q pc (ax_call X mi' na mc ms k) := by
  intro ls st c n z f h p e s m args below meth co C H locs la hl hR hL hz
  unfold ax_call at h
  split at h
  · rename_i as r hp
    obtain ⟨h1, mc', ms', Q', hM, h2, h3, h4⟩ := h
    obtain ⟨p1, p2⟩ := ax_popn_spec _ _ _ _ _ hp
    have hts := C.2.2.2.2.1
    exact ax_after C hl hL (va_runS (As := as) (rest := r) ⟨C.1, C.2.1, C.2.2.1, C.2.2.2.1, hts⟩ hM ⟨callB_of na hts (ax_goodin hc) rfl rfl rfl (hts _ (List.mem_cons_of_mem _ hw3)) (hts _ (List.mem_cons_of_mem _ hw1)) hn (ax_roomok hdp hnl), hts _ (List.mem_cons_of_mem _ hw2)⟩ ⟨ax_blind, fun U hU hW => ⟨rfl, ax_K_warm C.2.2.2.2.2.2.2.2.1 hW, by rw [hU]; exact hR⟩⟩ rfl (by rw [p2]; rfl) hl.1 (by rw [show as.reverse ++ r = st from p1]) (by show 2 * 0 + _ ≤ 8; omega) hd ⟨h2, h3⟩) hk h4
  · exact h.elim
theorem sn_callN {idx na : Nat} {host : String} (hd : decode mi.2.1 pc = .ok (.invokestatic idx, 3)) (hc : Cond.code mi'.1 mi'.2.1 mi'.2.2.1 mi'.2.2.2.1 ∈ ax_T) (hw1 : Cond.methodLinkNest mi.1.cls idx mi'.1 host ∈ lw_tbl) (hw2 : Cond.static mi'.1 ∈ ax_T) (hw3 : Cond.initialized mi'.1.cls ∈ ax_T)
    (hn : mi'.1.cls ≠ "java/lang/invoke/MethodHandle" ∧ mi'.1.cls ≠ "java/lang/invoke/VarHandle" ∧ (parseMethodDescriptor mi'.1.desc).map (fun d => d.parameters.length) = some na) (hdp : mi'.2.2.2.2 + 1 ≤ mi.2.2.2.2) (hnl : mi'.2.2.1 ≤ 45)
    (hk : ax_S X mi mc ms Q (pc + 3) k) : ax_S X mi mc ms Q pc (ax_call X mi' na mc ms k) := by
  intro ls st c n z f h p e s m args below meth co C H locs la hl hR hL hz
  unfold ax_call at h
  split at h
  · rename_i as r hp
    obtain ⟨h1, mc', ms', Q', hM, h2, h3, h4⟩ := h
    obtain ⟨p1, p2⟩ := ax_popn_spec _ _ _ _ _ hp
    have hts := C.2.2.2.2.1
    exact ax_after C hl hL (va_runSN (As := as) (rest := r) ⟨C.1, C.2.1, C.2.2.1, C.2.2.2.1, hts⟩ hM ⟨va_cnB na hts (ax_goodin hc) rfl rfl rfl (C.2.2.2.2.2.2.2.2.1.2.1 _ _ _ _ hw1) (hts _ (List.mem_cons_of_mem _ hw3)) hn (ax_roomok hdp hnl), hts _ (List.mem_cons_of_mem _ hw2), trivial⟩ ⟨ax_blind, fun U hU hW => ⟨rfl, ax_K_warm C.2.2.2.2.2.2.2.2.1 hW, by rw [hU]; exact hR⟩⟩ rfl (by rw [p2]; rfl) hl.1 (by rw [show as.reverse ++ r = st from p1]) (by show 2 * 0 + _ ≤ 8; omega) hd ⟨h2, h3⟩) hk h4
  · exact h.elim
theorem sn_calv {idx ci na : Nat} {q0 : vw_C} (hd : decode mi.2.1 pc = .ok (.invokevirtual idx, 3)) (hcl : vwCl[ci]? = some q0) (hq0 : q0.1 = mi'.1.cls) (hc : Cond.code mi'.1 mi'.2.1 mi'.2.2.1 mi'.2.2.2.1 ∈ ax_T) (hw1 : Cond.methodLink mi.1.cls idx mi'.1 ∈ ax_T) (hw2 : Cond.instanceMethod mi'.1 ∈ ax_T) (hw3 : Cond.initialized mi'.1.cls ∈ ax_T) (hw4 : Cond.selects mi'.1.cls mi'.1 mi'.1 ∈ ax_T)
    (hn : mi'.1.cls ≠ "java/lang/invoke/MethodHandle" ∧ mi'.1.cls ≠ "java/lang/invoke/VarHandle" ∧ (parseMethodDescriptor mi'.1.desc).map (fun d => d.parameters.length) = some na) (hdp : mi'.2.2.2.2 + 1 ≤ mi.2.2.2.2) (hnl : mi'.2.2.1 ≤ 45)
    (hk : ax_S X mi mc ms Q (pc + 3) k) : ax_S X mi mc ms Q pc (ax_calv X mi' ci (na + 1) mc ms k) := by
  intro ls st c n z f h p e s m args below meth co C H locs la hl hR hL hz
  unfold ax_calv at h
  split at h
  · rename_i b as r hp
    obtain ⟨hb, h1, mc', ms', Q', hM, h2, h3, h4⟩ := h
    obtain ⟨p1, p2⟩ := ax_popn_spec _ _ _ _ _ hp
    have hts := C.2.2.2.2.1
    cases b with
    | ref b =>
      obtain ⟨fs, hfb⟩ := hb
      have hrecv := va_recv C.2.2.2.2.2.2.2.2.1.1 (hR.one hfb) hcl (ci := ci) (q0 := 0) rfl
      rw [hq0] at hrecv
      exact ax_after C hl hL (va_runV (C := mi'.1.cls) (As := as) (rest := r) ⟨C.1, C.2.1, C.2.2.1, C.2.2.2.1, hts⟩ hM ⟨callB_of na hts (ax_goodin hc) rfl rfl rfl (hts _ (List.mem_cons_of_mem _ hw3)) (hts _ (List.mem_cons_of_mem _ hw1)) hn (ax_roomok hdp hnl), hts _ (List.mem_cons_of_mem _ hw2), hts _ (List.mem_cons_of_mem _ hw4)⟩ ⟨ax_blind, hrecv, fun U hU hW => ⟨rfl, ax_K_warm C.2.2.2.2.2.2.2.2.1 hW, by rw [hU]; exact hR⟩⟩ rfl (by have := p2; simp at this; omega) hl.1 (by have := p1; simp at this; rw [← this]) (by show 2 * 0 + _ ≤ 8; omega) hd ⟨h2, h3⟩) hk h4
    | _ => exact hb.elim
  · exact h.elim
/-- a constructor -/
theorem sn_cali {idx na : Nat} (hd : decode mi.2.1 pc = .ok (.invokespecial idx, 3)) (hin : mi'.1.name = "<init>") (hrt : mi'.2.2.2.1 = none) (hc : Cond.code mi'.1 mi'.2.1 mi'.2.2.1 none ∈ ax_T) (hw1 : Cond.methodLink mi.1.cls idx mi'.1 ∈ ax_T) (hw2 : Cond.instanceMethod mi'.1 ∈ ax_T) (hw3 : Cond.initialized mi'.1.cls ∈ ax_T)
    (hn : mi'.1.cls ≠ "java/lang/invoke/MethodHandle" ∧ mi'.1.cls ≠ "java/lang/invoke/VarHandle" ∧ (parseMethodDescriptor mi'.1.desc).map (fun d => d.parameters.length) = some na) (hdp : mi'.2.2.2.2 + 1 ≤ mi.2.2.2.2) (hnl : mi'.2.2.1 ≤ 45)
    (hk : ax_S X mi mc ms Q (pc + 3) k) {ci : Nat} : ax_S X mi mc ms Q pc (ax_calv X mi' ci (na + 1) mc ms k) := by
  intro ls st c n z f h p e s m args below meth co C H locs la hl hR hL hz
  obtain ⟨y, cc, nl, ret, dd⟩ := mi'
  dsimp only at hrt hin hc hw1 hw2 hw3 hn hdp hnl
  subst hrt
  unfold ax_calv at h
  split at h
  · rename_i b as r hp
    obtain ⟨hb, h1, mc', ms', Q', hM, h2, h3, h4⟩ := h
    obtain ⟨p1, p2⟩ := ax_popn_spec _ _ _ _ _ hp
    have hts := C.2.2.2.2.1
    cases b with
    | ref b =>
      exact ax_after C hl hL (va_runI (As := as) (rest := r) ⟨C.1, C.2.1, C.2.2.1, C.2.2.2.1, hts⟩ hM (cwI na hts (ax_goodin (mi' := (y, cc, nl, none, dd)) hc) rfl rfl rfl (hts _ (List.mem_cons_of_mem _ hw3)) (hts _ (List.mem_cons_of_mem _ hw1)) (hts _ (List.mem_cons_of_mem _ hw2)) hin hn (ax_roomok hdp hnl)) ⟨ax_blind, fun U hU hW => ⟨rfl, ax_K_warm C.2.2.2.2.2.2.2.2.1 hW, by rw [hU]; exact hR⟩⟩ rfl (by have := p2; simp at this; omega) hl.1 (by have := p1; simp at this; rw [← this]) (by show 2 * 0 + _ ≤ 8; omega) hd ⟨h2, h3⟩) hk h4
    | _ => exact hb.elim
  · exact h.elim
theorem sn_caliN {idx na : Nat} {host : String} (hd : decode mi.2.1 pc = .ok (.invokespecial idx, 3)) (hin : mi'.1.name = "<init>") (hrt : mi'.2.2.2.1 = none) (hc : Cond.code mi'.1 mi'.2.1 mi'.2.2.1 none ∈ ax_T) (hw1 : Cond.methodLinkNest mi.1.cls idx mi'.1 host ∈ lw_tbl) (hw2 : Cond.instanceMethod mi'.1 ∈ ax_T) (hw3 : Cond.initialized mi'.1.cls ∈ ax_T)
    (hn : mi'.1.cls ≠ "java/lang/invoke/MethodHandle" ∧ mi'.1.cls ≠ "java/lang/invoke/VarHandle" ∧ (parseMethodDescriptor mi'.1.desc).map (fun d => d.parameters.length) = some na) (hdp : mi'.2.2.2.2 + 1 ≤ mi.2.2.2.2) (hnl : mi'.2.2.1 ≤ 45)
    (hk : ax_S X mi mc ms Q (pc + 3) k) {ci : Nat} : ax_S X mi mc ms Q pc (ax_calv X mi' ci (na + 1) mc ms k) := by
  intro ls st c n z f h p e s m args below meth co C H locs la hl hR hL hz
  obtain ⟨y, cc, nl, ret, dd⟩ := mi'
  dsimp only at hrt hin hc hw1 hw2 hw3 hn hdp hnl
  subst hrt
  unfold ax_calv at h
  split at h
  · rename_i b as r hp
    obtain ⟨hb, h1, mc', ms', Q', hM, h2, h3, h4⟩ := h
    obtain ⟨p1, p2⟩ := ax_popn_spec _ _ _ _ _ hp
    have hts := C.2.2.2.2.1
    cases b with
    | ref b =>
      exact ax_after C hl hL (va_runIN (As := as) (rest := r) ⟨C.1, C.2.1, C.2.2.1, C.2.2.2.1, hts⟩ hM ⟨va_cnB na hts (ax_goodin (mi' := (y, cc, nl, none, dd)) hc) rfl rfl rfl (C.2.2.2.2.2.2.2.2.1.2.1 _ _ _ _ hw1) (hts _ (List.mem_cons_of_mem _ hw3)) hn (ax_roomok hdp hnl), hin, hts _ (List.mem_cons_of_mem _ hw2)⟩ ⟨ax_blind, fun U hU hW => ⟨rfl, ax_K_warm C.2.2.2.2.2.2.2.2.1 hW, by rw [hU]; exact hR⟩⟩ rfl (by have := p2; simp at this; omega) hl.1 (by have := p1; simp at this; rw [← this]) (by show 2 * 0 + _ ≤ 8; omega) hd ⟨h2, h3⟩) hk h4
    | _ => exact hb.elim
  · exact h.elim
/-- Object.<init> -/
theorem sn_obj {idx : Nat} (hd : decode mi.2.1 pc = .ok (.invokespecial idx, 3)) (hw1 : Cond.methodLink mi.1.cls idx Lib.objectInit ∈ ax_T) (hw2 : Cond.instanceMethod Lib.objectInit ∈ ax_T) (hw3 : Cond.code Lib.objectInit ⟨#[0xb1]⟩ 1 none ∈ ax_T) (hdp : 1 ≤ mi.2.2.2.2)
    (hk : ax_S X mi mc ms Q (pc + 3) k) : ax_S X mi mc ms Q pc (ax_obj k) := by
  intro ls st c n z f h p e s m args below meth co C H locs la hl hR hL hz
  have hts := C.2.2.2.2.1
  unfold ax_obj at h
  split at h
  · rename_i a r
    exact W.objInit C.1 C.2.1 C.2.2.2.1 (hts _ (List.mem_cons_of_mem _ hw1)) (hts _ (List.mem_cons_of_mem _ hw2)) (hts _ (List.mem_cons_of_mem _ hw3)) rfl (by rw [C.2.2.1]; exact hl.1) rfl hd hdp (by show 2 * 0 + _ + 12 ≤ 64 * _; have := h.1; omega) (hk _ _ _ _ _ _ h.2 p e s m args below meth co C H locs la hl hR hL hz)
  · exact h.elim
end AXC
end
