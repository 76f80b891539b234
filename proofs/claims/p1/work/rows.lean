section
-- ===== PART A: goes FIRST, ahead of the names: the tables' words, and 'selects' of the private methods out of them =====
/-- a private method of a class that the tables say can be made, by its rows of tables_1 -/
def lw_okq (q : MethodName × Nat) : Prop := (q.1.cls ≠ "java/lang/invoke/MethodHandle" ∧ q.1.cls ≠ "java/lang/invoke/VarHandle") ∧ Cond.instantiable q.1.cls q.2 ∈ tables_1 ∧ Cond.privateMethod q.1 ∈ tables_1 ∧ Cond.instanceMethod q.1 ∈ tables_1
theorem lw_p0 : lw_okq (⟨"TallBins", "tapeNumber", "(I)V"⟩, 13) := ⟨⟨by decide +kernel, by decide +kernel⟩, List.mem_of_getElem? (i := 22) (by decide +kernel), List.mem_of_getElem? (i := 490) (by decide +kernel), List.mem_of_getElem? (i := 491) (by decide +kernel)⟩
theorem lw_p1 : lw_okq (⟨"TallBins$Reader", "advance", "()V"⟩, 9) := ⟨⟨by decide +kernel, by decide +kernel⟩, List.mem_of_getElem? (i := 30) (by decide +kernel), List.mem_of_getElem? (i := 518) (by decide +kernel), List.mem_of_getElem? (i := 519) (by decide +kernel)⟩
theorem lw_p2 : lw_okq (⟨"TallBins$Reader", "readLine", "(I)V"⟩, 9) := ⟨⟨by decide +kernel, by decide +kernel⟩, List.mem_of_getElem? (i := 30) (by decide +kernel), List.mem_of_getElem? (i := 532) (by decide +kernel), List.mem_of_getElem? (i := 533) (by decide +kernel)⟩
theorem lw_p3 : lw_okq (⟨"TallBins$Reader", "isWord", "(Ljava/lang/String;)Z"⟩, 9) := ⟨⟨by decide +kernel, by decide +kernel⟩, List.mem_of_getElem? (i := 30) (by decide +kernel), List.mem_of_getElem? (i := 537) (by decide +kernel), List.mem_of_getElem? (i := 538) (by decide +kernel)⟩
theorem lw_p4 : lw_okq (⟨"TallBins$Reader", "fail", "(I)V"⟩, 9) := ⟨⟨by decide +kernel, by decide +kernel⟩, List.mem_of_getElem? (i := 30) (by decide +kernel), List.mem_of_getElem? (i := 592) (by decide +kernel), List.mem_of_getElem? (i := 593) (by decide +kernel)⟩
theorem lw_p5 : lw_okq (⟨"TallBins$Reader", "readBin", "()V"⟩, 9) := ⟨⟨by decide +kernel, by decide +kernel⟩, List.mem_of_getElem? (i := 30) (by decide +kernel), List.mem_of_getElem? (i := 596) (by decide +kernel), List.mem_of_getElem? (i := 597) (by decide +kernel)⟩
theorem lw_p6 : lw_okq (⟨"TallBins$Reader", "takeFresh", "(II)I"⟩, 9) := ⟨⟨by decide +kernel, by decide +kernel⟩, List.mem_of_getElem? (i := 30) (by decide +kernel), List.mem_of_getElem? (i := 600) (by decide +kernel), List.mem_of_getElem? (i := 601) (by decide +kernel)⟩
theorem lw_p7 : lw_okq (⟨"TallBins$Reader", "takeNumber", "(II)I"⟩, 9) := ⟨⟨by decide +kernel, by decide +kernel⟩, List.mem_of_getElem? (i := 30) (by decide +kernel), List.mem_of_getElem? (i := 604) (by decide +kernel), List.mem_of_getElem? (i := 605) (by decide +kernel)⟩
theorem lw_p8 : lw_okq (⟨"TallBins$Reader", "takeNamed", "(Ljava/lang/String;II)I"⟩, 9) := ⟨⟨by decide +kernel, by decide +kernel⟩, List.mem_of_getElem? (i := 30) (by decide +kernel), List.mem_of_getElem? (i := 609) (by decide +kernel), List.mem_of_getElem? (i := 610) (by decide +kernel)⟩
theorem lw_p9 : lw_okq (⟨"TallBins$Reader", "readGrain", "()V"⟩, 9) := ⟨⟨by decide +kernel, by decide +kernel⟩, List.mem_of_getElem? (i := 30) (by decide +kernel), List.mem_of_getElem? (i := 616) (by decide +kernel), List.mem_of_getElem? (i := 617) (by decide +kernel)⟩
theorem lw_p10 : lw_okq (⟨"TallBins$Reader", "readBreath", "()V"⟩, 9) := ⟨⟨by decide +kernel, by decide +kernel⟩, List.mem_of_getElem? (i := 30) (by decide +kernel), List.mem_of_getElem? (i := 623) (by decide +kernel), List.mem_of_getElem? (i := 624) (by decide +kernel)⟩
theorem lw_p11 : lw_okq (⟨"TallBins$Reader", "readBar", "()V"⟩, 9) := ⟨⟨by decide +kernel, by decide +kernel⟩, List.mem_of_getElem? (i := 30) (by decide +kernel), List.mem_of_getElem? (i := 634) (by decide +kernel), List.mem_of_getElem? (i := 635) (by decide +kernel)⟩
theorem lw_p12 : lw_okq (⟨"TallBins$Reader", "readCond", "()V"⟩, 9) := ⟨⟨by decide +kernel, by decide +kernel⟩, List.mem_of_getElem? (i := 30) (by decide +kernel), List.mem_of_getElem? (i := 638) (by decide +kernel), List.mem_of_getElem? (i := 639) (by decide +kernel)⟩
theorem lw_p13 : lw_okq (⟨"TallBins$Reader", "condWord", "()I"⟩, 9) := ⟨⟨by decide +kernel, by decide +kernel⟩, List.mem_of_getElem? (i := 30) (by decide +kernel), List.mem_of_getElem? (i := 643) (by decide +kernel), List.mem_of_getElem? (i := 644) (by decide +kernel)⟩
theorem lw_p14 : lw_okq (⟨"TallBins$Reader", "takeSign", "(I)V"⟩, 9) := ⟨⟨by decide +kernel, by decide +kernel⟩, List.mem_of_getElem? (i := 30) (by decide +kernel), List.mem_of_getElem? (i := 657) (by decide +kernel), List.mem_of_getElem? (i := 658) (by decide +kernel)⟩
theorem lw_p15 : lw_okq (⟨"TallBins", "putIn", "(IJJJJJ)I"⟩, 13) := ⟨⟨by decide +kernel, by decide +kernel⟩, List.mem_of_getElem? (i := 22) (by decide +kernel), List.mem_of_getElem? (i := 691) (by decide +kernel), List.mem_of_getElem? (i := 692) (by decide +kernel)⟩
def lw_privs_1 : List (MethodName × Nat) := [(⟨"TallBins", "tapeNumber", "(I)V"⟩, 13), (⟨"TallBins$Reader", "advance", "()V"⟩, 9), (⟨"TallBins$Reader", "readLine", "(I)V"⟩, 9), (⟨"TallBins$Reader", "isWord", "(Ljava/lang/String;)Z"⟩, 9), (⟨"TallBins$Reader", "fail", "(I)V"⟩, 9), (⟨"TallBins$Reader", "readBin", "()V"⟩, 9), (⟨"TallBins$Reader", "takeFresh", "(II)I"⟩, 9), (⟨"TallBins$Reader", "takeNumber", "(II)I"⟩, 9), (⟨"TallBins$Reader", "takeNamed", "(Ljava/lang/String;II)I"⟩, 9), (⟨"TallBins$Reader", "readGrain", "()V"⟩, 9), (⟨"TallBins$Reader", "readBreath", "()V"⟩, 9), (⟨"TallBins$Reader", "readBar", "()V"⟩, 9), (⟨"TallBins$Reader", "readCond", "()V"⟩, 9), (⟨"TallBins$Reader", "condWord", "()I"⟩, 9), (⟨"TallBins$Reader", "takeSign", "(I)V"⟩, 9), (⟨"TallBins", "putIn", "(IJJJJJ)I"⟩, 13)]
theorem lw_r1 : ∀ q ∈ lw_privs_1, lw_okq q := List.forall_mem_cons.mpr ⟨lw_p0, List.forall_mem_cons.mpr ⟨lw_p1, List.forall_mem_cons.mpr ⟨lw_p2, List.forall_mem_cons.mpr ⟨lw_p3, List.forall_mem_cons.mpr ⟨lw_p4, List.forall_mem_cons.mpr ⟨lw_p5, List.forall_mem_cons.mpr ⟨lw_p6, List.forall_mem_cons.mpr ⟨lw_p7, List.forall_mem_cons.mpr ⟨lw_p8, List.forall_mem_cons.mpr ⟨lw_p9, List.forall_mem_cons.mpr ⟨lw_p10, List.forall_mem_cons.mpr ⟨lw_p11, List.forall_mem_cons.mpr ⟨lw_p12, List.forall_mem_cons.mpr ⟨lw_p13, List.forall_mem_cons.mpr ⟨lw_p14, List.forall_mem_cons.mpr ⟨lw_p15, fun _ h => absurd h List.not_mem_nil⟩⟩⟩⟩⟩⟩⟩⟩⟩⟩⟩⟩⟩⟩⟩⟩
theorem lw_p16 : lw_okq (⟨"TallBins", "isTold", "(I)Z"⟩, 13) := ⟨⟨by decide +kernel, by decide +kernel⟩, List.mem_of_getElem? (i := 22) (by decide +kernel), List.mem_of_getElem? (i := 695) (by decide +kernel), List.mem_of_getElem? (i := 696) (by decide +kernel)⟩
theorem lw_p17 : lw_okq (⟨"TallBins$Ledger", "placeOf", "(I)I"⟩, 3) := ⟨⟨by decide +kernel, by decide +kernel⟩, List.mem_of_getElem? (i := 186) (by decide +kernel), List.mem_of_getElem? (i := 733) (by decide +kernel), List.mem_of_getElem? (i := 734) (by decide +kernel)⟩
theorem lw_p18 : lw_okq (⟨"TallBins$Bin", "placeInTurn", "(II)I"⟩, 11) := ⟨⟨by decide +kernel, by decide +kernel⟩, List.mem_of_getElem? (i := 201) (by decide +kernel), List.mem_of_getElem? (i := 801) (by decide +kernel), List.mem_of_getElem? (i := 802) (by decide +kernel)⟩
theorem lw_p19 : lw_okq (⟨"TallBins$Heap", "partOf", "(II)I"⟩, 5) := ⟨⟨by decide +kernel, by decide +kernel⟩, List.mem_of_getElem? (i := 224) (by decide +kernel), List.mem_of_getElem? (i := 809) (by decide +kernel), List.mem_of_getElem? (i := 810) (by decide +kernel)⟩
theorem lw_p20 : lw_okq (⟨"TallBins$Heap", "shareLots", "(I[I)V"⟩, 5) := ⟨⟨by decide +kernel, by decide +kernel⟩, List.mem_of_getElem? (i := 224) (by decide +kernel), List.mem_of_getElem? (i := 816) (by decide +kernel), List.mem_of_getElem? (i := 817) (by decide +kernel)⟩
theorem lw_p21 : lw_okq (⟨"TallBins$Heap", "greatestRest", "(I[I)I"⟩, 5) := ⟨⟨by decide +kernel, by decide +kernel⟩, List.mem_of_getElem? (i := 224) (by decide +kernel), List.mem_of_getElem? (i := 820) (by decide +kernel), List.mem_of_getElem? (i := 821) (by decide +kernel)⟩
theorem lw_p22 : lw_okq (⟨"TallBins$Bin", "settle", "()V"⟩, 11) := ⟨⟨by decide +kernel, by decide +kernel⟩, List.mem_of_getElem? (i := 201) (by decide +kernel), List.mem_of_getElem? (i := 825) (by decide +kernel), List.mem_of_getElem? (i := 826) (by decide +kernel)⟩
theorem lw_p23 : lw_okq (⟨"TallBins$Planner", "lookAtBins", "(LTallBins$House;I)Z"⟩, 9) := ⟨⟨by decide +kernel, by decide +kernel⟩, List.mem_of_getElem? (i := 374) (by decide +kernel), List.mem_of_getElem? (i := 858) (by decide +kernel), List.mem_of_getElem? (i := 859) (by decide +kernel)⟩
theorem lw_p24 : lw_okq (⟨"TallBins$Planner", "move", "(III)V"⟩, 9) := ⟨⟨by decide +kernel, by decide +kernel⟩, List.mem_of_getElem? (i := 374) (by decide +kernel), List.mem_of_getElem? (i := 875) (by decide +kernel), List.mem_of_getElem? (i := 876) (by decide +kernel)⟩
theorem lw_p25 : lw_okq (⟨"TallBins$Planner", "unmove", "(II)V"⟩, 9) := ⟨⟨by decide +kernel, by decide +kernel⟩, List.mem_of_getElem? (i := 374) (by decide +kernel), List.mem_of_getElem? (i := 879) (by decide +kernel), List.mem_of_getElem? (i := 880) (by decide +kernel)⟩
theorem lw_p26 : lw_okq (⟨"TallBins", "isRing", "(II)Z"⟩, 13) := ⟨⟨by decide +kernel, by decide +kernel⟩, List.mem_of_getElem? (i := 22) (by decide +kernel), List.mem_of_getElem? (i := 902) (by decide +kernel), List.mem_of_getElem? (i := 903) (by decide +kernel)⟩
theorem lw_p27 : lw_okq (⟨"TallBins$House", "isHard", "(IZ)Z"⟩, 9) := ⟨⟨by decide +kernel, by decide +kernel⟩, List.mem_of_getElem? (i := 176) (by decide +kernel), List.mem_of_getElem? (i := 915) (by decide +kernel), List.mem_of_getElem? (i := 916) (by decide +kernel)⟩
theorem lw_p28 : lw_okq (⟨"TallBins$Bars", "allHold", "(IILTallBins$Bin;)Z"⟩, 7) := ⟨⟨by decide +kernel, by decide +kernel⟩, List.mem_of_getElem? (i := 42) (by decide +kernel), List.mem_of_getElem? (i := 1076) (by decide +kernel), List.mem_of_getElem? (i := 1077) (by decide +kernel)⟩
theorem lw_p29 : lw_okq (⟨"TallBins$Bars", "isTrue", "(ILTallBins$Bin;)Z"⟩, 7) := ⟨⟨by decide +kernel, by decide +kernel⟩, List.mem_of_getElem? (i := 42) (by decide +kernel), List.mem_of_getElem? (i := 1080) (by decide +kernel), List.mem_of_getElem? (i := 1081) (by decide +kernel)⟩
theorem lw_p30 : lw_okq (⟨"TallBins$Blender", "weigh", "(II)V"⟩, 8) := ⟨⟨by decide +kernel, by decide +kernel⟩, List.mem_of_getElem? (i := 411) (by decide +kernel), List.mem_of_getElem? (i := 1126) (by decide +kernel), List.mem_of_getElem? (i := 1127) (by decide +kernel)⟩
theorem lw_p31 : lw_okq (⟨"TallBins$Blender", "mayImprove", "(III)Z"⟩, 8) := ⟨⟨by decide +kernel, by decide +kernel⟩, List.mem_of_getElem? (i := 411) (by decide +kernel), List.mem_of_getElem? (i := 1130) (by decide +kernel), List.mem_of_getElem? (i := 1131) (by decide +kernel)⟩
def lw_privs_2 : List (MethodName × Nat) := [(⟨"TallBins", "isTold", "(I)Z"⟩, 13), (⟨"TallBins$Ledger", "placeOf", "(I)I"⟩, 3), (⟨"TallBins$Bin", "placeInTurn", "(II)I"⟩, 11), (⟨"TallBins$Heap", "partOf", "(II)I"⟩, 5), (⟨"TallBins$Heap", "shareLots", "(I[I)V"⟩, 5), (⟨"TallBins$Heap", "greatestRest", "(I[I)I"⟩, 5), (⟨"TallBins$Bin", "settle", "()V"⟩, 11), (⟨"TallBins$Planner", "lookAtBins", "(LTallBins$House;I)Z"⟩, 9), (⟨"TallBins$Planner", "move", "(III)V"⟩, 9), (⟨"TallBins$Planner", "unmove", "(II)V"⟩, 9), (⟨"TallBins", "isRing", "(II)Z"⟩, 13), (⟨"TallBins$House", "isHard", "(IZ)Z"⟩, 9), (⟨"TallBins$Bars", "allHold", "(IILTallBins$Bin;)Z"⟩, 7), (⟨"TallBins$Bars", "isTrue", "(ILTallBins$Bin;)Z"⟩, 7), (⟨"TallBins$Blender", "weigh", "(II)V"⟩, 8), (⟨"TallBins$Blender", "mayImprove", "(III)Z"⟩, 8)]
theorem lw_r2 : ∀ q ∈ lw_privs_2, lw_okq q := List.forall_mem_cons.mpr ⟨lw_p16, List.forall_mem_cons.mpr ⟨lw_p17, List.forall_mem_cons.mpr ⟨lw_p18, List.forall_mem_cons.mpr ⟨lw_p19, List.forall_mem_cons.mpr ⟨lw_p20, List.forall_mem_cons.mpr ⟨lw_p21, List.forall_mem_cons.mpr ⟨lw_p22, List.forall_mem_cons.mpr ⟨lw_p23, List.forall_mem_cons.mpr ⟨lw_p24, List.forall_mem_cons.mpr ⟨lw_p25, List.forall_mem_cons.mpr ⟨lw_p26, List.forall_mem_cons.mpr ⟨lw_p27, List.forall_mem_cons.mpr ⟨lw_p28, List.forall_mem_cons.mpr ⟨lw_p29, List.forall_mem_cons.mpr ⟨lw_p30, List.forall_mem_cons.mpr ⟨lw_p31, fun _ h => absurd h List.not_mem_nil⟩⟩⟩⟩⟩⟩⟩⟩⟩⟩⟩⟩⟩⟩⟩⟩
theorem lw_p32 : lw_okq (⟨"TallBins", "howManyRows", "()I"⟩, 13) := ⟨⟨by decide +kernel, by decide +kernel⟩, List.mem_of_getElem? (i := 22) (by decide +kernel), List.mem_of_getElem? (i := 1198) (by decide +kernel), List.mem_of_getElem? (i := 1199) (by decide +kernel)⟩
theorem lw_p33 : lw_okq (⟨"TallBinsModel", "emptied", "(I)V"⟩, 41) := ⟨⟨by decide +kernel, by decide +kernel⟩, List.mem_of_getElem? (i := 1246) (by decide +kernel), List.mem_of_getElem? (i := 1258) (by decide +kernel), List.mem_of_getElem? (i := 1259) (by decide +kernel)⟩
theorem lw_p34 : lw_okq (⟨"TallBinsModel", "unitsOf", "(I)I"⟩, 41) := ⟨⟨by decide +kernel, by decide +kernel⟩, List.mem_of_getElem? (i := 1246) (by decide +kernel), List.mem_of_getElem? (i := 1409) (by decide +kernel), List.mem_of_getElem? (i := 1410) (by decide +kernel)⟩
theorem lw_p35 : lw_okq (⟨"TallBinsModel", "manIn", "(I)I"⟩, 41) := ⟨⟨by decide +kernel, by decide +kernel⟩, List.mem_of_getElem? (i := 1246) (by decide +kernel), List.mem_of_getElem? (i := 1416) (by decide +kernel), List.mem_of_getElem? (i := 1417) (by decide +kernel)⟩
theorem lw_p36 : lw_okq (⟨"TallBinsModel", "step", "()V"⟩, 41) := ⟨⟨by decide +kernel, by decide +kernel⟩, List.mem_of_getElem? (i := 1246) (by decide +kernel), List.mem_of_getElem? (i := 1420) (by decide +kernel), List.mem_of_getElem? (i := 1421) (by decide +kernel)⟩
theorem lw_p37 : lw_okq (⟨"TallBinsModel", "see", "(I)I"⟩, 41) := ⟨⟨by decide +kernel, by decide +kernel⟩, List.mem_of_getElem? (i := 1246) (by decide +kernel), List.mem_of_getElem? (i := 1424) (by decide +kernel), List.mem_of_getElem? (i := 1425) (by decide +kernel)⟩
theorem lw_p38 : lw_okq (⟨"TallBinsModel", "good", "()Z"⟩, 41) := ⟨⟨by decide +kernel, by decide +kernel⟩, List.mem_of_getElem? (i := 1246) (by decide +kernel), List.mem_of_getElem? (i := 1434) (by decide +kernel), List.mem_of_getElem? (i := 1435) (by decide +kernel)⟩
theorem lw_p39 : lw_okq (⟨"TallBinsModel", "readLine", "()V"⟩, 41) := ⟨⟨by decide +kernel, by decide +kernel⟩, List.mem_of_getElem? (i := 1246) (by decide +kernel), List.mem_of_getElem? (i := 1438) (by decide +kernel), List.mem_of_getElem? (i := 1439) (by decide +kernel)⟩
theorem lw_p40 : lw_okq (⟨"TallBinsModel", "is", "(Ljava/lang/String;)Z"⟩, 41) := ⟨⟨by decide +kernel, by decide +kernel⟩, List.mem_of_getElem? (i := 1246) (by decide +kernel), List.mem_of_getElem? (i := 1443) (by decide +kernel), List.mem_of_getElem? (i := 1444) (by decide +kernel)⟩
theorem lw_p41 : lw_okq (⟨"TallBinsModel", "wrong", "(I)V"⟩, 41) := ⟨⟨by decide +kernel, by decide +kernel⟩, List.mem_of_getElem? (i := 1246) (by decide +kernel), List.mem_of_getElem? (i := 1452) (by decide +kernel), List.mem_of_getElem? (i := 1453) (by decide +kernel)⟩
theorem lw_p42 : lw_okq (⟨"TallBinsModel", "takes", "(Ljava/lang/String;)Z"⟩, 41) := ⟨⟨by decide +kernel, by decide +kernel⟩, List.mem_of_getElem? (i := 1246) (by decide +kernel), List.mem_of_getElem? (i := 1456) (by decide +kernel), List.mem_of_getElem? (i := 1457) (by decide +kernel)⟩
theorem lw_p43 : lw_okq (⟨"TallBinsModel", "readBin", "()V"⟩, 41) := ⟨⟨by decide +kernel, by decide +kernel⟩, List.mem_of_getElem? (i := 1246) (by decide +kernel), List.mem_of_getElem? (i := 1460) (by decide +kernel), List.mem_of_getElem? (i := 1461) (by decide +kernel)⟩
theorem lw_p44 : lw_okq (⟨"TallBinsModel", "number", "(II)I"⟩, 41) := ⟨⟨by decide +kernel, by decide +kernel⟩, List.mem_of_getElem? (i := 1246) (by decide +kernel), List.mem_of_getElem? (i := 1465) (by decide +kernel), List.mem_of_getElem? (i := 1466) (by decide +kernel)⟩
theorem lw_p45 : lw_okq (⟨"TallBinsModel", "told", "(Ljava/lang/String;II)I"⟩, 41) := ⟨⟨by decide +kernel, by decide +kernel⟩, List.mem_of_getElem? (i := 1246) (by decide +kernel), List.mem_of_getElem? (i := 1470) (by decide +kernel), List.mem_of_getElem? (i := 1471) (by decide +kernel)⟩
theorem lw_p46 : lw_okq (⟨"TallBinsModel", "readGrain", "()V"⟩, 41) := ⟨⟨by decide +kernel, by decide +kernel⟩, List.mem_of_getElem? (i := 1246) (by decide +kernel), List.mem_of_getElem? (i := 1477) (by decide +kernel), List.mem_of_getElem? (i := 1478) (by decide +kernel)⟩
theorem lw_p47 : lw_okq (⟨"TallBinsModel", "readBar", "()V"⟩, 41) := ⟨⟨by decide +kernel, by decide +kernel⟩, List.mem_of_getElem? (i := 1246) (by decide +kernel), List.mem_of_getElem? (i := 1485) (by decide +kernel), List.mem_of_getElem? (i := 1486) (by decide +kernel)⟩
def lw_privs_3 : List (MethodName × Nat) := [(⟨"TallBins", "howManyRows", "()I"⟩, 13), (⟨"TallBinsModel", "emptied", "(I)V"⟩, 41), (⟨"TallBinsModel", "unitsOf", "(I)I"⟩, 41), (⟨"TallBinsModel", "manIn", "(I)I"⟩, 41), (⟨"TallBinsModel", "step", "()V"⟩, 41), (⟨"TallBinsModel", "see", "(I)I"⟩, 41), (⟨"TallBinsModel", "good", "()Z"⟩, 41), (⟨"TallBinsModel", "readLine", "()V"⟩, 41), (⟨"TallBinsModel", "is", "(Ljava/lang/String;)Z"⟩, 41), (⟨"TallBinsModel", "wrong", "(I)V"⟩, 41), (⟨"TallBinsModel", "takes", "(Ljava/lang/String;)Z"⟩, 41), (⟨"TallBinsModel", "readBin", "()V"⟩, 41), (⟨"TallBinsModel", "number", "(II)I"⟩, 41), (⟨"TallBinsModel", "told", "(Ljava/lang/String;II)I"⟩, 41), (⟨"TallBinsModel", "readGrain", "()V"⟩, 41), (⟨"TallBinsModel", "readBar", "()V"⟩, 41)]
theorem lw_r3 : ∀ q ∈ lw_privs_3, lw_okq q := List.forall_mem_cons.mpr ⟨lw_p32, List.forall_mem_cons.mpr ⟨lw_p33, List.forall_mem_cons.mpr ⟨lw_p34, List.forall_mem_cons.mpr ⟨lw_p35, List.forall_mem_cons.mpr ⟨lw_p36, List.forall_mem_cons.mpr ⟨lw_p37, List.forall_mem_cons.mpr ⟨lw_p38, List.forall_mem_cons.mpr ⟨lw_p39, List.forall_mem_cons.mpr ⟨lw_p40, List.forall_mem_cons.mpr ⟨lw_p41, List.forall_mem_cons.mpr ⟨lw_p42, List.forall_mem_cons.mpr ⟨lw_p43, List.forall_mem_cons.mpr ⟨lw_p44, List.forall_mem_cons.mpr ⟨lw_p45, List.forall_mem_cons.mpr ⟨lw_p46, List.forall_mem_cons.mpr ⟨lw_p47, fun _ h => absurd h List.not_mem_nil⟩⟩⟩⟩⟩⟩⟩⟩⟩⟩⟩⟩⟩⟩⟩⟩
theorem lw_p48 : lw_okq (⟨"TallBinsModel", "readCond", "(I)V"⟩, 41) := ⟨⟨by decide +kernel, by decide +kernel⟩, List.mem_of_getElem? (i := 1246) (by decide +kernel), List.mem_of_getElem? (i := 1489) (by decide +kernel), List.mem_of_getElem? (i := 1490) (by decide +kernel)⟩
theorem lw_p49 : lw_okq (⟨"TallBinsModel", "wordHere", "()I"⟩, 41) := ⟨⟨by decide +kernel, by decide +kernel⟩, List.mem_of_getElem? (i := 1246) (by decide +kernel), List.mem_of_getElem? (i := 1494) (by decide +kernel), List.mem_of_getElem? (i := 1495) (by decide +kernel)⟩
theorem lw_p50 : lw_okq (⟨"TallBinsModel", "isSign", "(I)Z"⟩, 41) := ⟨⟨by decide +kernel, by decide +kernel⟩, List.mem_of_getElem? (i := 1246) (by decide +kernel), List.mem_of_getElem? (i := 1504) (by decide +kernel), List.mem_of_getElem? (i := 1505) (by decide +kernel)⟩
theorem lw_p51 : lw_okq (⟨"TallBinsModel", "mayFill", "(IIIIII)Z"⟩, 41) := ⟨⟨by decide +kernel, by decide +kernel⟩, List.mem_of_getElem? (i := 1246) (by decide +kernel), List.mem_of_getElem? (i := 1520) (by decide +kernel), List.mem_of_getElem? (i := 1521) (by decide +kernel)⟩
theorem lw_p52 : lw_okq (⟨"TallBinsModel", "isBin", "(I)Z"⟩, 41) := ⟨⟨by decide +kernel, by decide +kernel⟩, List.mem_of_getElem? (i := 1246) (by decide +kernel), List.mem_of_getElem? (i := 1524) (by decide +kernel), List.mem_of_getElem? (i := 1525) (by decide +kernel)⟩
theorem lw_p53 : lw_okq (⟨"TallBinsModel", "logs", "(IIIII)V"⟩, 41) := ⟨⟨by decide +kernel, by decide +kernel⟩, List.mem_of_getElem? (i := 1246) (by decide +kernel), List.mem_of_getElem? (i := 1533) (by decide +kernel), List.mem_of_getElem? (i := 1534) (by decide +kernel)⟩
theorem lw_p54 : lw_okq (⟨"TallBinsModel", "flowOf", "(I)I"⟩, 41) := ⟨⟨by decide +kernel, by decide +kernel⟩, List.mem_of_getElem? (i := 1246) (by decide +kernel), List.mem_of_getElem? (i := 1557) (by decide +kernel), List.mem_of_getElem? (i := 1558) (by decide +kernel)⟩
theorem lw_p55 : lw_okq (⟨"TallBinsModel", "grainIs", "(II)I"⟩, 41) := ⟨⟨by decide +kernel, by decide +kernel⟩, List.mem_of_getElem? (i := 1246) (by decide +kernel), List.mem_of_getElem? (i := 1561) (by decide +kernel), List.mem_of_getElem? (i := 1562) (by decide +kernel)⟩
theorem lw_p56 : lw_okq (⟨"TallBinsModel", "isOf", "(III)I"⟩, 41) := ⟨⟨by decide +kernel, by decide +kernel⟩, List.mem_of_getElem? (i := 1246) (by decide +kernel), List.mem_of_getElem? (i := 1565) (by decide +kernel), List.mem_of_getElem? (i := 1566) (by decide +kernel)⟩
theorem lw_p57 : lw_okq (⟨"TallBinsModel", "isHung", "(I)Z"⟩, 41) := ⟨⟨by decide +kernel, by decide +kernel⟩, List.mem_of_getElem? (i := 1246) (by decide +kernel), List.mem_of_getElem? (i := 1574) (by decide +kernel), List.mem_of_getElem? (i := 1575) (by decide +kernel)⟩
theorem lw_p58 : lw_okq (⟨"TallBinsModel", "draws", "(II)V"⟩, 41) := ⟨⟨by decide +kernel, by decide +kernel⟩, List.mem_of_getElem? (i := 1246) (by decide +kernel), List.mem_of_getElem? (i := 1578) (by decide +kernel), List.mem_of_getElem? (i := 1579) (by decide +kernel)⟩
theorem lw_p59 : lw_okq (⟨"TallBinsModel", "takes0", "(III)V"⟩, 41) := ⟨⟨by decide +kernel, by decide +kernel⟩, List.mem_of_getElem? (i := 1246) (by decide +kernel), List.mem_of_getElem? (i := 1582) (by decide +kernel), List.mem_of_getElem? (i := 1583) (by decide +kernel)⟩
theorem lw_p60 : lw_okq (⟨"TallBinsModel", "parts", "(II)V"⟩, 41) := ⟨⟨by decide +kernel, by decide +kernel⟩, List.mem_of_getElem? (i := 1246) (by decide +kernel), List.mem_of_getElem? (i := 1586) (by decide +kernel), List.mem_of_getElem? (i := 1587) (by decide +kernel)⟩
theorem lw_p61 : lw_okq (⟨"TallBinsModel", "settles", "(I)V"⟩, 41) := ⟨⟨by decide +kernel, by decide +kernel⟩, List.mem_of_getElem? (i := 1246) (by decide +kernel), List.mem_of_getElem? (i := 1591) (by decide +kernel), List.mem_of_getElem? (i := 1592) (by decide +kernel)⟩
theorem lw_p62 : lw_okq (⟨"TallBinsModel", "lays", "(I)V"⟩, 41) := ⟨⟨by decide +kernel, by decide +kernel⟩, List.mem_of_getElem? (i := 1246) (by decide +kernel), List.mem_of_getElem? (i := 1595) (by decide +kernel), List.mem_of_getElem? (i := 1596) (by decide +kernel)⟩
theorem lw_p63 : lw_okq (⟨"TallBinsModel", "isRing", "(II)Z"⟩, 41) := ⟨⟨by decide +kernel, by decide +kernel⟩, List.mem_of_getElem? (i := 1246) (by decide +kernel), List.mem_of_getElem? (i := 1617) (by decide +kernel), List.mem_of_getElem? (i := 1618) (by decide +kernel)⟩
def lw_privs_4 : List (MethodName × Nat) := [(⟨"TallBinsModel", "readCond", "(I)V"⟩, 41), (⟨"TallBinsModel", "wordHere", "()I"⟩, 41), (⟨"TallBinsModel", "isSign", "(I)Z"⟩, 41), (⟨"TallBinsModel", "mayFill", "(IIIIII)Z"⟩, 41), (⟨"TallBinsModel", "isBin", "(I)Z"⟩, 41), (⟨"TallBinsModel", "logs", "(IIIII)V"⟩, 41), (⟨"TallBinsModel", "flowOf", "(I)I"⟩, 41), (⟨"TallBinsModel", "grainIs", "(II)I"⟩, 41), (⟨"TallBinsModel", "isOf", "(III)I"⟩, 41), (⟨"TallBinsModel", "isHung", "(I)Z"⟩, 41), (⟨"TallBinsModel", "draws", "(II)V"⟩, 41), (⟨"TallBinsModel", "takes0", "(III)V"⟩, 41), (⟨"TallBinsModel", "parts", "(II)V"⟩, 41), (⟨"TallBinsModel", "settles", "(I)V"⟩, 41), (⟨"TallBinsModel", "lays", "(I)V"⟩, 41), (⟨"TallBinsModel", "isRing", "(II)Z"⟩, 41)]
theorem lw_r4 : ∀ q ∈ lw_privs_4, lw_okq q := List.forall_mem_cons.mpr ⟨lw_p48, List.forall_mem_cons.mpr ⟨lw_p49, List.forall_mem_cons.mpr ⟨lw_p50, List.forall_mem_cons.mpr ⟨lw_p51, List.forall_mem_cons.mpr ⟨lw_p52, List.forall_mem_cons.mpr ⟨lw_p53, List.forall_mem_cons.mpr ⟨lw_p54, List.forall_mem_cons.mpr ⟨lw_p55, List.forall_mem_cons.mpr ⟨lw_p56, List.forall_mem_cons.mpr ⟨lw_p57, List.forall_mem_cons.mpr ⟨lw_p58, List.forall_mem_cons.mpr ⟨lw_p59, List.forall_mem_cons.mpr ⟨lw_p60, List.forall_mem_cons.mpr ⟨lw_p61, List.forall_mem_cons.mpr ⟨lw_p62, List.forall_mem_cons.mpr ⟨lw_p63, fun _ h => absurd h List.not_mem_nil⟩⟩⟩⟩⟩⟩⟩⟩⟩⟩⟩⟩⟩⟩⟩⟩
theorem lw_p64 : lw_okq (⟨"TallBinsModel", "presses", "(IZ)V"⟩, 41) := ⟨⟨by decide +kernel, by decide +kernel⟩, List.mem_of_getElem? (i := 1246) (by decide +kernel), List.mem_of_getElem? (i := 1626) (by decide +kernel), List.mem_of_getElem? (i := 1627) (by decide +kernel)⟩
theorem lw_p65 : lw_okq (⟨"TallBinsModel", "warmNow", "(I)V"⟩, 41) := ⟨⟨by decide +kernel, by decide +kernel⟩, List.mem_of_getElem? (i := 1246) (by decide +kernel), List.mem_of_getElem? (i := 1645) (by decide +kernel), List.mem_of_getElem? (i := 1646) (by decide +kernel)⟩
theorem lw_p66 : lw_okq (⟨"TallBinsModel", "warms", "(II)V"⟩, 41) := ⟨⟨by decide +kernel, by decide +kernel⟩, List.mem_of_getElem? (i := 1246) (by decide +kernel), List.mem_of_getElem? (i := 1649) (by decide +kernel), List.mem_of_getElem? (i := 1650) (by decide +kernel)⟩
theorem lw_p67 : lw_okq (⟨"TallBinsModel", "breathOf", "(II)I"⟩, 41) := ⟨⟨by decide +kernel, by decide +kernel⟩, List.mem_of_getElem? (i := 1246) (by decide +kernel), List.mem_of_getElem? (i := 1653) (by decide +kernel), List.mem_of_getElem? (i := 1654) (by decide +kernel)⟩
theorem lw_p68 : lw_okq (⟨"TallBinsModel", "warmOf", "(II)J"⟩, 41) := ⟨⟨by decide +kernel, by decide +kernel⟩, List.mem_of_getElem? (i := 1246) (by decide +kernel), List.mem_of_getElem? (i := 1657) (by decide +kernel), List.mem_of_getElem? (i := 1658) (by decide +kernel)⟩
theorem lw_p69 : lw_okq (⟨"TallBinsModel", "dries", "(II)I"⟩, 41) := ⟨⟨by decide +kernel, by decide +kernel⟩, List.mem_of_getElem? (i := 1246) (by decide +kernel), List.mem_of_getElem? (i := 1661) (by decide +kernel), List.mem_of_getElem? (i := 1662) (by decide +kernel)⟩
theorem lw_p70 : lw_okq (⟨"TallBinsModel", "breeds", "(I)V"⟩, 41) := ⟨⟨by decide +kernel, by decide +kernel⟩, List.mem_of_getElem? (i := 1246) (by decide +kernel), List.mem_of_getElem? (i := 1665) (by decide +kernel), List.mem_of_getElem? (i := 1666) (by decide +kernel)⟩
theorem lw_p71 : lw_okq (⟨"TallBinsModel", "isHot", "(II)Z"⟩, 41) := ⟨⟨by decide +kernel, by decide +kernel⟩, List.mem_of_getElem? (i := 1246) (by decide +kernel), List.mem_of_getElem? (i := 1695) (by decide +kernel), List.mem_of_getElem? (i := 1696) (by decide +kernel)⟩
theorem lw_p72 : lw_okq (⟨"TallBinsModel", "turns", "(III)Z"⟩, 41) := ⟨⟨by decide +kernel, by decide +kernel⟩, List.mem_of_getElem? (i := 1246) (by decide +kernel), List.mem_of_getElem? (i := 1699) (by decide +kernel), List.mem_of_getElem? (i := 1700) (by decide +kernel)⟩
theorem lw_p73 : lw_okq (⟨"TallBinsModel", "readingOf", "(II)I"⟩, 41) := ⟨⟨by decide +kernel, by decide +kernel⟩, List.mem_of_getElem? (i := 1246) (by decide +kernel), List.mem_of_getElem? (i := 1712) (by decide +kernel), List.mem_of_getElem? (i := 1713) (by decide +kernel)⟩
theorem lw_p74 : lw_okq (⟨"TallBinsModel", "agree", "(I)Z"⟩, 41) := ⟨⟨by decide +kernel, by decide +kernel⟩, List.mem_of_getElem? (i := 1246) (by decide +kernel), List.mem_of_getElem? (i := 1720) (by decide +kernel), List.mem_of_getElem? (i := 1721) (by decide +kernel)⟩
theorem lw_p75 : lw_okq (⟨"TallBinsModel", "mayRead", "(IIZ)I"⟩, 41) := ⟨⟨by decide +kernel, by decide +kernel⟩, List.mem_of_getElem? (i := 1246) (by decide +kernel), List.mem_of_getElem? (i := 1725) (by decide +kernel), List.mem_of_getElem? (i := 1726) (by decide +kernel)⟩
theorem lw_p76 : lw_okq (⟨"TallBinsModel", "barOf", "(I)I"⟩, 41) := ⟨⟨by decide +kernel, by decide +kernel⟩, List.mem_of_getElem? (i := 1246) (by decide +kernel), List.mem_of_getElem? (i := 1741) (by decide +kernel), List.mem_of_getElem? (i := 1742) (by decide +kernel)⟩
theorem lw_p77 : lw_okq (⟨"TallBinsModel", "condHolds", "(II)Z"⟩, 41) := ⟨⟨by decide +kernel, by decide +kernel⟩, List.mem_of_getElem? (i := 1246) (by decide +kernel), List.mem_of_getElem? (i := 1745) (by decide +kernel), List.mem_of_getElem? (i := 1746) (by decide +kernel)⟩
theorem lw_p78 : lw_okq (⟨"TallBinsModel", "wordOf", "(II)J"⟩, 41) := ⟨⟨by decide +kernel, by decide +kernel⟩, List.mem_of_getElem? (i := 1246) (by decide +kernel), List.mem_of_getElem? (i := 1749) (by decide +kernel), List.mem_of_getElem? (i := 1750) (by decide +kernel)⟩
theorem lw_p79 : lw_okq (⟨"TallBinsModel", "beetlesOf", "(I)J"⟩, 41) := ⟨⟨by decide +kernel, by decide +kernel⟩, List.mem_of_getElem? (i := 1246) (by decide +kernel), List.mem_of_getElem? (i := 1753) (by decide +kernel), List.mem_of_getElem? (i := 1754) (by decide +kernel)⟩
def lw_privs_5 : List (MethodName × Nat) := [(⟨"TallBinsModel", "presses", "(IZ)V"⟩, 41), (⟨"TallBinsModel", "warmNow", "(I)V"⟩, 41), (⟨"TallBinsModel", "warms", "(II)V"⟩, 41), (⟨"TallBinsModel", "breathOf", "(II)I"⟩, 41), (⟨"TallBinsModel", "warmOf", "(II)J"⟩, 41), (⟨"TallBinsModel", "dries", "(II)I"⟩, 41), (⟨"TallBinsModel", "breeds", "(I)V"⟩, 41), (⟨"TallBinsModel", "isHot", "(II)Z"⟩, 41), (⟨"TallBinsModel", "turns", "(III)Z"⟩, 41), (⟨"TallBinsModel", "readingOf", "(II)I"⟩, 41), (⟨"TallBinsModel", "agree", "(I)Z"⟩, 41), (⟨"TallBinsModel", "mayRead", "(IIZ)I"⟩, 41), (⟨"TallBinsModel", "barOf", "(I)I"⟩, 41), (⟨"TallBinsModel", "condHolds", "(II)Z"⟩, 41), (⟨"TallBinsModel", "wordOf", "(II)J"⟩, 41), (⟨"TallBinsModel", "beetlesOf", "(I)J"⟩, 41)]
theorem lw_r5 : ∀ q ∈ lw_privs_5, lw_okq q := List.forall_mem_cons.mpr ⟨lw_p64, List.forall_mem_cons.mpr ⟨lw_p65, List.forall_mem_cons.mpr ⟨lw_p66, List.forall_mem_cons.mpr ⟨lw_p67, List.forall_mem_cons.mpr ⟨lw_p68, List.forall_mem_cons.mpr ⟨lw_p69, List.forall_mem_cons.mpr ⟨lw_p70, List.forall_mem_cons.mpr ⟨lw_p71, List.forall_mem_cons.mpr ⟨lw_p72, List.forall_mem_cons.mpr ⟨lw_p73, List.forall_mem_cons.mpr ⟨lw_p74, List.forall_mem_cons.mpr ⟨lw_p75, List.forall_mem_cons.mpr ⟨lw_p76, List.forall_mem_cons.mpr ⟨lw_p77, List.forall_mem_cons.mpr ⟨lw_p78, List.forall_mem_cons.mpr ⟨lw_p79, fun _ h => absurd h List.not_mem_nil⟩⟩⟩⟩⟩⟩⟩⟩⟩⟩⟩⟩⟩⟩⟩⟩
theorem lw_p80 : lw_okq (⟨"TallBinsModel", "blends", "(IIIII)V"⟩, 41) := ⟨⟨by decide +kernel, by decide +kernel⟩, List.mem_of_getElem? (i := 1246) (by decide +kernel), List.mem_of_getElem? (i := 1774) (by decide +kernel), List.mem_of_getElem? (i := 1775) (by decide +kernel)⟩
theorem lw_p81 : lw_okq (⟨"TallBinsModel", "dampOf", "(I)I"⟩, 41) := ⟨⟨by decide +kernel, by decide +kernel⟩, List.mem_of_getElem? (i := 1246) (by decide +kernel), List.mem_of_getElem? (i := 1778) (by decide +kernel), List.mem_of_getElem? (i := 1779) (by decide +kernel)⟩
theorem lw_p82 : lw_okq (⟨"TallBinsModel", "lotIn", "(II)I"⟩, 41) := ⟨⟨by decide +kernel, by decide +kernel⟩, List.mem_of_getElem? (i := 1246) (by decide +kernel), List.mem_of_getElem? (i := 1794) (by decide +kernel), List.mem_of_getElem? (i := 1795) (by decide +kernel)⟩
def lw_privs_6 : List (MethodName × Nat) := [(⟨"TallBinsModel", "blends", "(IIIII)V"⟩, 41), (⟨"TallBinsModel", "dampOf", "(I)I"⟩, 41), (⟨"TallBinsModel", "lotIn", "(II)I"⟩, 41)]
theorem lw_r6 : ∀ q ∈ lw_privs_6, lw_okq q := List.forall_mem_cons.mpr ⟨lw_p80, List.forall_mem_cons.mpr ⟨lw_p81, List.forall_mem_cons.mpr ⟨lw_p82, fun _ h => absurd h List.not_mem_nil⟩⟩⟩
def lw_privs : List (MethodName × Nat) := lw_privs_1 ++ (lw_privs_2 ++ (lw_privs_3 ++ (lw_privs_4 ++ (lw_privs_5 ++ (lw_privs_6)))))
def lw_tbl : List Cond := k2_sels lw_privs ++ tables_1
theorem lw_privs_ok : ∀ q ∈ lw_privs, lw_okq q := by
  show ∀ q ∈ lw_privs_1 ++ (lw_privs_2 ++ (lw_privs_3 ++ (lw_privs_4 ++ (lw_privs_5 ++ (lw_privs_6))))), lw_okq q
  exact List.forall_mem_append.mpr ⟨lw_r1, List.forall_mem_append.mpr ⟨lw_r2, List.forall_mem_append.mpr ⟨lw_r3, List.forall_mem_append.mpr ⟨lw_r4, List.forall_mem_append.mpr ⟨lw_r5, lw_r6⟩⟩⟩⟩⟩
end
section
/-! Written for the kernel: recursors and Nat's own functions alone. Numbers are kept as Nats, 2^63 above what they mean. -/
noncomputable def abIf {al : Type} (c : Bool) (t e : al) : al := Bool.rec e t c
theorem abIf_t {al : Type} {c : Bool} {t e : al} (h : c = true) : abIf c t e = t := by rw [h]; rfl
theorem abIf_f {al : Type} {c : Bool} {t e : al} (h : c = false) : abIf c t e = e := by rw [h]; rfl
theorem abIf_some {al : Type} {c : Bool} {t : Option al} {r : al} (h : abIf c t none = some r) : c = true ∧ t = some r := by
  cases c with
  | true => exact ⟨rfl, h⟩
  | false => cases h
theorem abBle {a b : Nat} (h : Nat.ble a b = true) : a ≤ b := Nat.le_of_ble_eq_true h
theorem abBle_f {a b : Nat} (h : Nat.ble a b = false) : b < a := Nat.lt_of_not_le (fun q => by rw [Nat.ble_eq_true_of_le q] at h; cases h)
theorem abBeq {a b : Nat} (h : Nat.beq a b = true) : a = b := Nat.eq_of_beq_eq_true h
theorem abBeq_f {a b : Nat} (h : Nat.beq a b = false) : ¬ a = b := Nat.ne_of_beq_eq_false h
/-! rows of values -/
/-- a value: (kind, number, number). 0: an int between the two; 1: the int that is argument a of the script; 2, 3: the same as longs; 4: the cell a of the world; 5: the script, of length a; 6: null; 7: the sign of argument a less b; 8: anything -/
abbrev abV : Type := Nat × Nat × Nat
abbrev abE : Type := List (Nat × Nat)
def abJ : abV := (8, 0, 0)
abbrev abB : Int := 9223372036854775808
def abSg (m n : Int) : Int := if m < n then -1 else if m = n then 0 else 1
def abG (ws : va_W) (sb sl : Nat) (rh : Nat → Int) (v : abV) (x : Value) : Prop :=
  match v.1 with
  | 0 => ∃ y : Int32, x = .int y ∧ (v.2.1 : Int) ≤ y.toInt + abB ∧ y.toInt + abB ≤ (v.2.2 : Int)
  | 1 => ∃ y : Int32, x = .int y ∧ y.toInt = rh v.2.1
  | 2 => ∃ y : Int64, x = .long y ∧ (v.2.1 : Int) ≤ y.toInt + abB ∧ y.toInt + abB ≤ (v.2.2 : Int)
  | 3 => ∃ y : Int64, x = .long y ∧ y.toInt = rh v.2.1
  | 4 => ∃ (a : Nat) (e : va_E), ws[v.2.1]? = some (a, e) ∧ x = .ref a
  | 5 => x = .ref sb ∧ v.2.1 = sl
  | 6 => x = .null
  | 7 => ∃ y : Int32, x = .int y ∧ y.toInt = abSg (rh v.2.1 + abB) (v.2.2 : Int)
  | _ => True
/-- the world keeps its addresses -/
def abX (w0 w1 : va_W) : Prop := ∀ (j a : Nat) (e : va_E), w0[j]? = some (a, e) → ∃ e' : va_E, w1[j]? = some (a, e')
theorem abX.rf (w : va_W) : abX w w := fun _ _ e h => ⟨e, h⟩
theorem abX.tr {w0 w1 w2 : va_W} (h1 : abX w0 w1) (h2 : abX w1 w2) : abX w0 w2 := fun j a e h => by
  obtain ⟨e', h'⟩ := h1 j a e h
  exact h2 j a e' h'
theorem abX.set {w : va_W} {q0 a : Nat} {e0 e1 : va_E} (h : w[q0]? = some (a, e0)) : abX w (w.set q0 (a, e1)) := by
  intro j b e hj
  by_cases hq : q0 = j
  · subst hq
    rw [h] at hj
    cases hj
    exact ⟨e1, by rw [List.getElem?_set_self (List.getElem?_eq_some_iff.mp h).1]⟩
  · exact ⟨e, by rw [List.getElem?_set_ne hq]; exact hj⟩
theorem abX.app (w x : va_W) : abX w (w ++ x) := by
  intro j a e h
  exact ⟨e, by rw [List.getElem?_append_left (List.getElem?_eq_some_iff.mp h).1]; exact h⟩
theorem abG.mono {w0 w1 : va_W} {sb sl : Nat} {rh : Nat → Int} {v : abV} {x : Value} (hx : abX w0 w1) (h : abG w0 sb sl rh v x) : abG w1 sb sl rh v x := by
  obtain ⟨t, k, lo⟩ := v
  match t, h with
  | 0, h => exact h
  | 1, h => exact h
  | 2, h => exact h
  | 3, h => exact h
  | 4, h =>
    obtain ⟨a, e, h1, h2⟩ := h
    obtain ⟨e', h'⟩ := hx _ _ _ h1
    exact ⟨a, e', h', h2⟩
  | 5, h => exact h
  | 6, h => exact h
  | 7, h => exact h
  | _ + 8, _ => trivial
def abEok (rh : Nat → Int) (env : abE) : Prop := ∀ (k : Nat) (q : Nat × Nat), env[k]? = some q → (q.1 : Int) ≤ rh k + abB ∧ rh k + abB ≤ (q.2 : Int)
/-- the place k of the arguments' bounds -/
noncomputable def abWe {al : Type} (f : Nat → Nat → Option al) (env : abE) : Nat → Option al :=
  List.rec (motive := fun _ => Nat → Option al) (fun _ => none) (fun h _ ih k => Nat.rec (f h.1 h.2) (fun n _ => ih n) k) env
theorem abWe_ok {al : Type} {f : Nat → Nat → Option al} : ∀ {env : abE} {k : Nat} {r : al}, abWe f env k = some r → ∃ q : Nat × Nat, env[k]? = some q ∧ f q.1 q.2 = some r
  | [], _, _, h => by cases h
  | q :: _, 0, _, h => ⟨q, rfl, h⟩
  | _ :: env, k + 1, _, h => abWe_ok (env := env) (k := k) h
/-- the bounds of an int (c = 0) or a long (c = 2) -/
noncomputable def abWi {al : Type} (c : Nat) (env : abE) (v : abV) (f : Nat → Nat → Option al) : Option al :=
  abIf (Nat.beq v.1 c) (f v.2.1 v.2.2) (abIf (Nat.beq v.1 (c + 1)) (abWe f env v.2.1) none)
theorem abWi0 {al : Type} {ws : va_W} {sb sl : Nat} {rh : Nat → Int} {env : abE} {v : abV} {x : Value} {f : Nat → Nat → Option al} {r : al} (h : abWi 0 env v f = some r) (he : abEok rh env) (g : abG ws sb sl rh v x) : ∃ (a b : Nat) (y : Int32), f a b = some r ∧ x = .int y ∧ (a : Int) ≤ y.toInt + abB ∧ y.toInt + abB ≤ (b : Int) ∧ (v.1 = 1 → y.toInt = rh v.2.1 ∧ env[v.2.1]? = some (a, b)) ∧ (v.1 = 0 ∨ v.1 = 1) := by
  unfold abWi at h
  obtain ⟨t, k, lo⟩ := v
  cases h1 : Nat.beq t 0 with
  | true =>
    rw [abIf_t h1] at h
    have e := abBeq h1
    subst e
    obtain ⟨y, hx, p1, p2⟩ := g
    exact ⟨k, lo, y, h, hx, p1, p2, (fun q => by cases q), Or.inl rfl⟩
  | false =>
    rw [abIf_f h1] at h
    obtain ⟨h2, h3⟩ := abIf_some h
    have e : t = 0 + 1 := abBeq h2
    subst e
    obtain ⟨q, q1, q2⟩ := abWe_ok h3
    obtain ⟨y, hx, p1⟩ := g
    have hq := he _ _ q1
    have p1' : y.toInt = rh k := p1
    exact ⟨q.1, q.2, y, q2, hx, by rw [p1']; exact hq.1, by rw [p1']; exact hq.2, fun _ => ⟨p1, q1⟩, Or.inr rfl⟩
theorem abWi2 {al : Type} {ws : va_W} {sb sl : Nat} {rh : Nat → Int} {env : abE} {v : abV} {x : Value} {f : Nat → Nat → Option al} {r : al} (h : abWi 2 env v f = some r) (he : abEok rh env) (g : abG ws sb sl rh v x) : ∃ (a b : Nat) (y : Int64), f a b = some r ∧ x = .long y ∧ (a : Int) ≤ y.toInt + abB ∧ y.toInt + abB ≤ (b : Int) ∧ (v.1 = 3 → y.toInt = rh v.2.1 ∧ env[v.2.1]? = some (a, b)) ∧ (v.1 = 2 ∨ v.1 = 3) := by
  unfold abWi at h
  obtain ⟨t, k, lo⟩ := v
  cases h1 : Nat.beq t 2 with
  | true =>
    rw [abIf_t h1] at h
    have e := abBeq h1
    subst e
    obtain ⟨y, hx, p1, p2⟩ := g
    exact ⟨k, lo, y, h, hx, p1, p2, (fun q => by cases q), Or.inl rfl⟩
  | false =>
    rw [abIf_f h1] at h
    obtain ⟨h2, h3⟩ := abIf_some h
    have e : t = 2 + 1 := abBeq h2
    subst e
    obtain ⟨q, q1, q2⟩ := abWe_ok h3
    obtain ⟨y, hx, p1⟩ := g
    have hq := he _ _ q1
    have p1' : y.toInt = rh k := p1
    exact ⟨q.1, q.2, y, q2, hx, by rw [p1']; exact hq.1, by rw [p1']; exact hq.2, fun _ => ⟨p1, q1⟩, Or.inr rfl⟩
/-- a reference to a cell -/
noncomputable def abWr {al : Type} (v : abV) (f : Nat → Option al) : Option al := abIf (Nat.beq v.1 4) (f v.2.1) none
theorem abWr_ok {al : Type} {ws : va_W} {sb sl : Nat} {rh : Nat → Int} {v : abV} {x : Value} {f : Nat → Option al} {r : al} (h : abWr v f = some r) (g : abG ws sb sl rh v x) : ∃ (a : Nat) (e : va_E), f v.2.1 = some r ∧ ws[v.2.1]? = some (a, e) ∧ x = .ref a := by
  obtain ⟨t, k, lo⟩ := v
  obtain ⟨h1, h2⟩ := abIf_some h
  have e : t = 4 := abBeq h1
  subst e
  obtain ⟨a, e, q1, q2⟩ := g
  exact ⟨a, e, h2, q1, q2⟩
/-- slots that a value takes; 0 where it isn't known -/
def abCat (v : abV) : Nat := match v.1 with
  | 0 => 1
  | 1 => 1
  | 2 => 2
  | 3 => 2
  | 4 => 1
  | 5 => 1
  | 6 => 1
  | 7 => 1
  | _ => 0
theorem abCat_ok {ws : va_W} {sb sl : Nat} {rh : Nat → Int} {v : abV} {x : Value} {n : Nat} (h : abCat v = n + 1) (g : abG ws sb sl rh v x) : x.category = n + 1 := by
  obtain ⟨t, k, lo⟩ := v
  match t, h, g with
  | 0, h, g => obtain ⟨y, rfl, -⟩ := g; exact h
  | 1, h, g => obtain ⟨y, rfl, -⟩ := g; exact h
  | 2, h, g => obtain ⟨y, rfl, -⟩ := g; exact h
  | 3, h, g => obtain ⟨y, rfl, -⟩ := g; exact h
  | 4, h, g => obtain ⟨y, e, -, rfl⟩ := g; exact h
  | 5, h, g => obtain ⟨rfl, -⟩ := g; exact h
  | 6, h, g => cases g; exact h
  | 7, h, g => obtain ⟨y, rfl, -⟩ := g; exact h
  | _ + 8, h, _ => cases h
/-! trees: a decision tree over the numbers below 2^d, a leaf for all that lie below it -/
def abWf {al : Type} : Nat → Nat → Lean.RArray al → Prop
  | _, _, .leaf _ => True
  | 0, _, .branch _ _ _ => False
  | d + 1, lo, .branch p l r => p = lo + 2 ^ d ∧ abWf d lo l ∧ abWf d p r
noncomputable def abExp {al : Type} (x v : al) (i d : Nat) : Nat → Lean.RArray al :=
  Nat.rec (motive := fun _ => Nat → Lean.RArray al) (fun _ => .leaf v) (fun d ih lo => abIf (Nat.ble (lo + 2 ^ d) i) (.branch (lo + 2 ^ d) (.leaf x) (ih (lo + 2 ^ d))) (.branch (lo + 2 ^ d) (ih lo) (.leaf x))) d
noncomputable def abSet {al : Type} (i : Nat) (v : al) (t : Lean.RArray al) : Nat → Nat → Lean.RArray al :=
  Lean.RArray.rec (motive := fun _ => Nat → Nat → Lean.RArray al) (fun x d lo => abExp x v i d lo) (fun p l r ihl ihr d lo => abIf (Nat.ble p i) (.branch p l (ihr (d - 1) p)) (.branch p (ihl (d - 1) lo) r)) t
theorem abGet_l {al : Type} (x : al) (n : Nat) : (Lean.RArray.leaf x).get n = x := rfl
theorem abGet_b1 {al : Type} {p n : Nat} {l r : Lean.RArray al} (h : Nat.ble p n = true) : (Lean.RArray.branch p l r).get n = r.get n := by
  unfold Lean.RArray.get
  simp only [h]
theorem abGet_b0 {al : Type} {p n : Nat} {l r : Lean.RArray al} (h : Nat.ble p n = false) : (Lean.RArray.branch p l r).get n = l.get n := by
  unfold Lean.RArray.get
  simp only [h]
theorem abBle_t {a b : Nat} (h : a ≤ b) : Nat.ble a b = true := Nat.ble_eq_true_of_le h
theorem abBle_n {a b : Nat} (h : b < a) : Nat.ble a b = false := by
  cases q : Nat.ble a b with
  | false => rfl
  | true => exact absurd (abBle q) (by omega)
theorem abExp_wf {al : Type} (x v : al) (i : Nat) : ∀ (d lo : Nat), abWf d lo (abExp x v i d lo)
  | 0, _ => trivial
  | d + 1, lo => by
    show abWf (d + 1) lo (abIf (Nat.ble (lo + 2 ^ d) i) (.branch (lo + 2 ^ d) (.leaf x) (abExp x v i d (lo + 2 ^ d))) (.branch (lo + 2 ^ d) (abExp x v i d lo) (.leaf x)))
    cases h : Nat.ble (lo + 2 ^ d) i with
    | true => exact ⟨rfl, by cases d <;> trivial, abExp_wf x v i d _⟩
    | false => exact ⟨rfl, abExp_wf x v i d _, by cases d <;> trivial⟩
theorem abExp_get {al : Type} (x v : al) (i : Nat) : ∀ (d lo j : Nat), lo ≤ i → i < lo + 2 ^ d → lo ≤ j → j < lo + 2 ^ d → (abExp x v i d lo).get j = if i = j then v else x
  | 0, lo, j, h1, h2, h3, h4 => by
    have e : i = j := by simp at h2 h4; omega
    rw [if_pos e]
    rfl
  | d + 1, lo, j, h1, h2, h3, h4 => by
    rw [Nat.pow_succ] at h2 h4
    have ih := abExp_get x v i d
    show (abIf (Nat.ble (lo + 2 ^ d) i) (Lean.RArray.branch (lo + 2 ^ d) (Lean.RArray.leaf x) (abExp x v i d (lo + 2 ^ d))) (Lean.RArray.branch (lo + 2 ^ d) (abExp x v i d lo) (Lean.RArray.leaf x))).get j = _
    cases h : Nat.ble (lo + 2 ^ d) i with
    | true =>
      have hi := abBle h
      rw [abIf_t rfl]
      cases hj : Nat.ble (lo + 2 ^ d) j with
      | true =>
        have := abBle hj
        rw [abGet_b1 hj, ih _ _ (by omega) (by omega) (by omega) (by omega)]
      | false =>
        have := abBle_f hj
        rw [abGet_b0 hj, abGet_l, if_neg (by omega)]
    | false =>
      have hi := abBle_f h
      rw [abIf_f rfl]
      cases hj : Nat.ble (lo + 2 ^ d) j with
      | true =>
        have := abBle hj
        rw [abGet_b1 hj, abGet_l, if_neg (by omega)]
      | false =>
        have := abBle_f hj
        rw [abGet_b0 hj, ih _ _ (by omega) (by omega) (by omega) (by omega)]
theorem abSet_wf {al : Type} (i : Nat) (v : al) : ∀ (t : Lean.RArray al) (d lo : Nat), abWf d lo t → abWf d lo (abSet i v t d lo)
  | .leaf x, d, lo, _ => abExp_wf x v i d lo
  | .branch p l r, 0, lo, h => h.elim
  | .branch p l r, d + 1, lo, h => by
    obtain ⟨h1, h2, h3⟩ := h
    show abWf (d + 1) lo (abIf (Nat.ble p i) (.branch p l (abSet i v r d p)) (.branch p (abSet i v l d lo) r))
    cases hb : Nat.ble p i with
    | true => exact ⟨h1, h2, abSet_wf i v r d p h3⟩
    | false => exact ⟨h1, abSet_wf i v l d lo h2, h3⟩
theorem abSet_get {al : Type} (i : Nat) (v : al) : ∀ (t : Lean.RArray al) (d lo j : Nat), abWf d lo t → lo ≤ i → i < lo + 2 ^ d → lo ≤ j → j < lo + 2 ^ d → (abSet i v t d lo).get j = if i = j then v else t.get j
  | .leaf x, d, lo, j, _, h1, h2, h3, h4 => by
    exact abExp_get x v i d lo j h1 h2 h3 h4
  | .branch p l r, 0, lo, j, h, _, _, _, _ => h.elim
  | .branch p l r, d + 1, lo, j, h, h1, h2, h3, h4 => by
    obtain ⟨hp, w1, w2⟩ := h
    rw [Nat.pow_succ] at h2 h4
    show (abIf (Nat.ble p i) (Lean.RArray.branch p l (abSet i v r d p)) (Lean.RArray.branch p (abSet i v l d lo) r)).get j = _
    cases hb : Nat.ble p i with
    | true =>
      have hi := abBle hb
      rw [abIf_t rfl]
      cases hj : Nat.ble p j with
      | true =>
        have := abBle hj
        rw [abGet_b1 hj, abGet_b1 hj, abSet_get i v r d p j w2 (by omega) (by omega) (by omega) (by omega)]
      | false =>
        have := abBle_f hj
        rw [abGet_b0 hj, abGet_b0 hj, if_neg (by omega)]
    | false =>
      have hi := abBle_f hb
      rw [abIf_f rfl]
      cases hj : Nat.ble p j with
      | true =>
        have := abBle hj
        rw [abGet_b1 hj, abGet_b1 hj, if_neg (by omega)]
      | false =>
        have := abBle_f hj
        rw [abGet_b0 hj, abGet_b0 hj, abSet_get i v l d lo j w1 (by omega) (by omega) (by omega) (by omega)]
/-- the depth that a row of n needs -/
def abD (n : Nat) : Nat := Nat.log2 n + 1
theorem abD_lt {i n : Nat} (h : i < n) : i < 0 + 2 ^ abD n := by
  rw [Nat.zero_add]
  exact Nat.lt_trans h Nat.lt_log2_self
/-- all of a tree, by the ranges of its leaves -/
def abChk {al : Type} (P : Nat → al → Prop) : Lean.RArray al → Nat → Nat → Prop
  | .leaf x, lo, hi => ∀ n : Nat, lo ≤ n → n < hi → P n x
  | .branch p l r, lo, hi => abChk P l lo p ∧ abChk P r p hi
theorem abChk_get {al : Type} {P : Nat → al → Prop} : ∀ (t : Lean.RArray al) (lo hi n : Nat), abChk P t lo hi → lo ≤ n → n < hi → P n (t.get n)
  | .leaf x, lo, hi, n, h, h1, h2 => h n h1 h2
  | .branch p l r, lo, hi, n, h, h1, h2 => by
    cases hb : Nat.ble p n with
    | true =>
      rw [abGet_b1 hb]
      exact abChk_get r p hi n h.2 (abBle hb) h2
    | false =>
      rw [abGet_b0 hb]
      exact abChk_get l lo p n h.1 h1 (abBle_f hb)
/-! locals -/
noncomputable def abNth (l : List abV) : Nat → abV := List.rec (motive := fun _ => Nat → abV) (fun _ => abJ) (fun h _ ih i => Nat.rec h (fun n _ => ih n) i) l
noncomputable def abUpd (v : abV) (l : List abV) : Nat → List abV := List.rec (motive := fun _ => Nat → List abV) (fun _ => []) (fun h t ih i => Nat.rec (v :: t) (fun n _ => h :: ih n) i) l
theorem abNth_get : ∀ (l : List abV) (i : Nat), abNth l i = (l[i]?).getD abJ
  | [], _ => rfl
  | _ :: _, 0 => rfl
  | _ :: l, i + 1 => by
    rw [List.getElem?_cons_succ]
    exact abNth_get l i
theorem abUpd_set : ∀ (v : abV) (l : List abV) (i : Nat), abUpd v l i = l.set i v
  | _, [], _ => rfl
  | _, _ :: _, 0 => rfl
  | v, h :: l, i + 1 => by
    rw [List.set_cons_succ, ← abUpd_set v l i]
    rfl
/-- a store of one slot, of two -/
noncomputable def abSt1 (ls : List abV) (i : Nat) (v : abV) : List abV :=
  abIf (Nat.beq ((abNth ls (i - 1)).1 / 2) 1) (abUpd v (abUpd abJ ls (i - 1)) i) (abUpd v ls i)
noncomputable def abSt2 (ls : List abV) (i : Nat) (v : abV) : List abV := abUpd abJ (abSt1 ls i v) (i + 1)
/-! bounds of ints and longs -/
def abTI : abV := (0, 9223372034707292160, 9223372039002259455)
def abTL : abV := (2, 0, 18446744073709551615)
noncomputable def abBI (lo hi : Nat) : abV := abIf (Nat.ble 9223372034707292160 lo) (abIf (Nat.ble hi 9223372039002259455) (0, lo, hi) abTI) abTI
noncomputable def abBL (lo hi : Nat) : abV := abIf (Nat.ble hi 18446744073709551615) (2, lo, hi) abTL
theorem abTI_ok {ws : va_W} {sb sl : Nat} {rh : Nat → Int} (y : Int32) : abG ws sb sl rh abTI (.int y) := by
  have h1 := Int32.toInt_lt y
  have h2 := Int32.le_toInt y
  exact ⟨y, rfl, by show (9223372034707292160 : Int) ≤ _; simp only [abB]; omega, by show _ ≤ (9223372039002259455 : Int); simp only [abB]; omega⟩
theorem abTL_ok {ws : va_W} {sb sl : Nat} {rh : Nat → Int} (y : Int64) : abG ws sb sl rh abTL (.long y) := by
  have h1 := Int64.toInt_lt y
  have h2 := Int64.le_toInt y
  exact ⟨y, rfl, by show (0 : Int) ≤ _; simp only [abB]; omega, by show _ ≤ (18446744073709551615 : Int); simp only [abB]; omega⟩
/-- t: what the number would be without the wrap-around -/
theorem abBI_ok {ws : va_W} {sb sl : Nat} {rh : Nat → Int} {y : Int32} {t : Int} {lo hi : Nat} (h : y.toInt = t.bmod (2 ^ 32)) (h1 : (lo : Int) ≤ t + abB) (h2 : t + abB ≤ (hi : Int)) : abG ws sb sl rh (abBI lo hi) (.int y) := by
  unfold abBI
  cases c1 : Nat.ble 9223372034707292160 lo with
  | false => rw [abIf_f rfl]; exact abTI_ok y
  | true =>
    rw [abIf_t rfl]
    cases c2 : Nat.ble hi 9223372039002259455 with
    | false => rw [abIf_f rfl]; exact abTI_ok y
    | true =>
      rw [abIf_t rfl]
      have d1 := abBle c1
      have d2 := abBle c2
      simp only [abB] at h1 h2
      have e : t.bmod (2 ^ 32) = t := Int.bmod_eq_of_le (by omega) (by omega)
      rw [e] at h
      exact ⟨y, rfl, by show (lo : Int) ≤ _; simp only [abB]; omega, by show _ ≤ (hi : Int); simp only [abB]; omega⟩
theorem abBL_ok {ws : va_W} {sb sl : Nat} {rh : Nat → Int} {y : Int64} {t : Int} {lo hi : Nat} (h : y.toInt = t.bmod (2 ^ 64)) (h0 : 0 ≤ t + abB) (h1 : (lo : Int) ≤ t + abB) (h2 : t + abB ≤ (hi : Int)) : abG ws sb sl rh (abBL lo hi) (.long y) := by
  unfold abBL
  cases c2 : Nat.ble hi 18446744073709551615 with
  | false => rw [abIf_f rfl]; exact abTL_ok y
  | true =>
    rw [abIf_t rfl]
    have d2 := abBle c2
    simp only [abB] at h0 h1 h2
    have e : t.bmod (2 ^ 64) = t := Int.bmod_eq_of_le (by omega) (by omega)
    rw [e] at h
    exact ⟨y, rfl, by show (lo : Int) ≤ _; simp only [abB]; omega, by show _ ≤ (hi : Int); simp only [abB]; omega⟩
theorem abI32 (y : Int32) : -2147483648 ≤ y.toInt ∧ y.toInt ≤ 2147483647 := by
  have h1 := Int32.toInt_lt y
  have h2 := Int32.le_toInt y
  omega
theorem abI64 (y : Int64) : -9223372036854775808 ≤ y.toInt ∧ y.toInt ≤ 9223372036854775807 := by
  have h1 := Int64.toInt_lt y
  have h2 := Int64.le_toInt y
  omega
/-! what a comparison tells of the arguments -/
abbrev abRs (al : Type) : Type := Option (List al)
noncomputable def abJn {al : Type} (a b : abRs al) : abRs al := match a with
  | none => none
  | some x => match b with
    | none => none
    | some y => some (x ++ y)
theorem abJn_some {al : Type} {a b : abRs al} {r : List al} (h : abJn a b = some r) : ∃ x y, a = some x ∧ b = some y ∧ r = x ++ y := by
  unfold abJn at h
  cases a with
  | none => cases h
  | some x =>
    cases b with
    | none => cases h
    | some y =>
      cases h
      exact ⟨x, y, rfl, rfl, rfl⟩
noncomputable def abUe (q : Nat × Nat) (l : abE) : Nat → abE := List.rec (motive := fun _ => Nat → abE) (fun _ => []) (fun h t ih i => Nat.rec (q :: t) (fun n _ => h :: ih n) i) l
theorem abUe_set : ∀ (v : Nat × Nat) (l : abE) (i : Nat), abUe v l i = l.set i v
  | _, [], _ => rfl
  | _, _ :: _, 0 => rfl
  | v, h :: l, i + 1 => by
    rw [List.set_cons_succ, ← abUe_set v l i]
    rfl
theorem abEok_set {rh : Nat → Int} {env : abE} {k : Nat} {q : Nat × Nat} (he : abEok rh env) (h1 : (q.1 : Int) ≤ rh k + abB) (h2 : rh k + abB ≤ (q.2 : Int)) : abEok rh (abUe q env k) := by
  rw [abUe_set]
  intro j p hj
  by_cases hk : k = j
  · subst hk
    by_cases hl : k < env.length
    · rw [List.getElem?_set_self hl] at hj
      cases hj
      exact ⟨h1, h2⟩
    · rw [List.getElem?_eq_none (by simp; omega)] at hj
      cases hj
  · rw [List.getElem?_set_ne hk] at hj
    exact he j p hj
/-- v, between a and b, is cut to lo .. hi: t is its argument's number and one more, 0 where it is none -/
noncomputable def abCut {al : Type} (env : abE) (t a b lo hi : Nat) (f : abE → abRs al) : abRs al :=
  abIf (Nat.ble lo b) (abIf (Nat.ble a hi) (abIf (Nat.ble lo hi) (Nat.rec (f env) (fun k _ => f (abUe (abIf (Nat.ble lo a) a lo, abIf (Nat.ble b hi) b hi) env k)) t) (some [])) (some [])) (some [])
theorem abCut_ok {al : Type} {rh : Nat → Int} {env : abE} {t a b lo hi : Nat} {f : abE → abRs al} {r : List al} {n : Int} (h : abCut env t a b lo hi f = some r) (he : abEok rh env) (ht : ∀ k, t = k + 1 → n = rh k) (a1 : (a : Int) ≤ n + abB) (a2 : n + abB ≤ (b : Int)) (h1 : (lo : Int) ≤ n + abB) (h2 : n + abB ≤ (hi : Int)) : ∃ env' : abE, f env' = some r ∧ abEok rh env' := by
  unfold abCut at h
  rw [abIf_t (abBle_t (by omega)), abIf_t (abBle_t (by omega)), abIf_t (abBle_t (by omega))] at h
  cases t with
  | zero => exact ⟨env, h, he⟩
  | succ k =>
    refine ⟨_, h, ?_⟩
    have e := ht k rfl
    rw [e] at a1 a2 h1 h2
    refine abEok_set he ?_ ?_
    · cases q : Nat.ble lo a with
      | true => exact a1
      | false => exact h1
    · cases q : Nat.ble b hi with
      | true => exact a2
      | false => exact h2
/-- the number of a value's argument and one more; 0 where it is none -/
noncomputable def abTag (v : abV) : Nat := abIf (Nat.beq v.1 1) (v.2.1 + 1) (abIf (Nat.beq v.1 3) (v.2.1 + 1) 0)
theorem abTag_i {ws : va_W} {sb sl : Nat} {rh : Nat → Int} {v : abV} {y : Int32} (g : abG ws sb sl rh v (.int y)) (k : Nat) (h : abTag v = k + 1) : y.toInt = rh k := by
  obtain ⟨t, i, lo⟩ := v
  unfold abTag at h
  cases h1 : Nat.beq t 1 with
  | true =>
    rw [abIf_t h1] at h
    have e : t = 1 := abBeq h1
    subst e
    cases h
    obtain ⟨z, hz, e⟩ := g
    cases hz
    exact e
  | false =>
    rw [abIf_f h1] at h
    cases h3 : Nat.beq t 3 with
    | true =>
      have e : t = 3 := abBeq h3
      subst e
      obtain ⟨z, hz, e⟩ := g
      cases hz
    | false =>
      rw [abIf_f h3] at h
      cases h
theorem abTag_l {ws : va_W} {sb sl : Nat} {rh : Nat → Int} {v : abV} {y : Int64} (g : abG ws sb sl rh v (.long y)) (k : Nat) (h : abTag v = k + 1) : y.toInt = rh k := by
  obtain ⟨t, i, lo⟩ := v
  unfold abTag at h
  cases h1 : Nat.beq t 1 with
  | true =>
    have e : t = 1 := abBeq h1
    subst e
    obtain ⟨z, hz, e⟩ := g
    cases hz
  | false =>
    rw [abIf_f h1] at h
    cases h3 : Nat.beq t 3 with
    | true =>
      rw [abIf_t h3] at h
      have e : t = 3 := abBeq h3
      subst e
      cases h
      obtain ⟨z, hz, e⟩ := g
      cases hz
      exact e
    | false =>
      rw [abIf_f h3] at h
      cases h
noncomputable def abCu2 {al : Type} (env : abE) (t a b lo hi u c d lo2 hi2 : Nat) (f : abE → abRs al) : abRs al := abCut env t a b lo hi (fun e => abCut e u c d lo2 hi2 f)
theorem abCu2_ok {al : Type} {rh : Nat → Int} {env : abE} {t a b lo hi u c d lo2 hi2 : Nat} {f : abE → abRs al} {r : List al} {m n : Int} (h : abCu2 env t a b lo hi u c d lo2 hi2 f = some r) (he : abEok rh env) (ht : ∀ k, t = k + 1 → m = rh k) (hu : ∀ k, u = k + 1 → n = rh k) (a1 : (a : Int) ≤ m + abB) (a2 : m + abB ≤ (b : Int)) (c1 : (c : Int) ≤ n + abB) (c2 : n + abB ≤ (d : Int)) (h1 : (lo : Int) ≤ m + abB) (h2 : m + abB ≤ (hi : Int)) (h3 : (lo2 : Int) ≤ n + abB) (h4 : n + abB ≤ (hi2 : Int)) : ∃ env' : abE, f env' = some r ∧ abEok rh env' := by
  obtain ⟨e1, q1, q2⟩ := abCut_ok h he ht a1 a2 h1 h2
  exact abCut_ok q1 q2 hu c1 c2 h3 h4
/-- branches: f: it holds; g: it doesn't; s: once more, with less of the argument -/
noncomputable def abLt {al : Type} (env : abE) (t a b u c d : Nat) (f g _s : abE → abRs al) : abRs al := abJn (abCu2 env t a b a (d - 1) u c d (a + 1) d f) (abCu2 env t a b c b u c d c b g)
noncomputable def abGt {al : Type} (env : abE) (t a b u c d : Nat) (f g _s : abE → abRs al) : abRs al := abJn (abCu2 env t a b (c + 1) b u c d c (b - 1) f) (abCu2 env t a b a d u c d a d g)
noncomputable def abQ3 {al : Type} (env : abE) (t a b c : Nat) (s : abE → abRs al) : abRs al := abJn (abCut env t a b a (c - 1) s) (abJn (abCut env t a b c c s) (abCut env t a b (c + 1) b s))
noncomputable def abEq {al : Type} (env : abE) (t a b u c d : Nat) (f g s : abE → abRs al) : abRs al :=
  abIf (Nat.beq c d) (abIf (Nat.beq a c) (abJn (abCu2 env t a b c d u c d a b f) (abCut env t a b (c + 1) b g))
    (abIf (Nat.beq b c) (abJn (abCu2 env t a b c d u c d a b f) (abCut env t a b a (c - 1) g))
      (Nat.rec (abJn (abCu2 env t a b c d u c d a b f) (g env)) (fun _ _ => abQ3 env t a b c s) t)))
    (abJn (abCu2 env t a b c d u c d a b f) (g env))
abbrev abBt (al : Type) : Type := abE → Nat → Nat → Nat → Nat → Nat → Nat → (abE → abRs al) → (abE → abRs al) → (abE → abRs al) → abRs al
def abHas {al : Type} (rh : Nat → Int) (f : abE → abRs al) (r : List al) : Prop := ∃ (env' : abE) (r' : List al), f env' = some r' ∧ (∀ x ∈ r', x ∈ r) ∧ abEok rh env'
def abBrk (P : Int → Int → Prop) {al : Type} (BR : abBt al) : Prop := ∀ (rh : Nat → Int) (env : abE) (t a b u c d : Nat) (f g s : abE → abRs al) (r : List al) (m n : Int), BR env t a b u c d f g s = some r → abEok rh env → (∀ k, t = k + 1 → m = rh k) → (∀ k, u = k + 1 → n = rh k) → (a : Int) ≤ m + abB → m + abB ≤ (b : Int) → (c : Int) ≤ n + abB → n + abB ≤ (d : Int) → abHas rh s r ∨ ((P m n → abHas rh f r) ∧ (¬ P m n → abHas rh g r))
theorem abHas_l {al : Type} {rh : Nat → Int} {f : abE → abRs al} {x r : List al} (hs : ∀ z ∈ x, z ∈ r) (h : ∃ env' : abE, f env' = some x ∧ abEok rh env') : abHas rh f r := by
  obtain ⟨e, h1, h2⟩ := h
  exact ⟨e, x, h1, hs, h2⟩
theorem abLt_ok {al : Type} : abBrk (fun m n => m < n) (al := al) abLt := by
  intro rh env t a b u c d f g s r m n h he ht hu a1 a2 c1 c2
  obtain ⟨x, y, hx, hy, rfl⟩ := abJn_some h
  refine Or.inr ⟨fun hp => ?_, fun hp => ?_⟩
  · exact abHas_l (fun z q => List.mem_append_left _ q) (abCu2_ok hx he ht hu a1 a2 c1 c2 a1 (by omega) (by omega) c2)
  · exact abHas_l (fun z q => List.mem_append_right _ q) (abCu2_ok hy he ht hu a1 a2 c1 c2 (by omega) a2 c1 (by omega))
theorem abGt_ok {al : Type} : abBrk (fun m n => n < m) (al := al) abGt := by
  intro rh env t a b u c d f g s r m n h he ht hu a1 a2 c1 c2
  obtain ⟨x, y, hx, hy, rfl⟩ := abJn_some h
  refine Or.inr ⟨fun hp => ?_, fun hp => ?_⟩
  · exact abHas_l (fun z q => List.mem_append_left _ q) (abCu2_ok hx he ht hu a1 a2 c1 c2 (by omega) a2 c1 (by omega))
  · exact abHas_l (fun z q => List.mem_append_right _ q) (abCu2_ok hy he ht hu a1 a2 c1 c2 a1 (by omega) (by omega) c2)
theorem abEq_ok {al : Type} : abBrk (fun m n => m = n) (al := al) abEq := by
  intro rh env t a b u c d f g s r m n h he ht hu a1 a2 c1 c2
  have base : ∀ G : abRs al, abJn (abCu2 env t a b c d u c d a b f) G = some r → (¬ m = n → ∀ y, G = some y → ∃ env' : abE, g env' = some y ∧ abEok rh env') → abHas rh s r ∨ ((m = n → abHas rh f r) ∧ (¬ m = n → abHas rh g r)) := by
    intro G h1 h2
    obtain ⟨x, y, hx, hy, rfl⟩ := abJn_some h1
    refine Or.inr ⟨fun hp => ?_, fun hp => ?_⟩
    · exact abHas_l (fun z q => List.mem_append_left _ q) (abCu2_ok hx he ht hu a1 a2 c1 c2 (by omega) (by omega) (by omega) (by omega))
    · exact abHas_l (fun z q => List.mem_append_right _ q) (h2 hp y hy)
  unfold abEq at h
  cases q1 : Nat.beq c d with
  | false =>
    rw [abIf_f q1] at h
    exact base _ h (fun _ y hy => ⟨env, hy, he⟩)
  | true =>
    rw [abIf_t q1] at h
    have e1 := abBeq q1
    cases q2 : Nat.beq a c with
    | true =>
      rw [abIf_t q2] at h
      have e2 := abBeq q2
      exact base _ h (fun hp y hy => abCut_ok hy he ht a1 a2 (by omega) a2)
    | false =>
      rw [abIf_f q2] at h
      have e2 := abBeq_f q2
      cases q3 : Nat.beq b c with
      | true =>
        rw [abIf_t q3] at h
        have e3 := abBeq q3
        exact base _ h (fun hp y hy => abCut_ok hy he ht a1 a2 a1 (by omega))
      | false =>
        rw [abIf_f q3] at h
        cases t with
        | zero => exact base _ h (fun _ y hy => ⟨env, hy, he⟩)
        | succ k =>
          refine Or.inl ?_
          have h' : abQ3 env (k + 1) a b c s = some r := h
          obtain ⟨x, yz, hx, hyz, rfl⟩ := abJn_some h'
          obtain ⟨y, z, hy, hz, rfl⟩ := abJn_some hyz
          by_cases g1 : m + abB < (c : Int)
          · exact abHas_l (fun w q => List.mem_append_left _ q) (abCut_ok hx he ht a1 a2 a1 (by omega))
          · by_cases g2 : m + abB = (c : Int)
            · exact abHas_l (fun w q => List.mem_append_right _ (List.mem_append_left _ q)) (abCut_ok hy he ht a1 a2 (by omega) (by omega))
            · exact abHas_l (fun w q => List.mem_append_right _ (List.mem_append_right _ q)) (abCut_ok hz he ht a1 a2 (by omega) a2)
/-- the other way round -/
noncomputable def abSw {al : Type} (BR : abBt al) : abBt al := fun env t a b u c d f g s => BR env t a b u c d g f s
theorem abSw_ok {al : Type} {P : Int → Int → Prop} {BR : abBt al} (h : abBrk P BR) : abBrk (fun m n => ¬ P m n) (abSw BR) := by
  intro rh env t a b u c d f g s r m n h1 he ht hu a1 a2 c1 c2
  rcases h rh env t a b u c d g f s r m n h1 he ht hu a1 a2 c1 c2 with q | ⟨q1, q2⟩
  · exact Or.inl q
  · exact Or.inr ⟨fun hp => q2 hp, fun hp => q1 (Classical.not_not.mp hp)⟩
/-- cases of an argument with few values -/
noncomputable def abFo {al : Type} (f : Nat → abRs al) (a n : Nat) : abRs al := Nat.rec (f a) (fun n ih => abJn (f (a + (n + 1))) ih) n
theorem abFo_ok {al : Type} {f : Nat → abRs al} {a : Nat} : ∀ {n : Nat} {r : List al} {z : Nat}, abFo f a n = some r → a ≤ z → z ≤ a + n → ∃ r', f z = some r' ∧ ∀ x ∈ r', x ∈ r
  | 0, r, z, h, h1, h2 => by
    have e : z = a := by omega
    rw [e]
    exact ⟨r, h, fun _ q => q⟩
  | n + 1, r, z, h, h1, h2 => by
    obtain ⟨x, y, hx, hy, rfl⟩ := abJn_some h
    by_cases e : z = a + (n + 1)
    · rw [e]
      exact ⟨x, hx, fun _ q => List.mem_append_left _ q⟩
    · obtain ⟨r', q1, q2⟩ := abFo_ok (n := n) hy h1 (by omega)
      exact ⟨r', q1, fun w q => List.mem_append_right _ (q2 w q)⟩
noncomputable def abSpl {al : Type} (w t : Nat) (env : abE) (a b : Nat) (s : abE → abRs al) : abRs al :=
  Nat.rec none (fun k _ => abIf (Nat.ble (b - a) w) (abFo (fun z => s (abUe (z, z) env k)) a (b - a)) none) t
theorem abSpl_ok {al : Type} {rh : Nat → Int} {w t : Nat} {env : abE} {a b : Nat} {s : abE → abRs al} {r : List al} {m : Int} (h : abSpl w t env a b s = some r) (he : abEok rh env) (ht : ∀ k, t = k + 1 → m = rh k) (a1 : (a : Int) ≤ m + abB) (a2 : m + abB ≤ (b : Int)) : abHas rh s r := by
  cases t with
  | zero => cases h
  | succ k =>
    obtain ⟨h1, h2⟩ := abIf_some (show abIf (Nat.ble (b - a) w) (abFo (fun z => s (abUe (z, z) env k)) a (b - a)) none = some r from h)
    have e := ht k rfl
    obtain ⟨r', q1, q2⟩ := abFo_ok (z := (m + abB).toNat) h2 (by omega) (by omega)
    refine ⟨_, r', q1, q2, abEok_set he ?_ ?_⟩
    · show (((m + abB).toNat : Nat) : Int) ≤ _
      rw [← e]; omega
    · show _ ≤ (((m + abB).toNat : Nat) : Int)
      rw [← e]; omega
end
section
def RX0 : String := "TallBins$Bars"
def TX0 : u_T := fun k => match k with
  | 0 => ("TallBins$Bars", "bars", "I", false)
  | 1 => ("TallBins$Bars", "conds", "I", false)
  | 2 => ("TallBins$Bars", "ends", "[I", true)
  | 3 => ("TallBins$Bars", "words", "[I", true)
  | 4 => ("TallBins$Bars", "nots", "[Z", true)
  | 5 => ("TallBins$Bars", "signs", "[I", true)
  | _ => ("TallBins$Bars", "numbers", "[I", true)
def tyX0 : Nat → FieldType := fun k => match k with
  | 0 => .int
  | 1 => .int
  | 2 => .array .int
  | 3 => .array .int
  | 4 => .array .boolean
  | 5 => .array .int
  | _ => .array .int
theorem nmX0 : ∀ a, a < 7 → ∀ b, b < 7 → a ≠ b → (TX0 a).2.1 ≠ (TX0 b).2.1 := by decide +kernel
theorem tyX0_ok : ∀ k, k < 7 → parseFieldDescriptor (TX0 k).2.2.1 = some (tyX0 k) := by decide +kernel
def RX1 : String := "TallBins$Bin"
def TX1 : u_T := fun k => match k with
  | 0 => ("TallBins$Bin", "rings", "I", false)
  | 1 => ("TallBins$Bin", "hold", "I", false)
  | 2 => ("TallBins$Bin", "mouth", "I", false)
  | 3 => ("TallBins$Bin", "rough", "I", false)
  | 4 => ("TallBins$Bin", "grain", "I", false)
  | 5 => ("TallBins$Bin", "hung", "Z", false)
  | 6 => ("TallBins$Bin", "man", "I", false)
  | 7 => ("TallBins$Bin", "drawnToday", "I", false)
  | 8 => ("TallBins$Bin", "stack", "[LTallBins$Heap;", true)
  | 9 => ("TallBins$Bin", "rope", "LTallBins$Rope;", true)
  | _ => ("TallBins$Bin", "share", "[I", true)
def tyX1 : Nat → FieldType := fun k => match k with
  | 0 => .int
  | 1 => .int
  | 2 => .int
  | 3 => .int
  | 4 => .int
  | 5 => .boolean
  | 6 => .int
  | 7 => .int
  | 8 => .array (.object "TallBins$Heap")
  | 9 => .object "TallBins$Rope"
  | _ => .array .int
theorem nmX1 : ∀ a, a < 11 → ∀ b, b < 11 → a ≠ b → (TX1 a).2.1 ≠ (TX1 b).2.1 := by decide +kernel
theorem tyX1_ok : ∀ k, k < 11 → parseFieldDescriptor (TX1 k).2.2.1 = some (tyX1 k) := by decide +kernel
def RX2 : String := "TallBins$Blender"
def TX2 : u_T := fun k => match k with
  | 0 => ("TallBins$Blender", "valid", "Z", false)
  | 1 => ("TallBins$Blender", "told", "[I", true)
  | 2 => ("TallBins$Blender", "most", "[I", true)
  | 3 => ("TallBins$Blender", "damps", "[I", true)
  | 4 => ("TallBins$Blender", "tried", "[I", true)
  | 5 => ("TallBins$Blender", "found", "[I", true)
  | 6 => ("TallBins$Blender", "dampMost", "I", false)
  | _ => ("TallBins$Blender", "best", "I", false)
def tyX2 : Nat → FieldType := fun k => match k with
  | 0 => .boolean
  | 1 => .array .int
  | 2 => .array .int
  | 3 => .array .int
  | 4 => .array .int
  | 5 => .array .int
  | 6 => .int
  | _ => .int
theorem nmX2 : ∀ a, a < 8 → ∀ b, b < 8 → a ≠ b → (TX2 a).2.1 ≠ (TX2 b).2.1 := by decide +kernel
theorem tyX2_ok : ∀ k, k < 8 → parseFieldDescriptor (TX2 k).2.2.1 = some (tyX2 k) := by decide +kernel
def RX3 : String := "TallBins$Heap"
def TX3 : u_T := fun k => match k with
  | 0 => ("TallBins$Heap", "units", "I", false)
  | 1 => ("TallBins$Heap", "damp", "I", false)
  | 2 => ("TallBins$Heap", "warm", "I", false)
  | 3 => ("TallBins$Heap", "beetles", "I", false)
  | _ => ("TallBins$Heap", "lots", "[I", true)
def tyX3 : Nat → FieldType := fun k => match k with
  | 0 => .int
  | 1 => .int
  | 2 => .int
  | 3 => .int
  | _ => .array .int
theorem nmX3 : ∀ a, a < 5 → ∀ b, b < 5 → a ≠ b → (TX3 a).2.1 ≠ (TX3 b).2.1 := by decide +kernel
theorem tyX3_ok : ∀ k, k < 5 → parseFieldDescriptor (TX3 k).2.2.1 = some (tyX3 k) := by decide +kernel
def RX4 : String := "TallBins$House"
def TX4 : u_T := fun k => match k with
  | 0 => ("TallBins$House", "rules", "LTallBins$Rules;", true)
  | 1 => ("TallBins$House", "bins", "[LTallBins$Bin;", true)
  | 2 => ("TallBins$House", "ledger", "LTallBins$Ledger;", true)
  | 3 => ("TallBins$House", "lotsIn", "[I", true)
  | 4 => ("TallBins$House", "days", "I", false)
  | 5 => ("TallBins$House", "weather", "I", false)
  | 6 => ("TallBins$House", "unitsFilled", "I", false)
  | 7 => ("TallBins$House", "unitsDrawn", "I", false)
  | _ => ("TallBins$House", "dried", "I", false)
def tyX4 : Nat → FieldType := fun k => match k with
  | 0 => .object "TallBins$Rules"
  | 1 => .array (.object "TallBins$Bin")
  | 2 => .object "TallBins$Ledger"
  | 3 => .array .int
  | 4 => .int
  | 5 => .int
  | 6 => .int
  | 7 => .int
  | _ => .int
theorem nmX4 : ∀ a, a < 9 → ∀ b, b < 9 → a ≠ b → (TX4 a).2.1 ≠ (TX4 b).2.1 := by decide +kernel
theorem tyX4_ok : ∀ k, k < 9 → parseFieldDescriptor (TX4 k).2.2.1 = some (tyX4 k) := by decide +kernel
def RX5 : String := "TallBins$Ledger"
def TX5 : u_T := fun k => match k with
  | 0 => ("TallBins$Ledger", "noted", "I", false)
  | 1 => ("TallBins$Ledger", "oldest", "I", false)
  | _ => ("TallBins$Ledger", "numbers", "[I", true)
def tyX5 : Nat → FieldType := fun k => match k with
  | 0 => .int
  | 1 => .int
  | _ => .array .int
theorem nmX5 : ∀ a, a < 3 → ∀ b, b < 3 → a ≠ b → (TX5 a).2.1 ≠ (TX5 b).2.1 := by decide +kernel
theorem tyX5_ok : ∀ k, k < 3 → parseFieldDescriptor (TX5 k).2.2.1 = some (tyX5 k) := by decide +kernel
def RX6 : String := "TallBins$Planner"
def TX6 : u_T := fun k => match k with
  | 0 => ("TallBins$Planner", "told", "I", false)
  | 1 => ("TallBins$Planner", "toldFrom", "[I", true)
  | 2 => ("TallBins$Planner", "toldTo", "[I", true)
  | 3 => ("TallBins$Planner", "wanted", "I", false)
  | 4 => ("TallBins$Planner", "due", "[Z", true)
  | 5 => ("TallBins$Planner", "units", "[I", true)
  | 6 => ("TallBins$Planner", "rooms", "[I", true)
  | 7 => ("TallBins$Planner", "from", "[I", true)
  | _ => ("TallBins$Planner", "to", "[I", true)
def tyX6 : Nat → FieldType := fun k => match k with
  | 0 => .int
  | 1 => .array .int
  | 2 => .array .int
  | 3 => .int
  | 4 => .array .boolean
  | 5 => .array .int
  | 6 => .array .int
  | 7 => .array .int
  | _ => .array .int
theorem nmX6 : ∀ a, a < 9 → ∀ b, b < 9 → a ≠ b → (TX6 a).2.1 ≠ (TX6 b).2.1 := by decide +kernel
theorem tyX6_ok : ∀ k, k < 9 → parseFieldDescriptor (TX6 k).2.2.1 = some (tyX6 k) := by decide +kernel
def RX7 : String := "TallBins$Reader"
def TX7 : u_T := fun k => match k with
  | 0 => ("TallBins$Reader", "draft", "LTallBins$Rules;", true)
  | 1 => ("TallBins$Reader", "fault", "I", false)
  | 2 => ("TallBins$Reader", "faultPlace", "I", false)
  | 3 => ("TallBins$Reader", "bytes", "[B", true)
  | 4 => ("TallBins$Reader", "length", "I", false)
  | 5 => ("TallBins$Reader", "kind", "I", false)
  | 6 => ("TallBins$Reader", "value", "I", false)
  | 7 => ("TallBins$Reader", "place", "I", false)
  | _ => ("TallBins$Reader", "next", "I", false)
def tyX7 : Nat → FieldType := fun k => match k with
  | 0 => .object "TallBins$Rules"
  | 1 => .int
  | 2 => .int
  | 3 => .array .byte
  | 4 => .int
  | 5 => .int
  | 6 => .int
  | 7 => .int
  | _ => .int
theorem nmX7 : ∀ a, a < 9 → ∀ b, b < 9 → a ≠ b → (TX7 a).2.1 ≠ (TX7 b).2.1 := by decide +kernel
theorem tyX7_ok : ∀ k, k < 9 → parseFieldDescriptor (TX7 k).2.2.1 = some (tyX7 k) := by decide +kernel
def RX8 : String := "TallBins$Rope"
def TX8 : u_T := fun k => match k with
  | _ => ("TallBins$Rope", "readings", "[I", true)
def tyX8 : Nat → FieldType := fun k => match k with
  | _ => .array .int
theorem nmX8 : ∀ a, a < 1 → ∀ b, b < 1 → a ≠ b → (TX8 a).2.1 ≠ (TX8 b).2.1 := by decide +kernel
theorem tyX8_ok : ∀ k, k < 1 → parseFieldDescriptor (TX8 k).2.2.1 = some (tyX8 k) := by decide +kernel
def RX9 : String := "TallBins$Row"
def TX9 : u_T := fun k => match k with
  | 0 => ("TallBins$Row", "width", "I", false)
  | 1 => ("TallBins$Row", "length", "I", false)
  | _ => ("TallBins$Row", "numbers", "[J", true)
def tyX9 : Nat → FieldType := fun k => match k with
  | 0 => .int
  | 1 => .int
  | _ => .array .long
theorem nmX9 : ∀ a, a < 3 → ∀ b, b < 3 → a ≠ b → (TX9 a).2.1 ≠ (TX9 b).2.1 := by decide +kernel
theorem tyX9_ok : ∀ k, k < 3 → parseFieldDescriptor (TX9 k).2.2.1 = some (tyX9 k) := by decide +kernel
def RX10 : String := "TallBins$Rules"
def TX10 : u_T := fun k => match k with
  | 0 => ("TallBins$Rules", "lines", "I", false)
  | 1 => ("TallBins$Rules", "binsTold", "I", false)
  | 2 => ("TallBins$Rules", "grainsTold", "I", false)
  | 3 => ("TallBins$Rules", "rings", "[I", true)
  | 4 => ("TallBins$Rules", "holds", "[I", true)
  | 5 => ("TallBins$Rules", "mouths", "[I", true)
  | 6 => ("TallBins$Rules", "roughs", "[I", true)
  | 7 => ("TallBins$Rules", "heavies", "[I", true)
  | 8 => ("TallBins$Rules", "grips", "[I", true)
  | 9 => ("TallBins$Rules", "prices", "[I", true)
  | 10 => ("TallBins$Rules", "breaths", "I", false)
  | 11 => ("TallBins$Rules", "breathWarm", "[I", true)
  | 12 => ("TallBins$Rules", "breathDamp", "[I", true)
  | 13 => ("TallBins$Rules", "breathAdd", "[I", true)
  | _ => ("TallBins$Rules", "bars", "LTallBins$Bars;", true)
def tyX10 : Nat → FieldType := fun k => match k with
  | 0 => .int
  | 1 => .int
  | 2 => .int
  | 3 => .array .int
  | 4 => .array .int
  | 5 => .array .int
  | 6 => .array .int
  | 7 => .array .int
  | 8 => .array .int
  | 9 => .array .int
  | 10 => .int
  | 11 => .array .int
  | 12 => .array .int
  | 13 => .array .int
  | _ => .object "TallBins$Bars"
theorem nmX10 : ∀ a, a < 15 → ∀ b, b < 15 → a ≠ b → (TX10 a).2.1 ≠ (TX10 b).2.1 := by decide +kernel
theorem tyX10_ok : ∀ k, k < 15 → parseFieldDescriptor (TX10 k).2.2.1 = some (tyX10 k) := by decide +kernel
def RX11 : String := "TallBins"
def TX11 : u_T := fun k => match k with
  | 0 => ("TallBins", "tape", "[B", true)
  | 1 => ("TallBins", "taped", "I", false)
  | 2 => ("TallBins", "reader", "LTallBins$Reader;", true)
  | 3 => ("TallBins", "house", "LTallBins$House;", true)
  | 4 => ("TallBins", "images", "[LTallBins$House;", true)
  | 5 => ("TallBins", "kept", "[Z", true)
  | 6 => ("TallBins", "slots", "[LTallBins$Row;", true)
  | 7 => ("TallBins", "load", "LTallBins$Heap;", true)
  | 8 => ("TallBins", "loadBin", "I", false)
  | 9 => ("TallBins", "planner", "LTallBins$Planner;", true)
  | 10 => ("TallBins", "blender", "LTallBins$Blender;", true)
  | 11 => ("TallBins", "refusedBar", "I", false)
  | _ => ("TallBins", "trial", "LTallBins$Bin;", true)
def tyX11 : Nat → FieldType := fun k => match k with
  | 0 => .array .byte
  | 1 => .int
  | 2 => .object "TallBins$Reader"
  | 3 => .object "TallBins$House"
  | 4 => .array (.object "TallBins$House")
  | 5 => .array .boolean
  | 6 => .array (.object "TallBins$Row")
  | 7 => .object "TallBins$Heap"
  | 8 => .int
  | 9 => .object "TallBins$Planner"
  | 10 => .object "TallBins$Blender"
  | 11 => .int
  | _ => .object "TallBins$Bin"
theorem nmX11 : ∀ a, a < 13 → ∀ b, b < 13 → a ≠ b → (TX11 a).2.1 ≠ (TX11 b).2.1 := by decide +kernel
theorem tyX11_ok : ∀ k, k < 13 → parseFieldDescriptor (TX11 k).2.2.1 = some (tyX11 k) := by decide +kernel
def RX12 : String := "TallBinsModel"
def TX12 : u_T := fun k => match k with
  | 0 => ("TallBinsModel", "thrown", "I", false)
  | 1 => ("TallBinsModel", "world", "[I", true)
  | 2 => ("TallBinsModel", "images", "[I", true)
  | 3 => ("TallBinsModel", "hasImage", "[Z", true)
  | 4 => ("TallBinsModel", "tape", "[B", true)
  | 5 => ("TallBinsModel", "taped", "I", false)
  | 6 => ("TallBinsModel", "five", "[I", true)
  | 7 => ("TallBinsModel", "size", "I", false)
  | 8 => ("TallBinsModel", "at", "I", false)
  | 9 => ("TallBinsModel", "from", "I", false)
  | 10 => ("TallBinsModel", "token", "I", false)
  | 11 => ("TallBinsModel", "value", "I", false)
  | 12 => ("TallBinsModel", "faultKind", "I", false)
  | 13 => ("TallBinsModel", "faultPlace", "I", false)
  | 14 => ("TallBinsModel", "fresh", "[I", true)
  | 15 => ("TallBinsModel", "isGrain", "[Z", true)
  | 16 => ("TallBinsModel", "part", "[I", true)
  | 17 => ("TallBinsModel", "hasOne", "[Z", true)
  | 18 => ("TallBinsModel", "drawn", "[I", true)
  | 19 => ("TallBinsModel", "load", "[I", true)
  | 20 => ("TallBinsModel", "loadBin", "I", false)
  | 21 => ("TallBinsModel", "pressed", "[I", true)
  | 22 => ("TallBinsModel", "taken", "[I", true)
  | 23 => ("TallBinsModel", "warm", "[J", true)
  | 24 => ("TallBinsModel", "planFrom", "[I", true)
  | 25 => ("TallBinsModel", "planTo", "[I", true)
  | 26 => ("TallBinsModel", "tryFrom", "[I", true)
  | 27 => ("TallBinsModel", "tryTo", "[I", true)
  | 28 => ("TallBinsModel", "planMany", "I", false)
  | 29 => ("TallBinsModel", "refused", "I", false)
  | 30 => ("TallBinsModel", "hundreds", "[I", true)
  | 31 => ("TallBinsModel", "best", "[I", true)
  | 32 => ("TallBinsModel", "isBlend", "Z", false)
  | 33 => ("TallBinsModel", "hasBlend", "Z", false)
  | 34 => ("TallBinsModel", "bestDamp", "I", false)
  | 35 => ("TallBinsModel", "blended", "[I", true)
  | 36 => ("TallBinsModel", "served", "[I", true)
  | 37 => ("TallBinsModel", "many", "[I", true)
  | 38 => ("TallBinsModel", "width", "[I", true)
  | 39 => ("TallBinsModel", "numbers", "[J", true)
  | _ => ("TallBinsModel", "moved", "[J", true)
def tyX12 : Nat → FieldType := fun k => match k with
  | 0 => .int
  | 1 => .array .int
  | 2 => .array .int
  | 3 => .array .boolean
  | 4 => .array .byte
  | 5 => .int
  | 6 => .array .int
  | 7 => .int
  | 8 => .int
  | 9 => .int
  | 10 => .int
  | 11 => .int
  | 12 => .int
  | 13 => .int
  | 14 => .array .int
  | 15 => .array .boolean
  | 16 => .array .int
  | 17 => .array .boolean
  | 18 => .array .int
  | 19 => .array .int
  | 20 => .int
  | 21 => .array .int
  | 22 => .array .int
  | 23 => .array .long
  | 24 => .array .int
  | 25 => .array .int
  | 26 => .array .int
  | 27 => .array .int
  | 28 => .int
  | 29 => .int
  | 30 => .array .int
  | 31 => .array .int
  | 32 => .boolean
  | 33 => .boolean
  | 34 => .int
  | 35 => .array .int
  | 36 => .array .int
  | 37 => .array .int
  | 38 => .array .int
  | 39 => .array .long
  | _ => .array .long
theorem nmX12 : ∀ a, a < 41 → ∀ b, b < 41 → a ≠ b → (TX12 a).2.1 ≠ (TX12 b).2.1 := by decide +kernel
theorem tyX12_ok : ∀ k, k < 41 → parseFieldDescriptor (TX12 k).2.2.1 = some (tyX12 k) := by decide +kernel
/-- the classes of the objects of the worlds -/
def abCls : List vw_C := [(RX0, TX0, 7), (RX1, TX1, 11), (RX2, TX2, 8), (RX3, TX3, 5), (RX4, TX4, 9), (RX5, TX5, 3), (RX6, TX6, 9), (RX7, TX7, 9), (RX8, TX8, 1), (RX9, TX9, 3), (RX10, TX10, 15), (RX11, TX11, 13), (RX12, TX12, 41)]
def abTyp (a : Nat) : Nat → FieldType := match a with
  | 0 => tyX0
  | 1 => tyX1
  | 2 => tyX2
  | 3 => tyX3
  | 4 => tyX4
  | 5 => tyX5
  | 6 => tyX6
  | 7 => tyX7
  | 8 => tyX8
  | 9 => tyX9
  | 10 => tyX10
  | 11 => tyX11
  | 12 => tyX12
  | _ => fun _ => .int
def abFin (a k : Nat) : Bool := match abCls[a]? with
  | some q => (q.2.1 k).2.2.2
  | none => false
/-- what the fields of a new object hold -/
def abDf0 : Lean.RArray abV := .branch 4 (.branch 2 (.leaf (0, 9223372036854775808, 9223372036854775808)) (.leaf (6, 0, 0))) (.leaf (6, 0, 0))
def abDf1 : Lean.RArray abV := .branch 8 (.leaf (0, 9223372036854775808, 9223372036854775808)) (.leaf (6, 0, 0))
def abDf2 : Lean.RArray abV := .branch 8 (.branch 4 (.branch 2 (.branch 1 (.leaf (0, 9223372036854775808, 9223372036854775808)) (.leaf (6, 0, 0))) (.leaf (6, 0, 0))) (.branch 6 (.leaf (6, 0, 0)) (.leaf (0, 9223372036854775808, 9223372036854775808)))) (.leaf (8, 0, 0))
def abDf3 : Lean.RArray abV := .branch 4 (.leaf (0, 9223372036854775808, 9223372036854775808)) (.leaf (6, 0, 0))
def abDf4 : Lean.RArray abV := .branch 8 (.branch 4 (.leaf (6, 0, 0)) (.leaf (0, 9223372036854775808, 9223372036854775808))) (.leaf (0, 9223372036854775808, 9223372036854775808))
def abDf5 : Lean.RArray abV := .branch 2 (.leaf (0, 9223372036854775808, 9223372036854775808)) (.leaf (6, 0, 0))
def abDf6 : Lean.RArray abV := .branch 8 (.branch 4 (.branch 2 (.branch 1 (.leaf (0, 9223372036854775808, 9223372036854775808)) (.leaf (6, 0, 0))) (.branch 3 (.leaf (6, 0, 0)) (.leaf (0, 9223372036854775808, 9223372036854775808)))) (.leaf (6, 0, 0))) (.leaf (6, 0, 0))
def abDf7 : Lean.RArray abV := .branch 8 (.branch 4 (.branch 2 (.branch 1 (.leaf (6, 0, 0)) (.leaf (0, 9223372036854775808, 9223372036854775808))) (.branch 3 (.leaf (0, 9223372036854775808, 9223372036854775808)) (.leaf (6, 0, 0)))) (.leaf (0, 9223372036854775808, 9223372036854775808))) (.leaf (0, 9223372036854775808, 9223372036854775808))
def abDf8 : Lean.RArray abV := .leaf (6, 0, 0)
def abDf9 : Lean.RArray abV := .branch 2 (.leaf (0, 9223372036854775808, 9223372036854775808)) (.leaf (6, 0, 0))
def abDf10 : Lean.RArray abV := .branch 8 (.branch 4 (.branch 2 (.leaf (0, 9223372036854775808, 9223372036854775808)) (.branch 3 (.leaf (0, 9223372036854775808, 9223372036854775808)) (.leaf (6, 0, 0)))) (.leaf (6, 0, 0))) (.branch 12 (.branch 10 (.leaf (6, 0, 0)) (.branch 11 (.leaf (0, 9223372036854775808, 9223372036854775808)) (.leaf (6, 0, 0)))) (.leaf (6, 0, 0)))
def abDf11 : Lean.RArray abV := .branch 8 (.branch 4 (.branch 2 (.branch 1 (.leaf (6, 0, 0)) (.leaf (0, 9223372036854775808, 9223372036854775808))) (.leaf (6, 0, 0))) (.leaf (6, 0, 0))) (.branch 12 (.branch 10 (.branch 9 (.leaf (0, 9223372036854775808, 9223372036854775808)) (.leaf (6, 0, 0))) (.branch 11 (.leaf (6, 0, 0)) (.leaf (0, 9223372036854775808, 9223372036854775808)))) (.leaf (6, 0, 0)))
def abDf12 : Lean.RArray abV := .branch 32 (.branch 16 (.branch 8 (.branch 4 (.branch 2 (.branch 1 (.leaf (0, 9223372036854775808, 9223372036854775808)) (.leaf (6, 0, 0))) (.leaf (6, 0, 0))) (.branch 6 (.branch 5 (.leaf (6, 0, 0)) (.leaf (0, 9223372036854775808, 9223372036854775808))) (.branch 7 (.leaf (6, 0, 0)) (.leaf (0, 9223372036854775808, 9223372036854775808))))) (.branch 12 (.leaf (0, 9223372036854775808, 9223372036854775808)) (.branch 14 (.leaf (0, 9223372036854775808, 9223372036854775808)) (.leaf (6, 0, 0))))) (.branch 24 (.branch 20 (.leaf (6, 0, 0)) (.branch 22 (.branch 21 (.leaf (0, 9223372036854775808, 9223372036854775808)) (.leaf (6, 0, 0))) (.leaf (6, 0, 0)))) (.branch 28 (.leaf (6, 0, 0)) (.branch 30 (.leaf (0, 9223372036854775808, 9223372036854775808)) (.leaf (6, 0, 0)))))) (.branch 48 (.branch 40 (.branch 36 (.branch 34 (.leaf (0, 9223372036854775808, 9223372036854775808)) (.branch 35 (.leaf (0, 9223372036854775808, 9223372036854775808)) (.leaf (6, 0, 0)))) (.leaf (6, 0, 0))) (.leaf (6, 0, 0))) (.leaf (8, 0, 0)))
def abDfl : Lean.RArray (Lean.RArray abV) := .branch 6 (.branch 3 (.branch 1 (.leaf abDf0) (.branch 2 (.leaf abDf1) (.leaf abDf2))) (.branch 4 (.leaf abDf3) (.branch 5 (.leaf abDf4) (.leaf abDf5)))) (.branch 9 (.branch 7 (.leaf abDf6) (.branch 8 (.leaf abDf7) (.leaf abDf8))) (.branch 11 (.branch 10 (.leaf abDf9) (.leaf abDf10)) (.branch 12 (.leaf abDf11) (.leaf abDf12))))
end
section
/-- an entry of a code table: its number, its place, two numbers (target, class, field, callee, local), a constant or an index, where its words stand in the tables (a switch: its targets) -/
abbrev abEy : Type := Nat × Nat × Nat × Nat × Nat × List Nat
/-- a method: its name, code, locals, answer; its parameters, the cells and slots that it makes, its class (99: none of ours), its entries -/
abbrev abM : Type := (MethodName × ByteArray × Nat × Option FieldType) × Nat × Nat × Nat × Nat × Lean.RArray abEy
set_option maxRecDepth 20000 in
noncomputable def abK0 : Lean.RArray abEy := .branch 82 (.branch 44 (.branch 19 (.branch 10 (.branch 4 (.branch 1 (.leaf (13, 0, 0, 0, 0, [])) (.leaf (76, 1, 0, 0, 1, [109, 110, 111]))) (.branch 5 (.leaf (13, 4, 0, 0, 0, [])) (.branch 8 (.leaf (3, 5, 0, 0, 9223372036854776408, [])) (.leaf (74, 8, 102, 0, 0, [153]))))) (.branch 14 (.branch 13 (.leaf (63, 10, 11, 0, 9, [528])) (.leaf (13, 13, 0, 0, 0, []))) (.branch 17 (.leaf (73, 14, 7, 9, 13, [112, 113, 85])) (.branch 18 (.leaf (44, 17, 0, 0, 0, [])) (.leaf (13, 18, 0, 0, 0, [])))))) (.branch 32 (.branch 25 (.branch 22 (.leaf (60, 19, 11, 0, 9, [528])) (.leaf (80, 22, 1, 0, 15, [114, 115]))) (.branch 28 (.leaf (63, 25, 11, 2, 18, [530])) (.branch 29 (.leaf (13, 28, 0, 0, 0, [])) (.leaf (73, 29, 4, 9, 22, [258, 259, 88]))))) (.branch 39 (.branch 33 (.leaf (44, 32, 0, 0, 0, [])) (.branch 36 (.leaf (80, 33, 6, 0, 24, [260, 261])) (.leaf (63, 36, 11, 3, 25, [531])))) (.branch 40 (.leaf (13, 39, 0, 0, 0, [])) (.branch 41 (.leaf (1, 40, 0, 0, 9223372036854775811, [])) (.leaf (75, 41, 4, 0, 22, [258, 433]))))))) (.branch 62 (.branch 51 (.branch 48 (.branch 47 (.leaf (63, 44, 11, 4, 29, [532])) (.leaf (1, 47, 0, 0, 9223372036854775808, []))) (.branch 49 (.leaf (15, 48, 0, 1, 0, [])) (.branch 50 (.leaf (9, 49, 0, 1, 0, [])) (.leaf (1, 50, 0, 0, 9223372036854775811, []))))) (.branch 55 (.branch 54 (.leaf (55, 51, 73, 0, 0, [])) (.leaf (13, 54, 0, 0, 0, []))) (.branch 58 (.leaf (60, 55, 11, 4, 29, [532])) (.branch 59 (.leaf (9, 58, 0, 1, 0, [])) (.leaf (73, 59, 4, 9, 22, [258, 259, 88])))))) (.branch 73 (.branch 66 (.branch 63 (.leaf (44, 62, 0, 0, 0, [])) (.leaf (80, 63, 6, 0, 24, [260, 261]))) (.branch 67 (.leaf (72, 66, 0, 0, 0, [])) (.branch 70 (.leaf (20, 67, 0, 1, 9223372036854775809, [])) (.leaf (58, 70, 49, 0, 0, []))))) (.branch 77 (.branch 74 (.leaf (13, 73, 0, 0, 0, [])) (.branch 75 (.leaf (1, 74, 0, 0, 9223372036854775811, [])) (.leaf (74, 75, 103, 0, 0, [155])))) (.branch 80 (.leaf (63, 77, 11, 5, 33, [533])) (.branch 81 (.leaf (13, 80, 0, 0, 0, [])) (.leaf (1, 81, 0, 0, 9223372036854775812, [])))))))) (.branch 125 (.branch 100 (.branch 91 (.branch 88 (.branch 85 (.leaf (75, 82, 9, 0, 37, [434, 435])) (.leaf (63, 85, 11, 6, 39, [534]))) (.branch 89 (.leaf (1, 88, 0, 0, 9223372036854775808, [])) (.branch 90 (.leaf (15, 89, 0, 1, 0, [])) (.leaf (9, 90, 0, 1, 0, []))))) (.branch 95 (.branch 92 (.leaf (1, 91, 0, 0, 9223372036854775812, [])) (.leaf (55, 92, 114, 0, 0, []))) (.branch 96 (.leaf (13, 95, 0, 0, 0, [])) (.branch 99 (.leaf (60, 96, 11, 6, 39, [534])) (.leaf (9, 99, 0, 1, 0, [])))))) (.branch 111 (.branch 104 (.branch 103 (.leaf (73, 100, 9, 3, 37, [434, 436, 93])) (.leaf (44, 103, 0, 0, 0, []))) (.branch 107 (.leaf (81, 104, 12, 0, 43, [437, 438])) (.branch 108 (.leaf (72, 107, 0, 0, 0, [])) (.leaf (20, 108, 0, 1, 9223372036854775809, []))))) (.branch 118 (.branch 114 (.leaf (58, 111, 90, 0, 0, [])) (.branch 115 (.leaf (13, 114, 0, 0, 0, [])) (.leaf (73, 115, 3, 5, 44, [454, 307, 92])))) (.branch 119 (.leaf (44, 118, 0, 0, 0, [])) (.branch 122 (.leaf (81, 119, 11, 0, 46, [455, 309])) (.leaf (63, 122, 11, 7, 47, [535]))))))) (.branch 146 (.branch 134 (.branch 127 (.branch 126 (.leaf (13, 125, 0, 0, 0, [])) (.leaf (1, 126, 0, 0, 9223372036854775807, []))) (.branch 130 (.leaf (61, 127, 11, 8, 51, [536])) (.branch 131 (.leaf (13, 130, 0, 0, 0, [])) (.leaf (73, 131, 6, 9, 55, [456, 457, 94]))))) (.branch 141 (.branch 135 (.leaf (44, 134, 0, 0, 0, [])) (.branch 138 (.leaf (81, 135, 13, 0, 57, [458, 459])) (.leaf (63, 138, 11, 9, 58, [537])))) (.branch 142 (.leaf (13, 141, 0, 0, 0, [])) (.branch 145 (.leaf (73, 142, 2, 8, 62, [493, 494, 95])) (.leaf (44, 145, 0, 0, 0, [])))))) (.branch 157 (.branch 152 (.branch 149 (.leaf (81, 146, 14, 0, 64, [495, 496])) (.leaf (63, 149, 11, 10, 65, [538]))) (.branch 153 (.leaf (13, 152, 0, 0, 0, [])) (.branch 154 (.leaf (1, 153, 0, 0, 9223372036854775807, [])) (.leaf (61, 154, 11, 11, 69, [539]))))) (.branch 162 (.branch 158 (.leaf (13, 157, 0, 0, 0, [])) (.branch 161 (.leaf (73, 158, 1, 11, 72, [526, 284, 90])) (.leaf (44, 161, 0, 0, 0, [])))) (.branch 165 (.leaf (80, 162, 8, 0, 74, [527, 286])) (.branch 168 (.leaf (63, 165, 11, 12, 75, [540])) (.leaf (82, 168, 0, 0, 0, []))))))))
noncomputable def abM0 : abM := ((⟨"TallBins", "<init>", "()V"⟩, prog_1_method_1_code, 2, none), 0, 859, 9727, 11, abK0)
set_option maxRecDepth 20000 in
noncomputable def abK1 : Lean.RArray abEy := .branch 15 (.branch 5 (.branch 1 (.leaf (13, 0, 0, 0, 0, [])) (.branch 4 (.leaf (76, 1, 0, 0, 3, [117, 110, 111])) (.leaf (13, 4, 0, 0, 0, [])))) (.branch 9 (.branch 8 (.leaf (73, 5, 10, 15, 9, [118, 119, 86])) (.leaf (44, 8, 0, 0, 0, []))) (.branch 12 (.leaf (80, 9, 2, 0, 11, [120, 121])) (.leaf (63, 12, 7, 0, 12, [227]))))) (.branch 20 (.branch 16 (.leaf (13, 15, 0, 0, 0, [])) (.branch 17 (.leaf (1, 16, 0, 0, 9223372036854775807, [])) (.leaf (61, 17, 7, 2, 18, [231])))) (.branch 22 (.branch 21 (.leaf (13, 20, 0, 0, 0, [])) (.leaf (13, 21, 0, 1, 0, []))) (.branch 25 (.leaf (63, 22, 7, 3, 22, [233])) (.leaf (82, 25, 0, 0, 0, [])))))
noncomputable def abM1 : abM := ((⟨"TallBins$Reader", "<init>", "([B)V"⟩, prog_9_method_1_code, 2, none), 1, 17, 538, 7, abK1)
set_option maxRecDepth 20000 in
noncomputable def abK2 : Lean.RArray abEy := .branch 47 (.branch 23 (.branch 12 (.branch 5 (.branch 1 (.leaf (13, 0, 0, 0, 0, [])) (.branch 4 (.leaf (76, 1, 0, 0, 3, [123, 110, 111])) (.leaf (13, 4, 0, 0, 0, [])))) (.branch 7 (.leaf (2, 5, 0, 0, 9223372036854775814, [])) (.branch 9 (.leaf (74, 7, 100, 0, 0, [154])) (.leaf (63, 9, 10, 3, 9, [171]))))) (.branch 17 (.branch 13 (.leaf (13, 12, 0, 0, 0, [])) (.branch 15 (.leaf (2, 13, 0, 0, 9223372036854775814, [])) (.leaf (74, 15, 100, 0, 0, [154])))) (.branch 20 (.leaf (63, 17, 10, 4, 15, [174])) (.branch 21 (.leaf (13, 20, 0, 0, 0, [])) (.leaf (2, 21, 0, 0, 9223372036854775814, [])))))) (.branch 36 (.branch 29 (.branch 25 (.leaf (74, 23, 100, 0, 0, [154])) (.branch 28 (.leaf (63, 25, 10, 5, 18, [177])) (.leaf (13, 28, 0, 0, 0, [])))) (.branch 31 (.leaf (2, 29, 0, 0, 9223372036854775814, [])) (.branch 33 (.leaf (74, 31, 100, 0, 0, [154])) (.leaf (63, 33, 10, 6, 21, [180]))))) (.branch 40 (.branch 37 (.leaf (13, 36, 0, 0, 0, [])) (.branch 38 (.leaf (1, 37, 0, 0, 9223372036854775812, [])) (.leaf (74, 38, 100, 0, 0, [154])))) (.branch 44 (.branch 43 (.leaf (63, 40, 10, 7, 24, [183])) (.leaf (13, 43, 0, 0, 0, []))) (.branch 45 (.leaf (1, 44, 0, 0, 9223372036854775812, [])) (.leaf (74, 45, 100, 0, 0, [154]))))))) (.branch 70 (.branch 58 (.branch 52 (.branch 50 (.leaf (63, 47, 10, 8, 27, [185])) (.branch 51 (.leaf (13, 50, 0, 0, 0, [])) (.leaf (1, 51, 0, 0, 9223372036854775812, [])))) (.branch 54 (.leaf (74, 52, 100, 0, 0, [154])) (.branch 57 (.leaf (63, 54, 10, 9, 30, [187])) (.leaf (13, 57, 0, 0, 0, []))))) (.branch 65 (.branch 60 (.leaf (2, 58, 0, 0, 9223372036854775838, [])) (.branch 62 (.leaf (74, 60, 100, 0, 0, [154])) (.leaf (63, 62, 10, 11, 33, [190])))) (.branch 66 (.leaf (13, 65, 0, 0, 0, [])) (.branch 68 (.leaf (2, 66, 0, 0, 9223372036854775838, [])) (.leaf (74, 68, 100, 0, 0, [154])))))) (.branch 82 (.branch 76 (.branch 73 (.leaf (63, 70, 10, 12, 36, [191])) (.branch 74 (.leaf (13, 73, 0, 0, 0, [])) (.leaf (2, 74, 0, 0, 9223372036854775838, [])))) (.branch 78 (.leaf (74, 76, 100, 0, 0, [154])) (.branch 81 (.leaf (63, 78, 10, 13, 39, [192])) (.leaf (13, 81, 0, 0, 0, []))))) (.branch 89 (.branch 85 (.leaf (73, 82, 0, 7, 42, [124, 125, 87])) (.branch 86 (.leaf (44, 85, 0, 0, 0, [])) (.leaf (81, 86, 3, 0, 44, [126, 127])))) (.branch 93 (.branch 92 (.leaf (63, 89, 10, 14, 45, [193])) (.leaf (13, 92, 0, 0, 0, []))) (.branch 96 (.leaf (78, 93, 4, 0, 49, [156, 157, 158])) (.leaf (82, 96, 0, 0, 0, [])))))))
noncomputable def abM2 : abM := ((⟨"TallBins$Rules", "<init>", "()V"⟩, prog_12_method_1_code, 1, none), 0, 16, 523, 10, abK2)
set_option maxRecDepth 20000 in
noncomputable def abK3 : Lean.RArray abEy := .branch 21 (.branch 9 (.branch 4 (.branch 1 (.leaf (13, 0, 0, 0, 0, [])) (.leaf (76, 1, 0, 0, 3, [129, 110, 111]))) (.branch 5 (.leaf (13, 4, 0, 0, 0, [])) (.branch 7 (.leaf (2, 5, 0, 0, 9223372036854775838, [])) (.leaf (74, 7, 100, 0, 0, [154]))))) (.branch 15 (.branch 12 (.leaf (63, 9, 0, 2, 9, [133])) (.branch 13 (.leaf (13, 12, 0, 0, 0, [])) (.leaf (2, 13, 0, 0, 9223372036854775898, [])))) (.branch 17 (.leaf (74, 15, 100, 0, 0, [154])) (.branch 20 (.leaf (63, 17, 0, 3, 15, [134])) (.leaf (13, 20, 0, 0, 0, [])))))) (.branch 33 (.branch 28 (.branch 23 (.leaf (2, 21, 0, 0, 9223372036854775898, [])) (.branch 25 (.leaf (74, 23, 103, 0, 0, [155])) (.leaf (63, 25, 0, 4, 18, [135])))) (.branch 29 (.leaf (13, 28, 0, 0, 0, [])) (.branch 31 (.leaf (2, 29, 0, 0, 9223372036854775898, [])) (.leaf (74, 31, 100, 0, 0, [154]))))) (.branch 39 (.branch 36 (.leaf (63, 33, 0, 5, 22, [136])) (.branch 37 (.leaf (13, 36, 0, 0, 0, [])) (.leaf (2, 37, 0, 0, 9223372036854775898, [])))) (.branch 41 (.leaf (74, 39, 100, 0, 0, [154])) (.branch 44 (.leaf (63, 41, 0, 6, 25, [137])) (.leaf (82, 44, 0, 0, 0, []))))))
noncomputable def abM3 : abM := ((⟨"TallBins$Bars", "<init>", "()V"⟩, prog_2_method_1_code, 1, none), 0, 5, 390, 0, abK3)
set_option maxRecDepth 20000 in
noncomputable def abK4 : Lean.RArray abEy := .branch 49 (.branch 25 (.branch 12 (.branch 6 (.branch 2 (.branch 1 (.leaf (13, 0, 0, 0, 0, [])) (.leaf (1, 1, 0, 0, 9223372036854775808, []))) (.branch 5 (.leaf (61, 2, 10, 0, 52, [164])) (.leaf (13, 5, 0, 0, 0, [])))) (.branch 10 (.branch 7 (.leaf (1, 6, 0, 0, 9223372036854775808, [])) (.leaf (61, 7, 10, 1, 56, [167]))) (.branch 11 (.leaf (13, 10, 0, 0, 0, [])) (.leaf (1, 11, 0, 0, 9223372036854775808, []))))) (.branch 20 (.branch 16 (.branch 15 (.leaf (61, 12, 10, 2, 59, [169])) (.leaf (13, 15, 0, 0, 0, []))) (.branch 17 (.leaf (1, 16, 0, 0, 9223372036854775808, [])) (.leaf (61, 17, 10, 10, 62, [189])))) (.branch 22 (.branch 21 (.leaf (1, 20, 0, 0, 9223372036854775808, [])) (.leaf (15, 21, 0, 1, 0, []))) (.branch 23 (.leaf (9, 22, 0, 1, 0, [])) (.leaf (2, 23, 0, 0, 9223372036854775814, [])))))) (.branch 39 (.branch 33 (.branch 29 (.branch 28 (.leaf (55, 25, 62, 0, 0, [])) (.leaf (13, 28, 0, 0, 0, []))) (.branch 32 (.leaf (60, 29, 10, 3, 9, [171])) (.leaf (9, 32, 0, 1, 0, [])))) (.branch 35 (.branch 34 (.leaf (1, 33, 0, 0, 9223372036854775808, [])) (.leaf (69, 34, 0, 0, 0, []))) (.branch 36 (.leaf (13, 35, 0, 0, 0, [])) (.leaf (60, 36, 10, 4, 15, [174]))))) (.branch 43 (.branch 41 (.branch 40 (.leaf (9, 39, 0, 1, 0, [])) (.leaf (1, 40, 0, 0, 9223372036854775808, []))) (.branch 42 (.leaf (69, 41, 0, 0, 0, [])) (.leaf (13, 42, 0, 0, 0, [])))) (.branch 47 (.branch 46 (.leaf (60, 43, 10, 5, 18, [177])) (.leaf (9, 46, 0, 1, 0, []))) (.branch 48 (.leaf (1, 47, 0, 0, 9223372036854775808, [])) (.leaf (69, 48, 0, 0, 0, []))))))) (.branch 76 (.branch 63 (.branch 55 (.branch 53 (.branch 50 (.leaf (13, 49, 0, 0, 0, [])) (.leaf (60, 50, 10, 6, 21, [180]))) (.branch 54 (.leaf (9, 53, 0, 1, 0, [])) (.leaf (1, 54, 0, 0, 9223372036854775808, [])))) (.branch 59 (.branch 56 (.leaf (69, 55, 0, 0, 0, [])) (.leaf (20, 56, 0, 1, 9223372036854775809, []))) (.branch 62 (.leaf (58, 59, 22, 0, 0, [])) (.leaf (1, 62, 0, 0, 9223372036854775808, []))))) (.branch 69 (.branch 65 (.branch 64 (.leaf (15, 63, 0, 1, 0, [])) (.leaf (9, 64, 0, 1, 0, []))) (.branch 66 (.leaf (1, 65, 0, 0, 9223372036854775812, [])) (.leaf (55, 66, 99, 0, 0, [])))) (.branch 73 (.branch 70 (.leaf (13, 69, 0, 0, 0, [])) (.leaf (60, 70, 10, 7, 24, [183]))) (.branch 74 (.leaf (9, 73, 0, 1, 0, [])) (.leaf (2, 74, 0, 0, 9223372036854775818, [])))))) (.branch 89 (.branch 82 (.branch 78 (.branch 77 (.leaf (69, 76, 0, 0, 0, [])) (.leaf (13, 77, 0, 0, 0, []))) (.branch 81 (.leaf (60, 78, 10, 8, 27, [185])) (.leaf (9, 81, 0, 1, 0, [])))) (.branch 85 (.branch 84 (.leaf (2, 82, 0, 0, 9223372036854775818, [])) (.leaf (69, 84, 0, 0, 0, []))) (.branch 86 (.leaf (13, 85, 0, 0, 0, [])) (.leaf (60, 86, 10, 9, 30, [187]))))) (.branch 96 (.branch 92 (.branch 90 (.leaf (9, 89, 0, 1, 0, [])) (.leaf (2, 90, 0, 0, 9223372036854775908, []))) (.branch 93 (.leaf (69, 92, 0, 0, 0, [])) (.leaf (20, 93, 0, 1, 9223372036854775809, [])))) (.branch 100 (.branch 99 (.leaf (58, 96, 64, 0, 0, [])) (.leaf (13, 99, 0, 0, 0, []))) (.branch 103 (.leaf (60, 100, 10, 14, 45, [193])) (.branch 106 (.leaf (78, 103, 5, 0, 65, [160, 161, 162])) (.leaf (82, 106, 0, 0, 0, []))))))))
noncomputable def abM4 : abM := ((⟨"TallBins$Rules", "clear", "()V"⟩, prog_12_method_2_code, 2, none), 0, 0, 0, 10, abK4)
set_option maxRecDepth 20000 in
noncomputable def abK5 : Lean.RArray abEy := .branch 5 (.branch 1 (.leaf (13, 0, 0, 0, 0, [])) (.branch 2 (.leaf (1, 1, 0, 0, 9223372036854775808, [])) (.leaf (61, 2, 0, 0, 28, [130])))) (.branch 7 (.branch 6 (.leaf (13, 5, 0, 0, 0, [])) (.leaf (1, 6, 0, 0, 9223372036854775808, []))) (.branch 10 (.leaf (61, 7, 0, 1, 32, [132])) (.leaf (82, 10, 0, 0, 0, []))))
noncomputable def abM5 : abM := ((⟨"TallBins$Bars", "clear", "()V"⟩, prog_2_method_2_code, 1, none), 0, 0, 0, 0, abK5)
set_option maxRecDepth 20000 in
noncomputable def abK6 : Lean.RArray abEy := .branch 40 (.branch 18 (.branch 8 (.branch 4 (.branch 1 (.leaf (13, 0, 0, 0, 0, [])) (.leaf (76, 1, 0, 0, 3, [263, 110, 111]))) (.branch 5 (.leaf (13, 4, 0, 0, 0, [])) (.leaf (73, 5, 10, 15, 9, [264, 119, 86])))) (.branch 12 (.branch 9 (.leaf (44, 8, 0, 0, 0, [])) (.leaf (80, 9, 2, 0, 11, [265, 121]))) (.branch 15 (.leaf (63, 12, 4, 0, 12, [394])) (.branch 16 (.leaf (13, 15, 0, 0, 0, [])) (.leaf (2, 16, 0, 0, 9223372036854775814, [])))))) (.branch 29 (.branch 24 (.branch 21 (.leaf (75, 18, 1, 0, 18, [266, 267])) (.leaf (63, 21, 4, 1, 20, [396]))) (.branch 25 (.leaf (13, 24, 0, 0, 0, [])) (.branch 28 (.leaf (73, 25, 5, 3, 24, [268, 269, 89])) (.leaf (44, 28, 0, 0, 0, []))))) (.branch 35 (.branch 32 (.leaf (81, 29, 7, 0, 26, [270, 271])) (.leaf (63, 32, 4, 2, 27, [400]))) (.branch 36 (.leaf (13, 35, 0, 0, 0, [])) (.branch 38 (.leaf (2, 36, 0, 0, 9223372036854775816, [])) (.leaf (74, 38, 100, 0, 0, [154]))))))) (.branch 57 (.branch 49 (.branch 44 (.branch 43 (.leaf (63, 40, 4, 3, 31, [402])) (.leaf (13, 43, 0, 0, 0, []))) (.branch 46 (.leaf (2, 44, 0, 0, 9223372036854775818, [])) (.leaf (61, 46, 4, 5, 35, [406])))) (.branch 51 (.branch 50 (.leaf (1, 49, 0, 0, 9223372036854775808, [])) (.leaf (15, 50, 0, 1, 0, []))) (.branch 52 (.leaf (9, 51, 0, 1, 0, [])) (.branch 54 (.leaf (2, 52, 0, 0, 9223372036854775814, [])) (.leaf (55, 54, 76, 0, 0, [])))))) (.branch 66 (.branch 61 (.branch 58 (.leaf (13, 57, 0, 0, 0, [])) (.leaf (60, 58, 4, 1, 20, [396]))) (.branch 62 (.leaf (9, 61, 0, 1, 0, [])) (.branch 65 (.leaf (73, 62, 1, 11, 18, [266, 284, 90])) (.leaf (44, 65, 0, 0, 0, []))))) (.branch 70 (.branch 69 (.leaf (80, 66, 8, 0, 39, [285, 286])) (.leaf (72, 69, 0, 0, 0, []))) (.branch 73 (.leaf (20, 70, 0, 1, 9223372036854775809, [])) (.branch 76 (.leaf (58, 73, 51, 0, 0, [])) (.leaf (82, 76, 0, 0, 0, [])))))))
noncomputable def abM6 : abM := ((⟨"TallBins$House", "<init>", "()V"⟩, prog_6_method_1_code, 2, none), 0, 195, 1995, 4, abK6)
set_option maxRecDepth 20000 in
noncomputable def abK7 : Lean.RArray abEy := .branch 5 (.branch 1 (.leaf (13, 0, 0, 0, 0, [])) (.branch 4 (.leaf (76, 1, 0, 0, 3, [273, 110, 111])) (.leaf (13, 4, 0, 0, 0, [])))) (.branch 10 (.branch 8 (.leaf (3, 5, 0, 0, 9223372036854776048, [])) (.leaf (74, 8, 100, 0, 0, [154]))) (.branch 13 (.leaf (63, 10, 5, 2, 11, [276])) (.leaf (82, 13, 0, 0, 0, []))))
noncomputable def abM7 : abM := ((⟨"TallBins$Ledger", "<init>", "()V"⟩, prog_7_method_1_code, 1, none), 0, 1, 240, 5, abK7)
set_option maxRecDepth 20000 in
noncomputable def abK8 : Lean.RArray abEy := .branch 35 (.branch 15 (.branch 6 (.branch 4 (.branch 1 (.leaf (13, 0, 0, 0, 0, [])) (.leaf (76, 1, 0, 0, 3, [288, 110, 111]))) (.branch 5 (.leaf (13, 4, 0, 0, 0, [])) (.leaf (1, 5, 0, 0, 9223372036854775807, [])))) (.branch 10 (.branch 9 (.leaf (61, 6, 1, 4, 9, [348])) (.leaf (13, 9, 0, 0, 0, []))) (.branch 11 (.leaf (1, 10, 0, 0, 9223372036854775807, [])) (.branch 14 (.leaf (61, 11, 1, 6, 15, [356])) (.leaf (13, 14, 0, 0, 0, [])))))) (.branch 24 (.branch 20 (.branch 17 (.leaf (2, 15, 0, 0, 9223372036854775820, [])) (.leaf (75, 17, 3, 0, 18, [289, 290]))) (.branch 23 (.leaf (63, 20, 1, 8, 20, [364])) (.leaf (13, 23, 0, 0, 0, [])))) (.branch 28 (.branch 27 (.leaf (73, 24, 8, 1, 24, [291, 292, 91])) (.leaf (44, 27, 0, 0, 0, []))) (.branch 31 (.leaf (80, 28, 9, 0, 26, [293, 294])) (.branch 34 (.leaf (63, 31, 1, 9, 27, [367])) (.leaf (13, 34, 0, 0, 0, []))))))) (.branch 51 (.branch 43 (.branch 39 (.branch 37 (.leaf (2, 35, 0, 0, 9223372036854775816, [])) (.leaf (74, 37, 100, 0, 0, [154]))) (.branch 42 (.leaf (63, 39, 1, 10, 31, [370])) (.leaf (1, 42, 0, 0, 9223372036854775808, [])))) (.branch 45 (.branch 44 (.leaf (15, 43, 0, 1, 0, [])) (.leaf (9, 44, 0, 1, 0, []))) (.branch 47 (.leaf (2, 45, 0, 0, 9223372036854775820, [])) (.branch 50 (.leaf (55, 47, 69, 0, 0, [])) (.leaf (13, 50, 0, 0, 0, [])))))) (.branch 59 (.branch 55 (.branch 54 (.leaf (60, 51, 1, 8, 20, [364])) (.leaf (9, 54, 0, 1, 0, []))) (.branch 58 (.leaf (73, 55, 3, 5, 18, [289, 307, 92])) (.leaf (44, 58, 0, 0, 0, [])))) (.branch 63 (.branch 62 (.leaf (81, 59, 11, 0, 35, [308, 309])) (.leaf (72, 62, 0, 0, 0, []))) (.branch 66 (.leaf (20, 63, 0, 1, 9223372036854775809, [])) (.branch 69 (.leaf (58, 66, 44, 0, 0, [])) (.leaf (82, 69, 0, 0, 0, [])))))))
noncomputable def abM8 : abM := ((⟨"TallBins$Bin", "<init>", "()V"⟩, prog_3_method_1_code, 2, none), 0, 28, 189, 1, abK8)
set_option maxRecDepth 20000 in
noncomputable def abK9 : Lean.RArray abEy := .branch 7 (.branch 4 (.branch 1 (.leaf (13, 0, 0, 0, 0, [])) (.leaf (76, 1, 0, 0, 3, [296, 110, 111]))) (.branch 5 (.leaf (13, 4, 0, 0, 0, [])) (.leaf (2, 5, 0, 0, 9223372036854775820, [])))) (.branch 12 (.branch 9 (.leaf (74, 7, 100, 0, 0, [154])) (.leaf (63, 9, 8, 0, 9, [301]))) (.branch 13 (.leaf (13, 12, 0, 0, 0, [])) (.branch 16 (.leaf (78, 13, 10, 0, 15, [297, 298, 299])) (.leaf (82, 16, 0, 0, 0, [])))))
noncomputable def abM9 : abM := ((⟨"TallBins$Rope", "<init>", "()V"⟩, prog_10_method_1_code, 1, none), 0, 1, 12, 8, abK9)
set_option maxRecDepth 20000 in
noncomputable def abK10 : Lean.RArray abEy := .branch 9 (.branch 3 (.branch 1 (.leaf (1, 0, 0, 0, 9223372036854775808, [])) (.branch 2 (.leaf (15, 1, 0, 1, 0, [])) (.leaf (9, 2, 0, 1, 0, [])))) (.branch 5 (.leaf (2, 3, 0, 0, 9223372036854775820, [])) (.branch 8 (.leaf (55, 5, 22, 0, 0, [])) (.leaf (13, 8, 0, 0, 0, []))))) (.branch 15 (.branch 12 (.leaf (60, 9, 8, 0, 9, [301])) (.branch 13 (.leaf (9, 12, 0, 1, 0, [])) (.leaf (2, 13, 0, 0, 9223372036854775907, [])))) (.branch 19 (.branch 16 (.leaf (69, 15, 0, 0, 0, [])) (.leaf (20, 16, 0, 1, 9223372036854775809, []))) (.branch 22 (.leaf (58, 19, 2, 0, 0, [])) (.leaf (82, 22, 0, 0, 0, [])))))
noncomputable def abM10 : abM := ((⟨"TallBins$Rope", "clear", "()V"⟩, prog_10_method_2_code, 2, none), 0, 0, 0, 8, abK10)
set_option maxRecDepth 20000 in
noncomputable def abK11 : Lean.RArray abEy := .branch 5 (.branch 1 (.leaf (13, 0, 0, 0, 0, [])) (.branch 4 (.leaf (76, 1, 0, 0, 3, [311, 110, 111])) (.leaf (13, 4, 0, 0, 0, [])))) (.branch 9 (.branch 7 (.leaf (2, 5, 0, 0, 9223372036854775816, [])) (.leaf (74, 7, 100, 0, 0, [154]))) (.branch 12 (.leaf (63, 9, 3, 4, 9, [323])) (.leaf (82, 12, 0, 0, 0, []))))
noncomputable def abM11 : abM := ((⟨"TallBins$Heap", "<init>", "()V"⟩, prog_5_method_1_code, 1, none), 0, 1, 8, 3, abK11)
set_option maxRecDepth 20000 in
noncomputable def abK12 : Lean.RArray abEy := .branch 9 (.branch 4 (.branch 1 (.leaf (13, 0, 0, 0, 0, [])) (.leaf (76, 1, 0, 0, 3, [440, 110, 111]))) (.branch 5 (.leaf (13, 4, 0, 0, 0, [])) (.branch 6 (.leaf (1, 5, 0, 0, 9223372036854775807, [])) (.leaf (61, 6, 9, 1, 9, [443]))))) (.branch 12 (.branch 10 (.leaf (13, 9, 0, 0, 0, [])) (.leaf (2, 10, 0, 0, 9223372036854775868, []))) (.branch 14 (.leaf (74, 12, 101, 0, 0, [453])) (.branch 17 (.leaf (63, 14, 9, 2, 15, [444])) (.leaf (82, 17, 0, 0, 0, [])))))
noncomputable def abM12 : abM := ((⟨"TallBins$Row", "<init>", "()V"⟩, prog_11_method_1_code, 1, none), 0, 1, 60, 9, abK12)
set_option maxRecDepth 20000 in
noncomputable def abK13 : Lean.RArray abEy := .branch 29 (.branch 13 (.branch 5 (.branch 1 (.leaf (13, 0, 0, 0, 0, [])) (.branch 4 (.leaf (76, 1, 0, 0, 3, [461, 110, 111])) (.leaf (13, 4, 0, 0, 0, [])))) (.branch 9 (.branch 7 (.leaf (2, 5, 0, 0, 9223372036854775814, [])) (.leaf (74, 7, 100, 0, 0, [154]))) (.branch 12 (.leaf (63, 9, 6, 1, 9, [464])) (.leaf (13, 12, 0, 0, 0, []))))) (.branch 21 (.branch 17 (.branch 15 (.leaf (2, 13, 0, 0, 9223372036854775814, [])) (.leaf (74, 15, 100, 0, 0, [154]))) (.branch 20 (.leaf (63, 17, 6, 2, 15, [466])) (.leaf (13, 20, 0, 0, 0, [])))) (.branch 25 (.branch 23 (.leaf (2, 21, 0, 0, 9223372036854775814, [])) (.leaf (74, 23, 103, 0, 0, [155]))) (.branch 28 (.leaf (63, 25, 6, 4, 18, [469])) (.leaf (13, 28, 0, 0, 0, [])))))) (.branch 45 (.branch 37 (.branch 33 (.branch 31 (.leaf (2, 29, 0, 0, 9223372036854775814, [])) (.leaf (74, 31, 100, 0, 0, [154]))) (.branch 36 (.leaf (63, 33, 6, 5, 22, [470])) (.leaf (13, 36, 0, 0, 0, [])))) (.branch 41 (.branch 39 (.leaf (2, 37, 0, 0, 9223372036854775814, [])) (.leaf (74, 39, 100, 0, 0, [154]))) (.branch 44 (.leaf (63, 41, 6, 6, 25, [471])) (.leaf (13, 44, 0, 0, 0, []))))) (.branch 53 (.branch 49 (.branch 47 (.leaf (2, 45, 0, 0, 9223372036854775814, [])) (.leaf (74, 47, 100, 0, 0, [154]))) (.branch 52 (.leaf (63, 49, 6, 7, 28, [472])) (.leaf (13, 52, 0, 0, 0, [])))) (.branch 57 (.branch 55 (.leaf (2, 53, 0, 0, 9223372036854775814, [])) (.leaf (74, 55, 100, 0, 0, [154]))) (.branch 60 (.leaf (63, 57, 6, 8, 31, [473])) (.leaf (82, 60, 0, 0, 0, []))))))
noncomputable def abM13 : abM := ((⟨"TallBins$Planner", "<init>", "()V"⟩, prog_8_method_1_code, 1, none), 0, 7, 42, 6, abK13)
set_option maxRecDepth 20000 in
noncomputable def abK14 : Lean.RArray abEy := .branch 21 (.branch 9 (.branch 4 (.branch 1 (.leaf (13, 0, 0, 0, 0, [])) (.leaf (76, 1, 0, 0, 3, [498, 110, 111]))) (.branch 5 (.leaf (13, 4, 0, 0, 0, [])) (.branch 7 (.leaf (2, 5, 0, 0, 9223372036854775814, [])) (.leaf (74, 7, 100, 0, 0, [154]))))) (.branch 15 (.branch 12 (.leaf (63, 9, 2, 1, 9, [501])) (.branch 13 (.leaf (13, 12, 0, 0, 0, [])) (.leaf (2, 13, 0, 0, 9223372036854775814, [])))) (.branch 17 (.leaf (74, 15, 100, 0, 0, [154])) (.branch 20 (.leaf (63, 17, 2, 2, 15, [503])) (.leaf (13, 20, 0, 0, 0, [])))))) (.branch 33 (.branch 28 (.branch 23 (.leaf (2, 21, 0, 0, 9223372036854775814, [])) (.branch 25 (.leaf (74, 23, 100, 0, 0, [154])) (.leaf (63, 25, 2, 3, 18, [504])))) (.branch 29 (.leaf (13, 28, 0, 0, 0, [])) (.branch 31 (.leaf (2, 29, 0, 0, 9223372036854775814, [])) (.leaf (74, 31, 100, 0, 0, [154]))))) (.branch 39 (.branch 36 (.leaf (63, 33, 2, 4, 21, [505])) (.branch 37 (.leaf (13, 36, 0, 0, 0, [])) (.leaf (2, 37, 0, 0, 9223372036854775814, [])))) (.branch 41 (.leaf (74, 39, 100, 0, 0, [154])) (.branch 44 (.leaf (63, 41, 2, 5, 24, [506])) (.leaf (82, 44, 0, 0, 0, []))))))
noncomputable def abM14 : abM := ((⟨"TallBins$Blender", "<init>", "()V"⟩, prog_4_method_1_code, 1, none), 0, 5, 30, 2, abK14)
set_option maxRecDepth 20000 in
noncomputable def abK15 : Lean.RArray abEy := .branch 22 (.branch 13 (.branch 6 (.branch 1 (.leaf (13, 0, 0, 0, 0, [])) (.branch 4 (.leaf (60, 1, 11, 1, 79, [529])) (.leaf (2, 4, 0, 0, 9223372036854775828, [])))) (.branch 7 (.leaf (21, 6, 0, 0, 0, [])) (.branch 10 (.leaf (3, 7, 0, 0, 9223372036854776408, [])) (.leaf (57, 10, 15, 0, 0, []))))) (.branch 16 (.branch 14 (.leaf (1, 13, 0, 0, 9223372036854775807, [])) (.branch 15 (.leaf (83, 14, 0, 0, 0, [])) (.leaf (13, 15, 0, 0, 0, [])))) (.branch 20 (.branch 17 (.leaf (9, 16, 0, 1, 0, [])) (.leaf (78, 17, 16, 0, 82, [572, 574, 0]))) (.branch 21 (.leaf (13, 20, 0, 0, 0, [])) (.leaf (9, 21, 0, 2, 0, [])))))) (.branch 33 (.branch 27 (.branch 25 (.leaf (78, 22, 16, 0, 82, [572, 574, 0])) (.branch 26 (.leaf (13, 25, 0, 0, 0, [])) (.leaf (9, 26, 0, 3, 0, [])))) (.branch 30 (.leaf (78, 27, 16, 0, 82, [572, 574, 0])) (.branch 31 (.leaf (13, 30, 0, 0, 0, [])) (.leaf (8, 31, 0, 4, 0, []))))) (.branch 39 (.branch 36 (.leaf (78, 33, 16, 0, 82, [572, 574, 0])) (.branch 37 (.leaf (13, 36, 0, 0, 0, [])) (.leaf (8, 37, 0, 5, 0, [])))) (.branch 43 (.branch 42 (.leaf (78, 39, 16, 0, 82, [572, 574, 0])) (.leaf (13, 42, 0, 0, 0, []))) (.branch 46 (.leaf (60, 43, 11, 1, 79, [529])) (.leaf (83, 46, 0, 0, 0, []))))))
noncomputable def abM15 : abM := ((⟨"TallBins", "feed", "(IIIII)I"⟩, prog_1_method_2_code, 6, some .int), 5, 0, 0, 11, abK15)
set_option maxRecDepth 20000 in
noncomputable def abK16 : Lean.RArray abEy := .branch 26 (.branch 11 (.branch 4 (.branch 2 (.leaf (2, 0, 0, 0, 9223372036854775832, [])) (.branch 3 (.leaf (15, 2, 0, 2, 0, [])) (.leaf (9, 3, 0, 2, 0, [])))) (.branch 7 (.leaf (48, 4, 46, 0, 0, [])) (.branch 8 (.leaf (13, 7, 0, 0, 0, [])) (.leaf (60, 8, 11, 1, 79, [529]))))) (.branch 18 (.branch 14 (.leaf (3, 11, 0, 0, 9223372036854776408, [])) (.branch 17 (.leaf (55, 14, 46, 0, 0, [])) (.leaf (13, 17, 0, 0, 0, [])))) (.branch 22 (.branch 21 (.leaf (60, 18, 11, 0, 9, [528])) (.leaf (13, 21, 0, 0, 0, []))) (.branch 25 (.leaf (60, 22, 11, 1, 79, [529])) (.leaf (9, 25, 0, 1, 0, [])))))) (.branch 32 (.branch 29 (.branch 27 (.leaf (9, 26, 0, 2, 0, [])) (.branch 28 (.leaf (30, 27, 0, 0, 0, [])) (.leaf (42, 28, 0, 0, 0, [])))) (.branch 30 (.leaf (70, 29, 0, 0, 0, [])) (.branch 31 (.leaf (13, 30, 0, 0, 0, [])) (.leaf (44, 31, 0, 0, 0, []))))) (.branch 37 (.branch 35 (.leaf (60, 32, 11, 1, 79, [529])) (.branch 36 (.leaf (1, 35, 0, 0, 9223372036854775809, [])) (.leaf (21, 36, 0, 0, 0, [])))) (.branch 43 (.branch 40 (.leaf (61, 37, 11, 1, 79, [529])) (.leaf (20, 40, 0, 2, 9223372036854775800, []))) (.branch 46 (.leaf (58, 43, 3, 0, 0, [])) (.leaf (82, 46, 0, 0, 0, []))))))
noncomputable def abM16 : abM := ((⟨"TallBins", "tapeNumber", "(I)V"⟩, prog_1_method_3_code, 3, none), 1, 0, 0, 11, abK16)
set_option maxRecDepth 20000 in
noncomputable def abK17 : Lean.RArray abEy := .branch 12 (.branch 5 (.branch 1 (.leaf (9, 0, 0, 1, 0, [])) (.branch 4 (.leaf (48, 1, 12, 0, 0, [])) (.leaf (9, 4, 0, 1, 0, [])))) (.branch 6 (.leaf (13, 5, 0, 0, 0, [])) (.branch 9 (.leaf (60, 6, 11, 1, 79, [529])) (.leaf (57, 9, 14, 0, 0, []))))) (.branch 15 (.branch 13 (.leaf (1, 12, 0, 0, 9223372036854775807, [])) (.branch 14 (.leaf (83, 13, 0, 0, 0, [])) (.leaf (13, 14, 0, 0, 0, [])))) (.branch 19 (.branch 16 (.leaf (9, 15, 0, 1, 0, [])) (.leaf (61, 16, 11, 1, 79, [529]))) (.branch 20 (.leaf (9, 19, 0, 1, 0, [])) (.leaf (83, 20, 0, 0, 0, [])))))
noncomputable def abM17 : abM := ((⟨"TallBins", "end", "(I)I"⟩, prog_1_method_4_code, 2, some .int), 1, 0, 0, 11, abK17)
set_option maxRecDepth 20000 in
noncomputable def abK18 : Lean.RArray abEy := .branch 36 (.branch 17 (.branch 10 (.branch 4 (.branch 1 (.leaf (13, 0, 0, 0, 0, [])) (.leaf (60, 1, 11, 3, 25, [531]))) (.branch 7 (.leaf (78, 4, 19, 0, 86, [584, 585, 586])) (.leaf (46, 7, 13, 0, 0, [])))) (.branch 13 (.branch 12 (.leaf (2, 10, 0, 0, 9223372036854775803, [])) (.leaf (83, 12, 0, 0, 0, []))) (.branch 14 (.leaf (13, 13, 0, 0, 0, [])) (.leaf (60, 14, 11, 2, 18, [530]))))) (.branch 25 (.branch 21 (.branch 18 (.leaf (13, 17, 0, 0, 0, [])) (.leaf (60, 18, 11, 1, 79, [529]))) (.branch 24 (.leaf (78, 21, 21, 0, 90, [592, 593, 594])) (.leaf (13, 24, 0, 0, 0, [])))) (.branch 29 (.branch 26 (.leaf (1, 25, 0, 0, 9223372036854775808, [])) (.leaf (61, 26, 11, 1, 79, [529]))) (.branch 30 (.leaf (13, 29, 0, 0, 0, [])) (.branch 33 (.leaf (60, 30, 11, 2, 18, [530])) (.leaf (60, 33, 7, 1, 93, [230]))))))) (.branch 56 (.branch 43 (.branch 41 (.branch 39 (.leaf (46, 36, 42, 0, 0, [])) (.leaf (2, 39, 0, 0, 9223372036854775804, []))) (.branch 42 (.leaf (83, 41, 0, 0, 0, [])) (.leaf (13, 42, 0, 0, 0, [])))) (.branch 47 (.branch 46 (.leaf (60, 43, 11, 3, 25, [531])) (.leaf (13, 46, 0, 0, 0, []))) (.branch 50 (.leaf (60, 47, 11, 2, 18, [530])) (.branch 53 (.leaf (60, 50, 7, 0, 96, [228])) (.leaf (78, 53, 42, 0, 100, [748, 749, 750])))))) (.branch 64 (.branch 60 (.branch 57 (.leaf (13, 56, 0, 0, 0, [])) (.leaf (60, 57, 11, 10, 65, [538]))) (.branch 61 (.leaf (1, 60, 0, 0, 9223372036854775808, [])) (.leaf (62, 61, 2, 0, 104, [500])))) (.branch 68 (.branch 65 (.leaf (13, 64, 0, 0, 0, [])) (.leaf (60, 65, 11, 3, 25, [531]))) (.branch 71 (.leaf (60, 68, 4, 0, 108, [395])) (.branch 74 (.leaf (60, 71, 10, 0, 111, [166])) (.leaf (83, 74, 0, 0, 0, [])))))))
noncomputable def abM18 : abM := ((⟨"TallBins", "text", "()I"⟩, prog_1_method_5_code, 1, some .int), 0, 0, 0, 11, abK18)
set_option maxRecDepth 20000 in
noncomputable def abK19 : Lean.RArray abEy := .branch 21 (.branch 9 (.branch 3 (.branch 1 (.leaf (1, 0, 0, 0, 9223372036854775808, [])) (.branch 2 (.leaf (15, 1, 0, 1, 0, [])) (.leaf (9, 2, 0, 1, 0, [])))) (.branch 5 (.leaf (2, 3, 0, 0, 9223372036854775814, [])) (.branch 8 (.leaf (55, 5, 41, 0, 0, [])) (.leaf (13, 8, 0, 0, 0, []))))) (.branch 14 (.branch 12 (.leaf (60, 9, 4, 1, 20, [396])) (.branch 13 (.leaf (9, 12, 0, 1, 0, [])) (.leaf (67, 13, 0, 0, 0, [])))) (.branch 17 (.leaf (78, 14, 20, 0, 68, [588, 589, 590])) (.branch 20 (.leaf (46, 17, 33, 0, 0, [])) (.leaf (13, 20, 0, 0, 0, [])))))) (.branch 33 (.branch 26 (.branch 24 (.leaf (60, 21, 4, 1, 20, [396])) (.branch 25 (.leaf (9, 24, 0, 1, 0, [])) (.leaf (67, 25, 0, 0, 0, [])))) (.branch 29 (.leaf (60, 26, 1, 6, 72, [357])) (.branch 30 (.leaf (1, 29, 0, 0, 9223372036854775807, [])) (.leaf (52, 30, 35, 0, 0, []))))) (.branch 38 (.branch 34 (.leaf (1, 33, 0, 0, 9223372036854775809, [])) (.branch 35 (.leaf (83, 34, 1, 0, 0, [])) (.leaf (20, 35, 0, 1, 9223372036854775809, [])))) (.branch 41 (.leaf (58, 38, 2, 0, 0, [])) (.branch 42 (.leaf (1, 41, 0, 0, 9223372036854775808, [])) (.leaf (83, 42, 1, 0, 0, []))))))
noncomputable def abM19 : abM := ((⟨"TallBins$House", "isInUse", "()Z"⟩, prog_6_method_3_code, 2, some .boolean), 0, 0, 0, 4, abK19)
set_option maxRecDepth 20000 in
noncomputable def abK20 : Lean.RArray abEy := .branch 8 (.branch 4 (.branch 1 (.leaf (13, 0, 0, 0, 0, [])) (.leaf (60, 1, 1, 4, 9, [348]))) (.branch 5 (.leaf (1, 4, 0, 0, 9223372036854775807, [])) (.leaf (53, 5, 12, 0, 0, [])))) (.branch 12 (.branch 9 (.leaf (1, 8, 0, 0, 9223372036854775809, [])) (.leaf (58, 9, 13, 0, 0, []))) (.branch 13 (.leaf (1, 12, 0, 0, 9223372036854775808, [])) (.leaf (83, 13, 1, 0, 0, []))))
noncomputable def abM20 : abM := ((⟨"TallBins$Bin", "isEmpty", "()Z"⟩, prog_3_method_3_code, 1, some .boolean), 0, 0, 0, 1, abK20)
set_option maxRecDepth 20000 in
noncomputable def abK21 : Lean.RArray abEy := .branch 35 (.branch 17 (.branch 8 (.branch 4 (.branch 1 (.leaf (13, 0, 0, 0, 0, [])) (.leaf (60, 1, 7, 0, 12, [227]))) (.branch 7 (.leaf (78, 4, 4, 0, 26, [596, 157, 158])) (.leaf (13, 7, 0, 0, 0, [])))) (.branch 12 (.branch 9 (.leaf (1, 8, 0, 0, 9223372036854775808, [])) (.leaf (61, 9, 7, 1, 29, [229]))) (.branch 13 (.leaf (13, 12, 0, 0, 0, [])) (.branch 14 (.leaf (1, 13, 0, 0, 9223372036854775807, [])) (.leaf (61, 14, 7, 2, 18, [231])))))) (.branch 24 (.branch 19 (.branch 18 (.leaf (13, 17, 0, 0, 0, [])) (.leaf (9, 18, 0, 1, 0, []))) (.branch 20 (.leaf (13, 19, 0, 0, 0, [])) (.branch 23 (.leaf (60, 20, 7, 3, 22, [233])) (.leaf (68, 23, 0, 0, 0, []))))) (.branch 30 (.branch 27 (.leaf (79, 24, 269, 0, 32, [597, 598])) (.leaf (61, 27, 7, 4, 38, [234]))) (.branch 31 (.leaf (13, 30, 0, 0, 0, [])) (.branch 32 (.leaf (1, 31, 0, 0, 9223372036854775808, [])) (.leaf (61, 32, 7, 8, 41, [238]))))))) (.branch 51 (.branch 41 (.branch 39 (.branch 36 (.leaf (13, 35, 0, 0, 0, [])) (.leaf (78, 36, 22, 0, 44, [600, 602, 1]))) (.branch 40 (.leaf (1, 39, 0, 0, 9223372036854775808, [])) (.leaf (15, 40, 0, 2, 0, [])))) (.branch 44 (.branch 42 (.leaf (9, 41, 0, 2, 0, [])) (.leaf (2, 42, 0, 0, 9223372036854775838, []))) (.branch 47 (.leaf (56, 44, 72, 0, 0, [])) (.branch 48 (.leaf (13, 47, 0, 0, 0, [])) (.leaf (60, 48, 7, 5, 47, [235])))))) (.branch 62 (.branch 55 (.branch 54 (.leaf (46, 51, 72, 0, 0, [])) (.leaf (13, 54, 0, 0, 0, []))) (.branch 58 (.leaf (60, 55, 7, 1, 29, [229])) (.branch 61 (.leaf (47, 58, 72, 0, 0, [])) (.leaf (13, 61, 0, 0, 0, []))))) (.branch 66 (.branch 63 (.leaf (9, 62, 0, 2, 0, [])) (.leaf (78, 63, 26, 0, 50, [614, 616, 2]))) (.branch 69 (.leaf (20, 66, 0, 2, 9223372036854775809, [])) (.branch 72 (.leaf (58, 69, 41, 0, 0, [])) (.leaf (82, 72, 0, 0, 0, [])))))))
noncomputable def abM21 : abM := ((⟨"TallBins$Reader", "read", "(I)V"⟩, prog_9_method_2_code, 3, none), 1, 0, 0, 7, abK21)
set_option maxRecDepth 20000 in
noncomputable def abK22 : Lean.RArray abEy := .branch 146 (.branch 72 (.branch 36 (.branch 19 (.branch 8 (.branch 2 (.branch 1 (.leaf (13, 0, 0, 0, 0, [])) (.leaf (13, 1, 0, 0, 0, []))) (.branch 5 (.leaf (60, 2, 7, 8, 41, [238])) (.leaf (61, 5, 7, 7, 187, [237])))) (.branch 12 (.branch 9 (.leaf (13, 8, 0, 0, 0, [])) (.leaf (60, 9, 7, 7, 187, [237]))) (.branch 13 (.leaf (13, 12, 0, 0, 0, [])) (.branch 16 (.leaf (60, 13, 7, 4, 38, [234])) (.leaf (55, 16, 47, 0, 0, [])))))) (.branch 27 (.branch 23 (.branch 20 (.leaf (13, 19, 0, 0, 0, [])) (.leaf (60, 20, 7, 3, 22, [233]))) (.branch 24 (.leaf (13, 23, 0, 0, 0, [])) (.leaf (60, 24, 7, 7, 187, [237])))) (.branch 31 (.branch 28 (.leaf (65, 27, 0, 0, 0, [])) (.leaf (79, 28, 23, 0, 190, [604, 605]))) (.branch 34 (.leaf (46, 31, 47, 0, 0, [])) (.branch 35 (.leaf (13, 34, 0, 0, 0, [])) (.leaf (44, 35, 0, 0, 0, []))))))) (.branch 55 (.branch 44 (.branch 40 (.branch 39 (.leaf (60, 36, 7, 7, 187, [237])) (.leaf (1, 39, 0, 0, 9223372036854775809, []))) (.branch 41 (.leaf (21, 40, 0, 0, 0, [])) (.leaf (61, 41, 7, 7, 187, [237])))) (.branch 48 (.branch 47 (.leaf (58, 44, 8, 0, 0, [])) (.leaf (13, 47, 0, 0, 0, []))) (.branch 49 (.leaf (13, 48, 0, 0, 0, [])) (.branch 52 (.leaf (60, 49, 7, 7, 187, [237])) (.leaf (61, 52, 7, 8, 41, [238])))))) (.branch 61 (.branch 57 (.branch 56 (.leaf (13, 55, 0, 0, 0, [])) (.leaf (1, 56, 0, 0, 9223372036854775808, []))) (.branch 60 (.leaf (61, 57, 7, 6, 169, [236])) (.leaf (13, 60, 0, 0, 0, [])))) (.branch 65 (.branch 64 (.leaf (60, 61, 7, 7, 187, [237])) (.leaf (13, 64, 0, 0, 0, []))) (.branch 68 (.leaf (60, 65, 7, 4, 38, [234])) (.branch 71 (.leaf (54, 68, 79, 0, 0, [])) (.leaf (13, 71, 0, 0, 0, [])))))))) (.branch 110 (.branch 91 (.branch 80 (.branch 76 (.branch 73 (.leaf (1, 72, 0, 0, 9223372036854775808, [])) (.leaf (61, 73, 7, 5, 47, [235]))) (.branch 79 (.leaf (58, 76, 285, 0, 0, [])) (.leaf (13, 79, 0, 0, 0, [])))) (.branch 84 (.branch 83 (.leaf (60, 80, 7, 3, 22, [233])) (.leaf (13, 83, 0, 0, 0, []))) (.branch 87 (.leaf (60, 84, 7, 7, 187, [237])) (.branch 88 (.leaf (65, 87, 0, 0, 0, [])) (.leaf (79, 88, 24, 0, 194, [607, 608])))))) (.branch 99 (.branch 95 (.branch 94 (.leaf (46, 91, 138, 0, 0, [])) (.leaf (13, 94, 0, 0, 0, []))) (.branch 96 (.leaf (1, 95, 0, 0, 9223372036854775809, [])) (.leaf (61, 96, 7, 5, 47, [235])))) (.branch 103 (.branch 100 (.leaf (13, 99, 0, 0, 0, [])) (.leaf (60, 100, 7, 8, 41, [238]))) (.branch 104 (.leaf (13, 103, 0, 0, 0, [])) (.branch 107 (.leaf (60, 104, 7, 4, 38, [234])) (.leaf (55, 107, 285, 0, 0, []))))))) (.branch 127 (.branch 118 (.branch 114 (.branch 111 (.leaf (13, 110, 0, 0, 0, [])) (.leaf (60, 111, 7, 3, 22, [233]))) (.branch 115 (.leaf (13, 114, 0, 0, 0, [])) (.leaf (60, 115, 7, 8, 41, [238])))) (.branch 122 (.branch 119 (.leaf (65, 118, 0, 0, 0, [])) (.leaf (79, 119, 24, 0, 194, [607, 608]))) (.branch 125 (.leaf (46, 122, 285, 0, 0, [])) (.branch 126 (.leaf (13, 125, 0, 0, 0, [])) (.leaf (44, 126, 0, 0, 0, [])))))) (.branch 135 (.branch 131 (.branch 130 (.leaf (60, 127, 7, 8, 41, [238])) (.leaf (1, 130, 0, 0, 9223372036854775809, []))) (.branch 132 (.leaf (21, 131, 0, 0, 0, [])) (.leaf (61, 132, 7, 8, 41, [238])))) (.branch 139 (.branch 138 (.leaf (58, 135, 99, 0, 0, [])) (.leaf (13, 138, 0, 0, 0, []))) (.branch 142 (.leaf (60, 139, 7, 3, 22, [233])) (.branch 143 (.leaf (13, 142, 0, 0, 0, [])) (.leaf (60, 143, 7, 7, 187, [237]))))))))) (.branch 215 (.branch 184 (.branch 163 (.branch 154 (.branch 150 (.branch 147 (.leaf (65, 146, 0, 0, 0, [])) (.leaf (79, 147, 25, 0, 197, [610, 611]))) (.branch 153 (.leaf (46, 150, 226, 0, 0, [])) (.leaf (13, 153, 0, 0, 0, [])))) (.branch 158 (.branch 155 (.leaf (1, 154, 0, 0, 9223372036854775810, [])) (.leaf (61, 155, 7, 5, 47, [235]))) (.branch 159 (.leaf (13, 158, 0, 0, 0, [])) (.branch 162 (.leaf (60, 159, 7, 8, 41, [238])) (.leaf (13, 162, 0, 0, 0, [])))))) (.branch 173 (.branch 169 (.branch 166 (.leaf (60, 163, 7, 4, 38, [234])) (.leaf (55, 166, 285, 0, 0, []))) (.branch 170 (.leaf (13, 169, 0, 0, 0, [])) (.leaf (60, 170, 7, 3, 22, [233])))) (.branch 177 (.branch 174 (.leaf (13, 173, 0, 0, 0, [])) (.leaf (60, 174, 7, 8, 41, [238]))) (.branch 178 (.leaf (65, 177, 0, 0, 0, [])) (.branch 181 (.leaf (79, 178, 25, 0, 197, [610, 611])) (.leaf (46, 181, 285, 0, 0, []))))))) (.branch 199 (.branch 191 (.branch 187 (.branch 185 (.leaf (13, 184, 0, 0, 0, [])) (.leaf (4, 185, 200, 0, 9223372036854875808, [613]))) (.branch 188 (.leaf (13, 187, 0, 0, 0, [])) (.leaf (60, 188, 7, 6, 169, [236])))) (.branch 194 (.branch 193 (.leaf (2, 191, 0, 0, 9223372036854775818, [])) (.leaf (23, 193, 0, 0, 0, []))) (.branch 195 (.leaf (13, 194, 0, 0, 0, [])) (.branch 198 (.leaf (60, 195, 7, 3, 22, [233])) (.leaf (13, 198, 0, 0, 0, [])))))) (.branch 206 (.branch 203 (.branch 202 (.leaf (60, 199, 7, 8, 41, [238])) (.leaf (65, 202, 0, 0, 0, []))) (.branch 205 (.leaf (2, 203, 0, 0, 9223372036854775856, [])) (.leaf (22, 205, 0, 0, 0, [])))) (.branch 210 (.branch 207 (.leaf (21, 206, 0, 0, 0, [])) (.leaf (79, 207, 269, 0, 32, [597, 598]))) (.branch 213 (.leaf (61, 210, 7, 6, 169, [236])) (.branch 214 (.leaf (13, 213, 0, 0, 0, [])) (.leaf (44, 214, 0, 0, 0, [])))))))) (.branch 250 (.branch 232 (.branch 223 (.branch 219 (.branch 218 (.leaf (60, 215, 7, 8, 41, [238])) (.leaf (1, 218, 0, 0, 9223372036854775809, []))) (.branch 220 (.leaf (21, 219, 0, 0, 0, [])) (.leaf (61, 220, 7, 8, 41, [238])))) (.branch 227 (.branch 226 (.leaf (58, 223, 158, 0, 0, [])) (.leaf (13, 226, 0, 0, 0, []))) (.branch 228 (.leaf (13, 227, 0, 0, 0, [])) (.branch 231 (.leaf (60, 228, 7, 3, 22, [233])) (.leaf (13, 231, 0, 0, 0, [])))))) (.branch 240 (.branch 236 (.branch 235 (.leaf (60, 232, 7, 7, 187, [237])) (.leaf (65, 235, 0, 0, 0, []))) (.branch 239 (.leaf (61, 236, 7, 6, 169, [236])) (.leaf (13, 239, 0, 0, 0, [])))) (.branch 244 (.branch 241 (.leaf (13, 240, 0, 0, 0, [])) (.leaf (60, 241, 7, 6, 169, [236]))) (.branch 246 (.leaf (2, 244, 0, 0, 9223372036854775868, [])) (.branch 249 (.leaf (52, 246, 267, 0, 0, [])) (.leaf (13, 249, 0, 0, 0, []))))))) (.branch 271 (.branch 259 (.branch 255 (.branch 253 (.leaf (60, 250, 7, 6, 169, [236])) (.leaf (2, 253, 0, 0, 9223372036854775870, []))) (.branch 258 (.leaf (52, 255, 267, 0, 0, [])) (.leaf (13, 258, 0, 0, 0, [])))) (.branch 264 (.branch 262 (.leaf (60, 259, 7, 6, 169, [236])) (.leaf (2, 262, 0, 0, 9223372036854775867, []))) (.branch 267 (.leaf (53, 264, 271, 0, 0, [])) (.branch 268 (.leaf (1, 267, 0, 0, 9223372036854775811, [])) (.leaf (58, 268, 272, 0, 0, [])))))) (.branch 277 (.branch 275 (.branch 272 (.leaf (1, 271, 0, 0, 9223372036854775812, [])) (.leaf (61, 272, 7, 5, 47, [235]))) (.branch 276 (.leaf (13, 275, 0, 0, 0, [])) (.leaf (44, 276, 0, 0, 0, [])))) (.branch 281 (.branch 280 (.leaf (60, 277, 7, 8, 41, [238])) (.leaf (1, 280, 0, 0, 9223372036854775809, []))) (.branch 282 (.leaf (21, 281, 0, 0, 0, [])) (.branch 285 (.leaf (61, 282, 7, 8, 41, [238])) (.leaf (82, 285, 0, 0, 0, [])))))))))
noncomputable def abM22 : abM := ((⟨"TallBins$Reader", "advance", "()V"⟩, prog_9_method_15_code, 1, none), 0, 0, 0, 7, abK22)
set_option maxRecDepth 20000 in
noncomputable def abK23 : Lean.RArray abEy := .branch 9 (.branch 3 (.branch 1 (.leaf (9, 0, 0, 0, 0, [])) (.leaf (2, 1, 0, 0, 9223372036854775840, []))) (.branch 6 (.leaf (52, 3, 12, 0, 0, [])) (.branch 7 (.leaf (9, 6, 0, 0, 0, [])) (.leaf (2, 7, 0, 0, 9223372036854775818, []))))) (.branch 13 (.branch 12 (.leaf (53, 9, 16, 0, 0, [])) (.leaf (1, 12, 0, 0, 9223372036854775809, []))) (.branch 16 (.leaf (58, 13, 17, 0, 0, [])) (.branch 17 (.leaf (1, 16, 0, 0, 9223372036854775808, [])) (.leaf (83, 17, 1, 0, 0, [])))))
noncomputable def abM23 : abM := ((⟨"TallBins$Reader", "isBlank", "(I)Z"⟩, prog_9_method_17_code, 1, some .boolean), 1, 0, 0, 7, abK23)
set_option maxRecDepth 20000 in
noncomputable def abK24 : Lean.RArray abEy := .branch 9 (.branch 3 (.branch 1 (.leaf (9, 0, 0, 0, 0, [])) (.leaf (2, 1, 0, 0, 9223372036854775905, []))) (.branch 6 (.leaf (54, 3, 16, 0, 0, [])) (.branch 7 (.leaf (9, 6, 0, 0, 0, [])) (.leaf (2, 7, 0, 0, 9223372036854775930, []))))) (.branch 13 (.branch 12 (.leaf (56, 9, 16, 0, 0, [])) (.leaf (1, 12, 0, 0, 9223372036854775809, []))) (.branch 16 (.leaf (58, 13, 17, 0, 0, [])) (.branch 17 (.leaf (1, 16, 0, 0, 9223372036854775808, [])) (.leaf (83, 17, 1, 0, 0, [])))))
noncomputable def abM24 : abM := ((⟨"TallBins$Reader", "isLetter", "(I)Z"⟩, prog_9_method_18_code, 1, some .boolean), 1, 0, 0, 7, abK24)
set_option maxRecDepth 20000 in
noncomputable def abK25 : Lean.RArray abEy := .branch 9 (.branch 3 (.branch 1 (.leaf (9, 0, 0, 0, 0, [])) (.leaf (2, 1, 0, 0, 9223372036854775856, []))) (.branch 6 (.leaf (54, 3, 16, 0, 0, [])) (.branch 7 (.leaf (9, 6, 0, 0, 0, [])) (.leaf (2, 7, 0, 0, 9223372036854775865, []))))) (.branch 13 (.branch 12 (.leaf (56, 9, 16, 0, 0, [])) (.leaf (1, 12, 0, 0, 9223372036854775809, []))) (.branch 16 (.leaf (58, 13, 17, 0, 0, [])) (.branch 17 (.leaf (1, 16, 0, 0, 9223372036854775808, [])) (.leaf (83, 17, 1, 0, 0, [])))))
noncomputable def abM25 : abM := ((⟨"TallBins$Reader", "isDigit", "(I)Z"⟩, prog_9_method_19_code, 1, some .boolean), 1, 0, 0, 7, abK25)
set_option maxRecDepth 20000 in
noncomputable def abK26 : Lean.RArray abEy := .branch 62 (.branch 32 (.branch 17 (.branch 7 (.branch 3 (.leaf (13, 0, 0, 0, 0, [])) (.branch 6 (.leaf (78, 3, 27, 0, 56, [619, 621, 3])) (.leaf (15, 6, 0, 2, 0, [])))) (.branch 13 (.branch 10 (.leaf (13, 7, 0, 0, 0, [])) (.leaf (78, 10, 27, 0, 56, [619, 621, 3]))) (.branch 14 (.leaf (15, 13, 0, 3, 0, [])) (.leaf (13, 14, 0, 0, 0, []))))) (.branch 23 (.branch 20 (.leaf (78, 17, 27, 0, 56, [619, 621, 3])) (.branch 22 (.leaf (14, 20, 0, 4, 0, [])) (.leaf (9, 22, 0, 2, 0, [])))) (.branch 27 (.branch 26 (.leaf (47, 23, 50, 0, 0, [])) (.leaf (9, 26, 0, 3, 0, []))) (.branch 30 (.leaf (47, 27, 50, 0, 0, [])) (.leaf (8, 30, 0, 4, 0, [])))))) (.branch 49 (.branch 41 (.branch 35 (.leaf (47, 32, 50, 0, 0, [])) (.branch 38 (.leaf (13, 35, 0, 0, 0, [])) (.leaf (78, 38, 27, 0, 56, [619, 621, 3])))) (.branch 45 (.branch 44 (.leaf (47, 41, 50, 0, 0, [])) (.leaf (13, 44, 0, 0, 0, []))) (.branch 46 (.leaf (1, 45, 0, 0, 9223372036854775809, [])) (.leaf (78, 46, 28, 0, 66, [674, 676, 4]))))) (.branch 56 (.branch 51 (.branch 50 (.leaf (82, 49, 0, 0, 0, [])) (.leaf (9, 50, 0, 1, 0, []))) (.branch 53 (.leaf (2, 51, 0, 0, 9223372036854775838, [])) (.leaf (54, 53, 62, 0, 0, [])))) (.branch 58 (.branch 57 (.leaf (13, 56, 0, 0, 0, [])) (.leaf (1, 57, 0, 0, 9223372036854775811, []))) (.branch 61 (.leaf (78, 58, 28, 0, 66, [674, 676, 4])) (.leaf (82, 61, 0, 0, 0, []))))))) (.branch 94 (.branch 77 (.branch 67 (.branch 63 (.leaf (13, 62, 0, 0, 0, [])) (.branch 66 (.leaf (78, 63, 22, 0, 44, [600, 602, 1])) (.leaf (9, 66, 0, 2, 0, [])))) (.branch 71 (.branch 70 (.leaf (46, 67, 77, 0, 0, [])) (.leaf (13, 70, 0, 0, 0, []))) (.branch 74 (.leaf (78, 71, 29, 0, 69, [678, 680, 5])) (.leaf (58, 74, 104, 0, 0, []))))) (.branch 85 (.branch 81 (.branch 78 (.leaf (9, 77, 0, 3, 0, [])) (.leaf (46, 78, 88, 0, 0, []))) (.branch 82 (.leaf (13, 81, 0, 0, 0, [])) (.leaf (78, 82, 33, 0, 72, [698, 700, 9])))) (.branch 90 (.branch 88 (.leaf (58, 85, 104, 0, 0, [])) (.leaf (8, 88, 0, 4, 0, []))) (.branch 93 (.leaf (46, 90, 100, 0, 0, [])) (.leaf (13, 93, 0, 0, 0, [])))))) (.branch 110 (.branch 101 (.branch 97 (.leaf (78, 94, 34, 0, 75, [705, 707, 10])) (.branch 100 (.leaf (58, 97, 104, 0, 0, [])) (.leaf (13, 100, 0, 0, 0, [])))) (.branch 105 (.branch 104 (.leaf (78, 101, 36, 0, 78, [716, 718, 11])) (.leaf (13, 104, 0, 0, 0, []))) (.branch 107 (.leaf (2, 105, 0, 0, 9223372036854775867, [])) (.leaf (78, 107, 40, 0, 81, [739, 741, 14]))))) (.branch 118 (.branch 114 (.branch 111 (.leaf (13, 110, 0, 0, 0, [])) (.leaf (60, 111, 7, 0, 12, [227]))) (.branch 115 (.leaf (44, 114, 0, 0, 0, [])) (.leaf (60, 115, 10, 0, 84, [165])))) (.branch 120 (.branch 119 (.leaf (1, 118, 0, 0, 9223372036854775809, [])) (.leaf (21, 119, 0, 0, 0, []))) (.branch 123 (.leaf (61, 120, 10, 0, 84, [165])) (.leaf (82, 123, 0, 0, 0, [])))))))
noncomputable def abM26 : abM := ((⟨"TallBins$Reader", "readLine", "(I)V"⟩, prog_9_method_3_code, 5, none), 1, 0, 0, 7, abK26)
set_option maxRecDepth 20000 in
noncomputable def abK27 : Lean.RArray abEy := .branch 33 (.branch 16 (.branch 8 (.branch 4 (.branch 1 (.leaf (13, 0, 0, 0, 0, [])) (.leaf (60, 1, 7, 5, 47, [235]))) (.branch 5 (.leaf (1, 4, 0, 0, 9223372036854775809, [])) (.leaf (53, 5, 24, 0, 0, [])))) (.branch 12 (.branch 9 (.leaf (13, 8, 0, 0, 0, [])) (.leaf (60, 9, 7, 8, 41, [238]))) (.branch 13 (.leaf (13, 12, 0, 0, 0, [])) (.leaf (60, 13, 7, 7, 187, [237]))))) (.branch 25 (.branch 21 (.branch 17 (.leaf (22, 16, 0, 0, 0, [])) (.leaf (13, 17, 0, 1, 0, []))) (.branch 24 (.leaf (52, 21, 26, 0, 0, [])) (.leaf (1, 24, 0, 0, 9223372036854775808, [])))) (.branch 27 (.branch 26 (.leaf (83, 25, 1, 0, 0, [])) (.leaf (1, 26, 0, 0, 9223372036854775808, []))) (.branch 28 (.leaf (15, 27, 0, 2, 0, [])) (.branch 29 (.leaf (9, 28, 0, 2, 0, [])) (.leaf (13, 29, 0, 1, 0, []))))))) (.branch 47 (.branch 41 (.branch 37 (.branch 36 (.leaf (55, 33, 63, 0, 0, [])) (.leaf (13, 36, 0, 0, 0, []))) (.branch 40 (.leaf (60, 37, 7, 3, 22, [233])) (.leaf (13, 40, 0, 0, 0, [])))) (.branch 45 (.branch 44 (.leaf (60, 41, 7, 7, 187, [237])) (.leaf (9, 44, 0, 2, 0, []))) (.branch 46 (.leaf (21, 45, 0, 0, 0, [])) (.leaf (65, 46, 0, 0, 0, []))))) (.branch 56 (.branch 52 (.branch 48 (.leaf (13, 47, 0, 1, 0, [])) (.leaf (9, 48, 0, 2, 0, []))) (.branch 55 (.leaf (52, 52, 57, 0, 0, [])) (.leaf (1, 55, 0, 0, 9223372036854775808, [])))) (.branch 60 (.branch 57 (.leaf (83, 56, 1, 0, 0, [])) (.leaf (20, 57, 0, 2, 9223372036854775809, []))) (.branch 63 (.leaf (58, 60, 28, 0, 0, [])) (.branch 64 (.leaf (1, 63, 0, 0, 9223372036854775809, [])) (.leaf (83, 64, 1, 0, 0, [])))))))
noncomputable def abM27 : abM := ((⟨"TallBins$Reader", "isWord", "(Ljava/lang/String;)Z"⟩, prog_9_method_16_code, 3, some .boolean), 1, 0, 0, 7, abK27)
set_option maxRecDepth 20000 in
noncomputable def abK28 : Lean.RArray abEy := .branch 9 (.branch 4 (.branch 1 (.leaf (13, 0, 0, 0, 0, [])) (.leaf (60, 1, 7, 1, 29, [229]))) (.branch 7 (.leaf (47, 4, 20, 0, 0, [])) (.branch 8 (.leaf (13, 7, 0, 0, 0, [])) (.leaf (9, 8, 0, 1, 0, []))))) (.branch 14 (.branch 12 (.leaf (61, 9, 7, 1, 29, [229])) (.branch 13 (.leaf (13, 12, 0, 0, 0, [])) (.leaf (13, 13, 0, 0, 0, [])))) (.branch 17 (.leaf (60, 14, 7, 7, 187, [237])) (.branch 20 (.leaf (61, 17, 7, 2, 18, [231])) (.leaf (82, 20, 0, 0, 0, [])))))
noncomputable def abM28 : abM := ((⟨"TallBins$Reader", "fail", "(I)V"⟩, prog_9_method_14_code, 2, none), 1, 0, 0, 7, abK28)
set_option maxRecDepth 20000 in
noncomputable def abK29 : Lean.RArray abEy := .branch 47 (.branch 23 (.branch 12 (.branch 3 (.branch 1 (.leaf (13, 0, 0, 0, 0, [])) (.branch 2 (.leaf (1, 1, 0, 0, 9223372036854775813, [])) (.leaf (13, 2, 0, 0, 0, [])))) (.branch 6 (.leaf (60, 3, 7, 0, 12, [227])) (.branch 9 (.leaf (60, 6, 10, 1, 87, [168])) (.leaf (78, 9, 30, 0, 90, [682, 684, 6]))))) (.branch 17 (.branch 13 (.leaf (15, 12, 0, 1, 0, [])) (.branch 14 (.leaf (13, 13, 0, 0, 0, [])) (.leaf (60, 14, 7, 0, 12, [227])))) (.branch 21 (.branch 18 (.leaf (44, 17, 0, 0, 0, [])) (.leaf (60, 18, 10, 1, 87, [168]))) (.branch 22 (.leaf (1, 21, 0, 0, 9223372036854775809, [])) (.leaf (9, 22, 0, 1, 0, [])))))) (.branch 35 (.branch 28 (.branch 24 (.leaf (29, 23, 0, 0, 0, [])) (.branch 25 (.leaf (27, 24, 0, 0, 0, [])) (.leaf (61, 25, 10, 1, 87, [168])))) (.branch 29 (.leaf (13, 28, 0, 0, 0, [])) (.branch 32 (.leaf (60, 29, 7, 0, 12, [227])) (.leaf (60, 32, 10, 3, 93, [173]))))) (.branch 40 (.branch 36 (.leaf (9, 35, 0, 1, 0, [])) (.branch 39 (.leaf (13, 36, 0, 0, 0, [])) (.leaf (1, 39, 0, 0, 9223372036854775809, [])))) (.branch 45 (.branch 42 (.leaf (2, 40, 0, 0, 9223372036854775820, [])) (.leaf (78, 42, 32, 0, 98, [691, 693, 8]))) (.branch 46 (.leaf (69, 45, 0, 0, 0, [])) (.leaf (13, 46, 0, 0, 0, []))))))) (.branch 76 (.branch 61 (.branch 54 (.branch 50 (.leaf (60, 47, 7, 0, 12, [227])) (.branch 53 (.leaf (60, 50, 10, 4, 102, [176])) (.leaf (9, 53, 0, 1, 0, [])))) (.branch 57 (.leaf (13, 54, 0, 0, 0, [])) (.branch 58 (.leaf (1, 57, 0, 0, 9223372036854775809, [])) (.leaf (3, 58, 0, 0, 9223372036854776808, []))))) (.branch 66 (.branch 64 (.leaf (78, 61, 32, 0, 98, [691, 693, 8])) (.branch 65 (.leaf (69, 64, 0, 0, 0, [])) (.leaf (13, 65, 0, 0, 0, [])))) (.branch 72 (.branch 69 (.leaf (60, 66, 7, 0, 12, [227])) (.leaf (60, 69, 10, 5, 107, [179]))) (.branch 73 (.leaf (9, 72, 0, 1, 0, [])) (.leaf (13, 73, 0, 0, 0, [])))))) (.branch 90 (.branch 82 (.branch 77 (.leaf (1, 76, 0, 0, 9223372036854775809, [])) (.branch 79 (.leaf (2, 77, 0, 0, 9223372036854775907, [])) (.leaf (78, 79, 32, 0, 98, [691, 693, 8])))) (.branch 84 (.branch 83 (.leaf (69, 82, 0, 0, 0, [])) (.leaf (13, 83, 0, 0, 0, []))) (.branch 87 (.leaf (60, 84, 7, 0, 12, [227])) (.leaf (60, 87, 10, 6, 112, [182]))))) (.branch 95 (.branch 91 (.leaf (9, 90, 0, 1, 0, [])) (.branch 94 (.leaf (13, 91, 0, 0, 0, [])) (.leaf (1, 94, 0, 0, 9223372036854775808, [])))) (.branch 100 (.branch 97 (.leaf (2, 95, 0, 0, 9223372036854775898, [])) (.leaf (78, 97, 32, 0, 98, [691, 693, 8]))) (.branch 101 (.leaf (69, 100, 0, 0, 0, [])) (.leaf (82, 101, 0, 0, 0, [])))))))
noncomputable def abM29 : abM := ((⟨"TallBins$Reader", "readBin", "()V"⟩, prog_9_method_4_code, 2, none), 0, 0, 0, 7, abK29)
set_option maxRecDepth 20000 in
noncomputable def abK30 : Lean.RArray abEy := .branch 22 (.branch 12 (.branch 5 (.branch 1 (.leaf (13, 0, 0, 0, 0, [])) (.branch 4 (.leaf (60, 1, 7, 5, 47, [235])) (.leaf (1, 4, 0, 0, 9223372036854775810, [])))) (.branch 8 (.leaf (53, 5, 33, 0, 0, [])) (.branch 9 (.leaf (13, 8, 0, 0, 0, [])) (.leaf (60, 9, 7, 6, 169, [236]))))) (.branch 17 (.branch 13 (.leaf (9, 12, 0, 1, 0, [])) (.branch 16 (.leaf (56, 13, 33, 0, 0, [])) (.leaf (9, 16, 0, 2, 0, [])))) (.branch 18 (.leaf (13, 17, 0, 0, 0, [])) (.branch 21 (.leaf (60, 18, 7, 6, 169, [236])) (.leaf (30, 21, 0, 0, 0, [])))))) (.branch 30 (.branch 25 (.branch 23 (.leaf (1, 22, 0, 0, 9223372036854775809, [])) (.branch 24 (.leaf (26, 23, 0, 0, 0, [])) (.leaf (1, 24, 0, 0, 9223372036854775809, [])))) (.branch 28 (.leaf (53, 25, 33, 0, 0, [])) (.branch 29 (.leaf (13, 28, 0, 0, 0, [])) (.leaf (1, 29, 0, 0, 9223372036854775810, []))))) (.branch 35 (.branch 33 (.leaf (78, 30, 28, 0, 66, [674, 676, 4])) (.branch 34 (.leaf (13, 33, 0, 0, 0, [])) (.leaf (1, 34, 0, 0, 9223372036854775808, [])))) (.branch 36 (.leaf (9, 35, 0, 1, 0, [])) (.branch 39 (.leaf (78, 36, 31, 0, 172, [686, 688, 7])) (.leaf (83, 39, 0, 0, 0, []))))))
noncomputable def abM30 : abM := ((⟨"TallBins$Reader", "takeFresh", "(II)I"⟩, prog_9_method_10_code, 3, some .int), 2, 0, 0, 7, abK30)
set_option maxRecDepth 20000 in
noncomputable def abK31 : Lean.RArray abEy := .branch 29 (.branch 14 (.branch 8 (.branch 4 (.branch 1 (.leaf (13, 0, 0, 0, 0, [])) (.leaf (60, 1, 7, 1, 29, [229]))) (.branch 7 (.leaf (46, 4, 9, 0, 0, [])) (.leaf (1, 7, 0, 0, 9223372036854775808, [])))) (.branch 10 (.branch 9 (.leaf (83, 8, 0, 0, 0, [])) (.leaf (13, 9, 0, 0, 0, []))) (.branch 13 (.leaf (60, 10, 7, 5, 47, [235])) (.leaf (1, 13, 0, 0, 9223372036854775810, []))))) (.branch 22 (.branch 18 (.branch 17 (.leaf (52, 14, 24, 0, 0, [])) (.leaf (13, 17, 0, 0, 0, []))) (.branch 19 (.leaf (1, 18, 0, 0, 9223372036854775809, [])) (.leaf (78, 19, 28, 0, 66, [674, 676, 4])))) (.branch 24 (.branch 23 (.leaf (1, 22, 0, 0, 9223372036854775808, [])) (.leaf (83, 23, 0, 0, 0, []))) (.branch 25 (.leaf (13, 24, 0, 0, 0, [])) (.branch 28 (.leaf (60, 25, 7, 6, 169, [236])) (.leaf (9, 28, 0, 1, 0, []))))))) (.branch 45 (.branch 37 (.branch 33 (.branch 32 (.leaf (54, 29, 40, 0, 0, [])) (.leaf (13, 32, 0, 0, 0, []))) (.branch 36 (.leaf (60, 33, 7, 6, 169, [236])) (.leaf (9, 36, 0, 2, 0, [])))) (.branch 41 (.branch 40 (.leaf (57, 37, 47, 0, 0, [])) (.leaf (13, 40, 0, 0, 0, []))) (.branch 42 (.leaf (1, 41, 0, 0, 9223372036854775810, [])) (.leaf (78, 42, 28, 0, 66, [674, 676, 4]))))) (.branch 51 (.branch 47 (.branch 46 (.leaf (1, 45, 0, 0, 9223372036854775808, [])) (.leaf (83, 46, 0, 0, 0, []))) (.branch 48 (.leaf (13, 47, 0, 0, 0, [])) (.leaf (60, 48, 7, 6, 169, [236])))) (.branch 53 (.branch 52 (.leaf (15, 51, 0, 3, 0, [])) (.leaf (13, 52, 0, 0, 0, []))) (.branch 56 (.leaf (78, 53, 22, 0, 44, [600, 602, 1])) (.branch 57 (.leaf (9, 56, 0, 3, 0, [])) (.leaf (83, 57, 0, 0, 0, [])))))))
noncomputable def abM31 : abM := ((⟨"TallBins$Reader", "takeNumber", "(II)I"⟩, prog_9_method_12_code, 4, some .int), 2, 0, 0, 7, abK31)
set_option maxRecDepth 20000 in
noncomputable def abK32 : Lean.RArray abEy := .branch 19 (.branch 8 (.branch 4 (.branch 1 (.leaf (13, 0, 0, 0, 0, [])) (.leaf (60, 1, 7, 1, 29, [229]))) (.branch 7 (.leaf (47, 4, 27, 0, 0, [])) (.leaf (13, 7, 0, 0, 0, [])))) (.branch 12 (.branch 9 (.leaf (13, 8, 0, 1, 0, [])) (.leaf (78, 9, 27, 0, 56, [619, 621, 3]))) (.branch 15 (.leaf (46, 12, 22, 0, 0, [])) (.branch 16 (.leaf (13, 15, 0, 0, 0, [])) (.leaf (78, 16, 22, 0, 44, [600, 602, 1])))))) (.branch 27 (.branch 23 (.branch 22 (.leaf (58, 19, 27, 0, 0, [])) (.leaf (13, 22, 0, 0, 0, []))) (.branch 24 (.leaf (1, 23, 0, 0, 9223372036854775809, [])) (.leaf (78, 24, 28, 0, 66, [674, 676, 4])))) (.branch 29 (.branch 28 (.leaf (13, 27, 0, 0, 0, [])) (.leaf (9, 28, 0, 2, 0, []))) (.branch 30 (.leaf (9, 29, 0, 3, 0, [])) (.branch 33 (.leaf (78, 30, 31, 0, 172, [686, 688, 7])) (.leaf (83, 33, 0, 0, 0, []))))))
noncomputable def abM32 : abM := ((⟨"TallBins$Reader", "takeNamed", "(Ljava/lang/String;II)I"⟩, prog_9_method_11_code, 4, some .int), 3, 0, 0, 7, abK32)
set_option maxRecDepth 20000 in
noncomputable def abK33 : Lean.RArray abEy := .branch 40 (.branch 21 (.branch 9 (.branch 2 (.branch 1 (.leaf (13, 0, 0, 0, 0, [])) (.leaf (1, 1, 0, 0, 9223372036854775811, []))) (.branch 3 (.leaf (13, 2, 0, 0, 0, [])) (.branch 6 (.leaf (60, 3, 7, 0, 12, [227])) (.leaf (60, 6, 10, 2, 117, [170]))))) (.branch 14 (.branch 12 (.leaf (78, 9, 30, 0, 90, [682, 684, 6])) (.branch 13 (.leaf (15, 12, 0, 1, 0, [])) (.leaf (13, 13, 0, 0, 0, [])))) (.branch 17 (.leaf (60, 14, 7, 0, 12, [227])) (.branch 18 (.leaf (44, 17, 0, 0, 0, [])) (.leaf (60, 18, 10, 2, 117, [170])))))) (.branch 28 (.branch 23 (.branch 22 (.leaf (1, 21, 0, 0, 9223372036854775809, [])) (.leaf (9, 22, 0, 1, 0, []))) (.branch 24 (.leaf (29, 23, 0, 0, 0, [])) (.branch 25 (.leaf (27, 24, 0, 0, 0, [])) (.leaf (61, 25, 10, 2, 117, [170]))))) (.branch 35 (.branch 29 (.leaf (13, 28, 0, 0, 0, [])) (.branch 32 (.leaf (60, 29, 7, 0, 12, [227])) (.leaf (60, 32, 10, 7, 120, [184])))) (.branch 36 (.leaf (9, 35, 0, 1, 0, [])) (.branch 39 (.leaf (13, 36, 0, 0, 0, [])) (.leaf (1, 39, 0, 0, 9223372036854775809, []))))))) (.branch 63 (.branch 50 (.branch 45 (.branch 42 (.leaf (2, 40, 0, 0, 9223372036854775858, [])) (.leaf (78, 42, 32, 0, 98, [691, 693, 8]))) (.branch 46 (.leaf (69, 45, 0, 0, 0, [])) (.branch 47 (.leaf (13, 46, 0, 0, 0, [])) (.leaf (60, 47, 7, 0, 12, [227]))))) (.branch 57 (.branch 53 (.leaf (60, 50, 10, 8, 125, [186])) (.branch 54 (.leaf (9, 53, 0, 1, 0, [])) (.leaf (13, 54, 0, 0, 0, [])))) (.branch 58 (.leaf (1, 57, 0, 0, 9223372036854775808, [])) (.branch 60 (.leaf (2, 58, 0, 0, 9223372036854775907, [])) (.leaf (78, 60, 32, 0, 98, [691, 693, 8])))))) (.branch 72 (.branch 65 (.branch 64 (.leaf (69, 63, 0, 0, 0, [])) (.leaf (13, 64, 0, 0, 0, []))) (.branch 68 (.leaf (60, 65, 7, 0, 12, [227])) (.branch 71 (.leaf (60, 68, 10, 9, 130, [188])) (.leaf (9, 71, 0, 1, 0, []))))) (.branch 79 (.branch 75 (.leaf (13, 72, 0, 0, 0, [])) (.branch 76 (.leaf (1, 75, 0, 0, 9223372036854775808, [])) (.leaf (3, 76, 0, 0, 9223372036854776807, [])))) (.branch 82 (.leaf (78, 79, 32, 0, 98, [691, 693, 8])) (.branch 83 (.leaf (69, 82, 0, 0, 0, [])) (.leaf (82, 83, 0, 0, 0, [])))))))
noncomputable def abM33 : abM := ((⟨"TallBins$Reader", "readGrain", "()V"⟩, prog_9_method_5_code, 2, none), 0, 0, 0, 7, abK33)
set_option maxRecDepth 20000 in
noncomputable def abK34 : Lean.RArray abEy := .branch 22 (.branch 11 (.branch 4 (.branch 3 (.leaf (13, 0, 0, 0, 0, [])) (.leaf (1, 3, 0, 0, 9223372036854775808, []))) (.branch 7 (.leaf (3, 4, 0, 0, 9223372036854785807, [])) (.branch 10 (.leaf (78, 7, 32, 0, 98, [691, 693, 8])) (.leaf (15, 10, 0, 1, 0, []))))) (.branch 15 (.branch 14 (.leaf (13, 11, 0, 0, 0, [])) (.leaf (1, 14, 0, 0, 9223372036854775808, []))) (.branch 18 (.leaf (3, 15, 0, 0, 9223372036854785807, [])) (.branch 21 (.leaf (78, 18, 32, 0, 98, [691, 693, 8])) (.leaf (15, 21, 0, 2, 0, [])))))) (.branch 31 (.branch 26 (.branch 23 (.leaf (13, 22, 0, 0, 0, [])) (.leaf (60, 23, 7, 0, 12, [227]))) (.branch 27 (.leaf (9, 26, 0, 1, 0, [])) (.branch 28 (.leaf (9, 27, 0, 2, 0, [])) (.leaf (13, 28, 0, 0, 0, []))))) (.branch 34 (.branch 32 (.leaf (1, 31, 0, 0, 9223372036854775808, [])) (.leaf (2, 32, 0, 0, 9223372036854775817, []))) (.branch 37 (.leaf (78, 34, 32, 0, 98, [691, 693, 8])) (.branch 40 (.leaf (78, 37, 35, 0, 141, [712, 713, 714])) (.leaf (82, 40, 0, 0, 0, []))))))
noncomputable def abM34 : abM := ((⟨"TallBins$Reader", "readBreath", "()V"⟩, prog_9_method_6_code, 3, none), 0, 0, 0, 7, abK34)
set_option maxRecDepth 20000 in
noncomputable def abK35 : Lean.RArray abEy := .branch 27 (.branch 14 (.branch 6 (.branch 1 (.leaf (13, 0, 0, 0, 0, [])) (.branch 4 (.leaf (60, 1, 10, 10, 62, [189])) (.leaf (2, 4, 0, 0, 9223372036854775838, [])))) (.branch 10 (.branch 9 (.leaf (55, 6, 49, 0, 0, [])) (.leaf (13, 9, 0, 0, 0, []))) (.branch 13 (.leaf (60, 10, 10, 11, 33, [190])) (.leaf (13, 13, 0, 0, 0, []))))) (.branch 19 (.branch 17 (.leaf (60, 14, 10, 10, 62, [189])) (.branch 18 (.leaf (9, 17, 0, 1, 0, [])) (.leaf (69, 18, 0, 0, 0, [])))) (.branch 23 (.branch 20 (.leaf (13, 19, 0, 0, 0, [])) (.leaf (60, 20, 10, 12, 36, [191]))) (.branch 24 (.leaf (13, 23, 0, 0, 0, [])) (.leaf (60, 24, 10, 10, 62, [189])))))) (.branch 38 (.branch 30 (.branch 28 (.leaf (9, 27, 0, 2, 0, [])) (.branch 29 (.leaf (69, 28, 0, 0, 0, [])) (.leaf (13, 29, 0, 0, 0, [])))) (.branch 34 (.branch 33 (.leaf (60, 30, 10, 13, 39, [192])) (.leaf (13, 33, 0, 0, 0, []))) (.branch 37 (.leaf (60, 34, 10, 10, 62, [189])) (.leaf (9, 37, 0, 3, 0, []))))) (.branch 44 (.branch 40 (.branch 39 (.leaf (69, 38, 0, 0, 0, [])) (.leaf (13, 39, 0, 0, 0, []))) (.branch 41 (.leaf (44, 40, 0, 0, 0, [])) (.leaf (60, 41, 10, 10, 62, [189])))) (.branch 46 (.branch 45 (.leaf (1, 44, 0, 0, 9223372036854775809, [])) (.leaf (21, 45, 0, 0, 0, []))) (.branch 49 (.leaf (61, 46, 10, 10, 62, [189])) (.leaf (82, 49, 0, 0, 0, []))))))
noncomputable def abM35 : abM := ((⟨"TallBins$Rules", "addBreath", "(III)V"⟩, prog_12_method_4_code, 4, none), 3, 0, 0, 10, abK35)
set_option maxRecDepth 20000 in
noncomputable def abK36 : Lean.RArray abEy := .branch 40 (.branch 18 (.branch 7 (.branch 4 (.branch 1 (.leaf (13, 0, 0, 0, 0, [])) (.leaf (78, 1, 37, 0, 145, [720, 722, 12]))) (.branch 5 (.leaf (1, 4, 0, 0, 9223372036854775809, [])) (.branch 6 (.leaf (15, 5, 0, 1, 0, [])) (.leaf (9, 6, 0, 1, 0, []))))) (.branch 11 (.branch 8 (.leaf (1, 7, 0, 0, 9223372036854775811, [])) (.leaf (56, 8, 75, 0, 0, []))) (.branch 12 (.leaf (13, 11, 0, 0, 0, [])) (.branch 15 (.leaf (60, 12, 7, 1, 29, [229])) (.leaf (47, 15, 75, 0, 0, [])))))) (.branch 31 (.branch 24 (.branch 21 (.leaf (13, 18, 0, 0, 0, [])) (.leaf (78, 21, 27, 0, 56, [619, 621, 3]))) (.branch 27 (.leaf (46, 24, 75, 0, 0, [])) (.branch 28 (.leaf (13, 27, 0, 0, 0, [])) (.leaf (78, 28, 22, 0, 44, [600, 602, 1]))))) (.branch 33 (.branch 32 (.leaf (9, 31, 0, 1, 0, [])) (.leaf (1, 32, 0, 0, 9223372036854775811, []))) (.branch 36 (.leaf (53, 33, 65, 0, 0, [])) (.branch 37 (.leaf (13, 36, 0, 0, 0, [])) (.leaf (13, 37, 0, 0, 0, []))))))) (.branch 62 (.branch 51 (.branch 46 (.branch 43 (.leaf (78, 40, 27, 0, 56, [619, 621, 3])) (.leaf (47, 43, 54, 0, 0, []))) (.branch 47 (.leaf (13, 46, 0, 0, 0, [])) (.branch 50 (.leaf (78, 47, 38, 0, 152, [725, 727, 13])) (.leaf (1, 50, 0, 0, 9223372036854775807, []))))) (.branch 55 (.branch 54 (.leaf (52, 51, 58, 0, 0, [])) (.leaf (1, 54, 0, 0, 9223372036854775811, []))) (.branch 58 (.leaf (58, 55, 59, 0, 0, [])) (.branch 59 (.leaf (1, 58, 0, 0, 9223372036854775809, [])) (.leaf (78, 59, 28, 0, 66, [674, 676, 4])))))) (.branch 75 (.branch 66 (.branch 65 (.leaf (58, 62, 69, 0, 0, [])) (.leaf (13, 65, 0, 0, 0, []))) (.branch 69 (.leaf (78, 66, 37, 0, 145, [720, 722, 12])) (.branch 72 (.leaf (20, 69, 0, 1, 9223372036854775809, [])) (.leaf (58, 72, 6, 0, 0, []))))) (.branch 79 (.branch 76 (.leaf (13, 75, 0, 0, 0, [])) (.leaf (60, 76, 7, 0, 12, [227]))) (.branch 82 (.leaf (60, 79, 10, 14, 156, [194])) (.branch 85 (.leaf (78, 82, 41, 0, 160, [744, 745, 746])) (.leaf (82, 85, 0, 0, 0, [])))))))
noncomputable def abM36 : abM := ((⟨"TallBins$Reader", "readBar", "()V"⟩, prog_9_method_7_code, 2, none), 0, 0, 0, 7, abK36)
set_option maxRecDepth 20000 in
noncomputable def abK37 : Lean.RArray abEy := .branch 52 (.branch 26 (.branch 15 (.branch 7 (.branch 3 (.leaf (13, 0, 0, 0, 0, [])) (.branch 6 (.leaf (78, 3, 27, 0, 56, [619, 621, 3])) (.leaf (15, 6, 0, 1, 0, [])))) (.branch 11 (.branch 8 (.leaf (9, 7, 0, 1, 0, [])) (.leaf (46, 8, 15, 0, 0, []))) (.branch 12 (.leaf (13, 11, 0, 0, 0, [])) (.leaf (78, 12, 22, 0, 44, [600, 602, 1]))))) (.branch 20 (.branch 16 (.leaf (13, 15, 0, 0, 0, [])) (.branch 19 (.leaf (78, 16, 38, 0, 152, [725, 727, 13])) (.leaf (15, 19, 0, 2, 0, [])))) (.branch 22 (.branch 21 (.leaf (9, 20, 0, 2, 0, [])) (.leaf (1, 21, 0, 0, 9223372036854775807, []))) (.branch 25 (.leaf (53, 22, 31, 0, 0, [])) (.leaf (13, 25, 0, 0, 0, [])))))) (.branch 37 (.branch 31 (.branch 27 (.leaf (1, 26, 0, 0, 9223372036854775809, [])) (.branch 30 (.leaf (78, 27, 28, 0, 66, [674, 676, 4])) (.leaf (82, 30, 0, 0, 0, [])))) (.branch 35 (.branch 32 (.leaf (13, 31, 0, 0, 0, [])) (.leaf (78, 32, 22, 0, 44, [600, 602, 1]))) (.branch 36 (.leaf (9, 35, 0, 2, 0, [])) (.leaf (1, 36, 0, 0, 9223372036854775812, []))))) (.branch 42 (.branch 40 (.leaf (52, 37, 45, 0, 0, [])) (.branch 41 (.leaf (9, 40, 0, 2, 0, [])) (.leaf (1, 41, 0, 0, 9223372036854775813, [])))) (.branch 46 (.branch 45 (.leaf (53, 42, 60, 0, 0, [])) (.leaf (13, 45, 0, 0, 0, []))) (.branch 49 (.leaf (60, 46, 7, 0, 12, [227])) (.leaf (60, 49, 10, 14, 156, [194]))))))) (.branch 74 (.branch 61 (.branch 55 (.branch 53 (.leaf (9, 52, 0, 1, 0, [])) (.branch 54 (.leaf (9, 53, 0, 2, 0, [])) (.leaf (1, 54, 0, 0, 9223372036854775808, [])))) (.branch 59 (.branch 56 (.leaf (1, 55, 0, 0, 9223372036854775808, [])) (.leaf (78, 56, 39, 0, 165, [735, 736, 737]))) (.branch 60 (.leaf (82, 59, 0, 0, 0, [])) (.leaf (13, 60, 0, 0, 0, []))))) (.branch 66 (.branch 64 (.leaf (60, 61, 7, 6, 169, [236])) (.branch 65 (.leaf (15, 64, 0, 3, 0, [])) (.leaf (13, 65, 0, 0, 0, [])))) (.branch 69 (.branch 67 (.leaf (9, 66, 0, 3, 0, [])) (.leaf (2, 67, 0, 0, 9223372036854775868, []))) (.branch 72 (.leaf (53, 69, 77, 0, 0, [])) (.leaf (2, 72, 0, 0, 9223372036854775868, [])))))) (.branch 90 (.branch 82 (.branch 77 (.leaf (58, 74, 79, 0, 0, [])) (.branch 79 (.leaf (2, 77, 0, 0, 9223372036854775870, [])) (.leaf (78, 79, 40, 0, 81, [739, 741, 14])))) (.branch 86 (.branch 83 (.leaf (13, 82, 0, 0, 0, [])) (.leaf (60, 83, 7, 0, 12, [227]))) (.branch 89 (.leaf (60, 86, 10, 14, 156, [194])) (.leaf (9, 89, 0, 1, 0, []))))) (.branch 94 (.branch 92 (.branch 91 (.leaf (9, 90, 0, 2, 0, [])) (.leaf (9, 91, 0, 3, 0, []))) (.branch 93 (.leaf (13, 92, 0, 0, 0, [])) (.leaf (1, 93, 0, 0, 9223372036854775808, [])))) (.branch 100 (.branch 97 (.leaf (3, 94, 0, 0, 9223372036854785807, [])) (.leaf (78, 97, 31, 0, 172, [686, 688, 7]))) (.branch 103 (.leaf (78, 100, 39, 0, 165, [735, 736, 737])) (.leaf (82, 103, 0, 0, 0, [])))))))
noncomputable def abM37 : abM := ((⟨"TallBins$Reader", "readCond", "()V"⟩, prog_9_method_8_code, 4, none), 0, 0, 0, 7, abK37)
set_option maxRecDepth 20000 in
noncomputable def abK38 : Lean.RArray abEy := .branch 36 (.branch 20 (.branch 10 (.branch 6 (.branch 3 (.leaf (13, 0, 0, 0, 0, [])) (.leaf (78, 3, 27, 0, 56, [619, 621, 3]))) (.branch 9 (.leaf (46, 6, 11, 0, 0, [])) (.leaf (1, 9, 0, 0, 9223372036854775808, [])))) (.branch 14 (.branch 11 (.leaf (83, 10, 0, 0, 0, [])) (.leaf (13, 11, 0, 0, 0, []))) (.branch 17 (.leaf (78, 14, 27, 0, 56, [619, 621, 3])) (.leaf (46, 17, 22, 0, 0, []))))) (.branch 28 (.branch 22 (.branch 21 (.leaf (1, 20, 0, 0, 9223372036854775809, [])) (.leaf (83, 21, 0, 0, 0, []))) (.branch 25 (.leaf (13, 22, 0, 0, 0, [])) (.leaf (78, 25, 27, 0, 56, [619, 621, 3])))) (.branch 32 (.branch 31 (.leaf (46, 28, 33, 0, 0, [])) (.leaf (1, 31, 0, 0, 9223372036854775810, []))) (.branch 33 (.leaf (83, 32, 0, 0, 0, [])) (.leaf (13, 33, 0, 0, 0, [])))))) (.branch 54 (.branch 44 (.branch 42 (.branch 39 (.leaf (78, 36, 27, 0, 56, [619, 621, 3])) (.leaf (46, 39, 44, 0, 0, []))) (.branch 43 (.leaf (1, 42, 0, 0, 9223372036854775811, [])) (.leaf (83, 43, 0, 0, 0, [])))) (.branch 50 (.branch 47 (.leaf (13, 44, 0, 0, 0, [])) (.leaf (78, 47, 27, 0, 56, [619, 621, 3]))) (.branch 53 (.leaf (46, 50, 55, 0, 0, [])) (.leaf (1, 53, 0, 0, 9223372036854775812, []))))) (.branch 64 (.branch 58 (.branch 55 (.leaf (83, 54, 0, 0, 0, [])) (.leaf (13, 55, 0, 0, 0, []))) (.branch 61 (.leaf (78, 58, 27, 0, 56, [619, 621, 3])) (.leaf (46, 61, 68, 0, 0, [])))) (.branch 68 (.branch 65 (.leaf (1, 64, 0, 0, 9223372036854775813, [])) (.leaf (58, 65, 69, 0, 0, []))) (.branch 69 (.leaf (1, 68, 0, 0, 9223372036854775807, [])) (.leaf (83, 69, 0, 0, 0, []))))))
noncomputable def abM38 : abM := ((⟨"TallBins$Reader", "condWord", "()I"⟩, prog_9_method_9_code, 1, some .int), 0, 0, 0, 7, abK38)
set_option maxRecDepth 20000 in
noncomputable def abK39 : Lean.RArray abEy := .branch 32 (.branch 17 (.branch 8 (.branch 4 (.branch 1 (.leaf (13, 0, 0, 0, 0, [])) (.leaf (60, 1, 0, 1, 32, [132]))) (.branch 5 (.leaf (13, 4, 0, 0, 0, [])) (.leaf (60, 5, 0, 3, 15, [134])))) (.branch 12 (.branch 9 (.leaf (68, 8, 0, 0, 0, [])) (.leaf (55, 9, 63, 0, 0, []))) (.branch 13 (.leaf (13, 12, 0, 0, 0, [])) (.branch 16 (.leaf (60, 13, 0, 4, 18, [135])) (.leaf (13, 16, 0, 0, 0, [])))))) (.branch 23 (.branch 21 (.branch 20 (.leaf (60, 17, 0, 1, 32, [132])) (.leaf (9, 20, 0, 1, 0, []))) (.branch 22 (.leaf (70, 21, 0, 0, 0, [])) (.leaf (13, 22, 0, 0, 0, [])))) (.branch 27 (.branch 26 (.leaf (60, 23, 0, 3, 15, [134])) (.leaf (13, 26, 0, 0, 0, []))) (.branch 30 (.leaf (60, 27, 0, 1, 32, [132])) (.branch 31 (.leaf (9, 30, 0, 2, 0, [])) (.leaf (69, 31, 0, 0, 0, []))))))) (.branch 47 (.branch 40 (.branch 36 (.branch 33 (.leaf (13, 32, 0, 0, 0, [])) (.leaf (60, 33, 0, 5, 22, [136]))) (.branch 37 (.leaf (13, 36, 0, 0, 0, [])) (.leaf (60, 37, 0, 1, 32, [132])))) (.branch 42 (.branch 41 (.leaf (9, 40, 0, 3, 0, [])) (.leaf (69, 41, 0, 0, 0, []))) (.branch 43 (.leaf (13, 42, 0, 0, 0, [])) (.branch 46 (.leaf (60, 43, 0, 6, 25, [137])) (.leaf (13, 46, 0, 0, 0, [])))))) (.branch 55 (.branch 52 (.branch 50 (.leaf (60, 47, 0, 1, 32, [132])) (.leaf (8, 50, 0, 4, 0, []))) (.branch 53 (.leaf (69, 52, 0, 0, 0, [])) (.branch 54 (.leaf (13, 53, 0, 0, 0, [])) (.leaf (44, 54, 0, 0, 0, []))))) (.branch 59 (.branch 58 (.leaf (60, 55, 0, 1, 32, [132])) (.leaf (1, 58, 0, 0, 9223372036854775809, []))) (.branch 60 (.leaf (21, 59, 0, 0, 0, [])) (.branch 63 (.leaf (61, 60, 0, 1, 32, [132])) (.leaf (82, 63, 0, 0, 0, [])))))))
noncomputable def abM39 : abM := ((⟨"TallBins$Bars", "addCond", "(ZIII)V"⟩, prog_2_method_4_code, 5, none), 4, 0, 0, 0, abK39)
set_option maxRecDepth 20000 in
noncomputable def abK40 : Lean.RArray abEy := .branch 17 (.branch 8 (.branch 4 (.branch 1 (.leaf (13, 0, 0, 0, 0, [])) (.leaf (60, 1, 7, 1, 29, [229]))) (.branch 7 (.leaf (46, 4, 8, 0, 0, [])) (.leaf (82, 7, 0, 0, 0, [])))) (.branch 12 (.branch 9 (.leaf (13, 8, 0, 0, 0, [])) (.leaf (60, 9, 7, 5, 47, [235]))) (.branch 13 (.leaf (1, 12, 0, 0, 9223372036854775811, [])) (.branch 16 (.leaf (53, 13, 31, 0, 0, [])) (.leaf (13, 16, 0, 0, 0, [])))))) (.branch 28 (.branch 21 (.branch 20 (.leaf (60, 17, 7, 6, 169, [236])) (.leaf (9, 20, 0, 1, 0, []))) (.branch 24 (.leaf (53, 21, 31, 0, 0, [])) (.branch 25 (.leaf (13, 24, 0, 0, 0, [])) (.leaf (78, 25, 22, 0, 44, [600, 602, 1]))))) (.branch 32 (.branch 31 (.leaf (58, 28, 36, 0, 0, [])) (.leaf (13, 31, 0, 0, 0, []))) (.branch 33 (.leaf (1, 32, 0, 0, 9223372036854775809, [])) (.branch 36 (.leaf (78, 33, 28, 0, 66, [674, 676, 4])) (.leaf (82, 36, 0, 0, 0, []))))))
noncomputable def abM40 : abM := ((⟨"TallBins$Reader", "takeSign", "(I)V"⟩, prog_9_method_13_code, 2, none), 1, 0, 0, 7, abK40)
set_option maxRecDepth 20000 in
noncomputable def abK41 : Lean.RArray abEy := .branch 18 (.branch 9 (.branch 4 (.branch 1 (.leaf (13, 0, 0, 0, 0, [])) (.leaf (60, 1, 0, 0, 28, [130]))) (.branch 6 (.leaf (2, 4, 0, 0, 9223372036854775838, [])) (.leaf (55, 6, 32, 0, 0, [])))) (.branch 13 (.branch 10 (.leaf (13, 9, 0, 0, 0, [])) (.leaf (60, 10, 0, 2, 9, [133]))) (.branch 14 (.leaf (13, 13, 0, 0, 0, [])) (.branch 17 (.leaf (60, 14, 0, 0, 28, [130])) (.leaf (13, 17, 0, 0, 0, [])))))) (.branch 24 (.branch 22 (.branch 21 (.leaf (60, 18, 0, 1, 32, [132])) (.leaf (69, 21, 0, 0, 0, []))) (.branch 23 (.leaf (13, 22, 0, 0, 0, [])) (.leaf (44, 23, 0, 0, 0, [])))) (.branch 28 (.branch 27 (.leaf (60, 24, 0, 0, 28, [130])) (.leaf (1, 27, 0, 0, 9223372036854775809, []))) (.branch 29 (.leaf (21, 28, 0, 0, 0, [])) (.branch 32 (.leaf (61, 29, 0, 0, 28, [130])) (.leaf (82, 32, 0, 0, 0, []))))))
noncomputable def abM41 : abM := ((⟨"TallBins$Bars", "close", "()V"⟩, prog_2_method_5_code, 1, none), 0, 0, 0, 0, abK41)
set_option maxRecDepth 20000 in
noncomputable def abK42 : Lean.RArray abEy := .branch 46 (.branch 22 (.branch 10 (.branch 5 (.branch 1 (.leaf (13, 0, 0, 0, 0, [])) (.branch 4 (.leaf (60, 1, 4, 0, 12, [394])) (.leaf (13, 4, 0, 1, 0, [])))) (.branch 8 (.leaf (78, 5, 43, 0, 40, [752, 753, 754])) (.branch 9 (.leaf (1, 8, 0, 0, 9223372036854775808, [])) (.leaf (15, 9, 0, 2, 0, []))))) (.branch 16 (.branch 11 (.leaf (9, 10, 0, 2, 0, [])) (.branch 13 (.leaf (2, 11, 0, 0, 9223372036854775814, [])) (.leaf (55, 13, 94, 0, 0, [])))) (.branch 20 (.branch 17 (.leaf (13, 16, 0, 0, 0, [])) (.leaf (60, 17, 4, 1, 20, [396]))) (.branch 21 (.leaf (9, 20, 0, 2, 0, [])) (.leaf (67, 21, 0, 0, 0, [])))))) (.branch 35 (.branch 27 (.branch 23 (.leaf (13, 22, 0, 1, 0, [])) (.branch 26 (.leaf (60, 23, 10, 3, 75, [172])) (.leaf (9, 26, 0, 2, 0, [])))) (.branch 31 (.branch 28 (.leaf (64, 27, 0, 0, 0, [])) (.leaf (61, 28, 1, 0, 78, [339]))) (.branch 32 (.leaf (13, 31, 0, 0, 0, [])) (.leaf (60, 32, 4, 1, 20, [396]))))) (.branch 38 (.branch 36 (.leaf (9, 35, 0, 2, 0, [])) (.branch 37 (.leaf (67, 36, 0, 0, 0, [])) (.leaf (13, 37, 0, 1, 0, [])))) (.branch 42 (.branch 41 (.leaf (60, 38, 10, 4, 80, [175])) (.leaf (9, 41, 0, 2, 0, []))) (.branch 43 (.leaf (64, 42, 0, 0, 0, [])) (.leaf (61, 43, 1, 1, 83, [343]))))))) (.branch 67 (.branch 56 (.branch 51 (.branch 47 (.leaf (13, 46, 0, 0, 0, [])) (.branch 50 (.leaf (60, 47, 4, 1, 20, [396])) (.leaf (9, 50, 0, 2, 0, [])))) (.branch 52 (.leaf (67, 51, 0, 0, 0, [])) (.branch 53 (.leaf (13, 52, 0, 1, 0, [])) (.leaf (60, 53, 10, 5, 86, [178]))))) (.branch 61 (.branch 57 (.leaf (9, 56, 0, 2, 0, [])) (.branch 58 (.leaf (64, 57, 0, 0, 0, [])) (.leaf (61, 58, 1, 2, 89, [345])))) (.branch 65 (.branch 62 (.leaf (13, 61, 0, 0, 0, [])) (.leaf (60, 62, 4, 1, 20, [396]))) (.branch 66 (.leaf (9, 65, 0, 2, 0, [])) (.leaf (67, 66, 0, 0, 0, [])))))) (.branch 80 (.branch 72 (.branch 68 (.leaf (13, 67, 0, 1, 0, [])) (.branch 71 (.leaf (60, 68, 10, 6, 92, [181])) (.leaf (9, 71, 0, 2, 0, [])))) (.branch 76 (.branch 73 (.leaf (64, 72, 0, 0, 0, [])) (.leaf (61, 73, 1, 3, 95, [347]))) (.branch 77 (.leaf (13, 76, 0, 0, 0, [])) (.leaf (60, 77, 4, 1, 20, [396]))))) (.branch 85 (.branch 81 (.leaf (9, 80, 0, 2, 0, [])) (.branch 82 (.leaf (67, 81, 0, 0, 0, [])) (.leaf (60, 82, 1, 9, 98, [368])))) (.branch 91 (.branch 88 (.leaf (78, 85, 10, 0, 102, [764, 298, 299])) (.leaf (20, 88, 0, 2, 9223372036854775809, []))) (.branch 94 (.leaf (58, 91, 10, 0, 0, [])) (.leaf (82, 94, 0, 0, 0, [])))))))
noncomputable def abM42 : abM := ((⟨"TallBins$House", "tell", "(LTallBins$Rules;)V"⟩, prog_6_method_4_code, 3, none), 1, 0, 0, 4, abK42)
set_option maxRecDepth 20000 in
noncomputable def abK43 : Lean.RArray abEy := .branch 97 (.branch 48 (.branch 24 (.branch 10 (.branch 5 (.branch 1 (.leaf (13, 0, 0, 0, 0, [])) (.branch 2 (.leaf (13, 1, 0, 1, 0, [])) (.leaf (60, 2, 10, 0, 52, [164])))) (.branch 8 (.leaf (61, 5, 10, 0, 52, [164])) (.branch 9 (.leaf (13, 8, 0, 0, 0, [])) (.leaf (13, 9, 0, 1, 0, []))))) (.branch 17 (.branch 13 (.leaf (60, 10, 10, 1, 56, [167])) (.branch 16 (.leaf (61, 13, 10, 1, 56, [167])) (.leaf (13, 16, 0, 0, 0, [])))) (.branch 18 (.leaf (13, 17, 0, 1, 0, [])) (.branch 21 (.leaf (60, 18, 10, 2, 59, [169])) (.leaf (61, 21, 10, 2, 59, [169])))))) (.branch 36 (.branch 29 (.branch 25 (.leaf (13, 24, 0, 0, 0, [])) (.branch 26 (.leaf (13, 25, 0, 1, 0, [])) (.leaf (60, 26, 10, 10, 62, [189])))) (.branch 32 (.leaf (61, 29, 10, 10, 62, [189])) (.branch 33 (.leaf (13, 32, 0, 1, 0, [])) (.leaf (60, 33, 10, 3, 9, [171]))))) (.branch 41 (.branch 37 (.leaf (1, 36, 0, 0, 9223372036854775808, [])) (.branch 38 (.leaf (13, 37, 0, 0, 0, [])) (.leaf (60, 38, 10, 3, 9, [171])))) (.branch 44 (.branch 42 (.leaf (1, 41, 0, 0, 9223372036854775808, [])) (.leaf (2, 42, 0, 0, 9223372036854775814, []))) (.branch 47 (.leaf (77, 44, 0, 0, 66, [756, 758, 757, 102])) (.leaf (13, 47, 0, 1, 0, []))))))) (.branch 72 (.branch 59 (.branch 53 (.branch 51 (.leaf (60, 48, 10, 4, 15, [174])) (.branch 52 (.leaf (1, 51, 0, 0, 9223372036854775808, [])) (.leaf (13, 52, 0, 0, 0, [])))) (.branch 56 (.leaf (60, 53, 10, 4, 15, [174])) (.branch 57 (.leaf (1, 56, 0, 0, 9223372036854775808, [])) (.leaf (2, 57, 0, 0, 9223372036854775814, []))))) (.branch 66 (.branch 62 (.leaf (77, 59, 0, 0, 66, [756, 758, 757, 102])) (.branch 63 (.leaf (13, 62, 0, 1, 0, [])) (.leaf (60, 63, 10, 5, 18, [177])))) (.branch 68 (.branch 67 (.leaf (1, 66, 0, 0, 9223372036854775808, [])) (.leaf (13, 67, 0, 0, 0, []))) (.branch 71 (.leaf (60, 68, 10, 5, 18, [177])) (.leaf (1, 71, 0, 0, 9223372036854775808, [])))))) (.branch 83 (.branch 78 (.branch 74 (.leaf (2, 72, 0, 0, 9223372036854775814, [])) (.branch 77 (.leaf (77, 74, 0, 0, 66, [756, 758, 757, 102])) (.leaf (13, 77, 0, 1, 0, [])))) (.branch 81 (.leaf (60, 78, 10, 6, 21, [180])) (.branch 82 (.leaf (1, 81, 0, 0, 9223372036854775808, [])) (.leaf (13, 82, 0, 0, 0, []))))) (.branch 89 (.branch 86 (.leaf (60, 83, 10, 6, 21, [180])) (.branch 87 (.leaf (1, 86, 0, 0, 9223372036854775808, [])) (.leaf (2, 87, 0, 0, 9223372036854775814, [])))) (.branch 93 (.branch 92 (.leaf (77, 89, 0, 0, 66, [756, 758, 757, 102])) (.leaf (13, 92, 0, 1, 0, []))) (.branch 96 (.leaf (60, 93, 10, 7, 24, [183])) (.leaf (1, 96, 0, 0, 9223372036854775808, [])))))))) (.branch 140 (.branch 117 (.branch 107 (.branch 102 (.branch 98 (.leaf (13, 97, 0, 0, 0, [])) (.branch 101 (.leaf (60, 98, 10, 7, 24, [183])) (.leaf (1, 101, 0, 0, 9223372036854775808, [])))) (.branch 103 (.leaf (1, 102, 0, 0, 9223372036854775812, [])) (.branch 106 (.leaf (77, 103, 0, 0, 66, [756, 758, 757, 102])) (.leaf (13, 106, 0, 1, 0, []))))) (.branch 112 (.branch 110 (.leaf (60, 107, 10, 8, 27, [185])) (.branch 111 (.leaf (1, 110, 0, 0, 9223372036854775808, [])) (.leaf (13, 111, 0, 0, 0, [])))) (.branch 115 (.leaf (60, 112, 10, 8, 27, [185])) (.branch 116 (.leaf (1, 115, 0, 0, 9223372036854775808, [])) (.leaf (1, 116, 0, 0, 9223372036854775812, [])))))) (.branch 129 (.branch 124 (.branch 120 (.leaf (77, 117, 0, 0, 66, [756, 758, 757, 102])) (.branch 121 (.leaf (13, 120, 0, 1, 0, [])) (.leaf (60, 121, 10, 9, 30, [187])))) (.branch 125 (.leaf (1, 124, 0, 0, 9223372036854775808, [])) (.branch 126 (.leaf (13, 125, 0, 0, 0, [])) (.leaf (60, 126, 10, 9, 30, [187]))))) (.branch 134 (.branch 130 (.leaf (1, 129, 0, 0, 9223372036854775808, [])) (.branch 131 (.leaf (1, 130, 0, 0, 9223372036854775812, [])) (.leaf (77, 131, 0, 0, 66, [756, 758, 757, 102])))) (.branch 138 (.branch 135 (.leaf (13, 134, 0, 1, 0, [])) (.leaf (60, 135, 10, 11, 33, [190]))) (.branch 139 (.leaf (1, 138, 0, 0, 9223372036854775808, [])) (.leaf (13, 139, 0, 0, 0, []))))))) (.branch 165 (.branch 153 (.branch 146 (.branch 143 (.leaf (60, 140, 10, 11, 33, [190])) (.branch 144 (.leaf (1, 143, 0, 0, 9223372036854775808, [])) (.leaf (2, 144, 0, 0, 9223372036854775838, [])))) (.branch 149 (.leaf (77, 146, 0, 0, 66, [756, 758, 757, 102])) (.branch 150 (.leaf (13, 149, 0, 1, 0, [])) (.leaf (60, 150, 10, 12, 36, [191]))))) (.branch 158 (.branch 154 (.leaf (1, 153, 0, 0, 9223372036854775808, [])) (.branch 155 (.leaf (13, 154, 0, 0, 0, [])) (.leaf (60, 155, 10, 12, 36, [191])))) (.branch 161 (.branch 159 (.leaf (1, 158, 0, 0, 9223372036854775808, [])) (.leaf (2, 159, 0, 0, 9223372036854775838, []))) (.branch 164 (.leaf (77, 161, 0, 0, 66, [756, 758, 757, 102])) (.leaf (13, 164, 0, 1, 0, [])))))) (.branch 176 (.branch 170 (.branch 168 (.leaf (60, 165, 10, 13, 39, [192])) (.branch 169 (.leaf (1, 168, 0, 0, 9223372036854775808, [])) (.leaf (13, 169, 0, 0, 0, [])))) (.branch 173 (.leaf (60, 170, 10, 13, 39, [192])) (.branch 174 (.leaf (1, 173, 0, 0, 9223372036854775808, [])) (.leaf (2, 174, 0, 0, 9223372036854775838, []))))) (.branch 183 (.branch 179 (.leaf (77, 176, 0, 0, 66, [756, 758, 757, 102])) (.branch 180 (.leaf (13, 179, 0, 0, 0, [])) (.leaf (60, 180, 10, 14, 45, [193])))) (.branch 187 (.branch 184 (.leaf (13, 183, 0, 1, 0, [])) (.leaf (60, 184, 10, 14, 45, [193]))) (.branch 190 (.leaf (78, 187, 44, 0, 72, [759, 760, 761])) (.leaf (82, 190, 0, 0, 0, []))))))))
noncomputable def abM43 : abM := ((⟨"TallBins$Rules", "copyFrom", "(LTallBins$Rules;)V"⟩, prog_12_method_3_code, 2, none), 1, 0, 0, 10, abK43)
set_option maxRecDepth 20000 in
noncomputable def abK44 : Lean.RArray abEy := .branch 51 (.branch 25 (.branch 10 (.branch 5 (.branch 1 (.leaf (13, 0, 0, 0, 0, [])) (.branch 2 (.leaf (13, 1, 0, 1, 0, [])) (.leaf (60, 2, 0, 0, 28, [130])))) (.branch 8 (.leaf (61, 5, 0, 0, 28, [130])) (.branch 9 (.leaf (13, 8, 0, 0, 0, [])) (.leaf (13, 9, 0, 1, 0, []))))) (.branch 17 (.branch 13 (.leaf (60, 10, 0, 1, 32, [132])) (.branch 16 (.leaf (61, 13, 0, 1, 32, [132])) (.leaf (13, 16, 0, 1, 0, [])))) (.branch 21 (.branch 20 (.leaf (60, 17, 0, 2, 9, [133])) (.leaf (1, 20, 0, 0, 9223372036854775808, []))) (.branch 22 (.leaf (13, 21, 0, 0, 0, [])) (.leaf (60, 22, 0, 2, 9, [133])))))) (.branch 38 (.branch 30 (.branch 26 (.leaf (1, 25, 0, 0, 9223372036854775808, [])) (.branch 27 (.leaf (13, 26, 0, 0, 0, [])) (.leaf (60, 27, 0, 0, 28, [130])))) (.branch 34 (.branch 33 (.leaf (77, 30, 0, 0, 35, [763, 758, 757, 102])) (.leaf (13, 33, 0, 1, 0, []))) (.branch 37 (.leaf (60, 34, 0, 3, 15, [134])) (.leaf (1, 37, 0, 0, 9223372036854775808, []))))) (.branch 43 (.branch 39 (.leaf (13, 38, 0, 0, 0, [])) (.branch 42 (.leaf (60, 39, 0, 3, 15, [134])) (.leaf (1, 42, 0, 0, 9223372036854775808, [])))) (.branch 47 (.branch 44 (.leaf (13, 43, 0, 0, 0, [])) (.leaf (60, 44, 0, 1, 32, [132]))) (.branch 50 (.leaf (77, 47, 0, 0, 35, [763, 758, 757, 102])) (.leaf (13, 50, 0, 1, 0, []))))))) (.branch 76 (.branch 61 (.branch 56 (.branch 54 (.leaf (60, 51, 0, 4, 18, [135])) (.branch 55 (.leaf (1, 54, 0, 0, 9223372036854775808, [])) (.leaf (13, 55, 0, 0, 0, [])))) (.branch 59 (.leaf (60, 56, 0, 4, 18, [135])) (.branch 60 (.leaf (1, 59, 0, 0, 9223372036854775808, [])) (.leaf (13, 60, 0, 0, 0, []))))) (.branch 68 (.branch 64 (.leaf (60, 61, 0, 1, 32, [132])) (.branch 67 (.leaf (77, 64, 0, 0, 35, [763, 758, 757, 102])) (.leaf (13, 67, 0, 1, 0, [])))) (.branch 72 (.branch 71 (.leaf (60, 68, 0, 5, 22, [136])) (.leaf (1, 71, 0, 0, 9223372036854775808, []))) (.branch 73 (.leaf (13, 72, 0, 0, 0, [])) (.leaf (60, 73, 0, 5, 22, [136])))))) (.branch 89 (.branch 81 (.branch 77 (.leaf (1, 76, 0, 0, 9223372036854775808, [])) (.branch 78 (.leaf (13, 77, 0, 0, 0, [])) (.leaf (60, 78, 0, 1, 32, [132])))) (.branch 85 (.branch 84 (.leaf (77, 81, 0, 0, 35, [763, 758, 757, 102])) (.leaf (13, 84, 0, 1, 0, []))) (.branch 88 (.leaf (60, 85, 0, 6, 25, [137])) (.leaf (1, 88, 0, 0, 9223372036854775808, []))))) (.branch 94 (.branch 90 (.leaf (13, 89, 0, 0, 0, [])) (.branch 93 (.leaf (60, 90, 0, 6, 25, [137])) (.leaf (1, 93, 0, 0, 9223372036854775808, [])))) (.branch 98 (.branch 95 (.leaf (13, 94, 0, 0, 0, [])) (.leaf (60, 95, 0, 1, 32, [132]))) (.branch 101 (.leaf (77, 98, 0, 0, 35, [763, 758, 757, 102])) (.leaf (82, 101, 0, 0, 0, [])))))))
noncomputable def abM44 : abM := ((⟨"TallBins$Bars", "copyFrom", "(LTallBins$Bars;)V"⟩, prog_2_method_3_code, 2, none), 1, 0, 0, 0, abK44)
set_option maxRecDepth 20000 in
noncomputable def abK45 : Lean.RArray abEy := .branch 13 (.branch 5 (.branch 1 (.leaf (9, 0, 0, 1, 0, [])) (.branch 4 (.leaf (47, 1, 12, 0, 0, [])) (.leaf (13, 4, 0, 0, 0, [])))) (.branch 11 (.branch 8 (.leaf (60, 5, 11, 2, 18, [530])) (.leaf (60, 8, 7, 1, 93, [230]))) (.branch 12 (.leaf (83, 11, 0, 0, 0, [])) (.leaf (9, 12, 0, 1, 0, []))))) (.branch 21 (.branch 17 (.branch 14 (.leaf (1, 13, 0, 0, 9223372036854775809, [])) (.leaf (53, 14, 27, 0, 0, []))) (.branch 18 (.leaf (13, 17, 0, 0, 0, [])) (.leaf (60, 18, 11, 2, 18, [530])))) (.branch 27 (.branch 24 (.leaf (60, 21, 7, 2, 116, [232])) (.leaf (58, 24, 28, 0, 0, []))) (.branch 28 (.leaf (1, 27, 0, 0, 9223372036854775807, [])) (.leaf (83, 28, 0, 0, 0, [])))))
noncomputable def abM45 : abM := ((⟨"TallBins", "fault", "(I)I"⟩, prog_1_method_6_code, 2, some .int), 1, 0, 0, 11, abK45)
set_option maxRecDepth 20000 in
noncomputable def abK46 : Lean.RArray abEy := .branch 8 (.branch 3 (.branch 1 (.leaf (13, 0, 0, 0, 0, [])) (.branch 2 (.leaf (9, 1, 0, 1, 0, [])) (.leaf (9, 2, 0, 2, 0, [])))) (.branch 5 (.branch 4 (.leaf (40, 3, 0, 0, 0, [])) (.leaf (9, 4, 0, 3, 0, []))) (.branch 6 (.leaf (40, 5, 0, 0, 0, [])) (.leaf (8, 6, 0, 4, 0, []))))) (.branch 12 (.branch 9 (.leaf (40, 8, 0, 0, 0, [])) (.branch 11 (.leaf (8, 9, 0, 5, 0, [])) (.leaf (40, 11, 0, 0, 0, [])))) (.branch 15 (.branch 14 (.leaf (8, 12, 0, 6, 0, [])) (.leaf (40, 14, 0, 0, 0, []))) (.branch 18 (.leaf (78, 15, 47, 0, 119, [773, 775, 15])) (.leaf (83, 18, 0, 0, 0, [])))))
noncomputable def abM46 : abM := ((⟨"TallBins", "fill", "(IIIIII)I"⟩, prog_1_method_7_code, 7, some .int), 6, 0, 0, 11, abK46)
set_option maxRecDepth 20000 in
noncomputable def abK47 : Lean.RArray abEy := .branch 106 (.branch 52 (.branch 25 (.branch 10 (.branch 5 (.branch 1 (.leaf (13, 0, 0, 0, 0, [])) (.branch 2 (.leaf (9, 1, 0, 1, 0, [])) (.leaf (78, 2, 48, 0, 123, [777, 779, 16])))) (.branch 8 (.leaf (46, 5, 31, 0, 0, [])) (.branch 9 (.leaf (11, 8, 0, 2, 0, [])) (.leaf (6, 9, 0, 0, 9223372036854775808, []))))) (.branch 19 (.branch 13 (.leaf (7, 10, 127, 0, 9223372036854775811, [781])) (.branch 16 (.leaf (79, 13, 49, 0, 129, [782, 783])) (.leaf (46, 16, 31, 0, 0, [])))) (.branch 21 (.leaf (10, 19, 0, 4, 0, [])) (.branch 22 (.leaf (6, 21, 0, 0, 9223372036854775808, [])) (.leaf (7, 22, 133, 0, 9223372036854775815, [785])))))) (.branch 37 (.branch 33 (.branch 28 (.leaf (79, 25, 49, 0, 129, [782, 783])) (.branch 31 (.leaf (47, 28, 34, 0, 0, [])) (.leaf (2, 31, 0, 0, 9223372036854775806, [])))) (.branch 34 (.leaf (83, 33, 0, 0, 0, [])) (.branch 36 (.leaf (10, 34, 0, 6, 0, [])) (.leaf (6, 36, 0, 0, 9223372036854775809, []))))) (.branch 46 (.branch 40 (.leaf (7, 37, 135, 0, 9223372036854785807, [786])) (.branch 43 (.leaf (79, 40, 49, 0, 129, [782, 783])) (.leaf (46, 43, 72, 0, 0, [])))) (.branch 48 (.leaf (10, 46, 0, 8, 0, [])) (.branch 49 (.leaf (6, 48, 0, 0, 9223372036854775808, [])) (.leaf (7, 49, 137, 0, 9223372036854775848, [787]))))))) (.branch 82 (.branch 69 (.branch 60 (.branch 55 (.leaf (79, 52, 49, 0, 129, [782, 783])) (.branch 58 (.leaf (46, 55, 72, 0, 0, [])) (.leaf (10, 58, 0, 10, 0, [])))) (.branch 63 (.leaf (7, 60, 139, 0, 9223372036854775778, [788])) (.branch 66 (.leaf (7, 63, 141, 0, 9223372036854775868, [789])) (.leaf (79, 66, 49, 0, 129, [782, 783]))))) (.branch 75 (.branch 72 (.leaf (47, 69, 75, 0, 0, [])) (.branch 74 (.leaf (2, 72, 0, 0, 9223372036854775806, [])) (.leaf (83, 74, 0, 0, 0, [])))) (.branch 76 (.leaf (13, 75, 0, 0, 0, [])) (.branch 79 (.leaf (60, 76, 11, 3, 25, [531])) (.leaf (60, 79, 4, 1, 143, [399])))))) (.branch 92 (.branch 86 (.branch 83 (.leaf (9, 82, 0, 1, 0, [])) (.branch 84 (.leaf (67, 83, 0, 0, 0, [])) (.leaf (18, 84, 0, 12, 0, [])))) (.branch 88 (.leaf (12, 86, 0, 12, 0, [])) (.branch 91 (.leaf (60, 88, 1, 6, 147, [359])) (.leaf (1, 91, 0, 0, 9223372036854775807, []))))) (.branch 100 (.branch 95 (.leaf (53, 92, 115, 0, 0, [])) (.branch 97 (.leaf (12, 95, 0, 12, 0, [])) (.leaf (60, 97, 1, 4, 150, [351])))) (.branch 101 (.leaf (1, 100, 0, 0, 9223372036854775807, [])) (.branch 104 (.leaf (52, 101, 118, 0, 0, [])) (.leaf (12, 104, 0, 12, 0, [])))))))) (.branch 148 (.branch 127 (.branch 117 (.branch 111 (.branch 109 (.leaf (60, 106, 1, 4, 150, [351])) (.branch 110 (.leaf (40, 109, 0, 0, 0, [])) (.leaf (11, 110, 0, 2, 0, [])))) (.branch 112 (.leaf (43, 111, 0, 0, 0, [])) (.branch 115 (.leaf (46, 112, 118, 0, 0, [])) (.leaf (2, 115, 0, 0, 9223372036854775803, []))))) (.branch 123 (.branch 118 (.leaf (83, 117, 0, 0, 0, [])) (.branch 120 (.leaf (12, 118, 0, 12, 0, [])) (.leaf (78, 120, 50, 0, 153, [790, 791, 792])))) (.branch 124 (.leaf (40, 123, 0, 0, 0, [])) (.branch 126 (.leaf (10, 124, 0, 6, 0, [])) (.leaf (43, 126, 0, 0, 0, [])))))) (.branch 137 (.branch 133 (.branch 130 (.leaf (49, 127, 133, 0, 0, [])) (.branch 132 (.leaf (2, 130, 0, 0, 9223372036854775805, [])) (.leaf (83, 132, 0, 0, 0, [])))) (.branch 135 (.leaf (12, 133, 0, 12, 0, [])) (.branch 136 (.leaf (11, 135, 0, 2, 0, [])) (.leaf (41, 136, 0, 0, 0, []))))) (.branch 144 (.branch 140 (.leaf (61, 137, 1, 4, 150, [351])) (.branch 142 (.leaf (12, 140, 0, 12, 0, [])) (.leaf (10, 142, 0, 4, 0, [])))) (.branch 145 (.leaf (41, 144, 0, 0, 0, [])) (.branch 147 (.leaf (10, 145, 0, 6, 0, [])) (.leaf (41, 147, 0, 0, 0, []))))))) (.branch 168 (.branch 159 (.branch 153 (.branch 150 (.leaf (10, 148, 0, 8, 0, [])) (.branch 151 (.leaf (41, 150, 0, 0, 0, [])) (.leaf (10, 151, 0, 10, 0, [])))) (.branch 154 (.leaf (41, 153, 0, 0, 0, [])) (.branch 157 (.leaf (78, 154, 52, 0, 157, [798, 799, 800])) (.leaf (14, 157, 0, 13, 0, []))))) (.branch 164 (.branch 160 (.leaf (13, 159, 0, 0, 0, [])) (.branch 163 (.leaf (60, 160, 11, 3, 25, [531])) (.leaf (9, 163, 0, 1, 0, [])))) (.branch 165 (.leaf (11, 164, 0, 2, 0, [])) (.branch 166 (.leaf (41, 165, 0, 0, 0, [])) (.leaf (10, 166, 0, 4, 0, [])))))) (.branch 178 (.branch 172 (.branch 169 (.leaf (41, 168, 0, 0, 0, [])) (.branch 171 (.leaf (10, 169, 0, 6, 0, [])) (.leaf (41, 171, 0, 0, 0, [])))) (.branch 174 (.leaf (8, 172, 0, 13, 0, [])) (.branch 177 (.leaf (78, 174, 54, 0, 161, [807, 808, 809])) (.leaf (13, 177, 0, 0, 0, []))))) (.branch 185 (.branch 181 (.leaf (60, 178, 11, 10, 65, [538])) (.branch 182 (.leaf (1, 181, 0, 0, 9223372036854775808, [])) (.leaf (62, 182, 2, 0, 104, [500])))) (.branch 187 (.leaf (12, 185, 0, 12, 0, [])) (.branch 190 (.leaf (78, 187, 51, 0, 165, [819, 795, 796])) (.leaf (83, 190, 0, 0, 0, []))))))))
noncomputable def abM47 : abM := ((⟨"TallBins", "putIn", "(IJJJJJ)I"⟩, prog_1_method_8_code, 14, some .int), 6, 0, 0, 11, abK47)
set_option maxRecDepth 20000 in
noncomputable def abK48 : Lean.RArray abEy := .branch 17 (.branch 7 (.branch 4 (.branch 1 (.leaf (9, 0, 0, 1, 0, [])) (.leaf (48, 1, 29, 0, 0, []))) (.branch 5 (.leaf (9, 4, 0, 1, 0, [])) (.leaf (2, 5, 0, 0, 9223372036854775814, [])))) (.branch 11 (.branch 10 (.leaf (55, 7, 29, 0, 0, [])) (.leaf (13, 10, 0, 0, 0, []))) (.branch 14 (.leaf (60, 11, 11, 3, 25, [531])) (.leaf (60, 14, 4, 1, 143, [399]))))) (.branch 25 (.branch 19 (.branch 18 (.leaf (9, 17, 0, 1, 0, [])) (.leaf (67, 18, 0, 0, 0, []))) (.branch 22 (.leaf (60, 19, 1, 0, 255, [340])) (.leaf (51, 22, 29, 0, 0, [])))) (.branch 29 (.branch 26 (.leaf (1, 25, 0, 0, 9223372036854775809, [])) (.leaf (58, 26, 30, 0, 0, []))) (.branch 30 (.leaf (1, 29, 0, 0, 9223372036854775808, [])) (.leaf (83, 30, 1, 0, 0, [])))))
noncomputable def abM48 : abM := ((⟨"TallBins", "isTold", "(I)Z"⟩, prog_1_method_46_code, 2, some .boolean), 1, 0, 0, 11, abK48)
set_option maxRecDepth 20000 in
noncomputable def abK49 : Lean.RArray abEy := .branch 9 (.branch 3 (.branch 1 (.leaf (11, 0, 0, 0, 0, [])) (.branch 2 (.leaf (11, 1, 0, 2, 0, [])) (.leaf (43, 2, 0, 0, 0, [])))) (.branch 6 (.leaf (48, 3, 17, 0, 0, [])) (.branch 7 (.leaf (11, 6, 0, 0, 0, [])) (.leaf (10, 7, 0, 4, 0, []))))) (.branch 14 (.branch 10 (.leaf (43, 9, 0, 0, 0, [])) (.branch 13 (.leaf (50, 10, 17, 0, 0, [])) (.leaf (1, 13, 0, 0, 9223372036854775809, [])))) (.branch 17 (.leaf (58, 14, 18, 0, 0, [])) (.branch 18 (.leaf (1, 17, 0, 0, 9223372036854775808, [])) (.leaf (83, 18, 1, 0, 0, [])))))
noncomputable def abM49 : abM := ((⟨"TallBins", "isWithin", "(JJJ)Z"⟩, prog_1_method_51_code, 6, some .boolean), 3, 0, 0, 11, abK49)
set_option maxRecDepth 20000 in
noncomputable def abK50 : Lean.RArray abEy := .branch 8 (.branch 4 (.branch 1 (.leaf (13, 0, 0, 0, 0, [])) (.leaf (60, 1, 1, 0, 36, [337]))) (.branch 5 (.leaf (13, 4, 0, 0, 0, [])) (.leaf (60, 5, 1, 1, 39, [341])))) (.branch 10 (.branch 9 (.leaf (23, 8, 0, 0, 0, [])) (.leaf (13, 9, 0, 0, 0, []))) (.branch 13 (.leaf (78, 10, 51, 0, 65, [794, 795, 796])) (.branch 14 (.leaf (22, 13, 0, 0, 0, [])) (.leaf (83, 14, 0, 0, 0, [])))))
noncomputable def abM50 : abM := ((⟨"TallBins$Bin", "room", "()I"⟩, prog_3_method_6_code, 1, some .int), 0, 0, 0, 1, abK50)
set_option maxRecDepth 20000 in
noncomputable def abK51 : Lean.RArray abEy := .branch 14 (.branch 5 (.branch 2 (.branch 1 (.leaf (1, 0, 0, 0, 9223372036854775808, [])) (.leaf (15, 1, 0, 1, 0, []))) (.branch 3 (.leaf (1, 2, 0, 0, 9223372036854775808, [])) (.branch 4 (.leaf (15, 3, 0, 2, 0, [])) (.leaf (9, 4, 0, 2, 0, []))))) (.branch 9 (.branch 6 (.leaf (13, 5, 0, 0, 0, [])) (.leaf (60, 6, 1, 0, 36, [337]))) (.branch 12 (.leaf (55, 9, 30, 0, 0, [])) (.branch 13 (.leaf (9, 12, 0, 1, 0, [])) (.leaf (13, 13, 0, 0, 0, [])))))) (.branch 23 (.branch 18 (.branch 17 (.leaf (60, 14, 1, 8, 20, [364])) (.leaf (9, 17, 0, 2, 0, []))) (.branch 19 (.leaf (67, 18, 0, 0, 0, [])) (.branch 22 (.leaf (60, 19, 3, 0, 62, [313])) (.leaf (21, 22, 0, 0, 0, []))))) (.branch 27 (.branch 24 (.leaf (15, 23, 0, 1, 0, [])) (.leaf (20, 24, 0, 2, 9223372036854775809, []))) (.branch 30 (.leaf (58, 27, 4, 0, 0, [])) (.branch 31 (.leaf (9, 30, 0, 1, 0, [])) (.leaf (83, 31, 0, 0, 0, []))))))
noncomputable def abM51 : abM := ((⟨"TallBins$Bin", "units", "()I"⟩, prog_3_method_4_code, 3, some .int), 0, 0, 0, 1, abK51)
set_option maxRecDepth 20000 in
noncomputable def abK52 : Lean.RArray abEy := .branch 40 (.branch 18 (.branch 7 (.branch 3 (.branch 1 (.leaf (9, 0, 0, 2, 0, [])) (.leaf (14, 1, 0, 5, 0, []))) (.branch 4 (.leaf (1, 3, 0, 0, 9223372036854775808, [])) (.branch 6 (.leaf (14, 4, 0, 6, 0, [])) (.leaf (1, 6, 0, 0, 9223372036854775808, []))))) (.branch 11 (.branch 9 (.leaf (14, 7, 0, 7, 0, [])) (.leaf (8, 9, 0, 7, 0, []))) (.branch 12 (.leaf (13, 11, 0, 0, 0, [])) (.branch 15 (.leaf (60, 12, 1, 0, 36, [337])) (.leaf (55, 15, 82, 0, 0, [])))))) (.branch 29 (.branch 23 (.branch 20 (.leaf (8, 18, 0, 5, 0, [])) (.leaf (51, 20, 82, 0, 0, []))) (.branch 25 (.leaf (8, 23, 0, 5, 0, [])) (.branch 26 (.leaf (13, 25, 0, 0, 0, [])) (.leaf (60, 26, 1, 1, 39, [341]))))) (.branch 35 (.branch 30 (.leaf (13, 29, 0, 0, 0, [])) (.branch 33 (.leaf (60, 30, 1, 8, 20, [364])) (.leaf (8, 33, 0, 7, 0, [])))) (.branch 36 (.leaf (67, 35, 0, 0, 0, [])) (.branch 39 (.leaf (60, 36, 3, 0, 62, [313])) (.leaf (22, 39, 0, 0, 0, []))))))) (.branch 61 (.branch 51 (.branch 45 (.branch 43 (.leaf (79, 40, 269, 0, 87, [802, 598])) (.leaf (14, 43, 0, 8, 0, []))) (.branch 47 (.leaf (8, 45, 0, 8, 0, [])) (.branch 50 (.leaf (51, 47, 76, 0, 0, [])) (.leaf (13, 50, 0, 0, 0, []))))) (.branch 57 (.branch 54 (.leaf (60, 51, 1, 8, 20, [364])) (.branch 56 (.leaf (8, 54, 0, 7, 0, [])) (.leaf (67, 56, 0, 0, 0, [])))) (.branch 58 (.leaf (9, 57, 0, 1, 0, [])) (.branch 60 (.leaf (8, 58, 0, 8, 0, [])) (.leaf (9, 60, 0, 3, 0, [])))))) (.branch 71 (.branch 66 (.branch 63 (.leaf (8, 61, 0, 4, 0, [])) (.leaf (78, 63, 53, 0, 90, [803, 804, 805]))) (.branch 68 (.leaf (8, 66, 0, 5, 0, [])) (.branch 70 (.leaf (8, 68, 0, 8, 0, [])) (.leaf (22, 70, 0, 0, 0, []))))) (.branch 79 (.branch 73 (.leaf (14, 71, 0, 5, 0, [])) (.branch 76 (.leaf (20, 73, 0, 6, 9223372036854775809, [])) (.leaf (20, 76, 0, 7, 9223372036854775809, [])))) (.branch 82 (.leaf (58, 79, 9, 0, 0, [])) (.branch 84 (.leaf (8, 82, 0, 6, 0, [])) (.leaf (83, 84, 0, 0, 0, [])))))))
noncomputable def abM52 : abM := ((⟨"TallBins$Bin", "lay", "(IIII)I"⟩, prog_3_method_12_code, 9, some .int), 4, 0, 0, 1, abK52)
set_option maxRecDepth 20000 in
noncomputable def abK53 : Lean.RArray abEy := .branch 23 (.branch 11 (.branch 5 (.branch 1 (.leaf (13, 0, 0, 0, 0, [])) (.branch 2 (.leaf (44, 1, 0, 0, 0, [])) (.leaf (60, 2, 3, 0, 15, [312])))) (.branch 7 (.branch 6 (.leaf (9, 5, 0, 2, 0, [])) (.leaf (21, 6, 0, 0, 0, []))) (.branch 10 (.leaf (61, 7, 3, 0, 15, [312])) (.leaf (13, 10, 0, 0, 0, []))))) (.branch 17 (.branch 15 (.branch 12 (.leaf (44, 11, 0, 0, 0, [])) (.leaf (60, 12, 3, 1, 19, [315]))) (.branch 16 (.leaf (9, 15, 0, 2, 0, [])) (.leaf (9, 16, 0, 3, 0, [])))) (.branch 19 (.branch 18 (.leaf (23, 17, 0, 0, 0, [])) (.leaf (21, 18, 0, 0, 0, []))) (.branch 22 (.leaf (61, 19, 3, 1, 19, [315])) (.leaf (13, 22, 0, 0, 0, [])))))) (.branch 36 (.branch 30 (.branch 27 (.branch 24 (.leaf (44, 23, 0, 0, 0, [])) (.leaf (60, 24, 3, 2, 22, [318]))) (.branch 28 (.leaf (9, 27, 0, 2, 0, [])) (.leaf (8, 28, 0, 4, 0, [])))) (.branch 32 (.branch 31 (.leaf (23, 30, 0, 0, 0, [])) (.leaf (21, 31, 0, 0, 0, []))) (.branch 35 (.leaf (61, 32, 3, 2, 22, [318])) (.leaf (13, 35, 0, 0, 0, []))))) (.branch 42 (.branch 40 (.branch 39 (.leaf (60, 36, 3, 4, 9, [323])) (.leaf (9, 39, 0, 1, 0, []))) (.branch 41 (.leaf (45, 40, 0, 0, 0, [])) (.leaf (64, 41, 0, 0, 0, [])))) (.branch 44 (.branch 43 (.leaf (9, 42, 0, 2, 0, [])) (.leaf (21, 43, 0, 0, 0, []))) (.branch 45 (.leaf (69, 44, 0, 0, 0, [])) (.leaf (82, 45, 0, 0, 0, []))))))
noncomputable def abM53 : abM := ((⟨"TallBins$Heap", "add", "(IIII)V"⟩, prog_5_method_7_code, 5, none), 4, 0, 0, 3, abK53)
set_option maxRecDepth 20000 in
noncomputable def abK54 : Lean.RArray abEy := .branch 22 (.branch 9 (.branch 5 (.branch 1 (.leaf (13, 0, 0, 0, 0, [])) (.branch 4 (.leaf (60, 1, 4, 2, 27, [400])) (.leaf (9, 4, 0, 1, 0, [])))) (.branch 6 (.leaf (9, 5, 0, 2, 0, [])) (.branch 7 (.leaf (9, 6, 0, 3, 0, [])) (.leaf (8, 7, 0, 4, 0, []))))) (.branch 15 (.branch 10 (.leaf (13, 9, 0, 0, 0, [])) (.branch 13 (.leaf (60, 10, 4, 4, 56, [404])) (.leaf (8, 13, 0, 5, 0, [])))) (.branch 18 (.leaf (78, 15, 55, 0, 107, [811, 812, 813])) (.branch 19 (.leaf (13, 18, 0, 0, 0, [])) (.leaf (60, 19, 4, 3, 31, [402])))))) (.branch 29 (.branch 25 (.branch 23 (.leaf (9, 22, 0, 3, 0, [])) (.branch 24 (.leaf (45, 23, 0, 0, 0, [])) (.leaf (64, 24, 0, 0, 0, [])))) (.branch 27 (.leaf (8, 25, 0, 4, 0, [])) (.branch 28 (.leaf (21, 27, 0, 0, 0, [])) (.leaf (69, 28, 0, 0, 0, []))))) (.branch 34 (.branch 30 (.leaf (13, 29, 0, 0, 0, [])) (.branch 31 (.leaf (44, 30, 0, 0, 0, [])) (.leaf (60, 31, 4, 6, 59, [408])))) (.branch 37 (.branch 36 (.leaf (8, 34, 0, 4, 0, [])) (.leaf (21, 36, 0, 0, 0, []))) (.branch 40 (.leaf (61, 37, 4, 6, 59, [408])) (.leaf (82, 40, 0, 0, 0, []))))))
noncomputable def abM54 : abM := ((⟨"TallBins$House", "noteFill", "(IIIII)V"⟩, prog_6_method_5_code, 6, none), 5, 0, 0, 4, abK54)
set_option maxRecDepth 20000 in
noncomputable def abK55 : Lean.RArray abEy := .branch 59 (.branch 32 (.branch 16 (.branch 8 (.branch 2 (.branch 1 (.leaf (13, 0, 0, 0, 0, [])) (.leaf (13, 1, 0, 0, 0, []))) (.branch 5 (.leaf (60, 2, 5, 0, 15, [274])) (.leaf (78, 5, 56, 0, 28, [815, 817, 17])))) (.branch 11 (.branch 10 (.leaf (14, 8, 0, 7, 0, [])) (.leaf (13, 10, 0, 0, 0, []))) (.branch 14 (.leaf (60, 11, 5, 0, 15, [274])) (.leaf (2, 14, 0, 0, 9223372036854775848, []))))) (.branch 24 (.branch 20 (.branch 19 (.leaf (55, 16, 32, 0, 0, [])) (.leaf (13, 19, 0, 0, 0, []))) (.branch 21 (.leaf (44, 20, 0, 0, 0, [])) (.leaf (60, 21, 5, 0, 15, [274])))) (.branch 26 (.branch 25 (.leaf (1, 24, 0, 0, 9223372036854775809, [])) (.leaf (21, 25, 0, 0, 0, []))) (.branch 29 (.leaf (61, 26, 5, 0, 15, [274])) (.leaf (58, 29, 45, 0, 0, [])))))) (.branch 45 (.branch 38 (.branch 34 (.branch 33 (.leaf (13, 32, 0, 0, 0, [])) (.leaf (13, 33, 0, 0, 0, []))) (.branch 37 (.leaf (60, 34, 5, 1, 19, [275])) (.leaf (1, 37, 0, 0, 9223372036854775809, [])))) (.branch 41 (.branch 39 (.leaf (21, 38, 0, 0, 0, [])) (.leaf (2, 39, 0, 0, 9223372036854775848, []))) (.branch 42 (.leaf (25, 41, 0, 0, 0, [])) (.leaf (61, 42, 5, 1, 19, [275]))))) (.branch 52 (.branch 49 (.branch 46 (.leaf (13, 45, 0, 0, 0, [])) (.leaf (60, 46, 5, 2, 11, [276]))) (.branch 51 (.leaf (8, 49, 0, 7, 0, [])) (.leaf (9, 51, 0, 1, 0, [])))) (.branch 54 (.branch 53 (.leaf (69, 52, 0, 0, 0, [])) (.leaf (13, 53, 0, 0, 0, []))) (.branch 57 (.leaf (60, 54, 5, 2, 11, [276])) (.leaf (8, 57, 0, 7, 0, []))))))) (.branch 81 (.branch 70 (.branch 63 (.branch 61 (.branch 60 (.leaf (1, 59, 0, 0, 9223372036854775809, [])) (.leaf (21, 60, 0, 0, 0, []))) (.branch 62 (.leaf (9, 61, 0, 2, 0, [])) (.leaf (69, 62, 0, 0, 0, [])))) (.branch 67 (.branch 64 (.leaf (13, 63, 0, 0, 0, [])) (.leaf (60, 64, 5, 2, 11, [276]))) (.branch 69 (.leaf (8, 67, 0, 7, 0, [])) (.leaf (1, 69, 0, 0, 9223372036854775810, []))))) (.branch 74 (.branch 72 (.branch 71 (.leaf (21, 70, 0, 0, 0, [])) (.leaf (9, 71, 0, 3, 0, []))) (.branch 73 (.leaf (69, 72, 0, 0, 0, [])) (.leaf (13, 73, 0, 0, 0, [])))) (.branch 79 (.branch 77 (.leaf (60, 74, 5, 2, 11, [276])) (.leaf (8, 77, 0, 7, 0, []))) (.branch 80 (.leaf (1, 79, 0, 0, 9223372036854775811, [])) (.leaf (21, 80, 0, 0, 0, [])))))) (.branch 94 (.branch 88 (.branch 84 (.branch 83 (.leaf (8, 81, 0, 4, 0, [])) (.leaf (69, 83, 0, 0, 0, []))) (.branch 85 (.leaf (13, 84, 0, 0, 0, [])) (.leaf (60, 85, 5, 2, 11, [276])))) (.branch 91 (.branch 90 (.leaf (8, 88, 0, 7, 0, [])) (.leaf (1, 90, 0, 0, 9223372036854775812, []))) (.branch 92 (.leaf (21, 91, 0, 0, 0, [])) (.leaf (8, 92, 0, 5, 0, []))))) (.branch 101 (.branch 96 (.branch 95 (.leaf (69, 94, 0, 0, 0, [])) (.leaf (13, 95, 0, 0, 0, []))) (.branch 99 (.leaf (60, 96, 5, 2, 11, [276])) (.leaf (8, 99, 0, 7, 0, [])))) (.branch 103 (.branch 102 (.leaf (1, 101, 0, 0, 9223372036854775813, [])) (.leaf (21, 102, 0, 0, 0, []))) (.branch 105 (.leaf (8, 103, 0, 6, 0, [])) (.branch 106 (.leaf (69, 105, 0, 0, 0, [])) (.leaf (82, 106, 0, 0, 0, []))))))))
noncomputable def abM55 : abM := ((⟨"TallBins$Ledger", "note", "(IIIIII)V"⟩, prog_7_method_3_code, 8, none), 6, 0, 0, 5, abK55)
set_option maxRecDepth 20000 in
noncomputable def abK56 : Lean.RArray abEy := .branch 6 (.branch 4 (.branch 1 (.leaf (13, 0, 0, 0, 0, [])) (.leaf (60, 1, 5, 1, 19, [275]))) (.branch 5 (.leaf (9, 4, 0, 1, 0, [])) (.leaf (21, 5, 0, 0, 0, [])))) (.branch 9 (.branch 8 (.leaf (2, 6, 0, 0, 9223372036854775848, [])) (.leaf (25, 8, 0, 0, 0, []))) (.branch 11 (.leaf (2, 9, 0, 0, 9223372036854775814, [])) (.branch 12 (.leaf (23, 11, 0, 0, 0, [])) (.leaf (83, 12, 0, 0, 0, [])))))
noncomputable def abM56 : abM := ((⟨"TallBins$Ledger", "placeOf", "(I)I"⟩, prog_7_method_5_code, 2, some .int), 1, 0, 0, 5, abK56)
set_option maxRecDepth 20000 in
noncomputable def abK57 : Lean.RArray abEy := .branch 55 (.branch 29 (.branch 17 (.branch 8 (.branch 2 (.branch 1 (.leaf (13, 0, 0, 0, 0, [])) (.leaf (9, 1, 0, 1, 0, []))) (.branch 5 (.leaf (78, 2, 48, 0, 123, [777, 779, 16])) (.leaf (46, 5, 15, 0, 0, [])))) (.branch 12 (.branch 9 (.leaf (9, 8, 0, 2, 0, [])) (.leaf (79, 9, 58, 0, 168, [824, 825]))) (.branch 15 (.leaf (47, 12, 18, 0, 0, [])) (.leaf (2, 15, 0, 0, 9223372036854775806, []))))) (.branch 23 (.branch 19 (.branch 18 (.leaf (83, 17, 0, 0, 0, [])) (.leaf (13, 18, 0, 0, 0, []))) (.branch 22 (.leaf (60, 19, 11, 6, 39, [534])) (.leaf (9, 22, 0, 2, 0, [])))) (.branch 25 (.branch 24 (.leaf (67, 23, 0, 0, 0, [])) (.leaf (19, 24, 0, 3, 0, []))) (.branch 26 (.leaf (13, 25, 0, 3, 0, [])) (.leaf (78, 26, 59, 0, 171, [827, 828, 829])))))) (.branch 43 (.branch 36 (.branch 34 (.branch 32 (.leaf (47, 29, 35, 0, 0, [])) (.leaf (2, 32, 0, 0, 9223372036854775802, []))) (.branch 35 (.leaf (83, 34, 0, 0, 0, [])) (.leaf (1, 35, 0, 0, 9223372036854775808, [])))) (.branch 39 (.branch 38 (.leaf (14, 36, 0, 4, 0, [])) (.leaf (1, 38, 0, 0, 9223372036854775808, []))) (.branch 41 (.leaf (14, 39, 0, 5, 0, [])) (.leaf (8, 41, 0, 5, 0, []))))) (.branch 49 (.branch 45 (.branch 44 (.leaf (1, 43, 0, 0, 9223372036854775813, [])) (.leaf (21, 44, 0, 0, 0, []))) (.branch 46 (.leaf (13, 45, 0, 3, 0, [])) (.leaf (78, 46, 60, 0, 174, [831, 832, 833])))) (.branch 53 (.branch 52 (.leaf (56, 49, 114, 0, 0, [])) (.leaf (13, 52, 0, 0, 0, []))) (.branch 54 (.leaf (9, 53, 0, 1, 0, [])) (.leaf (13, 54, 0, 3, 0, []))))))) (.branch 81 (.branch 69 (.branch 63 (.branch 60 (.branch 57 (.leaf (8, 55, 0, 5, 0, [])) (.leaf (78, 57, 61, 0, 177, [835, 836, 837]))) (.branch 61 (.leaf (13, 60, 0, 3, 0, [])) (.leaf (8, 61, 0, 5, 0, [])))) (.branch 65 (.branch 64 (.leaf (1, 63, 0, 0, 9223372036854775809, [])) (.leaf (21, 64, 0, 0, 0, []))) (.branch 68 (.leaf (78, 65, 61, 0, 177, [835, 836, 837])) (.leaf (13, 68, 0, 3, 0, []))))) (.branch 76 (.branch 72 (.branch 71 (.leaf (8, 69, 0, 5, 0, [])) (.leaf (1, 71, 0, 0, 9223372036854775810, []))) (.branch 73 (.leaf (21, 72, 0, 0, 0, [])) (.leaf (78, 73, 61, 0, 177, [835, 836, 837])))) (.branch 79 (.branch 77 (.leaf (13, 76, 0, 3, 0, [])) (.leaf (8, 77, 0, 5, 0, []))) (.branch 80 (.leaf (1, 79, 0, 0, 9223372036854775811, [])) (.leaf (21, 80, 0, 0, 0, [])))))) (.branch 97 (.branch 88 (.branch 85 (.branch 84 (.leaf (78, 81, 61, 0, 177, [835, 836, 837])) (.leaf (13, 84, 0, 3, 0, []))) (.branch 87 (.leaf (8, 85, 0, 5, 0, [])) (.leaf (1, 87, 0, 0, 9223372036854775812, [])))) (.branch 92 (.branch 89 (.leaf (21, 88, 0, 0, 0, [])) (.leaf (78, 89, 61, 0, 177, [835, 836, 837]))) (.branch 95 (.leaf (78, 92, 47, 0, 119, [773, 775, 15])) (.leaf (14, 95, 0, 6, 0, []))))) (.branch 108 (.branch 102 (.branch 99 (.leaf (8, 97, 0, 6, 0, [])) (.leaf (49, 99, 105, 0, 0, []))) (.branch 105 (.leaf (58, 102, 114, 0, 0, [])) (.leaf (20, 105, 0, 4, 9223372036854775809, [])))) (.branch 114 (.branch 111 (.leaf (20, 108, 0, 5, 9223372036854775813, [])) (.leaf (58, 111, 41, 0, 0, []))) (.branch 116 (.leaf (8, 114, 0, 4, 0, [])) (.leaf (83, 116, 0, 0, 0, [])))))))
noncomputable def abM57 : abM := ((⟨"TallBins", "fills", "(II)I"⟩, prog_1_method_9_code, 7, some .int), 2, 0, 0, 11, abK57)
set_option maxRecDepth 20000 in
noncomputable def abK58 : Lean.RArray abEy := .branch 6 (.branch 4 (.branch 1 (.leaf (9, 0, 0, 0, 0, [])) (.leaf (48, 1, 13, 0, 0, []))) (.branch 5 (.leaf (9, 4, 0, 0, 0, [])) (.leaf (1, 5, 0, 0, 9223372036854775812, [])))) (.branch 10 (.branch 9 (.leaf (55, 6, 13, 0, 0, [])) (.leaf (1, 9, 0, 0, 9223372036854775809, []))) (.branch 13 (.leaf (58, 10, 14, 0, 0, [])) (.branch 14 (.leaf (1, 13, 0, 0, 9223372036854775808, [])) (.leaf (83, 14, 1, 0, 0, [])))))
noncomputable def abM58 : abM := ((⟨"TallBins", "isSlot", "(I)Z"⟩, prog_1_method_49_code, 1, some .boolean), 1, 0, 0, 11, abK58)
set_option maxRecDepth 20000 in
noncomputable def abK59 : Lean.RArray abEy := .branch 8 (.branch 4 (.branch 1 (.leaf (13, 0, 0, 0, 0, [])) (.leaf (60, 1, 9, 1, 9, [443]))) (.branch 5 (.leaf (1, 4, 0, 0, 9223372036854775807, [])) (.leaf (52, 5, 12, 0, 0, [])))) (.branch 12 (.branch 9 (.leaf (1, 8, 0, 0, 9223372036854775809, [])) (.leaf (58, 9, 13, 0, 0, []))) (.branch 13 (.leaf (1, 12, 0, 0, 9223372036854775808, [])) (.leaf (83, 13, 1, 0, 0, []))))
noncomputable def abM59 : abM := ((⟨"TallBins$Row", "isThere", "()Z"⟩, prog_11_method_2_code, 1, some .boolean), 0, 0, 0, 9, abK59)
set_option maxRecDepth 20000 in
noncomputable def abK60 : Lean.RArray abEy := .branch 1 (.leaf (13, 0, 0, 0, 0, [])) (.branch 4 (.leaf (60, 1, 9, 1, 9, [443])) (.leaf (83, 4, 0, 0, 0, [])))
noncomputable def abM60 : abM := ((⟨"TallBins$Row", "length", "()I"⟩, prog_11_method_3_code, 1, some .int), 0, 0, 0, 9, abK60)
set_option maxRecDepth 20000 in
noncomputable def abK61 : Lean.RArray abEy := .branch 11 (.branch 5 (.branch 1 (.leaf (9, 0, 0, 1, 0, [])) (.branch 4 (.leaf (48, 1, 19, 0, 0, [])) (.leaf (9, 4, 0, 1, 0, [])))) (.branch 7 (.leaf (2, 5, 0, 0, 9223372036854775868, [])) (.branch 10 (.leaf (55, 7, 19, 0, 0, [])) (.leaf (13, 10, 0, 0, 0, []))))) (.branch 16 (.branch 14 (.leaf (60, 11, 9, 2, 15, [444])) (.branch 15 (.leaf (9, 14, 0, 1, 0, [])) (.leaf (66, 15, 0, 0, 0, [])))) (.branch 19 (.leaf (58, 16, 20, 0, 0, [])) (.branch 20 (.leaf (6, 19, 0, 0, 9223372036854775808, [])) (.leaf (84, 20, 0, 0, 0, [])))))
noncomputable def abM61 : abM := ((⟨"TallBins$Row", "at", "(I)J"⟩, prog_11_method_5_code, 2, some .long), 1, 0, 0, 9, abK61)
set_option maxRecDepth 20000 in
noncomputable def abK62 : Lean.RArray abEy := .branch 19 (.branch 10 (.branch 2 (.branch 1 (.leaf (13, 0, 0, 0, 0, [])) (.leaf (9, 1, 0, 1, 0, []))) (.branch 5 (.leaf (78, 2, 48, 0, 123, [777, 779, 16])) (.branch 8 (.leaf (47, 5, 11, 0, 0, [])) (.leaf (2, 8, 0, 0, 9223372036854775806, []))))) (.branch 12 (.branch 11 (.leaf (83, 10, 0, 0, 0, [])) (.leaf (13, 11, 0, 0, 0, []))) (.branch 15 (.leaf (60, 12, 11, 3, 25, [531])) (.branch 18 (.leaf (60, 15, 4, 1, 143, [399])) (.leaf (9, 18, 0, 1, 0, [])))))) (.branch 31 (.branch 23 (.branch 20 (.leaf (67, 19, 0, 0, 0, [])) (.leaf (78, 20, 20, 0, 181, [843, 589, 590]))) (.branch 26 (.leaf (46, 23, 31, 0, 0, [])) (.branch 28 (.leaf (2, 26, 0, 0, 9223372036854775802, [])) (.leaf (58, 28, 39, 0, 0, []))))) (.branch 35 (.branch 32 (.leaf (13, 31, 0, 0, 0, [])) (.leaf (60, 32, 11, 3, 25, [531]))) (.branch 36 (.leaf (9, 35, 0, 1, 0, [])) (.branch 39 (.leaf (78, 36, 63, 0, 184, [844, 845, 846])) (.leaf (83, 39, 0, 0, 0, []))))))
noncomputable def abM62 : abM := ((⟨"TallBins", "flow", "(I)I"⟩, prog_1_method_10_code, 2, some .int), 1, 0, 0, 11, abK62)
set_option maxRecDepth 20000 in
noncomputable def abK63 : Lean.RArray abEy := .branch 32 (.branch 15 (.branch 6 (.branch 4 (.branch 1 (.leaf (13, 0, 0, 0, 0, [])) (.leaf (60, 1, 4, 1, 20, [396]))) (.branch 5 (.leaf (9, 4, 0, 1, 0, [])) (.leaf (67, 5, 0, 0, 0, [])))) (.branch 8 (.branch 7 (.leaf (19, 6, 0, 2, 0, [])) (.leaf (13, 7, 0, 0, 0, []))) (.branch 11 (.leaf (60, 8, 4, 0, 12, [394])) (.branch 12 (.leaf (13, 11, 0, 2, 0, [])) (.leaf (60, 12, 1, 4, 111, [350])))))) (.branch 24 (.branch 19 (.branch 18 (.leaf (78, 15, 64, 0, 114, [848, 849, 850])) (.leaf (1, 18, 0, 0, 9223372036854775810, []))) (.branch 20 (.leaf (1, 19, 0, 0, 9223372036854775808, [])) (.branch 21 (.leaf (13, 20, 0, 2, 0, [])) (.leaf (60, 21, 1, 8, 118, [365]))))) (.branch 26 (.branch 25 (.leaf (1, 24, 0, 0, 9223372036854775808, [])) (.leaf (67, 25, 0, 0, 0, []))) (.branch 29 (.leaf (78, 26, 65, 0, 122, [852, 853, 854])) (.branch 31 (.leaf (2, 29, 0, 0, 9223372036854775822, [])) (.leaf (22, 31, 0, 0, 0, []))))))) (.branch 48 (.branch 39 (.branch 36 (.branch 35 (.leaf (79, 32, 271, 0, 128, [863, 864])) (.leaf (23, 35, 0, 0, 0, []))) (.branch 37 (.leaf (21, 36, 0, 0, 0, [])) (.branch 38 (.leaf (15, 37, 0, 3, 0, [])) (.leaf (9, 38, 0, 3, 0, []))))) (.branch 41 (.branch 40 (.leaf (1, 39, 0, 0, 9223372036854775811, [])) (.leaf (13, 40, 0, 2, 0, []))) (.branch 44 (.leaf (60, 41, 1, 2, 89, [345])) (.branch 45 (.leaf (23, 44, 0, 0, 0, [])) (.leaf (57, 45, 50, 0, 0, [])))))) (.branch 55 (.branch 50 (.branch 49 (.leaf (1, 48, 0, 0, 9223372036854775810, [])) (.leaf (83, 49, 0, 0, 0, []))) (.branch 51 (.leaf (9, 50, 0, 3, 0, [])) (.branch 52 (.leaf (13, 51, 0, 2, 0, [])) (.leaf (60, 52, 1, 2, 89, [345]))))) (.branch 59 (.branch 58 (.leaf (57, 55, 62, 0, 0, [])) (.leaf (1, 58, 0, 0, 9223372036854775809, []))) (.branch 62 (.leaf (58, 59, 63, 0, 0, [])) (.branch 63 (.leaf (1, 62, 0, 0, 9223372036854775808, [])) (.leaf (83, 63, 0, 0, 0, [])))))))
noncomputable def abM63 : abM := ((⟨"TallBins$House", "flowOf", "(I)I"⟩, prog_6_method_6_code, 4, some .int), 1, 0, 0, 4, abK63)
set_option maxRecDepth 20000 in
noncomputable def abK64 : Lean.RArray abEy := .branch 10 (.branch 5 (.branch 1 (.leaf (9, 0, 0, 1, 0, [])) (.branch 4 (.leaf (48, 1, 18, 0, 0, [])) (.leaf (9, 4, 0, 1, 0, [])))) (.branch 6 (.leaf (1, 5, 0, 0, 9223372036854775812, [])) (.branch 9 (.leaf (55, 6, 18, 0, 0, [])) (.leaf (13, 9, 0, 0, 0, []))))) (.branch 15 (.branch 13 (.leaf (60, 10, 10, 8, 27, [185])) (.branch 14 (.leaf (9, 13, 0, 1, 0, [])) (.leaf (64, 14, 0, 0, 0, [])))) (.branch 18 (.leaf (58, 15, 19, 0, 0, [])) (.branch 19 (.leaf (1, 18, 0, 0, 9223372036854775808, [])) (.leaf (83, 19, 0, 0, 0, [])))))
noncomputable def abM64 : abM := ((⟨"TallBins$Rules", "gripOf", "(I)I"⟩, prog_12_method_7_code, 2, some .int), 1, 0, 0, 10, abK64)
set_option maxRecDepth 20000 in
noncomputable def abK65 : Lean.RArray abEy := .branch 2 (.branch 1 (.leaf (13, 0, 0, 0, 0, [])) (.leaf (1, 1, 0, 0, 9223372036854775809, []))) (.branch 5 (.leaf (78, 2, 66, 0, 40, [856, 857, 858])) (.leaf (83, 5, 0, 0, 0, [])))
noncomputable def abM65 : abM := ((⟨"TallBins$Heap", "dampness", "()I"⟩, prog_5_method_5_code, 1, some .int), 0, 0, 0, 3, abK65)
set_option maxRecDepth 20000 in
noncomputable def abK66 : Lean.RArray abEy := .branch 17 (.branch 8 (.branch 4 (.branch 1 (.leaf (9, 0, 0, 1, 0, [])) (.leaf (47, 1, 11, 0, 0, []))) (.branch 5 (.leaf (13, 4, 0, 0, 0, [])) (.leaf (60, 5, 3, 2, 22, [318])))) (.branch 12 (.branch 11 (.leaf (58, 8, 15, 0, 0, [])) (.leaf (13, 11, 0, 0, 0, []))) (.branch 15 (.leaf (60, 12, 3, 1, 19, [315])) (.branch 16 (.leaf (15, 15, 0, 2, 0, [])) (.leaf (13, 16, 0, 0, 0, [])))))) (.branch 25 (.branch 23 (.branch 20 (.leaf (60, 17, 3, 0, 15, [312])) (.leaf (51, 20, 34, 0, 0, []))) (.branch 24 (.leaf (9, 23, 0, 2, 0, [])) (.leaf (13, 24, 0, 0, 0, [])))) (.branch 31 (.branch 28 (.leaf (60, 25, 3, 0, 15, [312])) (.leaf (79, 28, 270, 0, 34, [860, 861]))) (.branch 34 (.leaf (58, 31, 35, 0, 0, [])) (.branch 35 (.leaf (1, 34, 0, 0, 9223372036854775808, [])) (.leaf (83, 35, 0, 0, 0, []))))))
noncomputable def abM66 : abM := ((⟨"TallBins$Heap", "level", "(I)I"⟩, prog_5_method_4_code, 3, some .int), 1, 0, 0, 3, abK66)
set_option maxRecDepth 20000 in
noncomputable def abK67 : Lean.RArray abEy := .branch 58 (.branch 30 (.branch 13 (.branch 5 (.branch 1 (.leaf (13, 0, 0, 0, 0, [])) (.branch 2 (.leaf (9, 1, 0, 1, 0, [])) (.leaf (78, 2, 48, 0, 123, [777, 779, 16])))) (.branch 9 (.branch 8 (.leaf (46, 5, 20, 0, 0, [])) (.leaf (9, 8, 0, 2, 0, []))) (.branch 10 (.leaf (1, 9, 0, 0, 9223372036854775809, [])) (.leaf (54, 10, 20, 0, 0, []))))) (.branch 22 (.branch 17 (.branch 14 (.leaf (9, 13, 0, 2, 0, [])) (.leaf (3, 14, 0, 0, 9223372036854785807, []))) (.branch 20 (.leaf (57, 17, 23, 0, 0, [])) (.leaf (2, 20, 0, 0, 9223372036854775806, [])))) (.branch 24 (.branch 23 (.leaf (83, 22, 0, 0, 0, [])) (.leaf (13, 23, 0, 0, 0, []))) (.branch 27 (.leaf (60, 24, 11, 3, 25, [531])) (.leaf (60, 27, 4, 1, 143, [399])))))) (.branch 42 (.branch 33 (.branch 31 (.leaf (9, 30, 0, 1, 0, [])) (.branch 32 (.leaf (67, 31, 0, 0, 0, [])) (.leaf (19, 32, 0, 3, 0, [])))) (.branch 37 (.branch 34 (.leaf (13, 33, 0, 3, 0, [])) (.leaf (78, 34, 20, 0, 181, [843, 589, 590]))) (.branch 40 (.leaf (46, 37, 43, 0, 0, [])) (.leaf (2, 40, 0, 0, 9223372036854775802, []))))) (.branch 50 (.branch 44 (.branch 43 (.leaf (83, 42, 0, 0, 0, [])) (.leaf (13, 43, 0, 3, 0, []))) (.branch 47 (.leaf (60, 44, 1, 5, 188, [355])) (.leaf (47, 47, 58, 0, 0, [])))) (.branch 54 (.branch 51 (.leaf (13, 50, 0, 3, 0, [])) (.leaf (60, 51, 1, 6, 147, [359]))) (.branch 55 (.leaf (1, 54, 0, 0, 9223372036854775807, [])) (.leaf (52, 55, 61, 0, 0, []))))))) (.branch 86 (.branch 70 (.branch 62 (.branch 60 (.leaf (2, 58, 0, 0, 9223372036854775803, [])) (.branch 61 (.leaf (83, 60, 0, 0, 0, [])) (.leaf (13, 61, 0, 0, 0, [])))) (.branch 66 (.branch 65 (.leaf (60, 62, 11, 10, 65, [538])) (.leaf (1, 65, 0, 0, 9223372036854775808, []))) (.branch 69 (.leaf (62, 66, 2, 0, 104, [500])) (.leaf (13, 69, 0, 0, 0, []))))) (.branch 78 (.branch 74 (.branch 73 (.leaf (60, 70, 11, 3, 25, [531])) (.leaf (9, 73, 0, 1, 0, []))) (.branch 77 (.leaf (78, 74, 63, 0, 184, [844, 845, 846])) (.leaf (1, 77, 0, 0, 9223372036854775810, [])))) (.branch 82 (.branch 81 (.leaf (53, 78, 88, 0, 0, [])) (.leaf (13, 81, 0, 3, 0, []))) (.branch 83 (.leaf (1, 82, 0, 0, 9223372036854775809, [])) (.leaf (62, 83, 1, 5, 188, [355])))))) (.branch 100 (.branch 92 (.branch 88 (.branch 87 (.leaf (1, 86, 0, 0, 9223372036854775808, [])) (.leaf (83, 87, 0, 0, 0, []))) (.branch 89 (.leaf (13, 88, 0, 0, 0, [])) (.leaf (60, 89, 11, 7, 47, [535])))) (.branch 96 (.branch 95 (.leaf (78, 92, 68, 0, 191, [870, 871, 872])) (.leaf (13, 95, 0, 0, 0, []))) (.branch 97 (.leaf (9, 96, 0, 1, 0, [])) (.leaf (61, 97, 11, 8, 51, [536]))))) (.branch 106 (.branch 104 (.branch 101 (.leaf (13, 100, 0, 0, 0, [])) (.leaf (60, 101, 11, 3, 25, [531]))) (.branch 105 (.leaf (9, 104, 0, 1, 0, [])) (.leaf (9, 105, 0, 2, 0, [])))) (.branch 110 (.branch 107 (.leaf (13, 106, 0, 0, 0, [])) (.leaf (60, 107, 11, 7, 47, [535]))) (.branch 113 (.leaf (78, 110, 69, 0, 194, [874, 875, 876])) (.leaf (83, 113, 0, 0, 0, [])))))))
noncomputable def abM67 : abM := ((⟨"TallBins", "draw", "(II)I"⟩, prog_1_method_11_code, 4, some .int), 2, 0, 0, 11, abK67)
set_option maxRecDepth 20000 in
noncomputable def abK68 : Lean.RArray abEy := .branch 20 (.branch 10 (.branch 5 (.branch 1 (.leaf (13, 0, 0, 0, 0, [])) (.branch 2 (.leaf (1, 1, 0, 0, 9223372036854775808, [])) (.leaf (61, 2, 3, 0, 15, [312])))) (.branch 6 (.leaf (13, 5, 0, 0, 0, [])) (.branch 7 (.leaf (1, 6, 0, 0, 9223372036854775808, [])) (.leaf (61, 7, 3, 1, 19, [315]))))) (.branch 15 (.branch 11 (.leaf (13, 10, 0, 0, 0, [])) (.branch 12 (.leaf (1, 11, 0, 0, 9223372036854775808, [])) (.leaf (61, 12, 3, 2, 22, [318])))) (.branch 16 (.leaf (13, 15, 0, 0, 0, [])) (.branch 17 (.leaf (1, 16, 0, 0, 9223372036854775808, [])) (.leaf (61, 17, 3, 3, 25, [320])))))) (.branch 29 (.branch 23 (.branch 21 (.leaf (1, 20, 0, 0, 9223372036854775808, [])) (.branch 22 (.leaf (15, 21, 0, 1, 0, [])) (.leaf (9, 22, 0, 1, 0, [])))) (.branch 25 (.leaf (2, 23, 0, 0, 9223372036854775816, [])) (.branch 28 (.leaf (55, 25, 41, 0, 0, [])) (.leaf (13, 28, 0, 0, 0, []))))) (.branch 34 (.branch 32 (.leaf (60, 29, 3, 4, 9, [323])) (.branch 33 (.leaf (9, 32, 0, 1, 0, [])) (.leaf (1, 33, 0, 0, 9223372036854775808, [])))) (.branch 38 (.branch 35 (.leaf (69, 34, 0, 0, 0, [])) (.leaf (20, 35, 0, 1, 9223372036854775809, []))) (.branch 41 (.leaf (58, 38, 22, 0, 0, [])) (.leaf (82, 41, 0, 0, 0, []))))))
noncomputable def abM68 : abM := ((⟨"TallBins$Heap", "clear", "()V"⟩, prog_5_method_2_code, 2, none), 0, 0, 0, 3, abK68)
set_option maxRecDepth 20000 in
noncomputable def abK69 : Lean.RArray abEy := .branch 23 (.branch 9 (.branch 5 (.branch 1 (.leaf (13, 0, 0, 0, 0, [])) (.branch 4 (.leaf (60, 1, 4, 1, 20, [396])) (.leaf (9, 4, 0, 1, 0, [])))) (.branch 7 (.branch 6 (.leaf (67, 5, 0, 0, 0, [])) (.leaf (9, 6, 0, 2, 0, []))) (.branch 8 (.leaf (13, 7, 0, 0, 0, [])) (.leaf (9, 8, 0, 1, 0, []))))) (.branch 16 (.branch 12 (.leaf (78, 9, 63, 0, 138, [878, 845, 846])) (.branch 13 (.leaf (13, 12, 0, 3, 0, [])) (.leaf (78, 13, 70, 0, 141, [879, 880, 881])))) (.branch 19 (.branch 18 (.leaf (14, 16, 0, 4, 0, [])) (.leaf (13, 18, 0, 0, 0, []))) (.branch 22 (.leaf (60, 19, 4, 1, 20, [396])) (.leaf (9, 22, 0, 1, 0, [])))))) (.branch 35 (.branch 28 (.branch 24 (.leaf (67, 23, 0, 0, 0, [])) (.branch 25 (.leaf (44, 24, 0, 0, 0, [])) (.leaf (60, 25, 1, 7, 145, [362])))) (.branch 31 (.branch 30 (.leaf (8, 28, 0, 4, 0, [])) (.leaf (21, 30, 0, 0, 0, []))) (.branch 34 (.leaf (61, 31, 1, 7, 145, [362])) (.leaf (13, 34, 0, 0, 0, []))))) (.branch 41 (.branch 36 (.leaf (44, 35, 0, 0, 0, [])) (.branch 39 (.leaf (60, 36, 4, 7, 62, [410])) (.leaf (8, 39, 0, 4, 0, [])))) (.branch 45 (.branch 42 (.leaf (21, 41, 0, 0, 0, [])) (.leaf (61, 42, 4, 7, 62, [410]))) (.branch 47 (.leaf (8, 45, 0, 4, 0, [])) (.leaf (83, 47, 0, 0, 0, []))))))
noncomputable def abM69 : abM := ((⟨"TallBins$House", "drawFrom", "(IILTallBins$Heap;)I"⟩, prog_6_method_8_code, 5, some .int), 3, 0, 0, 4, abK69)
set_option maxRecDepth 20000 in
noncomputable def abK70 : Lean.RArray abEy := .branch 48 (.branch 24 (.branch 9 (.branch 4 (.branch 1 (.leaf (9, 0, 0, 1, 0, [])) (.branch 3 (.leaf (14, 1, 0, 4, 0, [])) (.leaf (1, 3, 0, 0, 9223372036854775808, [])))) (.branch 6 (.leaf (14, 4, 0, 5, 0, [])) (.branch 8 (.leaf (8, 6, 0, 5, 0, [])) (.leaf (13, 8, 0, 0, 0, []))))) (.branch 17 (.branch 12 (.leaf (60, 9, 1, 0, 36, [337])) (.branch 15 (.leaf (55, 12, 71, 0, 0, [])) (.leaf (8, 15, 0, 4, 0, [])))) (.branch 20 (.leaf (51, 17, 71, 0, 0, [])) (.branch 21 (.leaf (13, 20, 0, 0, 0, [])) (.leaf (60, 21, 1, 8, 20, [364])))))) (.branch 34 (.branch 28 (.branch 25 (.leaf (13, 24, 0, 0, 0, [])) (.branch 27 (.leaf (8, 25, 0, 5, 0, [])) (.leaf (9, 27, 0, 2, 0, [])))) (.branch 31 (.leaf (78, 28, 71, 0, 94, [883, 885, 18])) (.branch 32 (.leaf (67, 31, 0, 0, 0, [])) (.leaf (18, 32, 0, 6, 0, []))))) (.branch 41 (.branch 36 (.leaf (8, 34, 0, 4, 0, [])) (.branch 38 (.leaf (12, 36, 0, 6, 0, [])) (.leaf (60, 38, 3, 0, 62, [313])))) (.branch 44 (.leaf (79, 41, 269, 0, 87, [802, 598])) (.branch 46 (.leaf (14, 44, 0, 7, 0, [])) (.leaf (12, 46, 0, 6, 0, []))))))) (.branch 72 (.branch 60 (.branch 52 (.branch 50 (.leaf (8, 48, 0, 7, 0, [])) (.branch 51 (.leaf (13, 50, 0, 3, 0, [])) (.leaf (13, 51, 0, 0, 0, [])))) (.branch 55 (.leaf (60, 52, 1, 10, 31, [370])) (.branch 58 (.leaf (78, 55, 72, 0, 97, [887, 888, 889])) (.leaf (8, 58, 0, 4, 0, []))))) (.branch 65 (.branch 62 (.leaf (8, 60, 0, 7, 0, [])) (.branch 63 (.leaf (22, 62, 0, 0, 0, [])) (.leaf (14, 63, 0, 4, 0, [])))) (.branch 68 (.leaf (20, 65, 0, 5, 9223372036854775809, [])) (.branch 71 (.leaf (58, 68, 6, 0, 0, [])) (.leaf (9, 71, 0, 2, 0, [])))))) (.branch 86 (.branch 79 (.branch 75 (.leaf (47, 72, 79, 0, 0, [])) (.branch 76 (.leaf (13, 75, 0, 0, 0, [])) (.leaf (78, 76, 76, 0, 101, [907, 909, 22])))) (.branch 80 (.leaf (13, 79, 0, 0, 0, [])) (.branch 83 (.leaf (78, 80, 77, 0, 104, [911, 912, 913])) (.leaf (47, 83, 91, 0, 0, []))))) (.branch 91 (.branch 87 (.leaf (13, 86, 0, 0, 0, [])) (.branch 88 (.leaf (1, 87, 0, 0, 9223372036854775807, [])) (.leaf (61, 88, 1, 4, 9, [348])))) (.branch 94 (.branch 92 (.leaf (9, 91, 0, 1, 0, [])) (.leaf (8, 92, 0, 4, 0, []))) (.branch 95 (.leaf (22, 94, 0, 0, 0, [])) (.leaf (83, 95, 0, 0, 0, [])))))))
noncomputable def abM70 : abM := ((⟨"TallBins$Bin", "pull", "(IILTallBins$Heap;)I"⟩, prog_3_method_13_code, 8, some .int), 3, 0, 0, 1, abK70)
set_option maxRecDepth 20000 in
noncomputable def abK71 : Lean.RArray abEy := .branch 10 (.branch 5 (.branch 1 (.leaf (9, 0, 0, 2, 0, [])) (.branch 2 (.leaf (1, 1, 0, 0, 9223372036854775809, [])) (.leaf (53, 2, 16, 0, 0, [])))) (.branch 6 (.leaf (13, 5, 0, 0, 0, [])) (.branch 9 (.leaf (60, 6, 1, 0, 36, [337])) (.leaf (1, 9, 0, 0, 9223372036854775809, []))))) (.branch 13 (.branch 11 (.leaf (22, 10, 0, 0, 0, [])) (.branch 12 (.leaf (9, 11, 0, 1, 0, [])) (.leaf (22, 12, 0, 0, 0, [])))) (.branch 16 (.leaf (58, 13, 17, 0, 0, [])) (.branch 17 (.leaf (9, 16, 0, 1, 0, [])) (.leaf (83, 17, 0, 0, 0, [])))))
noncomputable def abM71 : abM := ((⟨"TallBins$Bin", "placeInTurn", "(II)I"⟩, prog_3_method_14_code, 3, some .int), 2, 0, 0, 1, abK71)
set_option maxRecDepth 20000 in
noncomputable def abK72 : Lean.RArray abEy := .branch 88 (.branch 47 (.branch 24 (.branch 12 (.branch 5 (.branch 1 (.leaf (9, 0, 0, 1, 0, [])) (.branch 4 (.leaf (51, 1, 12, 0, 0, [])) (.leaf (9, 4, 0, 1, 0, [])))) (.branch 6 (.leaf (13, 5, 0, 0, 0, [])) (.branch 9 (.leaf (60, 6, 3, 0, 15, [312])) (.leaf (57, 9, 13, 0, 0, []))))) (.branch 15 (.branch 13 (.leaf (82, 12, 0, 0, 0, [])) (.branch 14 (.leaf (13, 13, 0, 0, 0, [])) (.leaf (13, 14, 0, 0, 0, [])))) (.branch 19 (.branch 18 (.leaf (60, 15, 3, 1, 19, [315])) (.leaf (9, 18, 0, 1, 0, []))) (.branch 22 (.leaf (78, 19, 73, 0, 44, [891, 893, 19])) (.leaf (14, 22, 0, 4, 0, [])))))) (.branch 35 (.branch 29 (.branch 25 (.leaf (13, 24, 0, 0, 0, [])) (.branch 26 (.leaf (13, 25, 0, 0, 0, [])) (.leaf (60, 26, 3, 2, 22, [318])))) (.branch 30 (.leaf (9, 29, 0, 1, 0, [])) (.branch 33 (.leaf (78, 30, 73, 0, 44, [891, 893, 19])) (.leaf (14, 33, 0, 5, 0, []))))) (.branch 40 (.branch 36 (.leaf (13, 35, 0, 0, 0, [])) (.branch 37 (.leaf (13, 36, 0, 0, 0, [])) (.leaf (60, 37, 3, 3, 25, [320])))) (.branch 44 (.branch 41 (.leaf (9, 40, 0, 1, 0, [])) (.leaf (78, 41, 73, 0, 44, [891, 893, 19]))) (.branch 46 (.leaf (14, 44, 0, 6, 0, [])) (.leaf (13, 46, 0, 0, 0, []))))))) (.branch 70 (.branch 57 (.branch 52 (.branch 48 (.leaf (9, 47, 0, 1, 0, [])) (.branch 49 (.leaf (13, 48, 0, 3, 0, [])) (.leaf (78, 49, 74, 0, 47, [898, 900, 20])))) (.branch 53 (.leaf (1, 52, 0, 0, 9223372036854775808, [])) (.branch 55 (.leaf (14, 53, 0, 7, 0, [])) (.leaf (8, 55, 0, 7, 0, []))))) (.branch 63 (.branch 59 (.leaf (2, 57, 0, 0, 9223372036854775816, [])) (.branch 62 (.leaf (55, 59, 96, 0, 0, [])) (.leaf (13, 62, 0, 0, 0, [])))) (.branch 68 (.branch 66 (.leaf (60, 63, 3, 4, 9, [323])) (.leaf (8, 66, 0, 7, 0, []))) (.branch 69 (.leaf (45, 68, 0, 0, 0, [])) (.leaf (64, 69, 0, 0, 0, [])))))) (.branch 77 (.branch 74 (.branch 71 (.leaf (13, 70, 0, 3, 0, [])) (.branch 73 (.leaf (8, 71, 0, 7, 0, [])) (.leaf (64, 73, 0, 0, 0, [])))) (.branch 75 (.leaf (22, 74, 0, 0, 0, [])) (.branch 76 (.leaf (69, 75, 0, 0, 0, [])) (.leaf (13, 76, 0, 2, 0, []))))) (.branch 83 (.branch 80 (.leaf (60, 77, 3, 4, 9, [323])) (.branch 82 (.leaf (8, 80, 0, 7, 0, [])) (.leaf (45, 82, 0, 0, 0, [])))) (.branch 85 (.branch 84 (.leaf (64, 83, 0, 0, 0, [])) (.leaf (13, 84, 0, 3, 0, []))) (.branch 87 (.leaf (8, 85, 0, 7, 0, [])) (.leaf (64, 87, 0, 0, 0, [])))))))) (.branch 136 (.branch 112 (.branch 98 (.branch 93 (.branch 89 (.leaf (21, 88, 0, 0, 0, [])) (.branch 90 (.leaf (69, 89, 0, 0, 0, [])) (.leaf (20, 90, 0, 7, 9223372036854775809, [])))) (.branch 96 (.leaf (58, 93, 55, 0, 0, [])) (.branch 97 (.leaf (13, 96, 0, 0, 0, [])) (.leaf (44, 97, 0, 0, 0, []))))) (.branch 104 (.branch 101 (.leaf (60, 98, 3, 1, 19, [315])) (.branch 103 (.leaf (8, 101, 0, 4, 0, [])) (.leaf (22, 103, 0, 0, 0, [])))) (.branch 108 (.branch 107 (.leaf (61, 104, 3, 1, 19, [315])) (.leaf (13, 107, 0, 2, 0, []))) (.branch 109 (.leaf (44, 108, 0, 0, 0, [])) (.leaf (60, 109, 3, 1, 19, [315])))))) (.branch 123 (.branch 118 (.branch 114 (.leaf (8, 112, 0, 4, 0, [])) (.branch 115 (.leaf (21, 114, 0, 0, 0, [])) (.leaf (61, 115, 3, 1, 19, [315])))) (.branch 119 (.leaf (13, 118, 0, 0, 0, [])) (.branch 120 (.leaf (44, 119, 0, 0, 0, [])) (.leaf (60, 120, 3, 2, 22, [318]))))) (.branch 129 (.branch 125 (.leaf (8, 123, 0, 5, 0, [])) (.branch 126 (.leaf (22, 125, 0, 0, 0, [])) (.leaf (61, 126, 3, 2, 22, [318])))) (.branch 131 (.branch 130 (.leaf (13, 129, 0, 2, 0, [])) (.leaf (44, 130, 0, 0, 0, []))) (.branch 134 (.leaf (60, 131, 3, 2, 22, [318])) (.leaf (8, 134, 0, 5, 0, []))))))) (.branch 159 (.branch 147 (.branch 141 (.branch 137 (.leaf (21, 136, 0, 0, 0, [])) (.branch 140 (.leaf (61, 137, 3, 2, 22, [318])) (.leaf (13, 140, 0, 0, 0, [])))) (.branch 142 (.leaf (44, 141, 0, 0, 0, [])) (.branch 145 (.leaf (60, 142, 3, 3, 25, [320])) (.leaf (8, 145, 0, 6, 0, []))))) (.branch 152 (.branch 148 (.leaf (22, 147, 0, 0, 0, [])) (.branch 151 (.leaf (61, 148, 3, 3, 25, [320])) (.leaf (13, 151, 0, 2, 0, [])))) (.branch 156 (.branch 153 (.leaf (44, 152, 0, 0, 0, [])) (.leaf (60, 153, 3, 3, 25, [320]))) (.branch 158 (.leaf (8, 156, 0, 6, 0, [])) (.leaf (21, 158, 0, 0, 0, [])))))) (.branch 172 (.branch 164 (.branch 162 (.leaf (61, 159, 3, 3, 25, [320])) (.branch 163 (.leaf (13, 162, 0, 0, 0, [])) (.leaf (44, 163, 0, 0, 0, [])))) (.branch 168 (.branch 167 (.leaf (60, 164, 3, 0, 15, [312])) (.leaf (9, 167, 0, 1, 0, []))) (.branch 169 (.leaf (22, 168, 0, 0, 0, [])) (.leaf (61, 169, 3, 0, 15, [312]))))) (.branch 177 (.branch 173 (.leaf (13, 172, 0, 2, 0, [])) (.branch 174 (.leaf (44, 173, 0, 0, 0, [])) (.leaf (60, 174, 3, 0, 15, [312])))) (.branch 179 (.branch 178 (.leaf (9, 177, 0, 1, 0, [])) (.leaf (21, 178, 0, 0, 0, []))) (.branch 182 (.leaf (61, 179, 3, 0, 15, [312])) (.leaf (82, 182, 0, 0, 0, []))))))))
noncomputable def abM72 : abM := ((⟨"TallBins$Heap", "give", "(ILTallBins$Heap;[I)V"⟩, prog_5_method_8_code, 8, none), 3, 0, 0, 3, abK72)
set_option maxRecDepth 20000 in
noncomputable def abK73 : Lean.RArray abEy := .branch 12 (.branch 8 (.branch 4 (.branch 1 (.leaf (13, 0, 0, 0, 0, [])) (.leaf (60, 1, 3, 0, 15, [312]))) (.branch 7 (.leaf (51, 4, 24, 0, 0, [])) (.leaf (9, 7, 0, 2, 0, [])))) (.branch 10 (.branch 9 (.leaf (40, 8, 0, 0, 0, [])) (.leaf (9, 9, 0, 1, 0, []))) (.branch 11 (.leaf (40, 10, 0, 0, 0, [])) (.leaf (34, 11, 0, 0, 0, []))))) (.branch 20 (.branch 16 (.branch 13 (.leaf (13, 12, 0, 0, 0, [])) (.leaf (60, 13, 3, 0, 15, [312]))) (.branch 17 (.leaf (40, 16, 0, 0, 0, [])) (.leaf (79, 17, 272, 0, 51, [895, 896])))) (.branch 24 (.branch 21 (.leaf (41, 20, 0, 0, 0, [])) (.leaf (58, 21, 25, 0, 0, []))) (.branch 25 (.leaf (1, 24, 0, 0, 9223372036854775808, [])) (.leaf (83, 25, 0, 0, 0, [])))))
noncomputable def abM73 : abM := ((⟨"TallBins$Heap", "partOf", "(II)I"⟩, prog_5_method_9_code, 3, some .int), 2, 0, 0, 3, abK73)
set_option maxRecDepth 20000 in
noncomputable def abK74 : Lean.RArray abEy := .branch 33 (.branch 16 (.branch 7 (.branch 2 (.branch 1 (.leaf (9, 0, 0, 1, 0, [])) (.leaf (15, 1, 0, 3, 0, []))) (.branch 3 (.leaf (1, 2, 0, 0, 9223372036854775808, [])) (.branch 5 (.leaf (14, 3, 0, 4, 0, [])) (.leaf (8, 5, 0, 4, 0, []))))) (.branch 12 (.branch 9 (.leaf (2, 7, 0, 0, 9223372036854775816, [])) (.leaf (55, 9, 41, 0, 0, []))) (.branch 13 (.leaf (13, 12, 0, 2, 0, [])) (.branch 15 (.leaf (8, 13, 0, 4, 0, [])) (.leaf (13, 15, 0, 0, 0, [])))))) (.branch 24 (.branch 20 (.branch 17 (.leaf (13, 16, 0, 0, 0, [])) (.leaf (60, 17, 3, 4, 9, [323]))) (.branch 22 (.leaf (8, 20, 0, 4, 0, [])) (.branch 23 (.leaf (64, 22, 0, 0, 0, [])) (.leaf (9, 23, 0, 1, 0, []))))) (.branch 29 (.branch 27 (.leaf (78, 24, 73, 0, 44, [891, 893, 19])) (.branch 28 (.leaf (69, 27, 0, 0, 0, [])) (.leaf (9, 28, 0, 3, 0, [])))) (.branch 30 (.leaf (13, 29, 0, 2, 0, [])) (.branch 32 (.leaf (8, 30, 0, 4, 0, [])) (.leaf (64, 32, 0, 0, 0, []))))))) (.branch 52 (.branch 42 (.branch 35 (.branch 34 (.leaf (22, 33, 0, 0, 0, [])) (.leaf (15, 34, 0, 3, 0, []))) (.branch 38 (.leaf (20, 35, 0, 4, 9223372036854775809, [])) (.branch 41 (.leaf (58, 38, 5, 0, 0, [])) (.leaf (1, 41, 0, 0, 9223372036854775808, []))))) (.branch 47 (.branch 44 (.leaf (14, 42, 0, 4, 0, [])) (.branch 46 (.leaf (8, 44, 0, 4, 0, [])) (.leaf (9, 46, 0, 3, 0, [])))) (.branch 50 (.leaf (55, 47, 68, 0, 0, [])) (.branch 51 (.leaf (13, 50, 0, 2, 0, [])) (.leaf (13, 51, 0, 0, 0, [])))))) (.branch 59 (.branch 54 (.branch 53 (.leaf (9, 52, 0, 1, 0, [])) (.leaf (13, 53, 0, 2, 0, []))) (.branch 57 (.leaf (78, 54, 75, 0, 54, [902, 904, 21])) (.branch 58 (.leaf (45, 57, 0, 0, 0, [])) (.leaf (64, 58, 0, 0, 0, []))))) (.branch 62 (.branch 60 (.leaf (1, 59, 0, 0, 9223372036854775809, [])) (.branch 61 (.leaf (21, 60, 0, 0, 0, [])) (.leaf (69, 61, 0, 0, 0, [])))) (.branch 65 (.leaf (20, 62, 0, 4, 9223372036854775809, [])) (.branch 68 (.leaf (58, 65, 44, 0, 0, [])) (.leaf (82, 68, 0, 0, 0, [])))))))
noncomputable def abM74 : abM := ((⟨"TallBins$Heap", "shareLots", "(I[I)V"⟩, prog_5_method_10_code, 5, none), 2, 0, 0, 3, abK74)
set_option maxRecDepth 20000 in
noncomputable def abK75 : Lean.RArray abEy := .branch 31 (.branch 17 (.branch 7 (.branch 2 (.branch 1 (.leaf (1, 0, 0, 0, 9223372036854775808, [])) (.leaf (15, 1, 0, 3, 0, []))) (.branch 5 (.leaf (7, 2, 58, 0, 9223372036854775807, [906])) (.leaf (16, 5, 0, 4, 0, [])))) (.branch 10 (.branch 8 (.leaf (1, 7, 0, 0, 9223372036854775808, [])) (.leaf (14, 8, 0, 6, 0, []))) (.branch 12 (.leaf (8, 10, 0, 6, 0, [])) (.branch 14 (.leaf (2, 12, 0, 0, 9223372036854775816, [])) (.leaf (55, 14, 63, 0, 0, [])))))) (.branch 25 (.branch 19 (.branch 18 (.leaf (9, 17, 0, 1, 0, [])) (.leaf (40, 18, 0, 0, 0, []))) (.branch 20 (.leaf (13, 19, 0, 0, 0, [])) (.branch 23 (.leaf (60, 20, 3, 4, 9, [323])) (.leaf (8, 23, 0, 6, 0, []))))) (.branch 27 (.branch 26 (.leaf (64, 25, 0, 0, 0, [])) (.leaf (40, 26, 0, 0, 0, []))) (.branch 28 (.leaf (34, 27, 0, 0, 0, [])) (.branch 29 (.leaf (13, 28, 0, 2, 0, [])) (.leaf (8, 29, 0, 6, 0, []))))))) (.branch 46 (.branch 38 (.branch 33 (.branch 32 (.leaf (64, 31, 0, 0, 0, [])) (.leaf (40, 32, 0, 0, 0, []))) (.branch 34 (.leaf (13, 33, 0, 0, 0, [])) (.branch 37 (.leaf (60, 34, 3, 0, 15, [312])) (.leaf (40, 37, 0, 0, 0, []))))) (.branch 40 (.branch 39 (.leaf (34, 38, 0, 0, 0, [])) (.leaf (33, 39, 0, 0, 0, []))) (.branch 42 (.leaf (16, 40, 0, 7, 0, [])) (.branch 44 (.leaf (10, 42, 0, 7, 0, [])) (.leaf (10, 44, 0, 4, 0, [])))))) (.branch 56 (.branch 50 (.branch 47 (.leaf (43, 46, 0, 0, 0, [])) (.leaf (51, 47, 57, 0, 0, []))) (.branch 52 (.leaf (10, 50, 0, 7, 0, [])) (.branch 54 (.leaf (16, 52, 0, 4, 0, [])) (.leaf (8, 54, 0, 6, 0, []))))) (.branch 60 (.branch 57 (.leaf (15, 56, 0, 3, 0, [])) (.leaf (20, 57, 0, 6, 9223372036854775809, []))) (.branch 63 (.leaf (58, 60, 10, 0, 0, [])) (.branch 64 (.leaf (9, 63, 0, 3, 0, [])) (.leaf (83, 64, 0, 0, 0, [])))))))
noncomputable def abM75 : abM := ((⟨"TallBins$Heap", "greatestRest", "(I[I)I"⟩, prog_5_method_11_code, 9, some .int), 2, 0, 0, 3, abK75)
set_option maxRecDepth 20000 in
noncomputable def abK76 : Lean.RArray abEy := .branch 31 (.branch 14 (.branch 7 (.branch 2 (.branch 1 (.leaf (1, 0, 0, 0, 9223372036854775808, [])) (.leaf (15, 1, 0, 1, 0, []))) (.branch 3 (.leaf (9, 2, 0, 1, 0, [])) (.branch 4 (.leaf (13, 3, 0, 0, 0, [])) (.leaf (60, 4, 1, 0, 36, [337]))))) (.branch 11 (.branch 10 (.leaf (55, 7, 76, 0, 0, [])) (.leaf (9, 10, 0, 1, 0, []))) (.branch 12 (.leaf (1, 11, 0, 0, 9223372036854775809, [])) (.branch 13 (.leaf (21, 12, 0, 0, 0, [])) (.leaf (15, 13, 0, 2, 0, [])))))) (.branch 23 (.branch 16 (.branch 15 (.leaf (9, 14, 0, 2, 0, [])) (.leaf (13, 15, 0, 0, 0, []))) (.branch 19 (.leaf (60, 16, 1, 0, 36, [337])) (.branch 22 (.leaf (55, 19, 70, 0, 0, [])) (.leaf (13, 22, 0, 0, 0, []))))) (.branch 28 (.branch 26 (.leaf (60, 23, 1, 8, 20, [364])) (.branch 27 (.leaf (9, 26, 0, 2, 0, [])) (.leaf (67, 27, 0, 0, 0, [])))) (.branch 29 (.leaf (19, 28, 0, 3, 0, [])) (.branch 30 (.leaf (13, 29, 0, 3, 0, [])) (.leaf (13, 30, 0, 3, 0, []))))))) (.branch 52 (.branch 42 (.branch 35 (.branch 34 (.leaf (60, 31, 3, 0, 62, [313])) (.leaf (13, 34, 0, 0, 0, []))) (.branch 38 (.leaf (60, 35, 1, 1, 39, [341])) (.branch 39 (.leaf (13, 38, 0, 0, 0, [])) (.leaf (60, 39, 1, 8, 20, [364]))))) (.branch 47 (.branch 43 (.leaf (9, 42, 0, 1, 0, [])) (.branch 44 (.leaf (67, 43, 0, 0, 0, [])) (.leaf (60, 44, 3, 0, 62, [313])))) (.branch 48 (.leaf (22, 47, 0, 0, 0, [])) (.branch 51 (.leaf (79, 48, 269, 0, 87, [802, 598])) (.leaf (13, 51, 0, 0, 0, [])))))) (.branch 61 (.branch 56 (.branch 55 (.leaf (60, 52, 1, 8, 20, [364])) (.leaf (9, 55, 0, 1, 0, []))) (.branch 57 (.leaf (67, 56, 0, 0, 0, [])) (.branch 58 (.leaf (13, 57, 0, 0, 0, [])) (.leaf (60, 58, 1, 10, 31, [370]))))) (.branch 70 (.branch 64 (.leaf (78, 61, 72, 0, 97, [887, 888, 889])) (.branch 67 (.leaf (20, 64, 0, 2, 9223372036854775809, [])) (.leaf (58, 67, 14, 0, 0, [])))) (.branch 73 (.leaf (20, 70, 0, 1, 9223372036854775809, [])) (.branch 76 (.leaf (58, 73, 2, 0, 0, [])) (.leaf (82, 76, 0, 0, 0, [])))))))
noncomputable def abM76 : abM := ((⟨"TallBins$Bin", "settle", "()V"⟩, prog_3_method_15_code, 4, none), 0, 0, 0, 1, abK76)
set_option maxRecDepth 20000 in
noncomputable def abK77 : Lean.RArray abEy := .branch 13 (.branch 4 (.branch 2 (.branch 1 (.leaf (1, 0, 0, 0, 9223372036854775808, [])) (.leaf (15, 1, 0, 1, 0, []))) (.branch 3 (.leaf (1, 2, 0, 0, 9223372036854775808, [])) (.leaf (15, 3, 0, 2, 0, [])))) (.branch 6 (.branch 5 (.leaf (9, 4, 0, 2, 0, [])) (.leaf (13, 5, 0, 0, 0, []))) (.branch 9 (.leaf (60, 6, 1, 0, 36, [337])) (.branch 12 (.leaf (55, 9, 33, 0, 0, [])) (.leaf (13, 12, 0, 0, 0, [])))))) (.branch 24 (.branch 17 (.branch 16 (.leaf (60, 13, 1, 8, 20, [364])) (.leaf (9, 16, 0, 2, 0, []))) (.branch 18 (.leaf (67, 17, 0, 0, 0, [])) (.branch 21 (.leaf (60, 18, 3, 0, 62, [313])) (.leaf (51, 21, 27, 0, 0, []))))) (.branch 30 (.branch 27 (.leaf (20, 24, 0, 1, 9223372036854775809, [])) (.leaf (20, 27, 0, 2, 9223372036854775809, []))) (.branch 33 (.leaf (58, 30, 4, 0, 0, [])) (.branch 34 (.leaf (9, 33, 0, 1, 0, [])) (.leaf (83, 34, 0, 0, 0, []))))))
noncomputable def abM77 : abM := ((⟨"TallBins$Bin", "ringsWithUnits", "()I"⟩, prog_3_method_5_code, 3, some .int), 0, 0, 0, 1, abK77)
set_option maxRecDepth 20000 in
noncomputable def abK78 : Lean.RArray abEy := .branch 38 (.branch 19 (.branch 10 (.branch 2 (.branch 1 (.leaf (13, 0, 0, 0, 0, [])) (.leaf (9, 1, 0, 1, 0, []))) (.branch 5 (.leaf (78, 2, 48, 0, 123, [777, 779, 16])) (.branch 8 (.leaf (47, 5, 11, 0, 0, [])) (.leaf (2, 8, 0, 0, 9223372036854775806, []))))) (.branch 12 (.branch 11 (.leaf (83, 10, 0, 0, 0, [])) (.leaf (13, 11, 0, 0, 0, []))) (.branch 15 (.leaf (60, 12, 11, 3, 25, [531])) (.branch 18 (.leaf (60, 15, 4, 1, 143, [399])) (.leaf (9, 18, 0, 1, 0, [])))))) (.branch 28 (.branch 21 (.branch 20 (.leaf (67, 19, 0, 0, 0, [])) (.leaf (19, 20, 0, 2, 0, []))) (.branch 22 (.leaf (13, 21, 0, 2, 0, [])) (.branch 25 (.leaf (60, 22, 1, 5, 188, [355])) (.leaf (46, 25, 36, 0, 0, []))))) (.branch 32 (.branch 29 (.leaf (13, 28, 0, 2, 0, [])) (.leaf (60, 29, 1, 6, 147, [359]))) (.branch 33 (.leaf (1, 32, 0, 0, 9223372036854775807, [])) (.branch 36 (.leaf (52, 33, 39, 0, 0, [])) (.leaf (2, 36, 0, 0, 9223372036854775803, []))))))) (.branch 56 (.branch 45 (.branch 40 (.branch 39 (.leaf (83, 38, 0, 0, 0, [])) (.leaf (13, 39, 0, 2, 0, []))) (.branch 41 (.leaf (1, 40, 0, 0, 9223372036854775808, [])) (.branch 44 (.leaf (62, 41, 1, 5, 188, [355])) (.leaf (13, 44, 0, 0, 0, []))))) (.branch 49 (.branch 48 (.leaf (60, 45, 11, 10, 65, [538])) (.leaf (1, 48, 0, 0, 9223372036854775808, []))) (.branch 52 (.leaf (62, 49, 2, 0, 104, [500])) (.branch 53 (.leaf (13, 52, 0, 0, 0, [])) (.leaf (60, 53, 11, 3, 25, [531])))))) (.branch 67 (.branch 60 (.branch 59 (.leaf (60, 56, 4, 0, 108, [395])) (.leaf (13, 59, 0, 2, 0, []))) (.branch 63 (.leaf (60, 60, 1, 4, 150, [351])) (.branch 66 (.leaf (78, 63, 79, 0, 198, [919, 920, 921])) (.leaf (13, 66, 0, 2, 0, []))))) (.branch 72 (.branch 70 (.leaf (78, 67, 51, 0, 165, [819, 795, 796])) (.branch 71 (.leaf (23, 70, 0, 0, 0, [])) (.leaf (13, 71, 0, 2, 0, [])))) (.branch 75 (.leaf (78, 72, 77, 0, 201, [923, 912, 913])) (.branch 76 (.leaf (23, 75, 0, 0, 0, [])) (.leaf (83, 76, 0, 0, 0, [])))))))
noncomputable def abM78 : abM := ((⟨"TallBins", "poke", "(I)I"⟩, prog_1_method_12_code, 3, some .int), 1, 0, 0, 11, abK78)
set_option maxRecDepth 20000 in
noncomputable def abK79 : Lean.RArray abEy := .branch 10 (.branch 5 (.branch 1 (.leaf (9, 0, 0, 1, 0, [])) (.branch 4 (.leaf (48, 1, 18, 0, 0, [])) (.leaf (9, 4, 0, 1, 0, [])))) (.branch 6 (.leaf (1, 5, 0, 0, 9223372036854775812, [])) (.branch 9 (.leaf (55, 6, 18, 0, 0, [])) (.leaf (13, 9, 0, 0, 0, []))))) (.branch 15 (.branch 13 (.leaf (60, 10, 10, 7, 24, [183])) (.branch 14 (.leaf (9, 13, 0, 1, 0, [])) (.leaf (64, 14, 0, 0, 0, [])))) (.branch 18 (.leaf (58, 15, 19, 0, 0, [])) (.branch 19 (.leaf (1, 18, 0, 0, 9223372036854775808, [])) (.leaf (83, 19, 0, 0, 0, [])))))
noncomputable def abM79 : abM := ((⟨"TallBins$Rules", "heavyOf", "(I)I"⟩, prog_12_method_6_code, 2, some .int), 1, 0, 0, 10, abK79)
set_option maxRecDepth 20000 in
noncomputable def abK80 : Lean.RArray abEy := .branch 66 (.branch 33 (.branch 17 (.branch 8 (.branch 2 (.branch 1 (.leaf (13, 0, 0, 0, 0, [])) (.leaf (9, 1, 0, 1, 0, []))) (.branch 5 (.leaf (78, 2, 48, 0, 123, [777, 779, 16])) (.leaf (46, 5, 21, 0, 0, [])))) (.branch 10 (.branch 9 (.leaf (13, 8, 0, 0, 0, [])) (.leaf (9, 9, 0, 2, 0, []))) (.branch 13 (.leaf (78, 10, 48, 0, 123, [777, 779, 16])) (.branch 16 (.leaf (46, 13, 21, 0, 0, [])) (.leaf (9, 16, 0, 1, 0, [])))))) (.branch 24 (.branch 21 (.branch 18 (.leaf (9, 17, 0, 2, 0, [])) (.leaf (53, 18, 24, 0, 0, []))) (.branch 23 (.leaf (2, 21, 0, 0, 9223372036854775806, [])) (.leaf (83, 23, 0, 0, 0, [])))) (.branch 28 (.branch 25 (.leaf (13, 24, 0, 0, 0, [])) (.leaf (60, 25, 11, 3, 25, [531]))) (.branch 31 (.leaf (60, 28, 4, 1, 143, [399])) (.branch 32 (.leaf (9, 31, 0, 1, 0, [])) (.leaf (67, 32, 0, 0, 0, []))))))) (.branch 49 (.branch 41 (.branch 35 (.branch 34 (.leaf (19, 33, 0, 3, 0, [])) (.leaf (13, 34, 0, 0, 0, []))) (.branch 38 (.leaf (60, 35, 11, 3, 25, [531])) (.leaf (60, 38, 4, 1, 143, [399])))) (.branch 43 (.branch 42 (.leaf (9, 41, 0, 2, 0, [])) (.leaf (67, 42, 0, 0, 0, []))) (.branch 45 (.leaf (18, 43, 0, 4, 0, [])) (.branch 46 (.leaf (13, 45, 0, 3, 0, [])) (.leaf (78, 46, 20, 0, 181, [843, 589, 590])))))) (.branch 56 (.branch 54 (.branch 52 (.leaf (46, 49, 55, 0, 0, [])) (.leaf (2, 52, 0, 0, 9223372036854775802, []))) (.branch 55 (.leaf (83, 54, 0, 0, 0, [])) (.leaf (13, 55, 0, 0, 0, [])))) (.branch 60 (.branch 59 (.leaf (60, 56, 11, 3, 25, [531])) (.leaf (9, 59, 0, 1, 0, []))) (.branch 63 (.leaf (78, 60, 63, 0, 184, [844, 845, 846])) (.branch 65 (.leaf (14, 63, 0, 5, 0, [])) (.leaf (13, 65, 0, 3, 0, [])))))))) (.branch 106 (.branch 87 (.branch 75 (.branch 72 (.branch 69 (.leaf (60, 66, 1, 5, 188, [355])) (.leaf (47, 69, 103, 0, 0, []))) (.branch 74 (.leaf (8, 72, 0, 5, 0, [])) (.leaf (1, 74, 0, 0, 9223372036854775810, [])))) (.branch 80 (.branch 78 (.leaf (52, 75, 103, 0, 0, [])) (.leaf (12, 78, 0, 4, 0, []))) (.branch 83 (.leaf (78, 80, 20, 0, 181, [843, 589, 590])) (.branch 86 (.leaf (46, 83, 103, 0, 0, [])) (.leaf (13, 86, 0, 3, 0, [])))))) (.branch 96 (.branch 91 (.branch 90 (.leaf (60, 87, 1, 6, 147, [359])) (.leaf (1, 90, 0, 0, 9223372036854775807, []))) (.branch 94 (.leaf (53, 91, 103, 0, 0, [])) (.leaf (12, 94, 0, 4, 0, [])))) (.branch 100 (.branch 99 (.leaf (60, 96, 1, 6, 147, [359])) (.leaf (1, 99, 0, 0, 9223372036854775807, []))) (.branch 103 (.leaf (52, 100, 106, 0, 0, [])) (.branch 105 (.leaf (2, 103, 0, 0, 9223372036854775803, [])) (.leaf (83, 105, 0, 0, 0, []))))))) (.branch 124 (.branch 115 (.branch 111 (.branch 108 (.leaf (12, 106, 0, 4, 0, [])) (.leaf (78, 108, 50, 0, 153, [790, 791, 792]))) (.branch 112 (.leaf (13, 111, 0, 3, 0, [])) (.leaf (78, 112, 51, 0, 165, [819, 795, 796])))) (.branch 120 (.branch 118 (.leaf (55, 115, 121, 0, 0, [])) (.leaf (2, 118, 0, 0, 9223372036854775805, []))) (.branch 121 (.leaf (83, 120, 0, 0, 0, [])) (.branch 122 (.leaf (13, 121, 0, 3, 0, [])) (.leaf (12, 122, 0, 4, 0, [])))))) (.branch 133 (.branch 129 (.branch 126 (.leaf (8, 124, 0, 5, 0, [])) (.leaf (78, 126, 81, 0, 204, [928, 929, 930]))) (.branch 130 (.leaf (13, 129, 0, 0, 0, [])) (.leaf (60, 130, 11, 10, 65, [538])))) (.branch 137 (.branch 134 (.leaf (1, 133, 0, 0, 9223372036854775808, [])) (.leaf (62, 134, 2, 0, 104, [500]))) (.branch 139 (.leaf (12, 137, 0, 4, 0, [])) (.branch 142 (.leaf (78, 139, 51, 0, 165, [819, 795, 796])) (.leaf (83, 142, 0, 0, 0, []))))))))
noncomputable def abM80 : abM := ((⟨"TallBins", "turn", "(II)I"⟩, prog_1_method_13_code, 6, some .int), 2, 0, 0, 11, abK80)
set_option maxRecDepth 20000 in
noncomputable def abK81 : Lean.RArray abEy := .branch 68 (.branch 29 (.branch 15 (.branch 4 (.branch 2 (.branch 1 (.leaf (1, 0, 0, 0, 9223372036854775808, [])) (.leaf (15, 1, 0, 3, 0, []))) (.branch 3 (.leaf (9, 2, 0, 3, 0, [])) (.leaf (13, 3, 0, 0, 0, [])))) (.branch 10 (.branch 7 (.leaf (60, 4, 1, 0, 36, [337])) (.leaf (55, 7, 86, 0, 0, []))) (.branch 11 (.leaf (13, 10, 0, 0, 0, [])) (.branch 14 (.leaf (60, 11, 1, 8, 20, [364])) (.leaf (13, 14, 0, 0, 0, [])))))) (.branch 21 (.branch 17 (.branch 16 (.leaf (9, 15, 0, 3, 0, [])) (.leaf (9, 16, 0, 2, 0, []))) (.branch 20 (.leaf (78, 17, 71, 0, 94, [883, 885, 18])) (.leaf (67, 20, 0, 0, 0, [])))) (.branch 24 (.branch 23 (.leaf (18, 21, 0, 4, 0, [])) (.leaf (1, 23, 0, 0, 9223372036854775808, []))) (.branch 26 (.leaf (14, 24, 0, 5, 0, [])) (.branch 28 (.leaf (8, 26, 0, 5, 0, [])) (.leaf (13, 28, 0, 1, 0, []))))))) (.branch 50 (.branch 39 (.branch 35 (.branch 32 (.leaf (60, 29, 1, 0, 36, [337])) (.leaf (55, 32, 80, 0, 0, []))) (.branch 37 (.leaf (12, 35, 0, 4, 0, [])) (.leaf (12, 37, 0, 4, 0, [])))) (.branch 43 (.branch 42 (.leaf (60, 39, 3, 0, 62, [313])) (.leaf (13, 42, 0, 1, 0, []))) (.branch 46 (.leaf (60, 43, 1, 1, 39, [341])) (.branch 47 (.leaf (13, 46, 0, 1, 0, [])) (.leaf (60, 47, 1, 8, 20, [364])))))) (.branch 60 (.branch 53 (.branch 52 (.leaf (8, 50, 0, 5, 0, [])) (.leaf (67, 52, 0, 0, 0, []))) (.branch 56 (.leaf (60, 53, 3, 0, 62, [313])) (.branch 57 (.leaf (22, 56, 0, 0, 0, [])) (.leaf (79, 57, 269, 0, 87, [802, 598]))))) (.branch 64 (.branch 61 (.leaf (13, 60, 0, 1, 0, [])) (.leaf (60, 61, 1, 8, 20, [364]))) (.branch 66 (.leaf (8, 64, 0, 5, 0, [])) (.branch 67 (.leaf (67, 66, 0, 0, 0, [])) (.leaf (13, 67, 0, 0, 0, [])))))))) (.branch 106 (.branch 89 (.branch 80 (.branch 74 (.branch 71 (.leaf (60, 68, 1, 10, 31, [370])) (.leaf (78, 71, 72, 0, 97, [887, 888, 889]))) (.branch 77 (.leaf (20, 74, 0, 5, 9223372036854775809, [])) (.leaf (58, 77, 26, 0, 0, [])))) (.branch 86 (.branch 83 (.leaf (20, 80, 0, 3, 9223372036854775809, [])) (.leaf (58, 83, 2, 0, 0, []))) (.branch 87 (.leaf (1, 86, 0, 0, 9223372036854775808, [])) (.branch 88 (.leaf (15, 87, 0, 3, 0, [])) (.leaf (9, 88, 0, 3, 0, [])))))) (.branch 97 (.branch 93 (.branch 90 (.leaf (13, 89, 0, 1, 0, [])) (.leaf (60, 90, 1, 0, 36, [337]))) (.branch 96 (.leaf (55, 93, 127, 0, 0, [])) (.leaf (13, 96, 0, 1, 0, [])))) (.branch 101 (.branch 100 (.leaf (60, 97, 1, 8, 20, [364])) (.leaf (9, 100, 0, 3, 0, []))) (.branch 102 (.leaf (67, 101, 0, 0, 0, [])) (.branch 103 (.leaf (44, 102, 0, 0, 0, [])) (.leaf (60, 103, 3, 2, 107, [319]))))))) (.branch 121 (.branch 112 (.branch 108 (.branch 107 (.leaf (1, 106, 0, 0, 9223372036854775811, [])) (.leaf (13, 107, 0, 1, 0, []))) (.branch 111 (.leaf (60, 108, 1, 8, 20, [364])) (.leaf (9, 111, 0, 3, 0, [])))) (.branch 116 (.branch 113 (.leaf (67, 112, 0, 0, 0, [])) (.leaf (60, 113, 3, 0, 62, [313]))) (.branch 117 (.leaf (23, 116, 0, 0, 0, [])) (.branch 118 (.leaf (22, 117, 0, 0, 0, [])) (.leaf (61, 118, 3, 2, 107, [319])))))) (.branch 132 (.branch 127 (.branch 124 (.leaf (20, 121, 0, 3, 9223372036854775809, [])) (.leaf (58, 124, 88, 0, 0, []))) (.branch 128 (.leaf (13, 127, 0, 1, 0, [])) (.branch 129 (.leaf (13, 128, 0, 0, 0, [])) (.leaf (60, 129, 1, 4, 9, [348]))))) (.branch 136 (.branch 135 (.leaf (61, 132, 1, 4, 9, [348])) (.leaf (13, 135, 0, 0, 0, []))) (.branch 137 (.leaf (1, 136, 0, 0, 9223372036854775807, [])) (.branch 140 (.leaf (61, 137, 1, 4, 9, [348])) (.leaf (82, 140, 0, 0, 0, []))))))))
noncomputable def abM81 : abM := ((⟨"TallBins$Bin", "turnInto", "(LTallBins$Bin;I)V"⟩, prog_3_method_16_code, 6, none), 2, 0, 0, 1, abK81)
set_option maxRecDepth 20000 in
noncomputable def abK82 : Lean.RArray abEy := .branch 5 (.branch 1 (.leaf (13, 0, 0, 0, 0, [])) (.branch 4 (.leaf (60, 1, 11, 9, 58, [537])) (.leaf (13, 4, 0, 0, 0, [])))) (.branch 9 (.branch 8 (.leaf (60, 5, 11, 3, 25, [531])) (.leaf (9, 8, 0, 1, 0, []))) (.branch 12 (.leaf (78, 9, 83, 0, 208, [936, 937, 938])) (.leaf (83, 12, 0, 0, 0, []))))
noncomputable def abM82 : abM := ((⟨"TallBins", "plan", "(I)I"⟩, prog_1_method_14_code, 2, some .int), 1, 0, 0, 11, abK82)
set_option maxRecDepth 20000 in
noncomputable def abK83 : Lean.RArray abEy := .branch 31 (.branch 14 (.branch 6 (.branch 2 (.branch 1 (.leaf (13, 0, 0, 0, 0, [])) (.leaf (13, 1, 0, 1, 0, []))) (.branch 3 (.leaf (9, 2, 0, 2, 0, [])) (.leaf (78, 3, 84, 0, 34, [940, 942, 23])))) (.branch 10 (.branch 9 (.leaf (46, 6, 17, 0, 0, [])) (.leaf (13, 9, 0, 0, 0, []))) (.branch 11 (.leaf (1, 10, 0, 0, 9223372036854775808, [])) (.leaf (79, 11, 87, 0, 38, [954, 955]))))) (.branch 20 (.branch 18 (.branch 17 (.leaf (47, 14, 19, 0, 0, [])) (.leaf (1, 17, 0, 0, 9223372036854775807, []))) (.branch 19 (.leaf (83, 18, 0, 0, 0, [])) (.leaf (13, 19, 0, 0, 0, [])))) (.branch 24 (.branch 21 (.leaf (13, 20, 0, 0, 0, [])) (.leaf (60, 21, 6, 3, 42, [468]))) (.branch 27 (.leaf (61, 24, 6, 0, 46, [462])) (.branch 28 (.leaf (13, 27, 0, 0, 0, [])) (.leaf (60, 28, 6, 7, 28, [472]))))))) (.branch 46 (.branch 37 (.branch 33 (.branch 32 (.leaf (1, 31, 0, 0, 9223372036854775808, [])) (.leaf (13, 32, 0, 0, 0, []))) (.branch 36 (.leaf (60, 33, 6, 1, 9, [464])) (.leaf (1, 36, 0, 0, 9223372036854775808, [])))) (.branch 42 (.branch 39 (.leaf (2, 37, 0, 0, 9223372036854775814, [])) (.leaf (77, 39, 0, 0, 49, [965, 758, 757, 102]))) (.branch 43 (.leaf (13, 42, 0, 0, 0, [])) (.leaf (60, 43, 6, 8, 31, [473]))))) (.branch 52 (.branch 48 (.branch 47 (.leaf (1, 46, 0, 0, 9223372036854775808, [])) (.leaf (13, 47, 0, 0, 0, []))) (.branch 51 (.leaf (60, 48, 6, 2, 15, [466])) (.leaf (1, 51, 0, 0, 9223372036854775808, [])))) (.branch 57 (.branch 54 (.leaf (2, 52, 0, 0, 9223372036854775814, [])) (.leaf (77, 54, 0, 0, 49, [965, 758, 757, 102]))) (.branch 58 (.leaf (13, 57, 0, 0, 0, [])) (.branch 61 (.leaf (60, 58, 6, 0, 46, [462])) (.leaf (83, 61, 0, 0, 0, [])))))))
noncomputable def abM83 : abM := ((⟨"TallBins$Planner", "findTurns", "(LTallBins$House;I)I"⟩, prog_8_method_2_code, 3, some .int), 2, 0, 0, 6, abK83)
set_option maxRecDepth 20000 in
noncomputable def abK84 : Lean.RArray abEy := .branch 62 (.branch 28 (.branch 13 (.branch 6 (.branch 2 (.branch 1 (.leaf (13, 0, 0, 0, 0, [])) (.leaf (1, 1, 0, 0, 9223372036854775808, []))) (.branch 5 (.leaf (61, 2, 6, 3, 42, [468])) (.leaf (1, 5, 0, 0, 9223372036854775808, [])))) (.branch 8 (.branch 7 (.leaf (15, 6, 0, 3, 0, [])) (.leaf (9, 7, 0, 3, 0, []))) (.branch 10 (.leaf (2, 8, 0, 0, 9223372036854775814, [])) (.leaf (55, 10, 119, 0, 0, []))))) (.branch 19 (.branch 17 (.branch 14 (.leaf (13, 13, 0, 1, 0, [])) (.leaf (60, 14, 4, 1, 55, [398]))) (.branch 18 (.leaf (9, 17, 0, 3, 0, [])) (.leaf (67, 18, 0, 0, 0, [])))) (.branch 22 (.branch 21 (.leaf (18, 19, 0, 4, 0, [])) (.leaf (13, 21, 0, 0, 0, []))) (.branch 25 (.leaf (60, 22, 6, 5, 22, [470])) (.branch 26 (.leaf (9, 25, 0, 3, 0, [])) (.leaf (12, 26, 0, 4, 0, []))))))) (.branch 43 (.branch 36 (.branch 32 (.branch 31 (.leaf (78, 28, 51, 0, 61, [944, 795, 796])) (.leaf (69, 31, 0, 0, 0, []))) (.branch 33 (.leaf (13, 32, 0, 0, 0, [])) (.leaf (60, 33, 6, 6, 25, [471])))) (.branch 39 (.branch 37 (.leaf (9, 36, 0, 3, 0, [])) (.leaf (12, 37, 0, 4, 0, []))) (.branch 42 (.leaf (60, 39, 1, 6, 66, [358])) (.leaf (1, 42, 0, 0, 9223372036854775807, []))))) (.branch 53 (.branch 48 (.branch 46 (.leaf (53, 43, 60, 0, 0, [])) (.leaf (12, 46, 0, 4, 0, []))) (.branch 51 (.leaf (60, 48, 1, 0, 69, [338])) (.leaf (12, 51, 0, 4, 0, [])))) (.branch 57 (.branch 56 (.leaf (60, 53, 1, 1, 72, [342])) (.leaf (23, 56, 0, 0, 0, []))) (.branch 60 (.leaf (58, 57, 61, 0, 0, [])) (.branch 61 (.leaf (1, 60, 0, 0, 9223372036854775808, [])) (.leaf (69, 61, 0, 0, 0, [])))))))) (.branch 90 (.branch 75 (.branch 69 (.branch 66 (.branch 63 (.leaf (13, 62, 0, 0, 0, [])) (.leaf (60, 63, 6, 4, 18, [469]))) (.branch 67 (.leaf (9, 66, 0, 3, 0, [])) (.leaf (12, 67, 0, 4, 0, [])))) (.branch 71 (.branch 70 (.leaf (1, 69, 0, 0, 9223372036854775808, [])) (.leaf (9, 70, 0, 2, 0, []))) (.branch 74 (.leaf (78, 71, 85, 0, 75, [945, 946, 947])) (.leaf (1, 74, 0, 0, 9223372036854775807, []))))) (.branch 83 (.branch 79 (.branch 78 (.leaf (52, 75, 82, 0, 0, [])) (.leaf (1, 78, 0, 0, 9223372036854775809, []))) (.branch 82 (.leaf (58, 79, 83, 0, 0, [])) (.leaf (1, 82, 0, 0, 9223372036854775808, [])))) (.branch 85 (.branch 84 (.leaf (70, 83, 0, 0, 0, [])) (.leaf (13, 84, 0, 0, 0, []))) (.branch 88 (.leaf (60, 85, 6, 4, 18, [469])) (.branch 89 (.leaf (9, 88, 0, 3, 0, [])) (.leaf (65, 89, 0, 0, 0, []))))))) (.branch 104 (.branch 98 (.branch 94 (.branch 93 (.leaf (46, 90, 113, 0, 0, [])) (.leaf (13, 93, 0, 1, 0, []))) (.branch 95 (.leaf (9, 94, 0, 3, 0, [])) (.leaf (78, 95, 86, 0, 79, [950, 951, 952])))) (.branch 102 (.branch 101 (.leaf (47, 98, 103, 0, 0, [])) (.leaf (1, 101, 0, 0, 9223372036854775808, []))) (.branch 103 (.leaf (83, 102, 1, 0, 0, [])) (.leaf (13, 103, 0, 0, 0, []))))) (.branch 110 (.branch 108 (.branch 105 (.leaf (44, 104, 0, 0, 0, [])) (.leaf (60, 105, 6, 3, 42, [468]))) (.branch 109 (.leaf (1, 108, 0, 0, 9223372036854775809, [])) (.leaf (21, 109, 0, 0, 0, [])))) (.branch 116 (.branch 113 (.leaf (61, 110, 6, 3, 42, [468])) (.leaf (20, 113, 0, 3, 9223372036854775809, []))) (.branch 119 (.leaf (58, 116, 7, 0, 0, [])) (.branch 120 (.leaf (1, 119, 0, 0, 9223372036854775809, [])) (.leaf (83, 120, 1, 0, 0, []))))))))
noncomputable def abM84 : abM := ((⟨"TallBins$Planner", "lookAtBins", "(LTallBins$House;I)Z"⟩, prog_8_method_3_code, 5, some .boolean), 2, 0, 0, 6, abK84)
set_option maxRecDepth 20000 in
noncomputable def abK85 : Lean.RArray abEy := .branch 23 (.branch 10 (.branch 3 (.branch 1 (.leaf (1, 0, 0, 0, 9223372036854775808, [])) (.branch 2 (.leaf (15, 1, 0, 3, 0, [])) (.leaf (9, 2, 0, 3, 0, [])))) (.branch 4 (.leaf (13, 3, 0, 0, 0, [])) (.branch 7 (.leaf (60, 4, 1, 0, 36, [337])) (.leaf (55, 7, 44, 0, 0, []))))) (.branch 15 (.branch 11 (.leaf (13, 10, 0, 0, 0, [])) (.branch 14 (.leaf (60, 11, 1, 8, 20, [364])) (.leaf (9, 14, 0, 3, 0, [])))) (.branch 19 (.branch 16 (.leaf (67, 15, 0, 0, 0, [])) (.leaf (60, 16, 3, 0, 62, [313]))) (.branch 22 (.leaf (51, 19, 38, 0, 0, [])) (.leaf (13, 22, 0, 0, 0, [])))))) (.branch 33 (.branch 28 (.branch 26 (.leaf (60, 23, 1, 8, 20, [364])) (.branch 27 (.leaf (9, 26, 0, 3, 0, [])) (.leaf (67, 27, 0, 0, 0, [])))) (.branch 29 (.leaf (9, 28, 0, 1, 0, [])) (.branch 32 (.leaf (78, 29, 66, 0, 83, [949, 857, 858])) (.leaf (9, 32, 0, 2, 0, []))))) (.branch 38 (.branch 36 (.leaf (54, 33, 38, 0, 0, [])) (.branch 37 (.leaf (9, 36, 0, 3, 0, [])) (.leaf (83, 37, 0, 0, 0, [])))) (.branch 44 (.branch 41 (.leaf (20, 38, 0, 3, 9223372036854775809, [])) (.leaf (58, 41, 2, 0, 0, []))) (.branch 45 (.leaf (1, 44, 0, 0, 9223372036854775807, [])) (.leaf (83, 45, 0, 0, 0, []))))))
noncomputable def abM85 : abM := ((⟨"TallBins$Bin", "lowestAt", "(II)I"⟩, prog_3_method_11_code, 4, some .int), 2, 0, 0, 1, abK85)
set_option maxRecDepth 20000 in
noncomputable def abK86 : Lean.RArray abEy := .branch 22 (.branch 8 (.branch 5 (.branch 1 (.leaf (13, 0, 0, 0, 0, [])) (.branch 4 (.leaf (60, 1, 4, 1, 20, [396])) (.leaf (9, 4, 0, 1, 0, [])))) (.branch 6 (.leaf (67, 5, 0, 0, 0, [])) (.branch 7 (.leaf (19, 6, 0, 2, 0, [])) (.leaf (13, 7, 0, 2, 0, []))))) (.branch 15 (.branch 11 (.leaf (78, 8, 20, 0, 68, [588, 589, 590])) (.branch 14 (.leaf (47, 11, 42, 0, 0, [])) (.leaf (13, 14, 0, 2, 0, [])))) (.branch 18 (.leaf (60, 15, 1, 5, 134, [353])) (.branch 21 (.leaf (47, 18, 42, 0, 0, [])) (.leaf (13, 21, 0, 2, 0, [])))))) (.branch 34 (.branch 29 (.branch 25 (.leaf (60, 22, 1, 6, 72, [357])) (.branch 26 (.leaf (1, 25, 0, 0, 9223372036854775807, [])) (.leaf (53, 26, 42, 0, 0, [])))) (.branch 30 (.leaf (13, 29, 0, 0, 0, [])) (.branch 31 (.leaf (9, 30, 0, 1, 0, [])) (.leaf (78, 31, 63, 0, 138, [878, 845, 846]))))) (.branch 39 (.branch 35 (.leaf (1, 34, 0, 0, 9223372036854775810, [])) (.branch 38 (.leaf (52, 35, 42, 0, 0, [])) (.leaf (1, 38, 0, 0, 9223372036854775809, [])))) (.branch 42 (.leaf (58, 39, 43, 0, 0, [])) (.branch 43 (.leaf (1, 42, 0, 0, 9223372036854775808, [])) (.leaf (83, 43, 1, 0, 0, []))))))
noncomputable def abM86 : abM := ((⟨"TallBins$House", "isOpen", "(I)Z"⟩, prog_6_method_7_code, 3, some .boolean), 1, 0, 0, 4, abK86)
set_option maxRecDepth 20000 in
noncomputable def abK87 : Lean.RArray abEy := .branch 51 (.branch 25 (.branch 14 (.branch 5 (.branch 1 (.leaf (9, 0, 0, 1, 0, [])) (.branch 2 (.leaf (13, 1, 0, 0, 0, [])) (.leaf (60, 2, 6, 3, 42, [468])))) (.branch 9 (.branch 8 (.leaf (55, 5, 14, 0, 0, [])) (.leaf (9, 8, 0, 1, 0, []))) (.branch 11 (.leaf (2, 9, 0, 0, 9223372036854775814, [])) (.leaf (54, 11, 16, 0, 0, []))))) (.branch 18 (.branch 16 (.branch 15 (.leaf (1, 14, 0, 0, 9223372036854775809, [])) (.leaf (83, 15, 1, 0, 0, []))) (.branch 17 (.leaf (1, 16, 0, 0, 9223372036854775808, [])) (.leaf (15, 17, 0, 2, 0, [])))) (.branch 21 (.branch 19 (.leaf (9, 18, 0, 2, 0, [])) (.leaf (2, 19, 0, 0, 9223372036854775814, []))) (.branch 24 (.leaf (55, 21, 102, 0, 0, [])) (.leaf (1, 24, 0, 0, 9223372036854775808, [])))))) (.branch 37 (.branch 29 (.branch 26 (.leaf (15, 25, 0, 3, 0, [])) (.branch 27 (.leaf (9, 26, 0, 3, 0, [])) (.leaf (2, 27, 0, 0, 9223372036854775814, [])))) (.branch 33 (.branch 32 (.leaf (55, 29, 96, 0, 0, [])) (.leaf (13, 32, 0, 0, 0, []))) (.branch 36 (.leaf (60, 33, 6, 4, 18, [469])) (.leaf (9, 36, 0, 2, 0, []))))) (.branch 45 (.branch 41 (.branch 38 (.leaf (65, 37, 0, 0, 0, [])) (.leaf (46, 38, 90, 0, 0, []))) (.branch 42 (.leaf (13, 41, 0, 0, 0, [])) (.leaf (60, 42, 6, 5, 22, [470])))) (.branch 47 (.branch 46 (.leaf (9, 45, 0, 3, 0, [])) (.leaf (64, 46, 0, 0, 0, []))) (.branch 50 (.leaf (47, 47, 90, 0, 0, [])) (.leaf (13, 50, 0, 0, 0, []))))))) (.branch 74 (.branch 62 (.branch 56 (.branch 54 (.leaf (60, 51, 6, 6, 25, [471])) (.branch 55 (.leaf (9, 54, 0, 3, 0, [])) (.leaf (64, 55, 0, 0, 0, [])))) (.branch 60 (.branch 57 (.leaf (13, 56, 0, 0, 0, [])) (.leaf (60, 57, 6, 5, 22, [470]))) (.branch 61 (.leaf (9, 60, 0, 2, 0, [])) (.leaf (64, 61, 0, 0, 0, []))))) (.branch 68 (.branch 66 (.branch 65 (.leaf (54, 62, 90, 0, 0, [])) (.leaf (13, 65, 0, 0, 0, []))) (.branch 67 (.leaf (9, 66, 0, 1, 0, [])) (.leaf (9, 67, 0, 2, 0, [])))) (.branch 72 (.branch 69 (.leaf (9, 68, 0, 3, 0, [])) (.leaf (78, 69, 88, 0, 83, [957, 959, 24]))) (.branch 73 (.leaf (13, 72, 0, 0, 0, [])) (.leaf (9, 73, 0, 1, 0, [])))))) (.branch 86 (.branch 82 (.branch 76 (.branch 75 (.leaf (1, 74, 0, 0, 9223372036854775809, [])) (.leaf (21, 75, 0, 0, 0, []))) (.branch 79 (.leaf (79, 76, 87, 0, 38, [954, 955])) (.leaf (46, 79, 84, 0, 0, [])))) (.branch 84 (.branch 83 (.leaf (1, 82, 0, 0, 9223372036854775809, [])) (.leaf (83, 83, 1, 0, 0, []))) (.branch 85 (.leaf (13, 84, 0, 0, 0, [])) (.leaf (9, 85, 0, 2, 0, []))))) (.branch 96 (.branch 90 (.branch 87 (.leaf (9, 86, 0, 3, 0, [])) (.leaf (78, 87, 89, 0, 87, [961, 963, 25]))) (.branch 93 (.leaf (20, 90, 0, 3, 9223372036854775809, [])) (.leaf (58, 93, 26, 0, 0, [])))) (.branch 102 (.branch 99 (.leaf (20, 96, 0, 2, 9223372036854775809, [])) (.leaf (58, 99, 18, 0, 0, []))) (.branch 103 (.leaf (1, 102, 0, 0, 9223372036854775808, [])) (.leaf (83, 103, 1, 0, 0, [])))))))
noncomputable def abM87 : abM := ((⟨"TallBins$Planner", "turnsFrom", "(LTallBins$Planner;I)Z"⟩, prog_8_method_4_code, 4, some .boolean), 2, 0, 0, 6, abK87)
set_option maxRecDepth 20000 in
noncomputable def abK88 : Lean.RArray abEy := .branch 20 (.branch 11 (.branch 5 (.branch 1 (.leaf (13, 0, 0, 0, 0, [])) (.branch 4 (.leaf (60, 1, 6, 7, 28, [472])) (.leaf (9, 4, 0, 1, 0, [])))) (.branch 7 (.branch 6 (.leaf (9, 5, 0, 2, 0, [])) (.leaf (69, 6, 0, 0, 0, []))) (.branch 8 (.leaf (13, 7, 0, 0, 0, [])) (.leaf (60, 8, 6, 8, 31, [473]))))) (.branch 14 (.branch 12 (.leaf (9, 11, 0, 1, 0, [])) (.branch 13 (.leaf (9, 12, 0, 3, 0, [])) (.leaf (69, 13, 0, 0, 0, [])))) (.branch 18 (.branch 15 (.leaf (13, 14, 0, 0, 0, [])) (.leaf (60, 15, 6, 4, 18, [469]))) (.branch 19 (.leaf (9, 18, 0, 2, 0, [])) (.leaf (1, 19, 0, 0, 9223372036854775808, [])))))) (.branch 31 (.branch 25 (.branch 21 (.leaf (70, 20, 0, 0, 0, [])) (.branch 22 (.leaf (13, 21, 0, 0, 0, [])) (.leaf (60, 22, 6, 5, 22, [470])))) (.branch 27 (.branch 26 (.leaf (9, 25, 0, 3, 0, [])) (.leaf (13, 26, 0, 0, 0, []))) (.branch 30 (.leaf (60, 27, 6, 5, 22, [470])) (.leaf (9, 30, 0, 2, 0, []))))) (.branch 37 (.branch 33 (.branch 32 (.leaf (64, 31, 0, 0, 0, [])) (.leaf (69, 32, 0, 0, 0, []))) (.branch 34 (.leaf (13, 33, 0, 0, 0, [])) (.leaf (60, 34, 6, 5, 22, [470])))) (.branch 39 (.branch 38 (.leaf (9, 37, 0, 2, 0, [])) (.leaf (1, 38, 0, 0, 9223372036854775808, []))) (.branch 40 (.leaf (69, 39, 0, 0, 0, [])) (.leaf (82, 40, 0, 0, 0, []))))))
noncomputable def abM88 : abM := ((⟨"TallBins$Planner", "move", "(III)V"⟩, prog_8_method_5_code, 4, none), 3, 0, 0, 6, abK88)
set_option maxRecDepth 20000 in
noncomputable def abK89 : Lean.RArray abEy := .branch 13 (.branch 6 (.branch 4 (.branch 1 (.leaf (13, 0, 0, 0, 0, [])) (.leaf (60, 1, 6, 4, 18, [469]))) (.branch 5 (.leaf (9, 4, 0, 1, 0, [])) (.leaf (1, 5, 0, 0, 9223372036854775809, [])))) (.branch 8 (.branch 7 (.leaf (70, 6, 0, 0, 0, [])) (.leaf (13, 7, 0, 0, 0, []))) (.branch 11 (.leaf (60, 8, 6, 5, 22, [470])) (.branch 12 (.leaf (9, 11, 0, 1, 0, [])) (.leaf (13, 12, 0, 0, 0, [])))))) (.branch 20 (.branch 17 (.branch 16 (.leaf (60, 13, 6, 5, 22, [470])) (.leaf (9, 16, 0, 2, 0, []))) (.branch 18 (.leaf (64, 17, 0, 0, 0, [])) (.branch 19 (.leaf (69, 18, 0, 0, 0, [])) (.leaf (13, 19, 0, 0, 0, []))))) (.branch 24 (.branch 23 (.leaf (60, 20, 6, 5, 22, [470])) (.leaf (9, 23, 0, 2, 0, []))) (.branch 25 (.leaf (1, 24, 0, 0, 9223372036854775808, [])) (.branch 26 (.leaf (69, 25, 0, 0, 0, [])) (.leaf (82, 26, 0, 0, 0, []))))))
noncomputable def abM89 : abM := ((⟨"TallBins$Planner", "unmove", "(II)V"⟩, prog_8_method_6_code, 3, none), 2, 0, 0, 6, abK89)
set_option maxRecDepth 20000 in
noncomputable def abK90 : Lean.RArray abEy := .branch 26 (.branch 15 (.branch 5 (.branch 1 (.leaf (9, 0, 0, 1, 0, [])) (.branch 4 (.leaf (48, 1, 24, 0, 0, [])) (.leaf (9, 4, 0, 1, 0, [])))) (.branch 9 (.branch 6 (.leaf (13, 5, 0, 0, 0, [])) (.leaf (60, 6, 11, 9, 58, [537]))) (.branch 12 (.leaf (60, 9, 6, 0, 212, [463])) (.leaf (55, 12, 24, 0, 0, []))))) (.branch 20 (.branch 16 (.leaf (9, 15, 0, 2, 0, [])) (.branch 19 (.leaf (48, 16, 24, 0, 0, [])) (.leaf (9, 19, 0, 2, 0, [])))) (.branch 24 (.branch 21 (.leaf (1, 20, 0, 0, 9223372036854775809, [])) (.leaf (57, 21, 26, 0, 0, []))) (.branch 25 (.leaf (1, 24, 0, 0, 9223372036854775807, [])) (.leaf (83, 25, 0, 0, 0, [])))))) (.branch 39 (.branch 31 (.branch 27 (.leaf (9, 26, 0, 2, 0, [])) (.branch 30 (.leaf (47, 27, 42, 0, 0, [])) (.leaf (13, 30, 0, 0, 0, [])))) (.branch 37 (.branch 34 (.leaf (60, 31, 11, 9, 58, [537])) (.leaf (60, 34, 6, 1, 215, [465]))) (.branch 38 (.leaf (9, 37, 0, 1, 0, [])) (.leaf (64, 38, 0, 0, 0, []))))) (.branch 46 (.branch 42 (.leaf (58, 39, 51, 0, 0, [])) (.branch 43 (.leaf (13, 42, 0, 0, 0, [])) (.leaf (60, 43, 11, 9, 58, [537])))) (.branch 50 (.branch 49 (.leaf (60, 46, 6, 2, 219, [467])) (.leaf (9, 49, 0, 1, 0, []))) (.branch 51 (.leaf (64, 50, 0, 0, 0, [])) (.leaf (83, 51, 0, 0, 0, []))))))
noncomputable def abM90 : abM := ((⟨"TallBins", "planned", "(II)I"⟩, prog_1_method_15_code, 3, some .int), 2, 0, 0, 11, abK90)
set_option maxRecDepth 20000 in
noncomputable def abK91 : Lean.RArray abEy := .branch 56 (.branch 15 (.branch 6 (.branch 2 (.branch 1 (.leaf (9, 0, 0, 1, 0, [])) (.leaf (1, 1, 0, 0, 9223372036854775812, []))) (.branch 5 (.leaf (54, 2, 23, 0, 0, [])) (.leaf (9, 5, 0, 1, 0, [])))) (.branch 11 (.branch 8 (.leaf (2, 6, 0, 0, 9223372036854775820, [])) (.leaf (55, 8, 23, 0, 0, []))) (.branch 12 (.leaf (13, 11, 0, 0, 0, [])) (.leaf (60, 12, 11, 7, 47, [535]))))) (.branch 21 (.branch 19 (.branch 18 (.leaf (60, 15, 3, 4, 222, [325])) (.leaf (9, 18, 0, 1, 0, []))) (.branch 20 (.leaf (1, 19, 0, 0, 9223372036854775812, [])) (.leaf (22, 20, 0, 0, 0, [])))) (.branch 23 (.branch 22 (.leaf (64, 21, 0, 0, 0, [])) (.leaf (83, 22, 0, 0, 0, []))) (.branch 24 (.leaf (9, 23, 0, 1, 0, [])) (.leaf (59, 24, 85, 0, 9223372036854775808, [56, 64, 72, 80])))))) (.branch 72 (.branch 64 (.branch 60 (.branch 57 (.leaf (13, 56, 0, 0, 0, [])) (.leaf (60, 57, 11, 7, 47, [535]))) (.branch 63 (.leaf (60, 60, 3, 0, 225, [314])) (.leaf (83, 63, 0, 0, 0, [])))) (.branch 68 (.branch 65 (.leaf (13, 64, 0, 0, 0, [])) (.leaf (60, 65, 11, 7, 47, [535]))) (.branch 71 (.leaf (78, 68, 65, 0, 227, [974, 853, 854])) (.leaf (83, 71, 0, 0, 0, []))))) (.branch 80 (.branch 76 (.branch 73 (.leaf (13, 72, 0, 0, 0, [])) (.leaf (60, 73, 11, 7, 47, [535]))) (.branch 79 (.leaf (78, 76, 92, 0, 230, [975, 976, 977])) (.leaf (83, 79, 0, 0, 0, [])))) (.branch 84 (.branch 81 (.leaf (13, 80, 0, 0, 0, [])) (.leaf (60, 81, 11, 8, 51, [536]))) (.branch 85 (.leaf (83, 84, 0, 0, 0, [])) (.branch 87 (.leaf (4, 85, 233, 0, 9223372034854775808, [979])) (.leaf (83, 87, 0, 0, 0, [])))))))
noncomputable def abM91 : abM := ((⟨"TallBins", "load", "(I)I"⟩, prog_1_method_16_code, 2, some .int), 1, 0, 0, 11, abK91)
set_option maxRecDepth 20000 in
noncomputable def abK92 : Lean.RArray abEy := .branch 2 (.branch 1 (.leaf (13, 0, 0, 0, 0, [])) (.leaf (1, 1, 0, 0, 9223372036854775808, []))) (.branch 5 (.leaf (78, 2, 66, 0, 40, [856, 857, 858])) (.leaf (83, 5, 0, 0, 0, [])))
noncomputable def abM92 : abM := ((⟨"TallBins$Heap", "warmth", "()I"⟩, prog_5_method_6_code, 1, some .int), 0, 0, 0, 3, abK92)
set_option maxRecDepth 20000 in
noncomputable def abK93 : Lean.RArray abEy := .branch 47 (.branch 24 (.branch 11 (.branch 3 (.branch 1 (.leaf (13, 0, 0, 0, 0, [])) (.branch 2 (.leaf (9, 1, 0, 1, 0, [])) (.leaf (9, 2, 0, 2, 0, [])))) (.branch 6 (.leaf (78, 3, 94, 0, 234, [984, 986, 26])) (.branch 9 (.leaf (47, 6, 12, 0, 0, [])) (.leaf (4, 9, 233, 0, 9223372034854775808, [979]))))) (.branch 16 (.branch 12 (.leaf (83, 11, 0, 0, 0, [])) (.branch 13 (.leaf (13, 12, 0, 0, 0, [])) (.leaf (60, 13, 11, 3, 25, [531])))) (.branch 20 (.branch 19 (.leaf (60, 16, 4, 1, 143, [399])) (.leaf (9, 19, 0, 1, 0, []))) (.branch 21 (.leaf (67, 20, 0, 0, 0, [])) (.leaf (60, 21, 1, 8, 238, [366])))))) (.branch 34 (.branch 28 (.branch 25 (.leaf (9, 24, 0, 2, 0, [])) (.branch 26 (.leaf (67, 25, 0, 0, 0, [])) (.leaf (18, 26, 0, 4, 0, [])))) (.branch 30 (.branch 29 (.leaf (9, 28, 0, 3, 0, [])) (.leaf (1, 29, 0, 0, 9223372036854775813, []))) (.branch 33 (.leaf (54, 30, 49, 0, 0, [])) (.leaf (9, 33, 0, 3, 0, []))))) (.branch 41 (.branch 36 (.leaf (2, 34, 0, 0, 9223372036854775821, [])) (.branch 39 (.leaf (55, 36, 49, 0, 0, [])) (.leaf (12, 39, 0, 4, 0, [])))) (.branch 45 (.branch 44 (.leaf (60, 41, 3, 4, 222, [325])) (.leaf (9, 44, 0, 3, 0, []))) (.branch 46 (.leaf (1, 45, 0, 0, 9223372036854775813, [])) (.leaf (22, 46, 0, 0, 0, []))))))) (.branch 102 (.branch 89 (.branch 50 (.branch 48 (.leaf (64, 47, 0, 0, 0, [])) (.branch 49 (.leaf (83, 48, 0, 0, 0, [])) (.leaf (9, 49, 0, 3, 0, [])))) (.branch 84 (.leaf (59, 50, 126, 0, 9223372036854775808, [84, 90, 96, 102, 108])) (.branch 86 (.leaf (12, 84, 0, 4, 0, [])) (.leaf (60, 86, 3, 0, 225, [314]))))) (.branch 95 (.branch 90 (.leaf (83, 89, 0, 0, 0, [])) (.branch 92 (.leaf (12, 90, 0, 4, 0, [])) (.leaf (78, 92, 65, 0, 227, [974, 853, 854])))) (.branch 98 (.branch 96 (.leaf (83, 95, 0, 0, 0, [])) (.leaf (12, 96, 0, 4, 0, []))) (.branch 101 (.leaf (78, 98, 92, 0, 230, [975, 976, 977])) (.leaf (83, 101, 0, 0, 0, [])))))) (.branch 118 (.branch 108 (.branch 104 (.leaf (12, 102, 0, 4, 0, [])) (.branch 107 (.leaf (60, 104, 3, 3, 242, [322])) (.leaf (83, 107, 0, 0, 0, [])))) (.branch 113 (.branch 110 (.leaf (12, 108, 0, 4, 0, [])) (.leaf (60, 110, 3, 1, 245, [317]))) (.branch 115 (.leaf (12, 113, 0, 4, 0, [])) (.leaf (78, 115, 65, 0, 227, [974, 853, 854]))))) (.branch 124 (.branch 120 (.leaf (12, 118, 0, 4, 0, [])) (.branch 123 (.leaf (60, 120, 3, 0, 225, [314])) (.leaf (23, 123, 0, 0, 0, [])))) (.branch 126 (.branch 125 (.leaf (22, 124, 0, 0, 0, [])) (.leaf (83, 125, 0, 0, 0, []))) (.branch 128 (.leaf (4, 126, 233, 0, 9223372034854775808, [979])) (.leaf (83, 128, 0, 0, 0, [])))))))
noncomputable def abM93 : abM := ((⟨"TallBins", "ring", "(III)I"⟩, prog_1_method_17_code, 5, some .int), 3, 0, 0, 11, abK93)
set_option maxRecDepth 20000 in
noncomputable def abK94 : Lean.RArray abEy := .branch 17 (.branch 8 (.branch 2 (.branch 1 (.leaf (13, 0, 0, 0, 0, [])) (.leaf (9, 1, 0, 1, 0, []))) (.branch 5 (.leaf (78, 2, 48, 0, 123, [777, 779, 16])) (.leaf (46, 5, 32, 0, 0, [])))) (.branch 12 (.branch 9 (.leaf (9, 8, 0, 2, 0, [])) (.leaf (48, 9, 32, 0, 0, []))) (.branch 13 (.leaf (9, 12, 0, 2, 0, [])) (.branch 14 (.leaf (13, 13, 0, 0, 0, [])) (.leaf (60, 14, 11, 3, 25, [531])))))) (.branch 25 (.branch 21 (.branch 20 (.leaf (60, 17, 4, 1, 143, [399])) (.leaf (9, 20, 0, 1, 0, []))) (.branch 22 (.leaf (67, 21, 0, 0, 0, [])) (.leaf (60, 22, 1, 0, 255, [340])))) (.branch 29 (.branch 28 (.leaf (55, 25, 32, 0, 0, [])) (.leaf (1, 28, 0, 0, 9223372036854775809, []))) (.branch 32 (.leaf (58, 29, 33, 0, 0, [])) (.branch 33 (.leaf (1, 32, 0, 0, 9223372036854775808, [])) (.leaf (83, 33, 1, 0, 0, []))))))
noncomputable def abM94 : abM := ((⟨"TallBins", "isRing", "(II)Z"⟩, prog_1_method_48_code, 3, some .boolean), 2, 0, 0, 11, abK94)
set_option maxRecDepth 20000 in
noncomputable def abK95 : Lean.RArray abEy := .branch 12 (.branch 3 (.branch 1 (.leaf (13, 0, 0, 0, 0, [])) (.branch 2 (.leaf (9, 1, 0, 1, 0, [])) (.leaf (9, 2, 0, 2, 0, [])))) (.branch 9 (.branch 6 (.leaf (78, 3, 94, 0, 234, [984, 986, 26])) (.leaf (47, 6, 12, 0, 0, []))) (.branch 11 (.leaf (4, 9, 233, 0, 9223372034854775808, [979])) (.leaf (83, 11, 0, 0, 0, []))))) (.branch 17 (.branch 13 (.leaf (13, 12, 0, 0, 0, [])) (.branch 16 (.leaf (60, 13, 11, 3, 25, [531])) (.leaf (9, 16, 0, 1, 0, [])))) (.branch 19 (.branch 18 (.leaf (9, 17, 0, 2, 0, [])) (.leaf (9, 18, 0, 3, 0, []))) (.branch 22 (.leaf (78, 19, 96, 0, 248, [992, 993, 994])) (.leaf (83, 22, 0, 0, 0, [])))))
noncomputable def abM95 : abM := ((⟨"TallBins", "press", "(IIZ)I"⟩, prog_1_method_18_code, 4, some .int), 3, 0, 0, 11, abK95)
set_option maxRecDepth 20000 in
noncomputable def abK96 : Lean.RArray abEy := .branch 15 (.branch 6 (.branch 4 (.branch 1 (.leaf (13, 0, 0, 0, 0, [])) (.leaf (60, 1, 4, 1, 20, [396]))) (.branch 5 (.leaf (9, 4, 0, 1, 0, [])) (.leaf (67, 5, 0, 0, 0, [])))) (.branch 10 (.branch 8 (.leaf (18, 6, 0, 4, 0, [])) (.leaf (12, 8, 0, 4, 0, []))) (.branch 11 (.leaf (9, 10, 0, 2, 0, [])) (.branch 12 (.leaf (13, 11, 0, 0, 0, [])) (.leaf (60, 12, 4, 0, 12, [394])))))) (.branch 24 (.branch 20 (.branch 17 (.leaf (12, 15, 0, 4, 0, [])) (.leaf (60, 17, 1, 4, 111, [350]))) (.branch 23 (.leaf (78, 20, 79, 0, 148, [996, 920, 921])) (.leaf (13, 23, 0, 0, 0, [])))) (.branch 26 (.branch 25 (.leaf (9, 24, 0, 1, 0, [])) (.leaf (9, 25, 0, 3, 0, []))) (.branch 29 (.leaf (78, 26, 97, 0, 151, [997, 999, 27])) (.branch 32 (.leaf (78, 29, 98, 0, 155, [1001, 1002, 1003])) (.leaf (83, 32, 0, 0, 0, []))))))
noncomputable def abM96 : abM := ((⟨"TallBins$House", "pressAt", "(IIZ)I"⟩, prog_6_method_9_code, 5, some .int), 3, 0, 0, 4, abK96)
set_option maxRecDepth 20000 in
noncomputable def abK97 : Lean.RArray abEy := .branch 9 (.branch 4 (.branch 1 (.leaf (9, 0, 0, 2, 0, [])) (.leaf (46, 1, 16, 0, 0, []))) (.branch 5 (.leaf (13, 4, 0, 0, 0, [])) (.branch 6 (.leaf (9, 5, 0, 1, 0, [])) (.leaf (78, 6, 63, 0, 138, [878, 845, 846]))))) (.branch 13 (.branch 12 (.leaf (47, 9, 16, 0, 0, [])) (.leaf (1, 12, 0, 0, 9223372036854775809, []))) (.branch 16 (.leaf (58, 13, 17, 0, 0, [])) (.branch 17 (.leaf (1, 16, 0, 0, 9223372036854775808, [])) (.leaf (83, 17, 1, 0, 0, [])))))
noncomputable def abM97 : abM := ((⟨"TallBins$House", "isHard", "(IZ)Z"⟩, prog_6_method_11_code, 3, some .boolean), 2, 0, 0, 4, abK97)
set_option maxRecDepth 20000 in
noncomputable def abK98 : Lean.RArray abEy := .branch 27 (.branch 12 (.branch 6 (.branch 3 (.branch 1 (.leaf (1, 0, 0, 0, 9223372036854775808, [])) (.leaf (14, 1, 0, 4, 0, []))) (.branch 4 (.leaf (1, 3, 0, 0, 9223372036854775808, [])) (.leaf (14, 4, 0, 5, 0, [])))) (.branch 10 (.branch 7 (.leaf (13, 6, 0, 0, 0, [])) (.leaf (60, 7, 1, 0, 36, [337]))) (.branch 11 (.leaf (1, 10, 0, 0, 9223372036854775809, [])) (.leaf (22, 11, 0, 0, 0, []))))) (.branch 20 (.branch 16 (.branch 14 (.leaf (14, 12, 0, 6, 0, [])) (.leaf (8, 14, 0, 6, 0, []))) (.branch 17 (.leaf (9, 16, 0, 1, 0, [])) (.leaf (54, 17, 55, 0, 0, [])))) (.branch 22 (.branch 21 (.leaf (9, 20, 0, 2, 0, [])) (.leaf (13, 21, 0, 0, 0, []))) (.branch 25 (.leaf (60, 22, 1, 8, 20, [364])) (.leaf (8, 25, 0, 6, 0, [])))))) (.branch 40 (.branch 34 (.branch 31 (.branch 28 (.leaf (67, 27, 0, 0, 0, [])) (.leaf (60, 28, 3, 0, 62, [313]))) (.branch 32 (.leaf (23, 31, 0, 0, 0, [])) (.leaf (8, 32, 0, 5, 0, [])))) (.branch 37 (.branch 35 (.leaf (21, 34, 0, 0, 0, [])) (.leaf (14, 35, 0, 4, 0, []))) (.branch 39 (.leaf (8, 37, 0, 4, 0, [])) (.leaf (13, 39, 0, 0, 0, []))))) (.branch 47 (.branch 43 (.branch 42 (.leaf (8, 40, 0, 4, 0, [])) (.leaf (9, 42, 0, 3, 0, []))) (.branch 46 (.leaf (78, 43, 99, 0, 110, [1005, 1006, 1007])) (.leaf (22, 46, 0, 0, 0, [])))) (.branch 52 (.branch 49 (.leaf (14, 47, 0, 5, 0, [])) (.leaf (20, 49, 0, 6, 9223372036854775807, []))) (.branch 55 (.leaf (58, 52, 14, 0, 0, [])) (.branch 57 (.leaf (8, 55, 0, 4, 0, [])) (.leaf (83, 57, 0, 0, 0, [])))))))
noncomputable def abM98 : abM := ((⟨"TallBins$Bin", "pressAt", "(IIZ)I"⟩, prog_3_method_17_code, 7, some .int), 3, 0, 0, 1, abK98)
set_option maxRecDepth 20000 in
noncomputable def abK99 : Lean.RArray abEy := .branch 14 (.branch 6 (.branch 2 (.branch 1 (.leaf (9, 0, 0, 1, 0, [])) (.leaf (13, 1, 0, 0, 0, []))) (.branch 5 (.leaf (60, 2, 1, 3, 45, [346])) (.leaf (23, 5, 0, 0, 0, [])))) (.branch 9 (.branch 8 (.leaf (2, 6, 0, 0, 9223372036854775908, [])) (.leaf (24, 8, 0, 0, 0, []))) (.branch 10 (.leaf (15, 9, 0, 3, 0, [])) (.branch 11 (.leaf (9, 10, 0, 2, 0, [])) (.leaf (46, 11, 28, 0, 0, [])))))) (.branch 21 (.branch 16 (.branch 15 (.leaf (9, 14, 0, 1, 0, [])) (.leaf (9, 15, 0, 3, 0, []))) (.branch 18 (.leaf (2, 16, 0, 0, 9223372036854775822, [])) (.branch 19 (.leaf (23, 18, 0, 0, 0, [])) (.leaf (2, 19, 0, 0, 9223372036854775818, []))))) (.branch 25 (.branch 22 (.leaf (24, 21, 0, 0, 0, [])) (.leaf (79, 22, 269, 0, 87, [802, 598]))) (.branch 28 (.leaf (58, 25, 29, 0, 0, [])) (.branch 29 (.leaf (9, 28, 0, 3, 0, [])) (.leaf (83, 29, 0, 0, 0, []))))))
noncomputable def abM99 : abM := ((⟨"TallBins$Bin", "wallOf", "(IZ)I"⟩, prog_3_method_18_code, 4, some .int), 2, 0, 0, 1, abK99)
set_option maxRecDepth 20000 in
noncomputable def abK100 : Lean.RArray abEy := .branch 12 (.branch 3 (.branch 1 (.leaf (13, 0, 0, 0, 0, [])) (.branch 2 (.leaf (9, 1, 0, 1, 0, [])) (.leaf (9, 2, 0, 2, 0, [])))) (.branch 9 (.branch 6 (.leaf (78, 3, 94, 0, 234, [984, 986, 26])) (.leaf (47, 6, 12, 0, 0, []))) (.branch 11 (.leaf (4, 9, 233, 0, 9223372034854775808, [979])) (.leaf (83, 11, 0, 0, 0, []))))) (.branch 17 (.branch 13 (.leaf (13, 12, 0, 0, 0, [])) (.branch 16 (.leaf (60, 13, 11, 3, 25, [531])) (.leaf (9, 16, 0, 1, 0, [])))) (.branch 19 (.branch 18 (.leaf (9, 17, 0, 2, 0, [])) (.leaf (9, 18, 0, 3, 0, []))) (.branch 22 (.leaf (78, 19, 101, 0, 252, [1013, 1014, 1015])) (.leaf (83, 22, 0, 0, 0, [])))))
noncomputable def abM100 : abM := ((⟨"TallBins", "wall", "(IIZ)I"⟩, prog_1_method_19_code, 4, some .int), 3, 0, 0, 11, abK100)
set_option maxRecDepth 20000 in
noncomputable def abK101 : Lean.RArray abEy := .branch 9 (.branch 5 (.branch 1 (.leaf (13, 0, 0, 0, 0, [])) (.branch 4 (.leaf (60, 1, 4, 1, 20, [396])) (.leaf (9, 4, 0, 1, 0, [])))) (.branch 7 (.branch 6 (.leaf (67, 5, 0, 0, 0, [])) (.leaf (13, 6, 0, 0, 0, []))) (.branch 8 (.leaf (9, 7, 0, 1, 0, [])) (.leaf (9, 8, 0, 2, 0, []))))) (.branch 15 (.branch 13 (.branch 10 (.leaf (9, 9, 0, 3, 0, [])) (.leaf (78, 10, 96, 0, 159, [1017, 993, 994]))) (.branch 14 (.leaf (13, 13, 0, 0, 0, [])) (.leaf (9, 14, 0, 1, 0, [])))) (.branch 19 (.branch 16 (.leaf (9, 15, 0, 3, 0, [])) (.leaf (78, 16, 97, 0, 151, [997, 999, 27]))) (.branch 22 (.leaf (78, 19, 99, 0, 160, [1018, 1006, 1007])) (.leaf (83, 22, 0, 0, 0, [])))))
noncomputable def abM101 : abM := ((⟨"TallBins$House", "wallAt", "(IIZ)I"⟩, prog_6_method_10_code, 4, some .int), 3, 0, 0, 4, abK101)
set_option maxRecDepth 20000 in
noncomputable def abK102 : Lean.RArray abEy := .branch 46 (.branch 26 (.branch 11 (.branch 5 (.branch 1 (.leaf (13, 0, 0, 0, 0, [])) (.branch 2 (.leaf (9, 1, 0, 1, 0, [])) (.leaf (78, 2, 48, 0, 123, [777, 779, 16])))) (.branch 8 (.leaf (47, 5, 11, 0, 0, [])) (.branch 10 (.leaf (2, 8, 0, 0, 9223372036854775806, [])) (.leaf (83, 10, 0, 0, 0, []))))) (.branch 18 (.branch 12 (.leaf (13, 11, 0, 0, 0, [])) (.branch 15 (.leaf (60, 12, 11, 3, 25, [531])) (.leaf (60, 15, 4, 1, 143, [399])))) (.branch 20 (.branch 19 (.leaf (9, 18, 0, 1, 0, [])) (.leaf (67, 19, 0, 0, 0, []))) (.branch 23 (.leaf (78, 20, 20, 0, 181, [843, 589, 590])) (.leaf (46, 23, 29, 0, 0, [])))))) (.branch 35 (.branch 30 (.branch 28 (.leaf (2, 26, 0, 0, 9223372036854775802, [])) (.branch 29 (.leaf (83, 28, 0, 0, 0, [])) (.leaf (1, 29, 0, 0, 9223372036854775808, [])))) (.branch 31 (.leaf (15, 30, 0, 3, 0, [])) (.branch 32 (.leaf (13, 31, 0, 0, 0, [])) (.leaf (60, 32, 11, 3, 25, [531]))))) (.branch 38 (.branch 36 (.leaf (9, 35, 0, 1, 0, [])) (.branch 37 (.leaf (1, 36, 0, 0, 9223372036854775808, [])) (.leaf (9, 37, 0, 2, 0, [])))) (.branch 43 (.branch 41 (.leaf (78, 38, 101, 0, 252, [1013, 1014, 1015])) (.leaf (14, 41, 0, 4, 0, []))) (.branch 44 (.leaf (1, 43, 0, 0, 9223372036854775809, [])) (.leaf (14, 44, 0, 5, 0, []))))))) (.branch 71 (.branch 57 (.branch 52 (.branch 48 (.leaf (8, 46, 0, 5, 0, [])) (.branch 49 (.leaf (13, 48, 0, 0, 0, [])) (.leaf (60, 49, 11, 3, 25, [531])))) (.branch 55 (.leaf (60, 52, 4, 1, 143, [399])) (.branch 56 (.leaf (9, 55, 0, 1, 0, [])) (.leaf (67, 56, 0, 0, 0, []))))) (.branch 64 (.branch 60 (.leaf (60, 57, 1, 0, 255, [340])) (.branch 63 (.leaf (55, 60, 96, 0, 0, [])) (.leaf (13, 63, 0, 0, 0, [])))) (.branch 68 (.branch 67 (.leaf (60, 64, 11, 3, 25, [531])) (.leaf (9, 67, 0, 1, 0, []))) (.branch 70 (.leaf (8, 68, 0, 5, 0, [])) (.leaf (9, 70, 0, 2, 0, [])))))) (.branch 85 (.branch 78 (.branch 74 (.leaf (78, 71, 101, 0, 252, [1013, 1014, 1015])) (.branch 76 (.leaf (14, 74, 0, 6, 0, [])) (.leaf (8, 76, 0, 6, 0, [])))) (.branch 80 (.leaf (8, 78, 0, 4, 0, [])) (.branch 83 (.leaf (57, 80, 90, 0, 0, [])) (.leaf (8, 83, 0, 6, 0, []))))) (.branch 90 (.branch 87 (.leaf (14, 85, 0, 4, 0, [])) (.branch 89 (.leaf (8, 87, 0, 5, 0, [])) (.leaf (15, 89, 0, 3, 0, [])))) (.branch 96 (.branch 93 (.leaf (20, 90, 0, 5, 9223372036854775809, [])) (.leaf (58, 93, 46, 0, 0, []))) (.branch 97 (.leaf (9, 96, 0, 3, 0, [])) (.leaf (83, 97, 0, 0, 0, [])))))))
noncomputable def abM102 : abM := ((⟨"TallBins", "worst", "(IZ)I"⟩, prog_1_method_20_code, 7, some .int), 2, 0, 0, 11, abK102)
set_option maxRecDepth 20000 in
noncomputable def abK103 : Lean.RArray abEy := .branch 27 (.branch 12 (.branch 6 (.branch 1 (.leaf (9, 0, 0, 1, 0, [])) (.branch 3 (.leaf (2, 1, 0, 0, 9223372036854775768, [])) (.leaf (54, 3, 30, 0, 0, [])))) (.branch 7 (.leaf (9, 6, 0, 1, 0, [])) (.branch 9 (.leaf (2, 7, 0, 0, 9223372036854775858, [])) (.leaf (56, 9, 30, 0, 0, []))))) (.branch 19 (.branch 13 (.leaf (9, 12, 0, 2, 0, [])) (.branch 16 (.leaf (79, 13, 104, 0, 258, [1027, 1028])) (.leaf (46, 16, 30, 0, 0, [])))) (.branch 23 (.branch 20 (.leaf (9, 19, 0, 3, 0, [])) (.leaf (48, 20, 30, 0, 0, []))) (.branch 24 (.leaf (9, 23, 0, 3, 0, [])) (.leaf (3, 24, 0, 0, 9223372036854785807, [])))))) (.branch 41 (.branch 33 (.branch 30 (.leaf (57, 27, 33, 0, 0, [])) (.branch 32 (.leaf (2, 30, 0, 0, 9223372036854775806, [])) (.leaf (83, 32, 0, 0, 0, [])))) (.branch 37 (.branch 34 (.leaf (13, 33, 0, 0, 0, [])) (.leaf (60, 34, 11, 10, 65, [538]))) (.branch 38 (.leaf (1, 37, 0, 0, 9223372036854775808, [])) (.leaf (62, 38, 2, 0, 104, [500]))))) (.branch 46 (.branch 42 (.leaf (13, 41, 0, 0, 0, [])) (.branch 45 (.leaf (60, 42, 11, 3, 25, [531])) (.leaf (9, 45, 0, 1, 0, [])))) (.branch 48 (.branch 47 (.leaf (9, 46, 0, 2, 0, [])) (.leaf (9, 47, 0, 3, 0, []))) (.branch 51 (.leaf (78, 48, 105, 0, 261, [1030, 1031, 1032])) (.leaf (83, 51, 0, 0, 0, []))))))
noncomputable def abM103 : abM := ((⟨"TallBins", "day", "(III)I"⟩, prog_1_method_21_code, 4, some .int), 3, 0, 0, 11, abK103)
set_option maxRecDepth 20000 in
noncomputable def abK104 : Lean.RArray abEy := .branch 7 (.branch 4 (.branch 1 (.leaf (9, 0, 0, 0, 0, [])) (.leaf (48, 1, 14, 0, 0, []))) (.branch 5 (.leaf (9, 4, 0, 0, 0, [])) (.leaf (2, 5, 0, 0, 9223372036854775872, [])))) (.branch 11 (.branch 10 (.leaf (55, 7, 14, 0, 0, [])) (.leaf (1, 10, 0, 0, 9223372036854775809, []))) (.branch 14 (.leaf (58, 11, 15, 0, 0, [])) (.branch 15 (.leaf (1, 14, 0, 0, 9223372036854775808, [])) (.leaf (83, 15, 1, 0, 0, [])))))
noncomputable def abM104 : abM := ((⟨"TallBins", "areBins", "(I)Z"⟩, prog_1_method_47_code, 1, some .boolean), 1, 0, 0, 11, abK104)
set_option maxRecDepth 20000 in
noncomputable def abK105 : Lean.RArray abEy := .branch 55 (.branch 26 (.branch 11 (.branch 5 (.branch 1 (.leaf (13, 0, 0, 0, 0, [])) (.branch 2 (.leaf (9, 1, 0, 1, 0, [])) (.leaf (61, 2, 4, 5, 35, [406])))) (.branch 8 (.branch 6 (.leaf (1, 5, 0, 0, 9223372036854775808, [])) (.leaf (14, 6, 0, 4, 0, []))) (.branch 9 (.leaf (1, 8, 0, 0, 9223372036854775808, [])) (.leaf (14, 9, 0, 5, 0, []))))) (.branch 19 (.branch 15 (.branch 13 (.leaf (8, 11, 0, 5, 0, [])) (.leaf (2, 13, 0, 0, 9223372036854775814, []))) (.branch 18 (.leaf (55, 15, 89, 0, 0, [])) (.leaf (13, 18, 0, 0, 0, [])))) (.branch 24 (.branch 22 (.leaf (60, 19, 4, 1, 20, [396])) (.leaf (8, 22, 0, 5, 0, []))) (.branch 25 (.leaf (67, 24, 0, 0, 0, [])) (.leaf (13, 25, 0, 0, 0, [])))))) (.branch 41 (.branch 36 (.branch 30 (.branch 29 (.leaf (60, 26, 4, 0, 12, [394])) (.leaf (13, 29, 0, 0, 0, []))) (.branch 33 (.leaf (60, 30, 4, 5, 35, [406])) (.leaf (78, 33, 106, 0, 164, [1034, 1035, 1036])))) (.branch 39 (.branch 37 (.leaf (9, 36, 0, 2, 0, [])) (.leaf (8, 37, 0, 5, 0, []))) (.branch 40 (.leaf (30, 39, 0, 0, 0, [])) (.leaf (1, 40, 0, 0, 9223372036854775809, []))))) (.branch 48 (.branch 43 (.branch 42 (.leaf (26, 41, 0, 0, 0, [])) (.leaf (1, 42, 0, 0, 9223372036854775809, []))) (.branch 46 (.leaf (53, 43, 62, 0, 0, [])) (.leaf (8, 46, 0, 4, 0, [])))) (.branch 52 (.branch 49 (.leaf (13, 48, 0, 0, 0, [])) (.leaf (60, 49, 4, 1, 20, [396]))) (.branch 54 (.leaf (8, 52, 0, 5, 0, [])) (.leaf (67, 54, 0, 0, 0, []))))))) (.branch 83 (.branch 68 (.branch 60 (.branch 56 (.leaf (9, 55, 0, 3, 0, [])) (.branch 59 (.leaf (78, 56, 109, 0, 168, [1052, 1053, 1054])) (.leaf (21, 59, 0, 0, 0, [])))) (.branch 63 (.branch 62 (.leaf (14, 60, 0, 4, 0, [])) (.leaf (13, 62, 0, 0, 0, []))) (.branch 66 (.leaf (60, 63, 4, 1, 20, [396])) (.leaf (8, 66, 0, 5, 0, []))))) (.branch 76 (.branch 72 (.branch 69 (.leaf (67, 68, 0, 0, 0, [])) (.leaf (78, 69, 110, 0, 171, [1057, 1058, 1059]))) (.branch 73 (.leaf (13, 72, 0, 0, 0, [])) (.leaf (60, 73, 4, 1, 20, [396])))) (.branch 79 (.branch 78 (.leaf (8, 76, 0, 5, 0, [])) (.leaf (67, 78, 0, 0, 0, []))) (.branch 80 (.leaf (1, 79, 0, 0, 9223372036854775808, [])) (.leaf (61, 80, 1, 7, 145, [362])))))) (.branch 99 (.branch 91 (.branch 89 (.branch 86 (.leaf (20, 83, 0, 5, 9223372036854775809, [])) (.leaf (58, 86, 11, 0, 0, []))) (.branch 90 (.leaf (13, 89, 0, 0, 0, [])) (.leaf (44, 90, 0, 0, 0, [])))) (.branch 95 (.branch 94 (.leaf (60, 91, 4, 4, 56, [404])) (.leaf (1, 94, 0, 0, 9223372036854775809, []))) (.branch 96 (.leaf (21, 95, 0, 0, 0, [])) (.leaf (61, 96, 4, 4, 56, [404]))))) (.branch 106 (.branch 101 (.branch 100 (.leaf (13, 99, 0, 0, 0, [])) (.leaf (44, 100, 0, 0, 0, []))) (.branch 104 (.leaf (60, 101, 4, 8, 65, [412])) (.leaf (8, 104, 0, 4, 0, [])))) (.branch 110 (.branch 107 (.leaf (21, 106, 0, 0, 0, [])) (.leaf (61, 107, 4, 8, 65, [412]))) (.branch 112 (.leaf (8, 110, 0, 4, 0, [])) (.leaf (83, 112, 0, 0, 0, [])))))))
noncomputable def abM105 : abM := ((⟨"TallBins$House", "passDay", "(III)I"⟩, prog_6_method_12_code, 6, some .int), 3, 0, 0, 4, abK105)
set_option maxRecDepth 20000 in
noncomputable def abK106 : Lean.RArray abEy := .branch 63 (.branch 30 (.branch 14 (.branch 4 (.branch 2 (.branch 1 (.leaf (1, 0, 0, 0, 9223372036854775808, [])) (.leaf (15, 1, 0, 3, 0, []))) (.branch 3 (.leaf (9, 2, 0, 3, 0, [])) (.leaf (13, 3, 0, 0, 0, [])))) (.branch 10 (.branch 7 (.leaf (60, 4, 1, 0, 36, [337])) (.leaf (55, 7, 46, 0, 0, []))) (.branch 11 (.leaf (13, 10, 0, 0, 0, [])) (.leaf (60, 11, 1, 8, 20, [364]))))) (.branch 20 (.branch 16 (.branch 15 (.leaf (9, 14, 0, 3, 0, [])) (.leaf (67, 15, 0, 0, 0, []))) (.branch 18 (.leaf (18, 16, 0, 4, 0, [])) (.leaf (12, 18, 0, 4, 0, [])))) (.branch 24 (.branch 21 (.leaf (44, 20, 0, 0, 0, [])) (.leaf (60, 21, 3, 2, 107, [319]))) (.branch 26 (.leaf (12, 24, 0, 4, 0, [])) (.branch 29 (.leaf (60, 26, 3, 0, 62, [313])) (.leaf (13, 29, 0, 1, 0, []))))))) (.branch 48 (.branch 37 (.branch 35 (.branch 32 (.leaf (12, 30, 0, 4, 0, [])) (.leaf (78, 32, 107, 0, 114, [1038, 1039, 1040]))) (.branch 36 (.leaf (23, 35, 0, 0, 0, [])) (.leaf (21, 36, 0, 0, 0, [])))) (.branch 43 (.branch 40 (.leaf (61, 37, 3, 2, 107, [319])) (.leaf (20, 40, 0, 3, 9223372036854775809, []))) (.branch 46 (.leaf (58, 43, 2, 0, 0, [])) (.branch 47 (.leaf (1, 46, 0, 0, 9223372036854775808, [])) (.leaf (15, 47, 0, 3, 0, [])))))) (.branch 52 (.branch 50 (.branch 49 (.leaf (9, 48, 0, 3, 0, [])) (.leaf (1, 49, 0, 0, 9223372036854775809, []))) (.branch 51 (.leaf (21, 50, 0, 0, 0, [])) (.leaf (13, 51, 0, 0, 0, [])))) (.branch 58 (.branch 55 (.leaf (60, 52, 1, 0, 36, [337])) (.leaf (55, 55, 81, 0, 0, []))) (.branch 59 (.leaf (13, 58, 0, 0, 0, [])) (.branch 62 (.leaf (60, 59, 1, 8, 20, [364])) (.leaf (9, 62, 0, 3, 0, [])))))))) (.branch 95 (.branch 78 (.branch 69 (.branch 65 (.branch 64 (.leaf (67, 63, 0, 0, 0, [])) (.leaf (13, 64, 0, 0, 0, []))) (.branch 68 (.leaf (60, 65, 1, 8, 20, [364])) (.leaf (9, 68, 0, 3, 0, [])))) (.branch 71 (.branch 70 (.leaf (1, 69, 0, 0, 9223372036854775809, [])) (.leaf (21, 70, 0, 0, 0, []))) (.branch 72 (.leaf (67, 71, 0, 0, 0, [])) (.branch 75 (.leaf (79, 72, 108, 0, 120, [1045, 1046])) (.leaf (20, 75, 0, 3, 9223372036854775809, [])))))) (.branch 84 (.branch 82 (.branch 81 (.leaf (58, 78, 48, 0, 0, [])) (.leaf (1, 81, 0, 0, 9223372036854775808, []))) (.branch 83 (.leaf (15, 82, 0, 3, 0, [])) (.leaf (9, 83, 0, 3, 0, [])))) (.branch 88 (.branch 85 (.leaf (13, 84, 0, 0, 0, [])) (.leaf (60, 85, 1, 0, 36, [337]))) (.branch 91 (.leaf (55, 88, 130, 0, 0, [])) (.branch 92 (.leaf (13, 91, 0, 0, 0, [])) (.leaf (60, 92, 1, 8, 20, [364]))))))) (.branch 111 (.branch 101 (.branch 97 (.branch 96 (.leaf (9, 95, 0, 3, 0, [])) (.leaf (67, 96, 0, 0, 0, []))) (.branch 99 (.leaf (18, 97, 0, 4, 0, [])) (.leaf (12, 99, 0, 4, 0, [])))) (.branch 105 (.branch 102 (.leaf (44, 101, 0, 0, 0, [])) (.leaf (60, 102, 3, 2, 107, [319]))) (.branch 107 (.leaf (12, 105, 0, 4, 0, [])) (.branch 110 (.leaf (60, 107, 3, 0, 62, [313])) (.leaf (9, 110, 0, 2, 0, [])))))) (.branch 120 (.branch 116 (.branch 113 (.leaf (12, 111, 0, 4, 0, [])) (.leaf (78, 113, 92, 0, 124, [1048, 976, 977]))) (.branch 119 (.leaf (79, 116, 273, 0, 127, [1049, 1050])) (.leaf (23, 119, 0, 0, 0, [])))) (.branch 124 (.branch 121 (.leaf (21, 120, 0, 0, 0, [])) (.leaf (61, 121, 3, 2, 107, [319]))) (.branch 127 (.leaf (20, 124, 0, 3, 9223372036854775809, [])) (.branch 130 (.leaf (58, 127, 83, 0, 0, [])) (.leaf (82, 130, 0, 0, 0, []))))))))
noncomputable def abM106 : abM := ((⟨"TallBins$Bin", "passWarmth", "(LTallBins$Rules;I)V"⟩, prog_3_method_19_code, 5, none), 2, 0, 0, 1, abK106)
set_option maxRecDepth 20000 in
noncomputable def abK107 : Lean.RArray abEy := .branch 32 (.branch 14 (.branch 6 (.branch 4 (.branch 1 (.leaf (13, 0, 0, 1, 0, [])) (.leaf (78, 1, 92, 0, 76, [1042, 976, 977]))) (.branch 5 (.leaf (15, 4, 0, 2, 0, [])) (.leaf (13, 5, 0, 1, 0, [])))) (.branch 10 (.branch 9 (.leaf (78, 6, 65, 0, 82, [1043, 853, 854])) (.leaf (15, 9, 0, 3, 0, []))) (.branch 11 (.leaf (1, 10, 0, 0, 9223372036854775808, [])) (.branch 13 (.leaf (14, 11, 0, 4, 0, [])) (.leaf (1, 13, 0, 0, 9223372036854775808, [])))))) (.branch 22 (.branch 18 (.branch 16 (.leaf (14, 14, 0, 5, 0, [])) (.leaf (8, 16, 0, 5, 0, []))) (.branch 19 (.leaf (13, 18, 0, 0, 0, [])) (.leaf (60, 19, 10, 10, 62, [189])))) (.branch 26 (.branch 25 (.leaf (55, 22, 67, 0, 0, [])) (.leaf (9, 25, 0, 2, 0, []))) (.branch 27 (.leaf (13, 26, 0, 0, 0, [])) (.branch 30 (.leaf (60, 27, 10, 11, 33, [190])) (.leaf (8, 30, 0, 5, 0, []))))))) (.branch 49 (.branch 38 (.branch 36 (.branch 33 (.leaf (64, 32, 0, 0, 0, [])) (.leaf (54, 33, 61, 0, 0, []))) (.branch 37 (.leaf (9, 36, 0, 3, 0, [])) (.leaf (13, 37, 0, 0, 0, [])))) (.branch 43 (.branch 41 (.leaf (60, 38, 10, 12, 36, [191])) (.leaf (8, 41, 0, 5, 0, []))) (.branch 44 (.leaf (64, 43, 0, 0, 0, [])) (.branch 47 (.leaf (54, 44, 61, 0, 0, [])) (.leaf (8, 47, 0, 4, 0, [])))))) (.branch 59 (.branch 53 (.branch 50 (.leaf (13, 49, 0, 0, 0, [])) (.leaf (60, 50, 10, 13, 39, [192]))) (.branch 55 (.leaf (8, 53, 0, 5, 0, [])) (.branch 56 (.leaf (64, 55, 0, 0, 0, [])) (.leaf (79, 56, 271, 0, 85, [1044, 864]))))) (.branch 64 (.branch 61 (.leaf (14, 59, 0, 4, 0, [])) (.leaf (20, 61, 0, 5, 9223372036854775809, []))) (.branch 67 (.leaf (58, 64, 16, 0, 0, [])) (.branch 69 (.leaf (8, 67, 0, 4, 0, [])) (.leaf (83, 69, 0, 0, 0, [])))))))
noncomputable def abM107 : abM := ((⟨"TallBins$Rules", "breathOf", "(LTallBins$Heap;)I"⟩, prog_12_method_5_code, 6, some .int), 1, 0, 0, 10, abK107)
set_option maxRecDepth 20000 in
noncomputable def abK108 : Lean.RArray abEy := .branch 30 (.branch 18 (.branch 8 (.branch 4 (.branch 1 (.leaf (13, 0, 0, 0, 0, [])) (.leaf (60, 1, 3, 0, 62, [313]))) (.branch 7 (.leaf (51, 4, 58, 0, 0, [])) (.leaf (13, 7, 0, 1, 0, [])))) (.branch 14 (.branch 11 (.leaf (60, 8, 3, 0, 62, [313])) (.leaf (51, 11, 58, 0, 0, []))) (.branch 15 (.leaf (13, 14, 0, 1, 0, [])) (.leaf (78, 15, 92, 0, 124, [1048, 976, 977]))))) (.branch 24 (.branch 22 (.branch 19 (.leaf (13, 18, 0, 0, 0, [])) (.leaf (78, 19, 92, 0, 124, [1048, 976, 977]))) (.branch 23 (.leaf (22, 22, 0, 0, 0, [])) (.leaf (1, 23, 0, 0, 9223372036854775812, [])))) (.branch 26 (.branch 25 (.leaf (24, 24, 0, 0, 0, [])) (.leaf (13, 25, 0, 0, 0, []))) (.branch 29 (.leaf (60, 26, 3, 0, 62, [313])) (.leaf (13, 29, 0, 1, 0, [])))))) (.branch 44 (.branch 38 (.branch 36 (.branch 33 (.leaf (60, 30, 3, 0, 62, [313])) (.leaf (79, 33, 269, 0, 87, [802, 598]))) (.branch 37 (.leaf (23, 36, 0, 0, 0, [])) (.leaf (15, 37, 0, 2, 0, [])))) (.branch 40 (.branch 39 (.leaf (13, 38, 0, 0, 0, [])) (.leaf (44, 39, 0, 0, 0, []))) (.branch 43 (.leaf (60, 40, 3, 2, 107, [319])) (.leaf (9, 43, 0, 2, 0, []))))) (.branch 50 (.branch 48 (.branch 45 (.leaf (21, 44, 0, 0, 0, [])) (.leaf (61, 45, 3, 2, 107, [319]))) (.branch 49 (.leaf (13, 48, 0, 1, 0, [])) (.leaf (44, 49, 0, 0, 0, [])))) (.branch 54 (.branch 53 (.leaf (60, 50, 3, 2, 107, [319])) (.leaf (9, 53, 0, 2, 0, []))) (.branch 55 (.leaf (22, 54, 0, 0, 0, [])) (.branch 58 (.leaf (61, 55, 3, 2, 107, [319])) (.leaf (82, 58, 0, 0, 0, [])))))))
noncomputable def abM108 : abM := ((⟨"TallBins$Bin", "spread", "(LTallBins$Heap;LTallBins$Heap;)V"⟩, prog_3_method_20_code, 3, none), 2, 0, 0, 1, abK108)
set_option maxRecDepth 20000 in
noncomputable def abK109 : Lean.RArray abEy := .branch 34 (.branch 16 (.branch 5 (.branch 2 (.branch 1 (.leaf (9, 0, 0, 1, 0, [])) (.leaf (15, 1, 0, 2, 0, []))) (.branch 3 (.leaf (1, 2, 0, 0, 9223372036854775808, [])) (.branch 4 (.leaf (15, 3, 0, 3, 0, [])) (.leaf (9, 4, 0, 3, 0, []))))) (.branch 9 (.branch 6 (.leaf (13, 5, 0, 0, 0, [])) (.leaf (60, 6, 1, 0, 36, [337]))) (.branch 12 (.leaf (55, 9, 67, 0, 0, [])) (.branch 13 (.leaf (13, 12, 0, 0, 0, [])) (.leaf (60, 13, 1, 8, 20, [364])))))) (.branch 22 (.branch 18 (.branch 17 (.leaf (9, 16, 0, 3, 0, [])) (.leaf (67, 17, 0, 0, 0, []))) (.branch 20 (.leaf (18, 18, 0, 4, 0, [])) (.branch 21 (.leaf (9, 20, 0, 2, 0, [])) (.leaf (1, 21, 0, 0, 9223372036854775808, []))))) (.branch 27 (.branch 24 (.leaf (12, 22, 0, 4, 0, [])) (.leaf (60, 24, 3, 1, 68, [316]))) (.branch 29 (.leaf (2, 27, 0, 0, 9223372036854775820, [])) (.branch 31 (.leaf (12, 29, 0, 4, 0, [])) (.leaf (60, 31, 3, 0, 62, [313]))))))) (.branch 53 (.branch 44 (.branch 36 (.branch 35 (.leaf (23, 34, 0, 0, 0, [])) (.leaf (22, 35, 0, 0, 0, []))) (.branch 39 (.leaf (79, 36, 271, 0, 132, [1056, 864])) (.branch 42 (.leaf (79, 39, 269, 0, 87, [802, 598])) (.leaf (14, 42, 0, 5, 0, []))))) (.branch 47 (.branch 46 (.leaf (12, 44, 0, 4, 0, [])) (.leaf (44, 46, 0, 0, 0, []))) (.branch 50 (.leaf (60, 47, 3, 1, 68, [316])) (.branch 52 (.leaf (8, 50, 0, 5, 0, [])) (.leaf (22, 52, 0, 0, 0, [])))))) (.branch 61 (.branch 57 (.branch 56 (.leaf (61, 53, 3, 1, 68, [316])) (.leaf (9, 56, 0, 2, 0, []))) (.branch 59 (.leaf (8, 57, 0, 5, 0, [])) (.branch 60 (.leaf (22, 59, 0, 0, 0, [])) (.leaf (15, 60, 0, 2, 0, []))))) (.branch 68 (.branch 64 (.leaf (20, 61, 0, 3, 9223372036854775809, [])) (.branch 67 (.leaf (58, 64, 4, 0, 0, [])) (.leaf (9, 67, 0, 1, 0, [])))) (.branch 69 (.leaf (9, 68, 0, 2, 0, [])) (.branch 70 (.leaf (22, 69, 0, 0, 0, [])) (.leaf (83, 70, 0, 0, 0, [])))))))
noncomputable def abM109 : abM := ((⟨"TallBins$Bin", "dry", "(I)I"⟩, prog_3_method_21_code, 6, some .int), 1, 0, 0, 1, abK109)
set_option maxRecDepth 20000 in
noncomputable def abK110 : Lean.RArray abEy := .branch 21 (.branch 10 (.branch 3 (.branch 1 (.leaf (1, 0, 0, 0, 9223372036854775808, [])) (.branch 2 (.leaf (15, 1, 0, 1, 0, [])) (.leaf (9, 2, 0, 1, 0, [])))) (.branch 4 (.leaf (13, 3, 0, 0, 0, [])) (.branch 7 (.leaf (60, 4, 1, 0, 36, [337])) (.leaf (55, 7, 50, 0, 0, []))))) (.branch 15 (.branch 11 (.leaf (13, 10, 0, 0, 0, [])) (.branch 14 (.leaf (60, 11, 1, 8, 20, [364])) (.leaf (9, 14, 0, 1, 0, [])))) (.branch 17 (.branch 16 (.leaf (67, 15, 0, 0, 0, [])) (.leaf (19, 16, 0, 2, 0, []))) (.branch 18 (.leaf (13, 17, 0, 2, 0, [])) (.leaf (60, 18, 3, 0, 62, [313])))))) (.branch 32 (.branch 27 (.branch 24 (.leaf (51, 21, 44, 0, 0, [])) (.branch 25 (.leaf (13, 24, 0, 2, 0, [])) (.leaf (4, 25, 135, 0, 9223372036855775808, [1061])))) (.branch 28 (.leaf (13, 27, 0, 2, 0, [])) (.branch 31 (.leaf (60, 28, 3, 3, 77, [321])) (.leaf (13, 31, 0, 2, 0, []))))) (.branch 41 (.branch 35 (.leaf (78, 32, 92, 0, 124, [1048, 976, 977])) (.branch 38 (.leaf (79, 35, 111, 0, 136, [1062, 1063])) (.leaf (79, 38, 269, 0, 87, [802, 598])))) (.branch 47 (.branch 44 (.leaf (61, 41, 3, 3, 77, [321])) (.leaf (20, 44, 0, 1, 9223372036854775809, []))) (.branch 50 (.leaf (58, 47, 2, 0, 0, [])) (.leaf (82, 50, 0, 0, 0, []))))))
noncomputable def abM110 : abM := ((⟨"TallBins$Bin", "breed", "()V"⟩, prog_3_method_22_code, 3, none), 0, 0, 0, 1, abK110)
set_option maxRecDepth 20000 in
noncomputable def abK111 : Lean.RArray abEy := .branch 28 (.branch 13 (.branch 6 (.branch 2 (.branch 1 (.leaf (9, 0, 0, 1, 0, [])) (.leaf (1, 1, 0, 0, 9223372036854775813, []))) (.branch 5 (.leaf (54, 2, 11, 0, 0, [])) (.leaf (9, 5, 0, 1, 0, [])))) (.branch 11 (.branch 8 (.leaf (2, 6, 0, 0, 9223372036854775853, [])) (.leaf (57, 8, 15, 0, 0, []))) (.branch 12 (.leaf (9, 11, 0, 0, 0, [])) (.leaf (1, 12, 0, 0, 9223372036854775810, []))))) (.branch 18 (.branch 15 (.branch 14 (.leaf (24, 13, 0, 0, 0, [])) (.leaf (83, 14, 0, 0, 0, []))) (.branch 16 (.leaf (9, 15, 0, 1, 0, [])) (.leaf (2, 16, 0, 0, 9223372036854775823, [])))) (.branch 22 (.branch 21 (.leaf (54, 18, 33, 0, 0, [])) (.leaf (9, 21, 0, 1, 0, []))) (.branch 24 (.leaf (2, 22, 0, 0, 9223372036854775832, [])) (.branch 27 (.leaf (56, 24, 33, 0, 0, [])) (.leaf (9, 27, 0, 0, 0, []))))))) (.branch 39 (.branch 32 (.branch 30 (.branch 29 (.leaf (9, 28, 0, 0, 0, [])) (.leaf (1, 29, 0, 0, 9223372036854775812, []))) (.branch 31 (.leaf (24, 30, 0, 0, 0, [])) (.leaf (21, 31, 0, 0, 0, [])))) (.branch 34 (.branch 33 (.leaf (83, 32, 0, 0, 0, [])) (.leaf (9, 33, 0, 1, 0, []))) (.branch 36 (.leaf (2, 34, 0, 0, 9223372036854775833, [])) (.leaf (54, 36, 51, 0, 0, []))))) (.branch 46 (.branch 42 (.branch 40 (.leaf (9, 39, 0, 1, 0, [])) (.leaf (2, 40, 0, 0, 9223372036854775843, []))) (.branch 45 (.leaf (56, 42, 51, 0, 0, [])) (.leaf (9, 45, 0, 0, 0, [])))) (.branch 48 (.branch 47 (.leaf (1, 46, 0, 0, 9223372036854775810, [])) (.leaf (23, 47, 0, 0, 0, []))) (.branch 51 (.leaf (58, 48, 52, 0, 0, [])) (.branch 52 (.leaf (9, 51, 0, 0, 0, [])) (.leaf (83, 52, 0, 0, 0, [])))))))
noncomputable def abM111 : abM := ((⟨"TallBins$Bin", "bred", "(II)I"⟩, prog_3_method_23_code, 2, some .int), 2, 0, 0, 1, abK111)
set_option maxRecDepth 20000 in
noncomputable def abK112 : Lean.RArray abEy := .branch 38 (.branch 18 (.branch 9 (.branch 2 (.branch 1 (.leaf (13, 0, 0, 0, 0, [])) (.leaf (9, 1, 0, 1, 0, []))) (.branch 3 (.leaf (9, 2, 0, 2, 0, [])) (.branch 6 (.leaf (78, 3, 94, 0, 234, [984, 986, 26])) (.leaf (46, 6, 21, 0, 0, []))))) (.branch 11 (.branch 10 (.leaf (9, 9, 0, 3, 0, [])) (.leaf (1, 10, 0, 0, 9223372036854775809, []))) (.branch 14 (.leaf (54, 11, 21, 0, 0, [])) (.branch 15 (.leaf (9, 14, 0, 3, 0, [])) (.leaf (3, 15, 0, 0, 9223372036854776808, [])))))) (.branch 28 (.branch 23 (.branch 21 (.leaf (57, 18, 24, 0, 0, [])) (.leaf (2, 21, 0, 0, 9223372036854775806, []))) (.branch 24 (.leaf (83, 23, 0, 0, 0, [])) (.branch 25 (.leaf (13, 24, 0, 0, 0, [])) (.leaf (60, 25, 11, 3, 25, [531]))))) (.branch 33 (.branch 31 (.leaf (60, 28, 4, 1, 143, [399])) (.branch 32 (.leaf (9, 31, 0, 1, 0, [])) (.leaf (67, 32, 0, 0, 0, [])))) (.branch 36 (.leaf (60, 33, 1, 8, 238, [366])) (.branch 37 (.leaf (9, 36, 0, 2, 0, [])) (.leaf (67, 37, 0, 0, 0, []))))))) (.branch 62 (.branch 50 (.branch 42 (.branch 40 (.leaf (18, 38, 0, 4, 0, [])) (.leaf (12, 40, 0, 4, 0, []))) (.branch 45 (.leaf (60, 42, 3, 0, 225, [314])) (.branch 48 (.leaf (47, 45, 51, 0, 0, [])) (.leaf (2, 48, 0, 0, 9223372036854775802, []))))) (.branch 53 (.branch 51 (.leaf (83, 50, 0, 0, 0, [])) (.leaf (12, 51, 0, 4, 0, []))) (.branch 56 (.leaf (60, 53, 3, 3, 242, [322])) (.branch 59 (.leaf (5, 56, 265, 0, 9223372036855775808, [1069])) (.leaf (55, 59, 80, 0, 0, [])))))) (.branch 73 (.branch 67 (.branch 64 (.leaf (12, 62, 0, 4, 0, [])) (.leaf (5, 64, 265, 0, 9223372036855775808, [1069]))) (.branch 69 (.leaf (12, 67, 0, 4, 0, [])) (.branch 72 (.leaf (60, 69, 3, 3, 242, [322])) (.leaf (9, 72, 0, 3, 0, []))))) (.branch 80 (.branch 74 (.leaf (21, 73, 0, 0, 0, [])) (.branch 77 (.leaf (79, 74, 269, 0, 266, [1070, 598])) (.leaf (61, 77, 3, 3, 242, [322])))) (.branch 82 (.leaf (12, 80, 0, 4, 0, [])) (.branch 85 (.leaf (60, 82, 3, 3, 242, [322])) (.leaf (83, 85, 0, 0, 0, [])))))))
noncomputable def abM112 : abM := ((⟨"TallBins", "beetles", "(III)I"⟩, prog_1_method_22_code, 5, some .int), 3, 0, 0, 11, abK112)
set_option maxRecDepth 20000 in
noncomputable def abK113 : Lean.RArray abEy := .branch 19 (.branch 9 (.branch 2 (.branch 1 (.leaf (13, 0, 0, 0, 0, [])) (.leaf (9, 1, 0, 1, 0, []))) (.branch 5 (.leaf (78, 2, 48, 0, 123, [777, 779, 16])) (.branch 8 (.leaf (46, 5, 17, 0, 0, [])) (.leaf (9, 8, 0, 2, 0, []))))) (.branch 13 (.branch 12 (.leaf (48, 9, 17, 0, 0, [])) (.leaf (9, 12, 0, 2, 0, []))) (.branch 14 (.leaf (1, 13, 0, 0, 9223372036854775809, [])) (.branch 17 (.leaf (57, 14, 20, 0, 0, [])) (.leaf (2, 17, 0, 0, 9223372036854775806, [])))))) (.branch 28 (.branch 21 (.branch 20 (.leaf (83, 19, 0, 0, 0, [])) (.leaf (13, 20, 0, 0, 0, []))) (.branch 24 (.leaf (60, 21, 11, 3, 25, [531])) (.branch 27 (.leaf (60, 24, 4, 1, 143, [399])) (.leaf (9, 27, 0, 1, 0, []))))) (.branch 30 (.branch 29 (.leaf (67, 28, 0, 0, 0, [])) (.leaf (9, 29, 0, 2, 0, []))) (.branch 31 (.leaf (9, 30, 0, 3, 0, [])) (.branch 34 (.leaf (78, 31, 85, 0, 272, [1075, 946, 947])) (.leaf (83, 34, 0, 0, 0, []))))))
noncomputable def abM113 : abM := ((⟨"TallBins", "mark", "(III)I"⟩, prog_1_method_23_code, 4, some .int), 3, 0, 0, 11, abK113)
set_option maxRecDepth 20000 in
noncomputable def abK114 : Lean.RArray abEy := .branch 36 (.branch 19 (.branch 10 (.branch 2 (.branch 1 (.leaf (13, 0, 0, 0, 0, [])) (.leaf (9, 1, 0, 1, 0, []))) (.branch 5 (.leaf (78, 2, 48, 0, 123, [777, 779, 16])) (.branch 8 (.leaf (47, 5, 11, 0, 0, [])) (.leaf (2, 8, 0, 0, 9223372036854775806, []))))) (.branch 12 (.branch 11 (.leaf (83, 10, 0, 0, 0, [])) (.leaf (13, 11, 0, 0, 0, []))) (.branch 15 (.leaf (60, 12, 11, 12, 75, [540])) (.branch 16 (.leaf (13, 15, 0, 0, 0, [])) (.leaf (60, 16, 11, 3, 25, [531])))))) (.branch 28 (.branch 23 (.branch 22 (.leaf (60, 19, 4, 1, 143, [399])) (.leaf (9, 22, 0, 1, 0, []))) (.branch 24 (.leaf (67, 23, 0, 0, 0, [])) (.branch 27 (.leaf (78, 24, 115, 0, 275, [1080, 1081, 1082])) (.leaf (1, 27, 0, 0, 9223372036854775808, []))))) (.branch 30 (.branch 29 (.leaf (15, 28, 0, 3, 0, [])) (.leaf (9, 29, 0, 3, 0, []))) (.branch 32 (.leaf (2, 30, 0, 0, 9223372036854775868, [])) (.branch 35 (.leaf (56, 32, 77, 0, 0, [])) (.leaf (13, 35, 0, 0, 0, []))))))) (.branch 54 (.branch 45 (.branch 40 (.branch 39 (.leaf (60, 36, 11, 12, 75, [540])) (.leaf (1, 39, 0, 0, 9223372036854775808, []))) (.branch 41 (.leaf (9, 40, 0, 2, 0, [])) (.branch 44 (.leaf (78, 41, 85, 0, 272, [1075, 946, 947])) (.leaf (1, 44, 0, 0, 9223372036854775807, []))))) (.branch 49 (.branch 48 (.leaf (52, 45, 50, 0, 0, [])) (.leaf (9, 48, 0, 3, 0, []))) (.branch 50 (.leaf (83, 49, 0, 0, 0, [])) (.branch 51 (.leaf (13, 50, 0, 0, 0, [])) (.leaf (60, 51, 11, 12, 75, [540])))))) (.branch 65 (.branch 58 (.branch 55 (.leaf (13, 54, 0, 0, 0, [])) (.leaf (60, 55, 11, 3, 25, [531]))) (.branch 61 (.leaf (60, 58, 4, 0, 108, [395])) (.branch 62 (.leaf (13, 61, 0, 0, 0, [])) (.leaf (60, 62, 11, 3, 25, [531]))))) (.branch 74 (.branch 68 (.leaf (60, 65, 4, 5, 279, [407])) (.branch 71 (.leaf (78, 68, 106, 0, 282, [1094, 1035, 1036])) (.leaf (20, 71, 0, 3, 9223372036854775809, [])))) (.branch 77 (.leaf (58, 74, 29, 0, 0, [])) (.branch 78 (.leaf (1, 77, 0, 0, 9223372036854775807, [])) (.leaf (83, 78, 0, 0, 0, [])))))))
noncomputable def abM114 : abM := ((⟨"TallBins", "foretell", "(II)I"⟩, prog_1_method_24_code, 4, some .int), 2, 0, 0, 11, abK114)
set_option maxRecDepth 20000 in
noncomputable def abK115 : Lean.RArray abEy := .branch 53 (.branch 25 (.branch 10 (.branch 5 (.branch 1 (.leaf (13, 0, 0, 0, 0, [])) (.branch 2 (.leaf (13, 1, 0, 1, 0, [])) (.leaf (60, 2, 1, 0, 36, [337])))) (.branch 8 (.leaf (61, 5, 1, 0, 36, [337])) (.branch 9 (.leaf (13, 8, 0, 0, 0, [])) (.leaf (13, 9, 0, 1, 0, []))))) (.branch 17 (.branch 13 (.leaf (60, 10, 1, 1, 39, [341])) (.branch 16 (.leaf (61, 13, 1, 1, 39, [341])) (.leaf (13, 16, 0, 0, 0, [])))) (.branch 21 (.branch 18 (.leaf (13, 17, 0, 1, 0, [])) (.leaf (60, 18, 1, 2, 42, [344]))) (.branch 24 (.leaf (61, 21, 1, 2, 42, [344])) (.leaf (13, 24, 0, 0, 0, [])))))) (.branch 40 (.branch 32 (.branch 26 (.leaf (13, 25, 0, 1, 0, [])) (.branch 29 (.leaf (60, 26, 1, 3, 45, [346])) (.leaf (61, 29, 1, 3, 45, [346])))) (.branch 34 (.branch 33 (.leaf (13, 32, 0, 0, 0, [])) (.leaf (13, 33, 0, 1, 0, []))) (.branch 37 (.leaf (60, 34, 1, 4, 9, [348])) (.leaf (61, 37, 1, 4, 9, [348]))))) (.branch 45 (.branch 41 (.leaf (13, 40, 0, 0, 0, [])) (.branch 42 (.leaf (13, 41, 0, 1, 0, [])) (.leaf (60, 42, 1, 5, 48, [352])))) (.branch 49 (.branch 48 (.leaf (62, 45, 1, 5, 48, [352])) (.leaf (13, 48, 0, 0, 0, []))) (.branch 50 (.leaf (13, 49, 0, 1, 0, [])) (.leaf (60, 50, 1, 6, 15, [356]))))))) (.branch 77 (.branch 65 (.branch 58 (.branch 56 (.leaf (61, 53, 1, 6, 15, [356])) (.branch 57 (.leaf (13, 56, 0, 0, 0, [])) (.leaf (13, 57, 0, 1, 0, [])))) (.branch 61 (.leaf (60, 58, 1, 7, 52, [360])) (.branch 64 (.leaf (61, 61, 1, 7, 52, [360])) (.leaf (1, 64, 0, 0, 9223372036854775808, []))))) (.branch 69 (.branch 66 (.leaf (15, 65, 0, 2, 0, [])) (.branch 67 (.leaf (9, 66, 0, 2, 0, [])) (.leaf (2, 67, 0, 0, 9223372036854775820, [])))) (.branch 73 (.branch 72 (.leaf (55, 69, 93, 0, 0, [])) (.leaf (13, 72, 0, 0, 0, []))) (.branch 76 (.leaf (60, 73, 1, 8, 20, [364])) (.leaf (9, 76, 0, 2, 0, [])))))) (.branch 90 (.branch 82 (.branch 78 (.leaf (67, 77, 0, 0, 0, [])) (.branch 79 (.leaf (13, 78, 0, 1, 0, [])) (.leaf (60, 79, 1, 8, 20, [364])))) (.branch 84 (.branch 83 (.leaf (9, 82, 0, 2, 0, [])) (.leaf (67, 83, 0, 0, 0, []))) (.branch 87 (.leaf (78, 84, 116, 0, 55, [1084, 1085, 1086])) (.leaf (20, 87, 0, 2, 9223372036854775809, []))))) (.branch 97 (.branch 93 (.leaf (58, 90, 66, 0, 0, [])) (.branch 94 (.leaf (13, 93, 0, 0, 0, [])) (.leaf (60, 94, 1, 9, 27, [367])))) (.branch 101 (.branch 98 (.leaf (13, 97, 0, 1, 0, [])) (.leaf (60, 98, 1, 9, 27, [367]))) (.branch 104 (.leaf (78, 101, 117, 0, 59, [1089, 1090, 1091])) (.leaf (82, 104, 0, 0, 0, [])))))))
noncomputable def abM115 : abM := ((⟨"TallBins$Bin", "copyFrom", "(LTallBins$Bin;)V"⟩, prog_3_method_2_code, 3, none), 1, 0, 0, 1, abK115)
set_option maxRecDepth 20000 in
noncomputable def abK116 : Lean.RArray abEy := .branch 24 (.branch 10 (.branch 5 (.branch 1 (.leaf (13, 0, 0, 0, 0, [])) (.branch 2 (.leaf (13, 1, 0, 1, 0, [])) (.leaf (60, 2, 3, 0, 15, [312])))) (.branch 8 (.leaf (61, 5, 3, 0, 15, [312])) (.branch 9 (.leaf (13, 8, 0, 0, 0, [])) (.leaf (13, 9, 0, 1, 0, []))))) (.branch 17 (.branch 13 (.leaf (60, 10, 3, 1, 19, [315])) (.branch 16 (.leaf (61, 13, 3, 1, 19, [315])) (.leaf (13, 16, 0, 0, 0, [])))) (.branch 18 (.leaf (13, 17, 0, 1, 0, [])) (.branch 21 (.leaf (60, 18, 3, 2, 22, [318])) (.leaf (61, 21, 3, 2, 22, [318])))))) (.branch 36 (.branch 29 (.branch 25 (.leaf (13, 24, 0, 0, 0, [])) (.branch 26 (.leaf (13, 25, 0, 1, 0, [])) (.leaf (60, 26, 3, 3, 25, [320])))) (.branch 32 (.leaf (61, 29, 3, 3, 25, [320])) (.branch 33 (.leaf (13, 32, 0, 1, 0, [])) (.leaf (60, 33, 3, 4, 9, [323]))))) (.branch 41 (.branch 37 (.leaf (1, 36, 0, 0, 9223372036854775808, [])) (.branch 38 (.leaf (13, 37, 0, 0, 0, [])) (.leaf (60, 38, 3, 4, 9, [323])))) (.branch 44 (.branch 42 (.leaf (1, 41, 0, 0, 9223372036854775808, [])) (.leaf (2, 42, 0, 0, 9223372036854775816, []))) (.branch 47 (.leaf (77, 44, 0, 0, 28, [1088, 758, 757, 102])) (.leaf (82, 47, 0, 0, 0, []))))))
noncomputable def abM116 : abM := ((⟨"TallBins$Heap", "copyFrom", "(LTallBins$Heap;)V"⟩, prog_5_method_3_code, 2, none), 1, 0, 0, 3, abK116)
set_option maxRecDepth 20000 in
noncomputable def abK117 : Lean.RArray abEy := .branch 6 (.branch 4 (.branch 1 (.leaf (13, 0, 0, 1, 0, [])) (.leaf (60, 1, 8, 0, 9, [301]))) (.branch 5 (.leaf (1, 4, 0, 0, 9223372036854775808, [])) (.leaf (13, 5, 0, 0, 0, [])))) (.branch 10 (.branch 9 (.leaf (60, 6, 8, 0, 9, [301])) (.leaf (1, 9, 0, 0, 9223372036854775808, []))) (.branch 12 (.leaf (2, 10, 0, 0, 9223372036854775820, [])) (.branch 15 (.leaf (77, 12, 0, 0, 18, [1093, 758, 757, 102])) (.leaf (82, 15, 0, 0, 0, [])))))
noncomputable def abM117 : abM := ((⟨"TallBins$Rope", "copyFrom", "(LTallBins$Rope;)V"⟩, prog_10_method_3_code, 2, none), 1, 0, 0, 8, abK117)
set_option maxRecDepth 20000 in
noncomputable def abK118 : Lean.RArray abEy := .branch 34 (.branch 17 (.branch 7 (.branch 3 (.branch 1 (.leaf (9, 0, 0, 3, 0, [])) (.leaf (2, 1, 0, 0, 9223372036854775778, []))) (.branch 6 (.leaf (54, 3, 16, 0, 0, [])) (.leaf (9, 6, 0, 3, 0, [])))) (.branch 12 (.branch 9 (.leaf (2, 7, 0, 0, 9223372036854775888, [])) (.leaf (56, 9, 16, 0, 0, []))) (.branch 13 (.leaf (1, 12, 0, 0, 9223372036854775809, [])) (.branch 16 (.leaf (58, 13, 17, 0, 0, [])) (.leaf (1, 16, 0, 0, 9223372036854775808, [])))))) (.branch 22 (.branch 20 (.branch 19 (.leaf (14, 17, 0, 4, 0, [])) (.leaf (13, 19, 0, 0, 0, []))) (.branch 21 (.leaf (9, 20, 0, 1, 0, [])) (.leaf (9, 21, 0, 2, 0, [])))) (.branch 28 (.branch 25 (.leaf (78, 22, 94, 0, 234, [984, 986, 26])) (.leaf (46, 25, 39, 0, 0, []))) (.branch 30 (.leaf (8, 28, 0, 4, 0, [])) (.branch 33 (.leaf (47, 30, 42, 0, 0, [])) (.leaf (9, 33, 0, 3, 0, []))))))) (.branch 51 (.branch 42 (.branch 39 (.branch 36 (.leaf (2, 34, 0, 0, 9223372036854775907, [])) (.leaf (52, 36, 42, 0, 0, []))) (.branch 41 (.leaf (2, 39, 0, 0, 9223372036854775806, [])) (.leaf (83, 41, 0, 0, 0, [])))) (.branch 46 (.branch 43 (.leaf (13, 42, 0, 0, 0, [])) (.leaf (60, 43, 11, 3, 25, [531]))) (.branch 49 (.leaf (60, 46, 4, 1, 143, [399])) (.branch 50 (.leaf (9, 49, 0, 1, 0, [])) (.leaf (67, 50, 0, 0, 0, [])))))) (.branch 62 (.branch 56 (.branch 54 (.leaf (60, 51, 1, 9, 288, [369])) (.leaf (18, 54, 0, 5, 0, []))) (.branch 58 (.leaf (12, 56, 0, 5, 0, [])) (.branch 61 (.leaf (60, 58, 8, 0, 292, [303])) (.leaf (9, 61, 0, 2, 0, []))))) (.branch 64 (.branch 63 (.leaf (9, 62, 0, 3, 0, [])) (.leaf (69, 63, 0, 0, 0, []))) (.branch 66 (.leaf (12, 64, 0, 5, 0, [])) (.branch 69 (.leaf (78, 66, 119, 0, 295, [1099, 1100, 1101])) (.leaf (83, 69, 0, 0, 0, [])))))))
noncomputable def abM118 : abM := ((⟨"TallBins", "gauge", "(III)I"⟩, prog_1_method_25_code, 6, some .int), 3, 0, 0, 11, abK118)
set_option maxRecDepth 20000 in
noncomputable def abK119 : Lean.RArray abEy := .branch 14 (.branch 4 (.branch 2 (.branch 1 (.leaf (1, 0, 0, 0, 9223372036854775808, [])) (.leaf (15, 1, 0, 1, 0, []))) (.branch 3 (.leaf (1, 2, 0, 0, 9223372036854775808, [])) (.leaf (15, 3, 0, 2, 0, [])))) (.branch 7 (.branch 5 (.leaf (9, 4, 0, 2, 0, [])) (.leaf (2, 5, 0, 0, 9223372036854775820, []))) (.branch 10 (.leaf (55, 7, 30, 0, 0, [])) (.branch 11 (.leaf (13, 10, 0, 0, 0, [])) (.leaf (60, 11, 8, 0, 9, [301])))))) (.branch 21 (.branch 16 (.branch 15 (.leaf (9, 14, 0, 2, 0, [])) (.leaf (64, 15, 0, 0, 0, []))) (.branch 18 (.leaf (2, 16, 0, 0, 9223372036854775907, [])) (.leaf (52, 18, 24, 0, 0, [])))) (.branch 27 (.branch 24 (.leaf (20, 21, 0, 1, 9223372036854775809, [])) (.leaf (20, 24, 0, 2, 9223372036854775809, []))) (.branch 30 (.leaf (58, 27, 4, 0, 0, [])) (.branch 31 (.leaf (9, 30, 0, 1, 0, [])) (.leaf (83, 31, 0, 0, 0, []))))))
noncomputable def abM119 : abM := ((⟨"TallBins$Rope", "howManyTold", "()I"⟩, prog_10_method_4_code, 3, some .int), 0, 0, 0, 8, abK119)
set_option maxRecDepth 20000 in
noncomputable def abK120 : Lean.RArray abEy := .branch 34 (.branch 15 (.branch 6 (.branch 2 (.branch 1 (.leaf (13, 0, 0, 0, 0, [])) (.leaf (9, 1, 0, 1, 0, []))) (.branch 3 (.leaf (9, 2, 0, 2, 0, [])) (.leaf (78, 3, 94, 0, 234, [984, 986, 26])))) (.branch 10 (.branch 9 (.leaf (46, 6, 18, 0, 0, [])) (.leaf (9, 9, 0, 3, 0, []))) (.branch 13 (.leaf (48, 10, 18, 0, 0, [])) (.branch 14 (.leaf (9, 13, 0, 3, 0, [])) (.leaf (1, 14, 0, 0, 9223372036854775809, [])))))) (.branch 25 (.branch 20 (.branch 18 (.leaf (57, 15, 21, 0, 0, [])) (.leaf (4, 18, 233, 0, 9223372034854775808, [979]))) (.branch 21 (.leaf (83, 20, 0, 0, 0, [])) (.branch 22 (.leaf (13, 21, 0, 0, 0, [])) (.leaf (60, 22, 11, 3, 25, [531]))))) (.branch 29 (.branch 28 (.leaf (60, 25, 4, 1, 143, [399])) (.leaf (9, 28, 0, 1, 0, []))) (.branch 30 (.leaf (67, 29, 0, 0, 0, [])) (.branch 32 (.leaf (18, 30, 0, 4, 0, [])) (.leaf (12, 32, 0, 4, 0, []))))))) (.branch 56 (.branch 45 (.branch 39 (.branch 37 (.leaf (60, 34, 1, 9, 288, [369])) (.leaf (12, 37, 0, 4, 0, []))) (.branch 42 (.leaf (60, 39, 1, 0, 255, [340])) (.leaf (78, 42, 121, 0, 298, [1107, 1108, 1109])))) (.branch 51 (.branch 48 (.leaf (47, 45, 52, 0, 0, [])) (.leaf (3, 48, 0, 0, 9223372036854770808, []))) (.branch 52 (.leaf (83, 51, 0, 0, 0, [])) (.branch 53 (.leaf (9, 52, 0, 3, 0, [])) (.leaf (47, 53, 68, 0, 0, [])))))) (.branch 68 (.branch 61 (.branch 58 (.leaf (12, 56, 0, 4, 0, [])) (.leaf (60, 58, 1, 9, 288, [369]))) (.branch 62 (.leaf (9, 61, 0, 2, 0, [])) (.branch 65 (.leaf (78, 62, 122, 0, 301, [1124, 1112, 1113])) (.leaf (58, 65, 77, 0, 0, []))))) (.branch 73 (.branch 70 (.leaf (12, 68, 0, 4, 0, [])) (.leaf (60, 70, 1, 9, 288, [369]))) (.branch 74 (.leaf (9, 73, 0, 2, 0, [])) (.branch 77 (.leaf (78, 74, 123, 0, 304, [1125, 1120, 1121])) (.leaf (83, 77, 0, 0, 0, [])))))))
noncomputable def abM120 : abM := ((⟨"TallBins", "between", "(III)I"⟩, prog_1_method_26_code, 5, some .int), 3, 0, 0, 11, abK120)
set_option maxRecDepth 20000 in
noncomputable def abK121 : Lean.RArray abEy := .branch 13 (.branch 4 (.branch 2 (.branch 1 (.leaf (1, 0, 0, 0, 9223372036854775808, [])) (.leaf (15, 1, 0, 2, 0, []))) (.branch 3 (.leaf (9, 2, 0, 2, 0, [])) (.leaf (9, 3, 0, 1, 0, [])))) (.branch 8 (.branch 7 (.leaf (55, 4, 28, 0, 0, [])) (.leaf (13, 7, 0, 0, 0, []))) (.branch 9 (.leaf (9, 8, 0, 2, 0, [])) (.branch 12 (.leaf (78, 9, 122, 0, 37, [1111, 1112, 1113])) (.leaf (13, 12, 0, 0, 0, [])))))) (.branch 21 (.branch 17 (.branch 14 (.leaf (9, 13, 0, 2, 0, [])) (.leaf (78, 14, 123, 0, 40, [1119, 1120, 1121]))) (.branch 20 (.leaf (57, 17, 22, 0, 0, [])) (.leaf (1, 20, 0, 0, 9223372036854775808, [])))) (.branch 25 (.branch 22 (.leaf (83, 21, 1, 0, 0, [])) (.leaf (20, 22, 0, 2, 9223372036854775809, []))) (.branch 28 (.leaf (58, 25, 2, 0, 0, [])) (.branch 29 (.leaf (1, 28, 0, 0, 9223372036854775809, [])) (.leaf (83, 29, 1, 0, 0, []))))))
noncomputable def abM121 : abM := ((⟨"TallBins$Rope", "agrees", "(I)Z"⟩, prog_10_method_7_code, 3, some .boolean), 1, 0, 0, 8, abK121)
set_option maxRecDepth 20000 in
noncomputable def abK122 : Lean.RArray abEy := .branch 24 (.branch 11 (.branch 4 (.branch 2 (.leaf (2, 0, 0, 0, 9223372036854775778, [])) (.branch 3 (.leaf (15, 2, 0, 2, 0, [])) (.leaf (1, 3, 0, 0, 9223372036854775808, [])))) (.branch 6 (.branch 5 (.leaf (15, 4, 0, 3, 0, [])) (.leaf (9, 5, 0, 3, 0, []))) (.branch 8 (.leaf (2, 6, 0, 0, 9223372036854775820, [])) (.leaf (55, 8, 48, 0, 0, []))))) (.branch 17 (.branch 15 (.branch 12 (.leaf (13, 11, 0, 0, 0, [])) (.leaf (60, 12, 8, 0, 9, [301]))) (.branch 16 (.leaf (9, 15, 0, 3, 0, [])) (.leaf (64, 16, 0, 0, 0, [])))) (.branch 22 (.branch 19 (.leaf (2, 17, 0, 0, 9223372036854775907, [])) (.leaf (52, 19, 42, 0, 0, []))) (.branch 23 (.leaf (9, 22, 0, 2, 0, [])) (.leaf (13, 23, 0, 0, 0, [])))))) (.branch 36 (.branch 30 (.branch 28 (.branch 27 (.leaf (60, 24, 8, 0, 9, [301])) (.leaf (9, 27, 0, 3, 0, []))) (.branch 29 (.leaf (64, 28, 0, 0, 0, [])) (.leaf (1, 29, 0, 0, 9223372036854775812, [])))) (.branch 32 (.branch 31 (.leaf (9, 30, 0, 3, 0, [])) (.leaf (9, 31, 0, 1, 0, []))) (.branch 33 (.leaf (22, 32, 0, 0, 0, [])) (.leaf (79, 33, 274, 0, 24, [1115, 1116]))))) (.branch 42 (.branch 38 (.branch 37 (.leaf (23, 36, 0, 0, 0, [])) (.leaf (22, 37, 0, 0, 0, []))) (.branch 41 (.leaf (79, 38, 271, 0, 30, [1118, 864])) (.leaf (15, 41, 0, 2, 0, [])))) (.branch 48 (.branch 45 (.leaf (20, 42, 0, 3, 9223372036854775809, [])) (.leaf (58, 45, 5, 0, 0, []))) (.branch 49 (.leaf (9, 48, 0, 2, 0, [])) (.leaf (83, 49, 0, 0, 0, []))))))
noncomputable def abM122 : abM := ((⟨"TallBins$Rope", "leastAt", "(I)I"⟩, prog_10_method_5_code, 4, some .int), 1, 0, 0, 8, abK122)
set_option maxRecDepth 20000 in
noncomputable def abK123 : Lean.RArray abEy := .branch 24 (.branch 11 (.branch 4 (.branch 2 (.leaf (2, 0, 0, 0, 9223372036854775888, [])) (.branch 3 (.leaf (15, 2, 0, 2, 0, [])) (.leaf (1, 3, 0, 0, 9223372036854775808, [])))) (.branch 6 (.branch 5 (.leaf (15, 4, 0, 3, 0, [])) (.leaf (9, 5, 0, 3, 0, []))) (.branch 8 (.leaf (2, 6, 0, 0, 9223372036854775820, [])) (.leaf (55, 8, 48, 0, 0, []))))) (.branch 17 (.branch 15 (.branch 12 (.leaf (13, 11, 0, 0, 0, [])) (.leaf (60, 12, 8, 0, 9, [301]))) (.branch 16 (.leaf (9, 15, 0, 3, 0, [])) (.leaf (64, 16, 0, 0, 0, [])))) (.branch 22 (.branch 19 (.leaf (2, 17, 0, 0, 9223372036854775907, [])) (.leaf (52, 19, 42, 0, 0, []))) (.branch 23 (.leaf (9, 22, 0, 2, 0, [])) (.leaf (13, 23, 0, 0, 0, [])))))) (.branch 36 (.branch 30 (.branch 28 (.branch 27 (.leaf (60, 24, 8, 0, 9, [301])) (.leaf (9, 27, 0, 3, 0, []))) (.branch 29 (.leaf (64, 28, 0, 0, 0, [])) (.leaf (1, 29, 0, 0, 9223372036854775812, [])))) (.branch 32 (.branch 31 (.leaf (9, 30, 0, 3, 0, [])) (.leaf (9, 31, 0, 1, 0, []))) (.branch 33 (.leaf (22, 32, 0, 0, 0, [])) (.leaf (79, 33, 274, 0, 24, [1115, 1116]))))) (.branch 42 (.branch 38 (.branch 37 (.leaf (23, 36, 0, 0, 0, [])) (.leaf (21, 37, 0, 0, 0, []))) (.branch 41 (.leaf (79, 38, 269, 0, 34, [1123, 598])) (.leaf (15, 41, 0, 2, 0, [])))) (.branch 48 (.branch 45 (.leaf (20, 42, 0, 3, 9223372036854775809, [])) (.leaf (58, 45, 5, 0, 0, []))) (.branch 49 (.leaf (9, 48, 0, 2, 0, [])) (.leaf (83, 49, 0, 0, 0, []))))))
noncomputable def abM123 : abM := ((⟨"TallBins$Rope", "mostAt", "(I)I"⟩, prog_10_method_6_code, 4, some .int), 1, 0, 0, 8, abK123)
set_option maxRecDepth 20000 in
noncomputable def abK124 : Lean.RArray abEy := .branch 22 (.branch 11 (.branch 5 (.branch 1 (.leaf (13, 0, 0, 0, 0, [])) (.branch 2 (.leaf (9, 1, 0, 1, 0, [])) (.leaf (78, 2, 48, 0, 123, [777, 779, 16])))) (.branch 8 (.leaf (47, 5, 11, 0, 0, [])) (.branch 10 (.leaf (2, 8, 0, 0, 9223372036854775806, [])) (.leaf (83, 10, 0, 0, 0, []))))) (.branch 18 (.branch 12 (.leaf (13, 11, 0, 0, 0, [])) (.branch 15 (.leaf (60, 12, 11, 3, 25, [531])) (.leaf (60, 15, 4, 1, 143, [399])))) (.branch 20 (.branch 19 (.leaf (9, 18, 0, 1, 0, [])) (.leaf (67, 19, 0, 0, 0, []))) (.branch 21 (.leaf (19, 20, 0, 2, 0, [])) (.leaf (13, 21, 0, 2, 0, [])))))) (.branch 37 (.branch 29 (.branch 25 (.leaf (60, 22, 1, 9, 288, [369])) (.branch 26 (.leaf (13, 25, 0, 2, 0, [])) (.leaf (60, 26, 1, 0, 255, [340])))) (.branch 32 (.leaf (78, 29, 121, 0, 298, [1107, 1108, 1109])) (.branch 35 (.leaf (47, 32, 38, 0, 0, [])) (.leaf (2, 35, 0, 0, 9223372036854775803, []))))) (.branch 42 (.branch 38 (.leaf (83, 37, 0, 0, 0, [])) (.branch 39 (.leaf (13, 38, 0, 2, 0, [])) (.leaf (60, 39, 1, 9, 288, [369])))) (.branch 46 (.branch 43 (.leaf (13, 42, 0, 2, 0, [])) (.leaf (60, 43, 1, 0, 255, [340]))) (.branch 49 (.leaf (78, 46, 125, 0, 307, [1130, 1131, 1132])) (.leaf (83, 49, 0, 0, 0, []))))))
noncomputable def abM124 : abM := ((⟨"TallBins", "nextRope", "(I)I"⟩, prog_1_method_27_code, 3, some .int), 1, 0, 0, 11, abK124)
set_option maxRecDepth 20000 in
noncomputable def abK125 : Lean.RArray abEy := .branch 22 (.branch 9 (.branch 3 (.branch 1 (.leaf (1, 0, 0, 0, 9223372036854775807, [])) (.branch 2 (.leaf (15, 1, 0, 2, 0, [])) (.leaf (1, 2, 0, 0, 9223372036854775808, [])))) (.branch 5 (.branch 4 (.leaf (15, 3, 0, 3, 0, [])) (.leaf (1, 4, 0, 0, 9223372036854775808, []))) (.branch 7 (.leaf (14, 5, 0, 4, 0, [])) (.leaf (8, 7, 0, 4, 0, []))))) (.branch 14 (.branch 10 (.leaf (9, 9, 0, 1, 0, [])) (.branch 13 (.leaf (55, 10, 46, 0, 0, [])) (.leaf (13, 13, 0, 0, 0, [])))) (.branch 19 (.branch 16 (.leaf (8, 14, 0, 4, 0, [])) (.leaf (78, 16, 123, 0, 40, [1119, 1120, 1121]))) (.branch 20 (.leaf (13, 19, 0, 0, 0, [])) (.leaf (8, 20, 0, 4, 0, [])))))) (.branch 36 (.branch 28 (.branch 25 (.leaf (78, 22, 122, 0, 37, [1111, 1112, 1113])) (.branch 26 (.leaf (22, 25, 0, 0, 0, [])) (.leaf (14, 26, 0, 5, 0, [])))) (.branch 31 (.branch 30 (.leaf (8, 28, 0, 5, 0, [])) (.leaf (9, 30, 0, 3, 0, []))) (.branch 34 (.leaf (57, 31, 40, 0, 0, [])) (.leaf (8, 34, 0, 5, 0, []))))) (.branch 40 (.branch 37 (.leaf (15, 36, 0, 3, 0, [])) (.branch 39 (.leaf (8, 37, 0, 4, 0, [])) (.leaf (15, 39, 0, 2, 0, [])))) (.branch 46 (.branch 43 (.leaf (20, 40, 0, 4, 9223372036854775809, [])) (.leaf (58, 43, 7, 0, 0, []))) (.branch 47 (.leaf (9, 46, 0, 2, 0, [])) (.leaf (83, 47, 0, 0, 0, []))))))
noncomputable def abM125 : abM := ((⟨"TallBins$Rope", "leastSure", "(I)I"⟩, prog_10_method_8_code, 6, some .int), 1, 0, 0, 8, abK125)
set_option maxRecDepth 20000 in
noncomputable def abK126 : Lean.RArray abEy := .branch 12 (.branch 5 (.branch 1 (.leaf (13, 0, 0, 0, 0, [])) (.branch 2 (.leaf (9, 1, 0, 1, 0, [])) (.leaf (78, 2, 48, 0, 123, [777, 779, 16])))) (.branch 8 (.leaf (46, 5, 23, 0, 0, [])) (.branch 9 (.leaf (13, 8, 0, 0, 0, [])) (.leaf (60, 9, 11, 3, 25, [531]))))) (.branch 17 (.branch 15 (.leaf (60, 12, 4, 1, 143, [399])) (.branch 16 (.leaf (9, 15, 0, 1, 0, [])) (.leaf (67, 16, 0, 0, 0, [])))) (.branch 23 (.branch 20 (.leaf (78, 17, 127, 0, 310, [1138, 1139, 1140])) (.leaf (58, 20, 25, 0, 0, []))) (.branch 25 (.leaf (2, 23, 0, 0, 9223372036854775806, [])) (.leaf (83, 25, 0, 0, 0, [])))))
noncomputable def abM126 : abM := ((⟨"TallBins", "lies", "(I)I"⟩, prog_1_method_28_code, 2, some .int), 1, 0, 0, 11, abK126)
set_option maxRecDepth 20000 in
noncomputable def abK127 : Lean.RArray abEy := .branch 40 (.branch 20 (.branch 6 (.branch 3 (.branch 1 (.leaf (1, 0, 0, 0, 9223372036854775808, [])) (.branch 2 (.leaf (15, 1, 0, 1, 0, [])) (.leaf (1, 2, 0, 0, 9223372036854775808, [])))) (.branch 4 (.leaf (15, 3, 0, 2, 0, [])) (.branch 5 (.leaf (9, 4, 0, 2, 0, [])) (.leaf (13, 5, 0, 0, 0, []))))) (.branch 13 (.branch 9 (.leaf (60, 6, 1, 0, 36, [337])) (.branch 12 (.leaf (55, 9, 82, 0, 0, [])) (.leaf (13, 12, 0, 0, 0, [])))) (.branch 16 (.leaf (60, 13, 1, 9, 27, [367])) (.branch 19 (.leaf (60, 16, 8, 0, 139, [302])) (.leaf (9, 19, 0, 2, 0, [])))))) (.branch 28 (.branch 23 (.branch 21 (.leaf (64, 20, 0, 0, 0, [])) (.branch 22 (.leaf (15, 21, 0, 3, 0, [])) (.leaf (13, 22, 0, 0, 0, [])))) (.branch 26 (.leaf (60, 23, 1, 8, 20, [364])) (.branch 27 (.leaf (9, 26, 0, 2, 0, [])) (.leaf (67, 27, 0, 0, 0, []))))) (.branch 35 (.branch 31 (.leaf (60, 28, 3, 0, 62, [313])) (.branch 34 (.leaf (51, 31, 56, 0, 0, [])) (.leaf (13, 34, 0, 0, 0, [])))) (.branch 38 (.leaf (60, 35, 1, 8, 20, [364])) (.branch 39 (.leaf (9, 38, 0, 2, 0, [])) (.leaf (67, 39, 0, 0, 0, []))))))) (.branch 62 (.branch 52 (.branch 45 (.branch 43 (.leaf (78, 40, 92, 0, 124, [1048, 976, 977])) (.branch 44 (.leaf (9, 43, 0, 3, 0, [])) (.leaf (22, 44, 0, 0, 0, [])))) (.branch 48 (.leaf (79, 45, 274, 0, 142, [1142, 1116])) (.branch 49 (.leaf (1, 48, 0, 0, 9223372036854775810, [])) (.leaf (56, 49, 56, 0, 0, []))))) (.branch 57 (.branch 53 (.leaf (1, 52, 0, 0, 9223372036854775809, [])) (.branch 56 (.leaf (58, 53, 57, 0, 0, [])) (.leaf (1, 56, 0, 0, 9223372036854775808, [])))) (.branch 59 (.leaf (14, 57, 0, 4, 0, [])) (.branch 60 (.leaf (9, 59, 0, 3, 0, [])) (.leaf (2, 60, 0, 0, 9223372036854775907, [])))))) (.branch 73 (.branch 70 (.branch 65 (.leaf (52, 62, 76, 0, 0, [])) (.branch 67 (.leaf (8, 65, 0, 4, 0, [])) (.leaf (47, 67, 76, 0, 0, [])))) (.branch 71 (.leaf (9, 70, 0, 1, 0, [])) (.branch 72 (.leaf (1, 71, 0, 0, 9223372036854775809, [])) (.leaf (9, 72, 0, 2, 0, []))))) (.branch 76 (.branch 74 (.leaf (29, 73, 0, 0, 0, [])) (.branch 75 (.leaf (27, 74, 0, 0, 0, [])) (.leaf (15, 75, 0, 1, 0, [])))) (.branch 82 (.branch 79 (.leaf (20, 76, 0, 2, 9223372036854775809, [])) (.leaf (58, 79, 4, 0, 0, []))) (.branch 83 (.leaf (9, 82, 0, 1, 0, [])) (.leaf (83, 83, 0, 0, 0, [])))))))
noncomputable def abM127 : abM := ((⟨"TallBins$Bin", "beliedGauges", "()I"⟩, prog_3_method_24_code, 5, some .int), 0, 0, 0, 1, abK127)
set_option maxRecDepth 20000 in
noncomputable def abK128 : Lean.RArray abEy := .branch 50 (.branch 26 (.branch 12 (.branch 7 (.branch 1 (.leaf (9, 0, 0, 1, 0, [])) (.branch 4 (.leaf (79, 1, 129, 0, 313, [1147, 1148])) (.leaf (46, 4, 15, 0, 0, [])))) (.branch 8 (.leaf (13, 7, 0, 0, 0, [])) (.branch 9 (.leaf (9, 8, 0, 2, 0, [])) (.leaf (78, 9, 48, 0, 123, [777, 779, 16]))))) (.branch 18 (.branch 15 (.leaf (47, 12, 18, 0, 0, [])) (.branch 17 (.leaf (2, 15, 0, 0, 9223372036854775806, [])) (.leaf (83, 17, 0, 0, 0, [])))) (.branch 22 (.branch 19 (.leaf (13, 18, 0, 0, 0, [])) (.leaf (60, 19, 11, 3, 25, [531]))) (.branch 23 (.leaf (9, 22, 0, 1, 0, [])) (.leaf (78, 23, 130, 0, 316, [1150, 1151, 1152])))))) (.branch 38 (.branch 31 (.branch 27 (.leaf (1, 26, 0, 0, 9223372036854775807, [])) (.branch 30 (.leaf (53, 27, 46, 0, 0, [])) (.leaf (13, 30, 0, 0, 0, [])))) (.branch 34 (.leaf (60, 31, 11, 3, 25, [531])) (.branch 37 (.leaf (60, 34, 4, 1, 143, [399])) (.leaf (9, 37, 0, 2, 0, []))))) (.branch 43 (.branch 39 (.leaf (67, 38, 0, 0, 0, [])) (.branch 42 (.leaf (60, 39, 1, 6, 147, [359])) (.leaf (1, 42, 0, 0, 9223372036854775807, [])))) (.branch 48 (.branch 46 (.leaf (52, 43, 49, 0, 0, [])) (.leaf (2, 46, 0, 0, 9223372036854775803, []))) (.branch 49 (.leaf (83, 48, 0, 0, 0, [])) (.leaf (13, 49, 0, 0, 0, []))))))) (.branch 77 (.branch 66 (.branch 59 (.branch 53 (.leaf (60, 50, 11, 3, 25, [531])) (.branch 56 (.leaf (60, 53, 4, 0, 108, [395])) (.leaf (60, 56, 10, 14, 319, [195])))) (.branch 60 (.leaf (13, 59, 0, 0, 0, [])) (.branch 63 (.leaf (60, 60, 11, 3, 25, [531])) (.leaf (60, 63, 4, 1, 143, [399]))))) (.branch 71 (.branch 67 (.leaf (9, 66, 0, 2, 0, [])) (.branch 68 (.leaf (67, 67, 0, 0, 0, [])) (.leaf (78, 68, 131, 0, 323, [1154, 1155, 1156])))) (.branch 73 (.branch 72 (.leaf (15, 71, 0, 3, 0, [])) (.leaf (9, 72, 0, 3, 0, []))) (.branch 74 (.leaf (1, 73, 0, 0, 9223372036854775807, [])) (.leaf (52, 74, 85, 0, 0, [])))))) (.branch 89 (.branch 82 (.branch 78 (.leaf (13, 77, 0, 0, 0, [])) (.branch 79 (.leaf (9, 78, 0, 3, 0, [])) (.leaf (61, 79, 11, 11, 69, [539])))) (.branch 85 (.branch 84 (.leaf (2, 82, 0, 0, 9223372036854775802, [])) (.leaf (83, 84, 0, 0, 0, []))) (.branch 86 (.leaf (13, 85, 0, 0, 0, [])) (.leaf (60, 86, 11, 3, 25, [531]))))) (.branch 94 (.branch 92 (.leaf (60, 89, 4, 1, 143, [399])) (.branch 93 (.leaf (9, 92, 0, 2, 0, [])) (.leaf (67, 93, 0, 0, 0, [])))) (.branch 98 (.branch 95 (.leaf (9, 94, 0, 1, 0, [])) (.leaf (61, 95, 1, 6, 147, [359]))) (.branch 99 (.leaf (1, 98, 0, 0, 9223372036854775808, [])) (.leaf (83, 99, 0, 0, 0, [])))))))
noncomputable def abM128 : abM := ((⟨"TallBins", "enter", "(II)I"⟩, prog_1_method_29_code, 4, some .int), 2, 0, 0, 11, abK128)
set_option maxRecDepth 20000 in
noncomputable def abK129 : Lean.RArray abEy := .branch 6 (.branch 4 (.branch 1 (.leaf (9, 0, 0, 0, 0, [])) (.leaf (48, 1, 13, 0, 0, []))) (.branch 5 (.leaf (9, 4, 0, 0, 0, [])) (.leaf (1, 5, 0, 0, 9223372036854775812, [])))) (.branch 10 (.branch 9 (.leaf (55, 6, 13, 0, 0, [])) (.leaf (1, 9, 0, 0, 9223372036854775809, []))) (.branch 13 (.leaf (58, 10, 14, 0, 0, [])) (.branch 14 (.leaf (1, 13, 0, 0, 9223372036854775808, [])) (.leaf (83, 14, 1, 0, 0, [])))))
noncomputable def abM129 : abM := ((⟨"TallBins", "isMan", "(I)Z"⟩, prog_1_method_50_code, 1, some .boolean), 1, 0, 0, 11, abK129)
set_option maxRecDepth 20000 in
noncomputable def abK130 : Lean.RArray abEy := .branch 14 (.branch 5 (.branch 2 (.branch 1 (.leaf (1, 0, 0, 0, 9223372036854775808, [])) (.leaf (15, 1, 0, 2, 0, []))) (.branch 3 (.leaf (9, 2, 0, 2, 0, [])) (.leaf (2, 3, 0, 0, 9223372036854775814, [])))) (.branch 9 (.branch 8 (.leaf (55, 5, 29, 0, 0, [])) (.leaf (13, 8, 0, 0, 0, []))) (.branch 12 (.leaf (60, 9, 4, 1, 20, [396])) (.branch 13 (.leaf (9, 12, 0, 2, 0, [])) (.leaf (67, 13, 0, 0, 0, [])))))) (.branch 22 (.branch 18 (.branch 17 (.leaf (60, 14, 1, 6, 72, [357])) (.leaf (9, 17, 0, 1, 0, []))) (.branch 21 (.leaf (53, 18, 23, 0, 0, [])) (.leaf (9, 21, 0, 2, 0, [])))) (.branch 26 (.branch 23 (.leaf (83, 22, 0, 0, 0, [])) (.leaf (20, 23, 0, 2, 9223372036854775809, []))) (.branch 29 (.leaf (58, 26, 2, 0, 0, [])) (.branch 30 (.leaf (1, 29, 0, 0, 9223372036854775807, [])) (.leaf (83, 30, 0, 0, 0, []))))))
noncomputable def abM130 : abM := ((⟨"TallBins$House", "binOfMan", "(I)I"⟩, prog_6_method_13_code, 3, some .int), 1, 0, 0, 4, abK130)
set_option maxRecDepth 20000 in
noncomputable def abK131 : Lean.RArray abEy := .branch 20 (.branch 9 (.branch 3 (.branch 1 (.leaf (1, 0, 0, 0, 9223372036854775808, [])) (.branch 2 (.leaf (15, 1, 0, 2, 0, [])) (.leaf (1, 2, 0, 0, 9223372036854775808, [])))) (.branch 5 (.branch 4 (.leaf (15, 3, 0, 3, 0, [])) (.leaf (9, 4, 0, 3, 0, []))) (.branch 6 (.leaf (13, 5, 0, 0, 0, [])) (.leaf (60, 6, 0, 0, 28, [130]))))) (.branch 14 (.branch 12 (.leaf (55, 9, 42, 0, 0, [])) (.branch 13 (.leaf (13, 12, 0, 0, 0, [])) (.leaf (9, 13, 0, 2, 0, [])))) (.branch 18 (.branch 15 (.leaf (13, 14, 0, 0, 0, [])) (.leaf (60, 15, 0, 2, 9, [133]))) (.branch 19 (.leaf (9, 18, 0, 3, 0, [])) (.leaf (64, 19, 0, 0, 0, [])))))) (.branch 33 (.branch 27 (.branch 21 (.leaf (13, 20, 0, 1, 0, [])) (.branch 24 (.leaf (78, 21, 132, 0, 41, [1158, 1160, 28])) (.leaf (46, 24, 29, 0, 0, [])))) (.branch 29 (.branch 28 (.leaf (9, 27, 0, 3, 0, [])) (.leaf (83, 28, 0, 0, 0, []))) (.branch 30 (.leaf (13, 29, 0, 0, 0, [])) (.leaf (60, 30, 0, 2, 9, [133]))))) (.branch 36 (.branch 34 (.leaf (9, 33, 0, 3, 0, [])) (.branch 35 (.leaf (64, 34, 0, 0, 0, [])) (.leaf (15, 35, 0, 2, 0, [])))) (.branch 42 (.branch 39 (.leaf (20, 36, 0, 3, 9223372036854775809, [])) (.leaf (58, 39, 4, 0, 0, []))) (.branch 43 (.leaf (1, 42, 0, 0, 9223372036854775807, [])) (.leaf (83, 43, 0, 0, 0, []))))))
noncomputable def abM131 : abM := ((⟨"TallBins$Bars", "firstThatHolds", "(LTallBins$Bin;)I"⟩, prog_2_method_6_code, 4, some .int), 1, 0, 0, 0, abK131)
set_option maxRecDepth 20000 in
noncomputable def abK132 : Lean.RArray abEy := .branch 17 (.branch 9 (.branch 3 (.branch 1 (.leaf (9, 0, 0, 1, 0, [])) (.leaf (14, 1, 0, 4, 0, []))) (.branch 5 (.leaf (8, 3, 0, 4, 0, [])) (.branch 6 (.leaf (9, 5, 0, 2, 0, [])) (.leaf (55, 6, 34, 0, 0, []))))) (.branch 12 (.branch 10 (.leaf (13, 9, 0, 0, 0, [])) (.leaf (8, 10, 0, 4, 0, []))) (.branch 13 (.leaf (13, 12, 0, 3, 0, [])) (.branch 16 (.leaf (78, 13, 133, 0, 45, [1162, 1164, 29])) (.leaf (13, 16, 0, 0, 0, [])))))) (.branch 27 (.branch 22 (.branch 20 (.leaf (60, 17, 0, 4, 18, [135])) (.leaf (8, 20, 0, 4, 0, []))) (.branch 23 (.leaf (65, 22, 0, 0, 0, [])) (.branch 26 (.leaf (53, 23, 28, 0, 0, [])) (.leaf (1, 26, 0, 0, 9223372036854775808, []))))) (.branch 31 (.branch 28 (.leaf (83, 27, 1, 0, 0, [])) (.leaf (20, 28, 0, 4, 9223372036854775809, []))) (.branch 34 (.leaf (58, 31, 3, 0, 0, [])) (.branch 35 (.leaf (1, 34, 0, 0, 9223372036854775809, [])) (.leaf (83, 35, 1, 0, 0, []))))))
noncomputable def abM132 : abM := ((⟨"TallBins$Bars", "allHold", "(IILTallBins$Bin;)Z"⟩, prog_2_method_7_code, 5, some .boolean), 3, 0, 0, 0, abK132)
set_option maxRecDepth 20000 in
noncomputable def abK133 : Lean.RArray abEy := .branch 42 (.branch 18 (.branch 8 (.branch 5 (.branch 1 (.leaf (13, 0, 0, 0, 0, [])) (.branch 4 (.leaf (60, 1, 0, 3, 15, [134])) (.leaf (9, 4, 0, 1, 0, [])))) (.branch 6 (.leaf (64, 5, 0, 0, 0, [])) (.branch 7 (.leaf (15, 6, 0, 3, 0, [])) (.leaf (9, 7, 0, 3, 0, []))))) (.branch 13 (.branch 9 (.leaf (1, 8, 0, 0, 9223372036854775812, [])) (.branch 12 (.leaf (53, 9, 17, 0, 0, [])) (.leaf (13, 12, 0, 2, 0, [])))) (.branch 16 (.leaf (60, 13, 1, 5, 49, [354])) (.branch 17 (.leaf (83, 16, 1, 0, 0, [])) (.leaf (9, 17, 0, 3, 0, [])))))) (.branch 30 (.branch 23 (.branch 19 (.leaf (1, 18, 0, 0, 9223372036854775813, [])) (.branch 22 (.leaf (53, 19, 35, 0, 0, [])) (.leaf (13, 22, 0, 2, 0, [])))) (.branch 26 (.leaf (60, 23, 1, 7, 55, [361])) (.branch 29 (.leaf (51, 26, 33, 0, 0, [])) (.leaf (1, 29, 0, 0, 9223372036854775809, []))))) (.branch 35 (.branch 33 (.leaf (58, 30, 34, 0, 0, [])) (.branch 34 (.leaf (1, 33, 0, 0, 9223372036854775808, [])) (.leaf (83, 34, 1, 0, 0, [])))) (.branch 37 (.branch 36 (.leaf (9, 35, 0, 3, 0, [])) (.leaf (13, 36, 0, 2, 0, []))) (.branch 40 (.leaf (79, 37, 134, 0, 58, [1166, 1167])) (.leaf (14, 40, 0, 4, 0, []))))))) (.branch 65 (.branch 53 (.branch 47 (.branch 43 (.leaf (13, 42, 0, 0, 0, [])) (.branch 46 (.leaf (60, 43, 0, 5, 22, [136])) (.leaf (9, 46, 0, 1, 0, [])))) (.branch 48 (.leaf (64, 47, 0, 0, 0, [])) (.branch 50 (.leaf (2, 48, 0, 0, 9223372036854775868, [])) (.leaf (53, 50, 72, 0, 0, []))))) (.branch 59 (.branch 55 (.leaf (8, 53, 0, 4, 0, [])) (.branch 56 (.leaf (13, 55, 0, 0, 0, [])) (.leaf (60, 56, 0, 6, 25, [137])))) (.branch 61 (.branch 60 (.leaf (9, 59, 0, 1, 0, [])) (.leaf (64, 60, 0, 0, 0, []))) (.branch 64 (.leaf (55, 61, 68, 0, 0, [])) (.leaf (1, 64, 0, 0, 9223372036854775809, [])))))) (.branch 78 (.branch 72 (.branch 68 (.leaf (58, 65, 88, 0, 0, [])) (.branch 69 (.leaf (1, 68, 0, 0, 9223372036854775808, [])) (.leaf (58, 69, 88, 0, 0, [])))) (.branch 74 (.leaf (8, 72, 0, 4, 0, [])) (.branch 75 (.leaf (13, 74, 0, 0, 0, [])) (.leaf (60, 75, 0, 6, 25, [137]))))) (.branch 83 (.branch 79 (.leaf (9, 78, 0, 1, 0, [])) (.branch 80 (.leaf (64, 79, 0, 0, 0, [])) (.leaf (57, 80, 87, 0, 0, [])))) (.branch 87 (.branch 84 (.leaf (1, 83, 0, 0, 9223372036854775809, [])) (.leaf (58, 84, 88, 0, 0, []))) (.branch 88 (.leaf (1, 87, 0, 0, 9223372036854775808, [])) (.leaf (83, 88, 1, 0, 0, [])))))))
noncomputable def abM133 : abM := ((⟨"TallBins$Bars", "isTrue", "(ILTallBins$Bin;)Z"⟩, prog_2_method_8_code, 5, some .boolean), 2, 0, 0, 0, abK133)
set_option maxRecDepth 20000 in
noncomputable def abK134 : Lean.RArray abEy := .branch 36 (.branch 30 (.branch 28 (.branch 1 (.leaf (9, 0, 0, 0, 0, [])) (.leaf (59, 1, 45, 0, 9223372036854775808, [28, 34, 40]))) (.branch 29 (.leaf (13, 28, 0, 1, 0, [])) (.leaf (1, 29, 0, 0, 9223372036854775808, [])))) (.branch 34 (.branch 33 (.leaf (78, 30, 135, 0, 62, [1169, 1170, 1171])) (.leaf (83, 33, 0, 0, 0, []))) (.branch 35 (.leaf (13, 34, 0, 1, 0, [])) (.leaf (1, 35, 0, 0, 9223372036854775809, []))))) (.branch 44 (.branch 40 (.branch 39 (.leaf (78, 36, 135, 0, 62, [1169, 1170, 1171])) (.leaf (83, 39, 0, 0, 0, []))) (.branch 41 (.leaf (13, 40, 0, 1, 0, [])) (.leaf (78, 41, 51, 0, 66, [1173, 795, 796])))) (.branch 46 (.branch 45 (.leaf (83, 44, 0, 0, 0, [])) (.leaf (13, 45, 0, 1, 0, []))) (.branch 49 (.leaf (78, 46, 136, 0, 70, [1174, 1175, 1176])) (.leaf (83, 49, 0, 0, 0, [])))))
noncomputable def abM134 : abM := ((⟨"TallBins$Bars", "valueOf", "(ILTallBins$Bin;)I"⟩, prog_2_method_9_code, 2, some .int), 2, 0, 0, 0, abK134)
set_option maxRecDepth 20000 in
noncomputable def abK135 : Lean.RArray abEy := .branch 35 (.branch 14 (.branch 5 (.branch 2 (.branch 1 (.leaf (1, 0, 0, 0, 9223372036854775808, [])) (.leaf (15, 1, 0, 2, 0, []))) (.branch 4 (.leaf (2, 2, 0, 0, 9223372036854775709, [])) (.leaf (15, 4, 0, 3, 0, [])))) (.branch 8 (.branch 6 (.leaf (1, 5, 0, 0, 9223372036854775808, [])) (.leaf (14, 6, 0, 4, 0, []))) (.branch 10 (.leaf (8, 8, 0, 4, 0, [])) (.branch 11 (.leaf (13, 10, 0, 0, 0, [])) (.leaf (60, 11, 1, 0, 36, [337])))))) (.branch 24 (.branch 18 (.branch 17 (.leaf (55, 14, 69, 0, 0, [])) (.leaf (13, 17, 0, 0, 0, []))) (.branch 21 (.leaf (60, 18, 1, 8, 20, [364])) (.branch 23 (.leaf (8, 21, 0, 4, 0, [])) (.leaf (67, 23, 0, 0, 0, []))))) (.branch 30 (.branch 27 (.leaf (60, 24, 3, 0, 62, [313])) (.leaf (51, 27, 63, 0, 0, []))) (.branch 31 (.leaf (9, 30, 0, 2, 0, [])) (.branch 34 (.leaf (46, 31, 49, 0, 0, [])) (.leaf (13, 34, 0, 0, 0, []))))))) (.branch 52 (.branch 45 (.branch 40 (.branch 38 (.leaf (60, 35, 1, 8, 20, [364])) (.leaf (8, 38, 0, 4, 0, []))) (.branch 41 (.leaf (67, 40, 0, 0, 0, [])) (.branch 42 (.leaf (9, 41, 0, 1, 0, [])) (.leaf (78, 42, 66, 0, 83, [949, 857, 858]))))) (.branch 49 (.branch 46 (.leaf (9, 45, 0, 3, 0, [])) (.leaf (57, 46, 63, 0, 0, []))) (.branch 50 (.leaf (1, 49, 0, 0, 9223372036854775809, [])) (.branch 51 (.leaf (15, 50, 0, 2, 0, [])) (.leaf (13, 51, 0, 0, 0, [])))))) (.branch 62 (.branch 57 (.branch 55 (.leaf (60, 52, 1, 8, 20, [364])) (.leaf (8, 55, 0, 4, 0, []))) (.branch 58 (.leaf (67, 57, 0, 0, 0, [])) (.branch 59 (.leaf (9, 58, 0, 1, 0, [])) (.leaf (78, 59, 66, 0, 83, [949, 857, 858]))))) (.branch 66 (.branch 63 (.leaf (15, 62, 0, 3, 0, [])) (.leaf (20, 63, 0, 4, 9223372036854775809, []))) (.branch 69 (.leaf (58, 66, 8, 0, 0, [])) (.branch 70 (.leaf (9, 69, 0, 3, 0, [])) (.leaf (83, 70, 0, 0, 0, [])))))))
noncomputable def abM135 : abM := ((⟨"TallBins$Bin", "greatest", "(I)I"⟩, prog_3_method_10_code, 5, some .int), 1, 0, 0, 1, abK135)
set_option maxRecDepth 20000 in
noncomputable def abK136 : Lean.RArray abEy := .branch 14 (.branch 5 (.branch 2 (.branch 1 (.leaf (1, 0, 0, 0, 9223372036854775808, [])) (.leaf (15, 1, 0, 1, 0, []))) (.branch 3 (.leaf (1, 2, 0, 0, 9223372036854775808, [])) (.branch 4 (.leaf (15, 3, 0, 2, 0, [])) (.leaf (9, 4, 0, 2, 0, []))))) (.branch 9 (.branch 6 (.leaf (13, 5, 0, 0, 0, [])) (.leaf (60, 6, 1, 0, 36, [337]))) (.branch 12 (.leaf (55, 9, 30, 0, 0, [])) (.branch 13 (.leaf (9, 12, 0, 1, 0, [])) (.leaf (13, 13, 0, 0, 0, [])))))) (.branch 23 (.branch 18 (.branch 17 (.leaf (60, 14, 1, 8, 20, [364])) (.leaf (9, 17, 0, 2, 0, []))) (.branch 19 (.leaf (67, 18, 0, 0, 0, [])) (.branch 22 (.leaf (60, 19, 3, 3, 77, [321])) (.leaf (21, 22, 0, 0, 0, []))))) (.branch 27 (.branch 24 (.leaf (15, 23, 0, 1, 0, [])) (.leaf (20, 24, 0, 2, 9223372036854775809, []))) (.branch 30 (.leaf (58, 27, 4, 0, 0, [])) (.branch 31 (.leaf (9, 30, 0, 1, 0, [])) (.leaf (83, 31, 0, 0, 0, []))))))
noncomputable def abM136 : abM := ((⟨"TallBins$Bin", "allBeetles", "()I"⟩, prog_3_method_8_code, 3, some .int), 0, 0, 0, 1, abK136)
set_option maxRecDepth 20000 in
noncomputable def abK137 : Lean.RArray abEy := .branch 21 (.branch 11 (.branch 7 (.branch 1 (.leaf (9, 0, 0, 1, 0, [])) (.branch 4 (.leaf (79, 1, 129, 0, 313, [1147, 1148])) (.leaf (47, 4, 10, 0, 0, [])))) (.branch 9 (.leaf (2, 7, 0, 0, 9223372036854775806, [])) (.branch 10 (.leaf (83, 9, 0, 0, 0, [])) (.leaf (13, 10, 0, 0, 0, []))))) (.branch 18 (.branch 14 (.leaf (60, 11, 11, 3, 25, [531])) (.branch 15 (.leaf (9, 14, 0, 1, 0, [])) (.leaf (78, 15, 130, 0, 316, [1150, 1151, 1152])))) (.branch 19 (.leaf (15, 18, 0, 2, 0, [])) (.branch 20 (.leaf (9, 19, 0, 2, 0, [])) (.leaf (1, 20, 0, 0, 9223372036854775807, [])))))) (.branch 34 (.branch 27 (.branch 24 (.leaf (53, 21, 27, 0, 0, [])) (.branch 26 (.leaf (2, 24, 0, 0, 9223372036854775803, [])) (.leaf (83, 26, 0, 0, 0, [])))) (.branch 28 (.leaf (13, 27, 0, 0, 0, [])) (.branch 31 (.leaf (60, 28, 11, 3, 25, [531])) (.leaf (60, 31, 4, 1, 143, [399]))))) (.branch 37 (.branch 35 (.leaf (9, 34, 0, 2, 0, [])) (.branch 36 (.leaf (67, 35, 0, 0, 0, [])) (.leaf (1, 36, 0, 0, 9223372036854775807, [])))) (.branch 40 (.leaf (61, 37, 1, 6, 147, [359])) (.branch 41 (.leaf (9, 40, 0, 2, 0, [])) (.leaf (83, 41, 0, 0, 0, []))))))
noncomputable def abM137 : abM := ((⟨"TallBins", "leave", "(I)I"⟩, prog_1_method_30_code, 3, some .int), 1, 0, 0, 11, abK137)
set_option maxRecDepth 20000 in
noncomputable def abK138 : Lean.RArray abEy := .branch 18 (.branch 8 (.branch 2 (.branch 1 (.leaf (13, 0, 0, 0, 0, [])) (.leaf (9, 1, 0, 1, 0, []))) (.branch 5 (.leaf (78, 2, 48, 0, 123, [777, 779, 16])) (.leaf (46, 5, 33, 0, 0, [])))) (.branch 12 (.branch 9 (.leaf (13, 8, 0, 0, 0, [])) (.leaf (60, 9, 11, 3, 25, [531]))) (.branch 15 (.leaf (60, 12, 4, 0, 108, [395])) (.leaf (60, 15, 10, 14, 319, [195]))))) (.branch 26 (.branch 22 (.branch 19 (.leaf (13, 18, 0, 0, 0, [])) (.leaf (60, 19, 11, 3, 25, [531]))) (.branch 25 (.leaf (60, 22, 4, 1, 143, [399])) (.leaf (9, 25, 0, 1, 0, [])))) (.branch 30 (.branch 27 (.leaf (67, 26, 0, 0, 0, [])) (.leaf (78, 27, 131, 0, 323, [1154, 1155, 1156]))) (.branch 33 (.leaf (58, 30, 35, 0, 0, [])) (.branch 35 (.leaf (2, 33, 0, 0, 9223372036854775806, [])) (.leaf (83, 35, 0, 0, 0, []))))))
noncomputable def abM138 : abM := ((⟨"TallBins", "barred", "(I)I"⟩, prog_1_method_31_code, 2, some .int), 1, 0, 0, 11, abK138)
set_option maxRecDepth 20000 in
noncomputable def abK139 : Lean.RArray abEy := .branch 1 (.leaf (13, 0, 0, 0, 0, [])) (.branch 4 (.leaf (60, 1, 11, 11, 69, [539])) (.leaf (83, 4, 0, 0, 0, [])))
noncomputable def abM139 : abM := ((⟨"TallBins", "refused", "()I"⟩, prog_1_method_32_code, 1, some .int), 0, 0, 0, 11, abK139)
set_option maxRecDepth 20000 in
noncomputable def abK140 : Lean.RArray abEy := .branch 28 (.branch 13 (.branch 3 (.branch 1 (.leaf (9, 0, 0, 1, 0, [])) (.branch 2 (.leaf (40, 1, 0, 0, 0, [])) (.leaf (6, 2, 0, 0, 9223372036854775808, [])))) (.branch 9 (.branch 6 (.leaf (7, 3, 127, 0, 9223372036854775811, [781])) (.leaf (79, 6, 49, 0, 129, [782, 783]))) (.branch 12 (.leaf (46, 9, 33, 0, 0, [])) (.leaf (9, 12, 0, 2, 0, []))))) (.branch 20 (.branch 17 (.branch 14 (.leaf (1, 13, 0, 0, 9223372036854775809, [])) (.leaf (54, 14, 33, 0, 0, []))) (.branch 18 (.leaf (9, 17, 0, 2, 0, [])) (.leaf (2, 18, 0, 0, 9223372036854775828, [])))) (.branch 24 (.branch 23 (.leaf (56, 20, 33, 0, 0, [])) (.leaf (9, 23, 0, 3, 0, []))) (.branch 27 (.leaf (48, 24, 33, 0, 0, [])) (.leaf (9, 27, 0, 3, 0, [])))))) (.branch 41 (.branch 35 (.branch 30 (.leaf (2, 28, 0, 0, 9223372036854775848, [])) (.branch 33 (.leaf (57, 30, 36, 0, 0, [])) (.leaf (2, 33, 0, 0, 9223372036854775806, [])))) (.branch 37 (.branch 36 (.leaf (83, 35, 0, 0, 0, [])) (.leaf (13, 36, 0, 0, 0, []))) (.branch 40 (.leaf (60, 37, 11, 10, 65, [538])) (.leaf (13, 40, 0, 0, 0, []))))) (.branch 47 (.branch 45 (.branch 44 (.leaf (60, 41, 11, 3, 25, [531])) (.leaf (9, 44, 0, 1, 0, []))) (.branch 46 (.leaf (9, 45, 0, 2, 0, [])) (.leaf (9, 46, 0, 3, 0, [])))) (.branch 49 (.branch 48 (.leaf (9, 47, 0, 2, 0, [])) (.leaf (23, 48, 0, 0, 0, []))) (.branch 52 (.leaf (78, 49, 141, 0, 329, [1194, 1195, 1196])) (.leaf (83, 52, 0, 0, 0, []))))))
noncomputable def abM140 : abM := ((⟨"TallBins", "blend", "(III)I"⟩, prog_1_method_33_code, 4, some .int), 3, 0, 0, 11, abK140)
set_option maxRecDepth 20000 in
noncomputable def abK141 : Lean.RArray abEy := .branch 67 (.branch 34 (.branch 16 (.branch 7 (.branch 3 (.branch 1 (.leaf (1, 0, 0, 0, 9223372036854775808, [])) (.leaf (14, 1, 0, 5, 0, []))) (.branch 5 (.leaf (8, 3, 0, 5, 0, [])) (.leaf (2, 5, 0, 0, 9223372036854775814, [])))) (.branch 11 (.branch 10 (.leaf (55, 7, 77, 0, 0, [])) (.leaf (13, 10, 0, 1, 0, []))) (.branch 14 (.leaf (60, 11, 4, 1, 27, [397])) (.leaf (8, 14, 0, 5, 0, []))))) (.branch 23 (.branch 19 (.branch 17 (.leaf (67, 16, 0, 0, 0, [])) (.leaf (18, 17, 0, 6, 0, []))) (.branch 20 (.leaf (13, 19, 0, 0, 0, [])) (.leaf (60, 20, 2, 2, 15, [503])))) (.branch 27 (.branch 25 (.leaf (8, 23, 0, 5, 0, [])) (.leaf (12, 25, 0, 6, 0, []))) (.branch 30 (.leaf (60, 27, 1, 4, 33, [349])) (.branch 31 (.leaf (9, 30, 0, 2, 0, [])) (.leaf (53, 31, 49, 0, 0, []))))))) (.branch 50 (.branch 42 (.branch 37 (.branch 35 (.leaf (1, 34, 0, 0, 9223372036854775813, [])) (.leaf (12, 35, 0, 6, 0, []))) (.branch 40 (.leaf (78, 37, 51, 0, 39, [1198, 795, 796])) (.leaf (2, 40, 0, 0, 9223372036854775908, [])))) (.branch 46 (.branch 43 (.leaf (24, 42, 0, 0, 0, [])) (.leaf (79, 43, 269, 0, 43, [1199, 598]))) (.branch 49 (.leaf (58, 46, 50, 0, 0, [])) (.leaf (1, 49, 0, 0, 9223372036854775808, []))))) (.branch 57 (.branch 52 (.branch 51 (.leaf (69, 50, 0, 0, 0, [])) (.leaf (13, 51, 0, 0, 0, []))) (.branch 55 (.leaf (60, 52, 2, 3, 18, [504])) (.leaf (8, 55, 0, 5, 0, [])))) (.branch 62 (.branch 59 (.leaf (12, 57, 0, 6, 0, [])) (.leaf (78, 59, 142, 0, 49, [1200, 1201, 1202]))) (.branch 63 (.leaf (69, 62, 0, 0, 0, [])) (.branch 64 (.leaf (13, 63, 0, 0, 0, [])) (.leaf (60, 64, 2, 4, 21, [505])))))))) (.branch 96 (.branch 83 (.branch 74 (.branch 70 (.branch 69 (.leaf (8, 67, 0, 5, 0, [])) (.leaf (1, 69, 0, 0, 9223372036854775808, []))) (.branch 71 (.leaf (69, 70, 0, 0, 0, [])) (.leaf (20, 71, 0, 5, 9223372036854775809, [])))) (.branch 78 (.branch 77 (.leaf (58, 74, 3, 0, 0, [])) (.leaf (13, 77, 0, 0, 0, []))) (.branch 80 (.leaf (8, 78, 0, 4, 0, [])) (.leaf (61, 80, 2, 6, 52, [507]))))) (.branch 89 (.branch 85 (.branch 84 (.leaf (13, 83, 0, 0, 0, [])) (.leaf (1, 84, 0, 0, 9223372036854775807, []))) (.branch 88 (.leaf (61, 85, 2, 7, 55, [508])) (.leaf (13, 88, 0, 0, 0, [])))) (.branch 91 (.branch 90 (.leaf (1, 89, 0, 0, 9223372036854775808, [])) (.leaf (9, 90, 0, 3, 0, []))) (.branch 92 (.leaf (1, 91, 0, 0, 9223372036854775808, [])) (.branch 95 (.leaf (79, 92, 143, 0, 58, [1205, 1206])) (.leaf (13, 95, 0, 0, 0, []))))))) (.branch 112 (.branch 104 (.branch 100 (.branch 99 (.leaf (60, 96, 2, 7, 55, [508])) (.leaf (1, 99, 0, 0, 9223372036854775807, []))) (.branch 103 (.leaf (52, 100, 123, 0, 0, [])) (.leaf (13, 103, 0, 0, 0, [])))) (.branch 108 (.branch 107 (.leaf (60, 104, 2, 5, 24, [506])) (.leaf (1, 107, 0, 0, 9223372036854775808, []))) (.branch 109 (.leaf (13, 108, 0, 0, 0, [])) (.leaf (60, 109, 2, 1, 9, [501]))))) (.branch 119 (.branch 115 (.branch 113 (.leaf (1, 112, 0, 0, 9223372036854775808, [])) (.leaf (2, 113, 0, 0, 9223372036854775814, []))) (.branch 118 (.leaf (77, 115, 0, 0, 62, [1217, 758, 757, 102])) (.leaf (13, 118, 0, 0, 0, [])))) (.branch 123 (.branch 120 (.leaf (1, 119, 0, 0, 9223372036854775809, [])) (.leaf (62, 120, 2, 0, 68, [499]))) (.branch 124 (.leaf (13, 123, 0, 0, 0, [])) (.branch 127 (.leaf (60, 124, 2, 7, 55, [508])) (.leaf (83, 127, 0, 0, 0, []))))))))
noncomputable def abM141 : abM := ((⟨"TallBins$Blender", "findBlend", "(LTallBins$House;III)I"⟩, prog_4_method_2_code, 7, some .int), 4, 0, 0, 2, abK141)
set_option maxRecDepth 20000 in
noncomputable def abK142 : Lean.RArray abEy := .branch 22 (.branch 9 (.branch 3 (.branch 1 (.leaf (1, 0, 0, 0, 9223372036854775808, [])) (.branch 2 (.leaf (15, 1, 0, 1, 0, [])) (.leaf (1, 2, 0, 0, 9223372036854775808, [])))) (.branch 5 (.branch 4 (.leaf (15, 3, 0, 2, 0, [])) (.leaf (9, 4, 0, 2, 0, []))) (.branch 6 (.leaf (13, 5, 0, 0, 0, [])) (.leaf (60, 6, 1, 0, 36, [337]))))) (.branch 14 (.branch 12 (.leaf (55, 9, 30, 0, 0, [])) (.branch 13 (.leaf (9, 12, 0, 1, 0, [])) (.leaf (13, 13, 0, 0, 0, [])))) (.branch 18 (.branch 17 (.leaf (60, 14, 1, 8, 20, [364])) (.leaf (9, 17, 0, 2, 0, []))) (.branch 19 (.leaf (67, 18, 0, 0, 0, [])) (.leaf (60, 19, 3, 1, 68, [316])))))) (.branch 35 (.branch 27 (.branch 23 (.leaf (21, 22, 0, 0, 0, [])) (.branch 24 (.leaf (15, 23, 0, 1, 0, [])) (.leaf (20, 24, 0, 2, 9223372036854775809, [])))) (.branch 31 (.branch 30 (.leaf (58, 27, 4, 0, 0, [])) (.leaf (13, 30, 0, 0, 0, []))) (.branch 34 (.leaf (78, 31, 51, 0, 65, [794, 795, 796])) (.leaf (15, 34, 0, 2, 0, []))))) (.branch 41 (.branch 39 (.branch 36 (.leaf (9, 35, 0, 2, 0, [])) (.leaf (51, 36, 47, 0, 0, []))) (.branch 40 (.leaf (9, 39, 0, 1, 0, [])) (.leaf (9, 40, 0, 2, 0, [])))) (.branch 47 (.branch 44 (.leaf (79, 41, 270, 0, 71, [1204, 861])) (.leaf (58, 44, 48, 0, 0, []))) (.branch 48 (.leaf (1, 47, 0, 0, 9223372036854775808, [])) (.leaf (83, 48, 0, 0, 0, []))))))
noncomputable def abM142 : abM := ((⟨"TallBins$Bin", "dampnessOfAll", "()I"⟩, prog_3_method_7_code, 3, some .int), 0, 0, 0, 1, abK142)
set_option maxRecDepth 20000 in
noncomputable def abK143 : Lean.RArray abEy := .branch 44 (.branch 20 (.branch 10 (.branch 5 (.branch 1 (.leaf (9, 0, 0, 2, 0, [])) (.branch 4 (.leaf (47, 1, 11, 0, 0, [])) (.leaf (13, 4, 0, 0, 0, [])))) (.branch 6 (.leaf (9, 5, 0, 1, 0, [])) (.branch 7 (.leaf (9, 6, 0, 3, 0, [])) (.leaf (78, 7, 144, 0, 72, [1208, 1210, 30]))))) (.branch 14 (.branch 11 (.leaf (82, 10, 0, 0, 0, [])) (.branch 12 (.leaf (9, 11, 0, 1, 0, [])) (.leaf (2, 12, 0, 0, 9223372036854775814, [])))) (.branch 18 (.branch 17 (.leaf (55, 14, 27, 0, 0, [])) (.leaf (13, 17, 0, 0, 0, []))) (.branch 19 (.leaf (9, 18, 0, 1, 0, [])) (.leaf (9, 19, 0, 2, 0, [])))))) (.branch 31 (.branch 27 (.branch 21 (.leaf (9, 20, 0, 3, 0, [])) (.branch 24 (.leaf (78, 21, 145, 0, 76, [1212, 1214, 31])) (.leaf (47, 24, 28, 0, 0, [])))) (.branch 28 (.leaf (82, 27, 0, 0, 0, [])) (.branch 29 (.leaf (1, 28, 0, 0, 9223372036854775808, [])) (.leaf (14, 29, 0, 4, 0, []))))) (.branch 37 (.branch 33 (.leaf (8, 31, 0, 4, 0, [])) (.branch 34 (.leaf (13, 33, 0, 0, 0, [])) (.leaf (60, 34, 2, 2, 15, [503])))) (.branch 39 (.branch 38 (.leaf (9, 37, 0, 1, 0, [])) (.leaf (64, 38, 0, 0, 0, []))) (.branch 42 (.leaf (56, 39, 84, 0, 0, [])) (.leaf (8, 42, 0, 4, 0, []))))))) (.branch 63 (.branch 55 (.branch 49 (.branch 45 (.leaf (9, 44, 0, 2, 0, [])) (.branch 48 (.leaf (56, 45, 84, 0, 0, [])) (.leaf (13, 48, 0, 0, 0, [])))) (.branch 52 (.leaf (60, 49, 2, 4, 21, [505])) (.branch 53 (.leaf (9, 52, 0, 1, 0, [])) (.leaf (8, 53, 0, 4, 0, []))))) (.branch 58 (.branch 56 (.leaf (69, 55, 0, 0, 0, [])) (.branch 57 (.leaf (13, 56, 0, 0, 0, [])) (.leaf (9, 57, 0, 1, 0, [])))) (.branch 60 (.branch 59 (.leaf (1, 58, 0, 0, 9223372036854775809, [])) (.leaf (21, 59, 0, 0, 0, []))) (.branch 61 (.leaf (9, 60, 0, 2, 0, [])) (.leaf (8, 61, 0, 4, 0, [])))))) (.branch 72 (.branch 67 (.branch 64 (.leaf (22, 63, 0, 0, 0, [])) (.branch 65 (.leaf (9, 64, 0, 3, 0, [])) (.leaf (8, 65, 0, 4, 0, [])))) (.branch 68 (.leaf (13, 67, 0, 0, 0, [])) (.branch 71 (.leaf (60, 68, 2, 3, 18, [504])) (.leaf (9, 71, 0, 1, 0, []))))) (.branch 75 (.branch 73 (.leaf (64, 72, 0, 0, 0, [])) (.branch 74 (.leaf (23, 73, 0, 0, 0, [])) (.leaf (21, 74, 0, 0, 0, [])))) (.branch 81 (.branch 78 (.leaf (79, 75, 143, 0, 58, [1205, 1206])) (.leaf (20, 78, 0, 4, 9223372036854775809, []))) (.branch 84 (.leaf (58, 81, 31, 0, 0, [])) (.leaf (82, 84, 0, 0, 0, [])))))))
noncomputable def abM143 : abM := ((⟨"TallBins$Blender", "tryFrom", "(LTallBins$Blender;III)V"⟩, prog_4_method_3_code, 5, none), 4, 0, 0, 2, abK143)
set_option maxRecDepth 20000 in
noncomputable def abK144 : Lean.RArray abEy := .branch 29 (.branch 16 (.branch 8 (.branch 2 (.branch 1 (.leaf (9, 0, 0, 2, 0, [])) (.leaf (13, 1, 0, 0, 0, []))) (.branch 5 (.leaf (60, 2, 2, 7, 55, [508])) (.leaf (57, 5, 56, 0, 0, [])))) (.branch 10 (.branch 9 (.leaf (9, 8, 0, 2, 0, [])) (.leaf (13, 9, 0, 0, 0, []))) (.branch 13 (.leaf (60, 10, 2, 6, 52, [507])) (.leaf (56, 13, 56, 0, 0, []))))) (.branch 22 (.branch 18 (.branch 17 (.leaf (13, 16, 0, 0, 0, [])) (.leaf (9, 17, 0, 2, 0, []))) (.branch 21 (.leaf (61, 18, 2, 7, 55, [508])) (.leaf (1, 21, 0, 0, 9223372036854775808, [])))) (.branch 24 (.branch 23 (.leaf (15, 22, 0, 3, 0, [])) (.leaf (9, 23, 0, 3, 0, []))) (.branch 26 (.leaf (2, 24, 0, 0, 9223372036854775814, [])) (.leaf (55, 26, 56, 0, 0, [])))))) (.branch 43 (.branch 35 (.branch 33 (.branch 30 (.leaf (13, 29, 0, 0, 0, [])) (.leaf (60, 30, 2, 5, 24, [506]))) (.branch 34 (.leaf (9, 33, 0, 3, 0, [])) (.leaf (9, 34, 0, 3, 0, [])))) (.branch 39 (.branch 36 (.leaf (9, 35, 0, 1, 0, [])) (.leaf (55, 36, 48, 0, 0, []))) (.branch 40 (.leaf (13, 39, 0, 0, 0, [])) (.leaf (60, 40, 2, 4, 21, [505]))))) (.branch 49 (.branch 45 (.branch 44 (.leaf (9, 43, 0, 3, 0, [])) (.leaf (64, 44, 0, 0, 0, []))) (.branch 48 (.leaf (58, 45, 49, 0, 0, [])) (.leaf (1, 48, 0, 0, 9223372036854775808, [])))) (.branch 53 (.branch 50 (.leaf (69, 49, 0, 0, 0, [])) (.leaf (20, 50, 0, 3, 9223372036854775809, []))) (.branch 56 (.leaf (58, 53, 23, 0, 0, [])) (.leaf (82, 56, 0, 0, 0, []))))))
noncomputable def abM144 : abM := ((⟨"TallBins$Blender", "weigh", "(II)V"⟩, prog_4_method_4_code, 4, none), 2, 0, 0, 2, abK144)
set_option maxRecDepth 20000 in
noncomputable def abK145 : Lean.RArray abEy := .branch 58 (.branch 27 (.branch 11 (.branch 4 (.branch 1 (.leaf (1, 0, 0, 0, 9223372036854775808, [])) (.branch 3 (.leaf (14, 1, 0, 4, 0, [])) (.leaf (1, 3, 0, 0, 9223372036854775808, [])))) (.branch 8 (.branch 6 (.leaf (14, 4, 0, 5, 0, [])) (.leaf (2, 6, 0, 0, 9223372036854775848, []))) (.branch 10 (.leaf (14, 8, 0, 6, 0, [])) (.leaf (9, 10, 0, 1, 0, []))))) (.branch 20 (.branch 15 (.branch 13 (.leaf (14, 11, 0, 7, 0, [])) (.leaf (8, 13, 0, 7, 0, []))) (.branch 17 (.leaf (2, 15, 0, 0, 9223372036854775814, [])) (.leaf (55, 17, 76, 0, 0, [])))) (.branch 24 (.branch 21 (.leaf (13, 20, 0, 0, 0, [])) (.leaf (60, 21, 2, 2, 15, [503]))) (.branch 26 (.leaf (8, 24, 0, 7, 0, [])) (.leaf (64, 26, 0, 0, 0, [])))))) (.branch 42 (.branch 36 (.branch 32 (.branch 30 (.leaf (51, 27, 70, 0, 0, [])) (.leaf (8, 30, 0, 4, 0, []))) (.branch 33 (.leaf (13, 32, 0, 0, 0, [])) (.leaf (60, 33, 2, 2, 15, [503])))) (.branch 39 (.branch 38 (.leaf (8, 36, 0, 7, 0, [])) (.leaf (64, 38, 0, 0, 0, []))) (.branch 40 (.leaf (21, 39, 0, 0, 0, [])) (.leaf (14, 40, 0, 4, 0, []))))) (.branch 50 (.branch 45 (.branch 44 (.leaf (8, 42, 0, 5, 0, [])) (.leaf (13, 44, 0, 0, 0, []))) (.branch 48 (.leaf (60, 45, 2, 3, 18, [504])) (.leaf (8, 48, 0, 7, 0, [])))) (.branch 54 (.branch 51 (.leaf (64, 50, 0, 0, 0, [])) (.leaf (79, 51, 271, 0, 80, [1216, 864]))) (.branch 56 (.leaf (14, 54, 0, 5, 0, [])) (.leaf (8, 56, 0, 6, 0, []))))))) (.branch 87 (.branch 73 (.branch 64 (.branch 59 (.leaf (13, 58, 0, 0, 0, [])) (.branch 62 (.leaf (60, 59, 2, 3, 18, [504])) (.leaf (8, 62, 0, 7, 0, [])))) (.branch 68 (.branch 65 (.leaf (64, 64, 0, 0, 0, [])) (.leaf (79, 65, 269, 0, 43, [1199, 598]))) (.branch 70 (.leaf (14, 68, 0, 6, 0, [])) (.leaf (20, 70, 0, 7, 9223372036854775809, []))))) (.branch 82 (.branch 78 (.branch 76 (.leaf (58, 73, 13, 0, 0, [])) (.leaf (8, 76, 0, 4, 0, []))) (.branch 79 (.leaf (9, 78, 0, 2, 0, [])) (.leaf (54, 79, 112, 0, 0, [])))) (.branch 84 (.branch 83 (.leaf (9, 82, 0, 3, 0, [])) (.leaf (9, 83, 0, 2, 0, []))) (.branch 86 (.leaf (8, 84, 0, 6, 0, [])) (.leaf (23, 86, 0, 0, 0, [])))))) (.branch 100 (.branch 95 (.branch 89 (.branch 88 (.leaf (21, 87, 0, 0, 0, [])) (.leaf (13, 88, 0, 0, 0, []))) (.branch 92 (.leaf (60, 89, 2, 6, 52, [507])) (.leaf (56, 92, 112, 0, 0, [])))) (.branch 97 (.branch 96 (.leaf (9, 95, 0, 3, 0, [])) (.leaf (9, 96, 0, 2, 0, []))) (.branch 99 (.leaf (8, 97, 0, 5, 0, [])) (.leaf (23, 99, 0, 0, 0, []))))) (.branch 108 (.branch 102 (.branch 101 (.leaf (21, 100, 0, 0, 0, [])) (.leaf (13, 101, 0, 0, 0, []))) (.branch 105 (.leaf (60, 102, 2, 7, 55, [508])) (.leaf (57, 105, 112, 0, 0, [])))) (.branch 112 (.branch 109 (.leaf (1, 108, 0, 0, 9223372036854775809, [])) (.leaf (58, 109, 113, 0, 0, []))) (.branch 113 (.leaf (1, 112, 0, 0, 9223372036854775808, [])) (.leaf (83, 113, 1, 0, 0, [])))))))
noncomputable def abM145 : abM := ((⟨"TallBins$Blender", "mayImprove", "(III)Z"⟩, prog_4_method_5_code, 8, some .boolean), 3, 0, 0, 2, abK145)
set_option maxRecDepth 20000 in
noncomputable def abK146 : Lean.RArray abEy := .branch 12 (.branch 5 (.branch 1 (.leaf (13, 0, 0, 0, 0, [])) (.branch 2 (.leaf (9, 1, 0, 1, 0, [])) (.leaf (78, 2, 48, 0, 123, [777, 779, 16])))) (.branch 8 (.leaf (46, 5, 20, 0, 0, [])) (.branch 9 (.leaf (13, 8, 0, 0, 0, [])) (.leaf (60, 9, 11, 10, 65, [538]))))) (.branch 17 (.branch 15 (.leaf (60, 12, 2, 1, 333, [502])) (.branch 16 (.leaf (9, 15, 0, 1, 0, [])) (.leaf (64, 16, 0, 0, 0, [])))) (.branch 20 (.leaf (58, 17, 22, 0, 0, [])) (.branch 22 (.leaf (2, 20, 0, 0, 9223372036854775806, [])) (.leaf (83, 22, 0, 0, 0, [])))))
noncomputable def abM146 : abM := ((⟨"TallBins", "blended", "(I)I"⟩, prog_1_method_34_code, 2, some .int), 1, 0, 0, 11, abK146)
set_option maxRecDepth 20000 in
noncomputable def abK147 : Lean.RArray abEy := .branch 50 (.branch 27 (.branch 12 (.branch 7 (.branch 1 (.leaf (13, 0, 0, 0, 0, [])) (.branch 4 (.leaf (60, 1, 11, 10, 65, [538])) (.leaf (60, 4, 2, 0, 104, [500])))) (.branch 10 (.leaf (47, 7, 12, 0, 0, [])) (.branch 11 (.leaf (1, 10, 0, 0, 9223372036854775807, [])) (.leaf (83, 11, 0, 0, 0, []))))) (.branch 17 (.branch 13 (.leaf (13, 12, 0, 0, 0, [])) (.branch 16 (.leaf (60, 13, 11, 10, 65, [538])) (.leaf (1, 16, 0, 0, 9223372036854775808, [])))) (.branch 21 (.branch 20 (.leaf (62, 17, 2, 0, 104, [500])) (.leaf (13, 20, 0, 0, 0, []))) (.branch 24 (.leaf (60, 21, 11, 7, 47, [535])) (.leaf (78, 24, 68, 0, 191, [870, 871, 872])))))) (.branch 36 (.branch 32 (.branch 28 (.leaf (13, 27, 0, 0, 0, [])) (.branch 29 (.leaf (1, 28, 0, 0, 9223372036854775807, [])) (.leaf (61, 29, 11, 8, 51, [536])))) (.branch 34 (.branch 33 (.leaf (1, 32, 0, 0, 9223372036854775808, [])) (.leaf (15, 33, 0, 1, 0, []))) (.branch 35 (.leaf (1, 34, 0, 0, 9223372036854775808, [])) (.leaf (15, 35, 0, 2, 0, []))))) (.branch 42 (.branch 37 (.leaf (9, 36, 0, 2, 0, [])) (.branch 39 (.leaf (2, 37, 0, 0, 9223372036854775814, [])) (.leaf (55, 39, 98, 0, 0, [])))) (.branch 46 (.branch 43 (.leaf (13, 42, 0, 0, 0, [])) (.leaf (60, 43, 11, 10, 65, [538]))) (.branch 49 (.leaf (60, 46, 2, 1, 333, [502])) (.leaf (9, 49, 0, 2, 0, []))))))) (.branch 74 (.branch 62 (.branch 55 (.branch 51 (.leaf (64, 50, 0, 0, 0, [])) (.branch 54 (.leaf (51, 51, 92, 0, 0, [])) (.leaf (13, 54, 0, 0, 0, [])))) (.branch 58 (.leaf (60, 55, 11, 3, 25, [531])) (.branch 59 (.leaf (9, 58, 0, 2, 0, [])) (.leaf (78, 59, 86, 0, 335, [1226, 951, 952]))))) (.branch 67 (.branch 65 (.leaf (46, 62, 92, 0, 0, [])) (.branch 66 (.leaf (9, 65, 0, 1, 0, [])) (.leaf (13, 66, 0, 0, 0, [])))) (.branch 71 (.branch 70 (.leaf (60, 67, 11, 3, 25, [531])) (.leaf (9, 70, 0, 2, 0, []))) (.branch 73 (.leaf (2, 71, 0, 0, 9223372036854775908, [])) (.leaf (13, 73, 0, 0, 0, [])))))) (.branch 87 (.branch 81 (.branch 77 (.leaf (60, 74, 11, 10, 65, [538])) (.branch 80 (.leaf (60, 77, 2, 1, 333, [502])) (.leaf (9, 80, 0, 2, 0, [])))) (.branch 83 (.branch 82 (.leaf (64, 81, 0, 0, 0, [])) (.leaf (23, 82, 0, 0, 0, []))) (.branch 84 (.leaf (13, 83, 0, 0, 0, [])) (.leaf (60, 84, 11, 7, 47, [535]))))) (.branch 92 (.branch 90 (.leaf (78, 87, 69, 0, 194, [874, 875, 876])) (.branch 91 (.leaf (21, 90, 0, 0, 0, [])) (.leaf (15, 91, 0, 1, 0, [])))) (.branch 98 (.branch 95 (.leaf (20, 92, 0, 2, 9223372036854775809, [])) (.leaf (58, 95, 36, 0, 0, []))) (.branch 99 (.leaf (9, 98, 0, 1, 0, [])) (.leaf (83, 99, 0, 0, 0, [])))))))
noncomputable def abM147 : abM := ((⟨"TallBins", "serve", "()I"⟩, prog_1_method_35_code, 3, some .int), 0, 0, 0, 11, abK147)
set_option maxRecDepth 20000 in
noncomputable def abK148 : Lean.RArray abEy := .branch 7 (.branch 1 (.leaf (13, 0, 0, 0, 0, [])) (.branch 4 (.leaf (60, 1, 11, 3, 25, [531])) (.leaf (60, 4, 4, 2, 338, [401])))) (.branch 9 (.branch 8 (.leaf (9, 7, 0, 1, 0, [])) (.leaf (9, 8, 0, 2, 0, []))) (.branch 12 (.leaf (78, 9, 149, 0, 342, [1231, 1232, 1233])) (.leaf (83, 12, 0, 0, 0, []))))
noncomputable def abM148 : abM := ((⟨"TallBins", "filled", "(II)I"⟩, prog_1_method_36_code, 3, some .int), 2, 0, 0, 11, abK148)
set_option maxRecDepth 20000 in
noncomputable def abK149 : Lean.RArray abEy := .branch 22 (.branch 9 (.branch 4 (.branch 1 (.leaf (9, 0, 0, 1, 0, [])) (.leaf (48, 1, 22, 0, 0, []))) (.branch 5 (.leaf (9, 4, 0, 1, 0, [])) (.branch 6 (.leaf (13, 5, 0, 0, 0, [])) (.leaf (60, 6, 5, 0, 15, [274]))))) (.branch 16 (.branch 12 (.leaf (55, 9, 22, 0, 0, [])) (.branch 13 (.leaf (9, 12, 0, 2, 0, [])) (.leaf (48, 13, 22, 0, 0, [])))) (.branch 17 (.leaf (9, 16, 0, 2, 0, [])) (.branch 19 (.leaf (2, 17, 0, 0, 9223372036854775814, [])) (.leaf (54, 19, 25, 0, 0, [])))))) (.branch 30 (.branch 25 (.branch 24 (.leaf (4, 22, 32, 0, 9223372034854775808, [1235])) (.leaf (83, 24, 0, 0, 0, []))) (.branch 26 (.leaf (13, 25, 0, 0, 0, [])) (.branch 29 (.leaf (60, 26, 5, 2, 11, [276])) (.leaf (13, 29, 0, 0, 0, []))))) (.branch 35 (.branch 31 (.leaf (9, 30, 0, 1, 0, [])) (.branch 34 (.leaf (78, 31, 56, 0, 28, [815, 817, 17])) (.leaf (9, 34, 0, 2, 0, [])))) (.branch 36 (.leaf (21, 35, 0, 0, 0, [])) (.branch 37 (.leaf (64, 36, 0, 0, 0, [])) (.leaf (83, 37, 0, 0, 0, []))))))
noncomputable def abM149 : abM := ((⟨"TallBins$Ledger", "at", "(II)I"⟩, prog_7_method_4_code, 3, some .int), 2, 0, 0, 5, abK149)
set_option maxRecDepth 20000 in
noncomputable def abK150 : Lean.RArray abEy := .branch 62 (.branch 44 (.branch 7 (.branch 4 (.branch 1 (.leaf (9, 0, 0, 1, 0, [])) (.leaf (48, 1, 10, 0, 0, []))) (.branch 5 (.leaf (9, 4, 0, 1, 0, [])) (.leaf (2, 5, 0, 0, 9223372036854775816, [])))) (.branch 12 (.branch 10 (.leaf (54, 7, 13, 0, 0, [])) (.leaf (4, 10, 233, 0, 9223372034854775808, [979]))) (.branch 13 (.leaf (83, 12, 0, 0, 0, [])) (.branch 14 (.leaf (9, 13, 0, 2, 0, [])) (.leaf (59, 14, 91, 0, 9223372036854775808, [44, 54, 63, 82])))))) (.branch 53 (.branch 48 (.branch 45 (.leaf (13, 44, 0, 0, 0, [])) (.leaf (60, 45, 11, 3, 25, [531]))) (.branch 51 (.leaf (60, 48, 4, 3, 346, [403])) (.branch 52 (.leaf (9, 51, 0, 1, 0, [])) (.leaf (64, 52, 0, 0, 0, []))))) (.branch 55 (.branch 54 (.leaf (83, 53, 0, 0, 0, [])) (.leaf (13, 54, 0, 0, 0, []))) (.branch 58 (.leaf (60, 55, 11, 3, 25, [531])) (.branch 59 (.leaf (9, 58, 0, 1, 0, [])) (.leaf (78, 59, 151, 0, 349, [1240, 1241, 1242]))))))) (.branch 77 (.branch 70 (.branch 64 (.branch 63 (.leaf (83, 62, 0, 0, 0, [])) (.leaf (13, 63, 0, 0, 0, []))) (.branch 67 (.leaf (60, 64, 11, 3, 25, [531])) (.leaf (60, 67, 4, 3, 346, [403])))) (.branch 72 (.branch 71 (.leaf (9, 70, 0, 1, 0, [])) (.leaf (64, 71, 0, 0, 0, []))) (.branch 73 (.leaf (13, 72, 0, 0, 0, [])) (.branch 76 (.leaf (60, 73, 11, 3, 25, [531])) (.leaf (9, 76, 0, 1, 0, [])))))) (.branch 86 (.branch 81 (.branch 80 (.leaf (78, 77, 151, 0, 349, [1240, 1241, 1242])) (.leaf (22, 80, 0, 0, 0, []))) (.branch 82 (.leaf (83, 81, 0, 0, 0, [])) (.branch 83 (.leaf (13, 82, 0, 0, 0, [])) (.leaf (60, 83, 11, 3, 25, [531]))))) (.branch 90 (.branch 87 (.leaf (9, 86, 0, 1, 0, [])) (.leaf (78, 87, 153, 0, 352, [1248, 1249, 1250]))) (.branch 91 (.leaf (83, 90, 0, 0, 0, [])) (.branch 93 (.leaf (4, 91, 233, 0, 9223372034854775808, [979])) (.leaf (83, 93, 0, 0, 0, [])))))))
noncomputable def abM150 : abM := ((⟨"TallBins", "lot", "(II)I"⟩, prog_1_method_37_code, 3, some .int), 2, 0, 0, 11, abK150)
set_option maxRecDepth 20000 in
noncomputable def abK151 : Lean.RArray abEy := .branch 15 (.branch 5 (.branch 2 (.branch 1 (.leaf (1, 0, 0, 0, 9223372036854775808, [])) (.leaf (15, 1, 0, 2, 0, []))) (.branch 3 (.leaf (1, 2, 0, 0, 9223372036854775808, [])) (.branch 4 (.leaf (15, 3, 0, 3, 0, [])) (.leaf (9, 4, 0, 3, 0, []))))) (.branch 10 (.branch 7 (.leaf (2, 5, 0, 0, 9223372036854775814, [])) (.leaf (55, 7, 29, 0, 0, []))) (.branch 11 (.leaf (9, 10, 0, 2, 0, [])) (.branch 12 (.leaf (13, 11, 0, 0, 0, [])) (.leaf (60, 12, 4, 1, 20, [396])))))) (.branch 22 (.branch 17 (.branch 16 (.leaf (9, 15, 0, 3, 0, [])) (.leaf (67, 16, 0, 0, 0, []))) (.branch 18 (.leaf (9, 17, 0, 1, 0, [])) (.branch 21 (.leaf (78, 18, 152, 0, 174, [1244, 1245, 1246])) (.leaf (21, 21, 0, 0, 0, []))))) (.branch 26 (.branch 23 (.leaf (15, 22, 0, 2, 0, [])) (.leaf (20, 23, 0, 3, 9223372036854775809, []))) (.branch 29 (.leaf (58, 26, 4, 0, 0, [])) (.branch 30 (.leaf (9, 29, 0, 2, 0, [])) (.leaf (83, 30, 0, 0, 0, []))))))
noncomputable def abM151 : abM := ((⟨"TallBins$House", "unitsOfLot", "(I)I"⟩, prog_6_method_14_code, 4, some .int), 1, 0, 0, 4, abK151)
set_option maxRecDepth 20000 in
noncomputable def abK152 : Lean.RArray abEy := .branch 17 (.branch 5 (.branch 2 (.branch 1 (.leaf (1, 0, 0, 0, 9223372036854775808, [])) (.leaf (15, 1, 0, 2, 0, []))) (.branch 3 (.leaf (1, 2, 0, 0, 9223372036854775808, [])) (.branch 4 (.leaf (15, 3, 0, 3, 0, [])) (.leaf (9, 4, 0, 3, 0, []))))) (.branch 12 (.branch 6 (.leaf (13, 5, 0, 0, 0, [])) (.branch 9 (.leaf (60, 6, 1, 0, 36, [337])) (.leaf (55, 9, 32, 0, 0, [])))) (.branch 13 (.leaf (9, 12, 0, 2, 0, [])) (.branch 14 (.leaf (13, 13, 0, 0, 0, [])) (.leaf (60, 14, 1, 8, 20, [364])))))) (.branch 24 (.branch 19 (.branch 18 (.leaf (9, 17, 0, 3, 0, [])) (.leaf (67, 18, 0, 0, 0, []))) (.branch 22 (.leaf (60, 19, 3, 4, 80, [324])) (.branch 23 (.leaf (9, 22, 0, 1, 0, [])) (.leaf (64, 23, 0, 0, 0, []))))) (.branch 29 (.branch 25 (.leaf (21, 24, 0, 0, 0, [])) (.branch 26 (.leaf (15, 25, 0, 2, 0, [])) (.leaf (20, 26, 0, 3, 9223372036854775809, [])))) (.branch 32 (.leaf (58, 29, 4, 0, 0, [])) (.branch 33 (.leaf (9, 32, 0, 2, 0, [])) (.leaf (83, 33, 0, 0, 0, []))))))
noncomputable def abM152 : abM := ((⟨"TallBins$Bin", "unitsOfLot", "(I)I"⟩, prog_3_method_9_code, 4, some .int), 1, 0, 0, 1, abK152)
set_option maxRecDepth 20000 in
noncomputable def abK153 : Lean.RArray abEy := .branch 17 (.branch 7 (.branch 3 (.branch 1 (.leaf (1, 0, 0, 0, 9223372036854775808, [])) (.branch 2 (.leaf (15, 1, 0, 2, 0, [])) (.leaf (1, 2, 0, 0, 9223372036854775808, [])))) (.branch 4 (.leaf (15, 3, 0, 3, 0, [])) (.branch 5 (.leaf (9, 4, 0, 3, 0, [])) (.leaf (2, 5, 0, 0, 9223372036854775814, []))))) (.branch 14 (.branch 10 (.leaf (55, 7, 35, 0, 0, [])) (.branch 11 (.leaf (13, 10, 0, 0, 0, [])) (.leaf (60, 11, 4, 1, 20, [396])))) (.branch 15 (.leaf (9, 14, 0, 3, 0, [])) (.branch 16 (.leaf (67, 15, 0, 0, 0, [])) (.leaf (9, 16, 0, 1, 0, [])))))) (.branch 27 (.branch 24 (.branch 20 (.leaf (78, 17, 152, 0, 174, [1244, 1245, 1246])) (.branch 23 (.leaf (51, 20, 29, 0, 0, [])) (.leaf (9, 23, 0, 2, 0, [])))) (.branch 25 (.leaf (1, 24, 0, 0, 9223372036854775809, [])) (.branch 26 (.leaf (9, 25, 0, 3, 0, [])) (.leaf (29, 26, 0, 0, 0, []))))) (.branch 32 (.branch 28 (.leaf (27, 27, 0, 0, 0, [])) (.branch 29 (.leaf (15, 28, 0, 2, 0, [])) (.leaf (20, 29, 0, 3, 9223372036854775809, [])))) (.branch 35 (.leaf (58, 32, 4, 0, 0, [])) (.branch 36 (.leaf (9, 35, 0, 2, 0, [])) (.leaf (83, 36, 0, 0, 0, []))))))
noncomputable def abM153 : abM := ((⟨"TallBins$House", "binsWithLot", "(I)I"⟩, prog_6_method_15_code, 4, some .int), 1, 0, 0, 4, abK153)
set_option maxRecDepth 20000 in
noncomputable def abK154 : Lean.RArray abEy := .branch 87 (.branch 21 (.branch 11 (.branch 5 (.branch 1 (.leaf (13, 0, 0, 0, 0, [])) (.branch 2 (.leaf (9, 1, 0, 1, 0, [])) (.leaf (78, 2, 48, 0, 123, [777, 779, 16])))) (.branch 8 (.leaf (47, 5, 11, 0, 0, [])) (.branch 10 (.leaf (4, 8, 233, 0, 9223372034854775808, [979])) (.leaf (83, 10, 0, 0, 0, []))))) (.branch 18 (.branch 12 (.leaf (13, 11, 0, 0, 0, [])) (.branch 15 (.leaf (60, 12, 11, 3, 25, [531])) (.leaf (60, 15, 4, 1, 143, [399])))) (.branch 19 (.leaf (9, 18, 0, 1, 0, [])) (.branch 20 (.leaf (67, 19, 0, 0, 0, [])) (.leaf (19, 20, 0, 3, 0, [])))))) (.branch 74 (.branch 69 (.branch 22 (.leaf (9, 21, 0, 2, 0, [])) (.branch 68 (.leaf (59, 22, 131, 0, 9223372036854775808, [68, 73, 78, 83, 96, 101, 106, 111])) (.leaf (13, 68, 0, 3, 0, [])))) (.branch 72 (.leaf (60, 69, 1, 0, 255, [340])) (.branch 73 (.leaf (83, 72, 0, 0, 0, [])) (.leaf (13, 73, 0, 3, 0, []))))) (.branch 79 (.branch 77 (.leaf (78, 74, 51, 0, 165, [819, 795, 796])) (.branch 78 (.leaf (83, 77, 0, 0, 0, [])) (.leaf (13, 78, 0, 3, 0, [])))) (.branch 83 (.branch 82 (.leaf (60, 79, 1, 4, 150, [351])) (.leaf (83, 82, 0, 0, 0, []))) (.branch 84 (.leaf (13, 83, 0, 3, 0, [])) (.leaf (60, 84, 1, 5, 188, [355]))))))) (.branch 110 (.branch 97 (.branch 94 (.branch 90 (.leaf (46, 87, 94, 0, 0, [])) (.branch 91 (.leaf (1, 90, 0, 0, 9223372036854775809, [])) (.leaf (58, 91, 95, 0, 0, [])))) (.branch 95 (.leaf (1, 94, 0, 0, 9223372036854775808, [])) (.branch 96 (.leaf (83, 95, 0, 0, 0, [])) (.leaf (13, 96, 0, 3, 0, []))))) (.branch 102 (.branch 100 (.leaf (60, 97, 1, 6, 147, [359])) (.branch 101 (.leaf (83, 100, 0, 0, 0, [])) (.leaf (13, 101, 0, 3, 0, [])))) (.branch 106 (.branch 105 (.leaf (60, 102, 1, 7, 355, [363])) (.leaf (83, 105, 0, 0, 0, []))) (.branch 107 (.leaf (13, 106, 0, 3, 0, [])) (.leaf (78, 107, 142, 0, 358, [1256, 1201, 1202])))))) (.branch 122 (.branch 115 (.branch 111 (.leaf (83, 110, 0, 0, 0, [])) (.branch 112 (.leaf (13, 111, 0, 0, 0, [])) (.leaf (60, 112, 11, 3, 25, [531])))) (.branch 118 (.leaf (60, 115, 4, 0, 108, [395])) (.branch 119 (.leaf (13, 118, 0, 3, 0, [])) (.leaf (60, 119, 1, 4, 150, [351]))))) (.branch 129 (.branch 125 (.leaf (78, 122, 155, 0, 361, [1257, 1258, 1259])) (.branch 126 (.leaf (13, 125, 0, 3, 0, [])) (.leaf (78, 126, 51, 0, 165, [819, 795, 796])))) (.branch 131 (.branch 130 (.leaf (23, 129, 0, 0, 0, [])) (.leaf (83, 130, 0, 0, 0, []))) (.branch 133 (.leaf (4, 131, 233, 0, 9223372034854775808, [979])) (.leaf (83, 133, 0, 0, 0, [])))))))
noncomputable def abM154 : abM := ((⟨"TallBins", "bin", "(II)I"⟩, prog_1_method_38_code, 4, some .int), 2, 0, 0, 11, abK154)
set_option maxRecDepth 20000 in
noncomputable def abK155 : Lean.RArray abEy := .branch 10 (.branch 5 (.branch 1 (.leaf (9, 0, 0, 1, 0, [])) (.branch 4 (.leaf (48, 1, 18, 0, 0, [])) (.leaf (9, 4, 0, 1, 0, [])))) (.branch 6 (.leaf (1, 5, 0, 0, 9223372036854775812, [])) (.branch 9 (.leaf (55, 6, 18, 0, 0, [])) (.leaf (13, 9, 0, 0, 0, []))))) (.branch 15 (.branch 13 (.leaf (60, 10, 10, 9, 30, [187])) (.branch 14 (.leaf (9, 13, 0, 1, 0, [])) (.leaf (64, 14, 0, 0, 0, [])))) (.branch 18 (.leaf (58, 15, 19, 0, 0, [])) (.branch 19 (.leaf (1, 18, 0, 0, 9223372036854775808, [])) (.leaf (83, 19, 0, 0, 0, [])))))
noncomputable def abM155 : abM := ((⟨"TallBins$Rules", "priceOf", "(I)I"⟩, prog_12_method_8_code, 2, some .int), 1, 0, 0, 10, abK155)
set_option maxRecDepth 20000 in
noncomputable def abK156 : Lean.RArray abEy := .branch 114 (.branch 87 (.branch 74 (.branch 65 (.branch 1 (.leaf (9, 0, 0, 1, 0, [])) (.branch 64 (.leaf (59, 1, 163, 0, 9223372036854775808, [64, 75, 83, 91, 99, 107, 121, 126, 134, 142, 150, 155])) (.leaf (13, 64, 0, 0, 0, [])))) (.branch 68 (.leaf (60, 65, 11, 3, 25, [531])) (.branch 71 (.leaf (60, 68, 4, 0, 108, [395])) (.leaf (60, 71, 10, 0, 111, [166]))))) (.branch 79 (.branch 75 (.leaf (83, 74, 0, 0, 0, [])) (.branch 76 (.leaf (13, 75, 0, 0, 0, [])) (.leaf (60, 76, 11, 3, 25, [531])))) (.branch 83 (.branch 82 (.leaf (60, 79, 4, 4, 364, [405])) (.leaf (83, 82, 0, 0, 0, []))) (.branch 84 (.leaf (13, 83, 0, 0, 0, [])) (.leaf (60, 84, 11, 3, 25, [531])))))) (.branch 99 (.branch 92 (.branch 90 (.leaf (60, 87, 4, 6, 367, [409])) (.branch 91 (.leaf (83, 90, 0, 0, 0, [])) (.leaf (13, 91, 0, 0, 0, [])))) (.branch 95 (.leaf (60, 92, 11, 3, 25, [531])) (.branch 98 (.leaf (60, 95, 4, 7, 370, [411])) (.leaf (83, 98, 0, 0, 0, []))))) (.branch 106 (.branch 100 (.leaf (13, 99, 0, 0, 0, [])) (.branch 103 (.leaf (60, 100, 11, 3, 25, [531])) (.leaf (60, 103, 4, 8, 373, [413])))) (.branch 108 (.branch 107 (.leaf (83, 106, 0, 0, 0, [])) (.leaf (13, 107, 0, 0, 0, []))) (.branch 111 (.leaf (60, 108, 11, 3, 25, [531])) (.leaf (60, 111, 4, 0, 108, [395]))))))) (.branch 141 (.branch 126 (.branch 121 (.branch 117 (.leaf (60, 114, 10, 14, 319, [195])) (.branch 120 (.leaf (60, 117, 0, 0, 376, [131])) (.leaf (83, 120, 0, 0, 0, [])))) (.branch 122 (.leaf (13, 121, 0, 0, 0, [])) (.branch 125 (.leaf (60, 122, 11, 1, 79, [529])) (.leaf (83, 125, 0, 0, 0, []))))) (.branch 133 (.branch 127 (.leaf (13, 126, 0, 0, 0, [])) (.branch 130 (.leaf (60, 127, 11, 3, 25, [531])) (.leaf (78, 130, 157, 0, 378, [1265, 1266, 1267])))) (.branch 135 (.branch 134 (.leaf (83, 133, 0, 0, 0, [])) (.leaf (13, 134, 0, 0, 0, []))) (.branch 138 (.leaf (60, 135, 11, 3, 25, [531])) (.leaf (78, 138, 158, 0, 379, [1269, 1270, 1271])))))) (.branch 154 (.branch 146 (.branch 142 (.leaf (83, 141, 0, 0, 0, [])) (.branch 143 (.leaf (13, 142, 0, 0, 0, [])) (.leaf (60, 143, 11, 3, 25, [531])))) (.branch 150 (.branch 149 (.leaf (78, 146, 159, 0, 382, [1273, 1274, 1275])) (.leaf (83, 149, 0, 0, 0, []))) (.branch 151 (.leaf (13, 150, 0, 0, 0, [])) (.leaf (78, 151, 160, 0, 385, [1280, 1282, 32]))))) (.branch 159 (.branch 155 (.leaf (83, 154, 0, 0, 0, [])) (.branch 156 (.leaf (13, 155, 0, 0, 0, [])) (.leaf (60, 156, 11, 3, 25, [531])))) (.branch 163 (.branch 162 (.leaf (60, 159, 4, 5, 279, [407])) (.leaf (83, 162, 0, 0, 0, []))) (.branch 164 (.leaf (1, 163, 0, 0, 9223372036854775807, [])) (.leaf (83, 164, 0, 0, 0, [])))))))
noncomputable def abM156 : abM := ((⟨"TallBins", "count", "(I)I"⟩, prog_1_method_39_code, 2, some .int), 1, 0, 0, 11, abK156)
set_option maxRecDepth 20000 in
noncomputable def abK157 : Lean.RArray abEy := .branch 14 (.branch 4 (.branch 2 (.branch 1 (.leaf (1, 0, 0, 0, 9223372036854775808, [])) (.leaf (15, 1, 0, 1, 0, []))) (.branch 3 (.leaf (1, 2, 0, 0, 9223372036854775808, [])) (.leaf (15, 3, 0, 2, 0, [])))) (.branch 7 (.branch 5 (.leaf (9, 4, 0, 2, 0, [])) (.leaf (2, 5, 0, 0, 9223372036854775814, []))) (.branch 10 (.leaf (55, 7, 31, 0, 0, [])) (.branch 11 (.leaf (13, 10, 0, 0, 0, [])) (.leaf (60, 11, 4, 1, 20, [396])))))) (.branch 22 (.branch 16 (.branch 15 (.leaf (9, 14, 0, 2, 0, [])) (.leaf (67, 15, 0, 0, 0, []))) (.branch 19 (.leaf (60, 16, 1, 0, 78, [339])) (.leaf (51, 19, 25, 0, 0, [])))) (.branch 28 (.branch 25 (.leaf (20, 22, 0, 1, 9223372036854775809, [])) (.leaf (20, 25, 0, 2, 9223372036854775809, []))) (.branch 31 (.leaf (58, 28, 4, 0, 0, [])) (.branch 32 (.leaf (9, 31, 0, 1, 0, [])) (.leaf (83, 32, 0, 0, 0, []))))))
noncomputable def abM157 : abM := ((⟨"TallBins$House", "howManyTold", "()I"⟩, prog_6_method_16_code, 3, some .int), 0, 0, 0, 4, abK157)
set_option maxRecDepth 20000 in
noncomputable def abK158 : Lean.RArray abEy := .branch 14 (.branch 4 (.branch 2 (.branch 1 (.leaf (1, 0, 0, 0, 9223372036854775808, [])) (.leaf (15, 1, 0, 1, 0, []))) (.branch 3 (.leaf (1, 2, 0, 0, 9223372036854775808, [])) (.leaf (15, 3, 0, 2, 0, [])))) (.branch 7 (.branch 5 (.leaf (9, 4, 0, 2, 0, [])) (.leaf (2, 5, 0, 0, 9223372036854775814, []))) (.branch 10 (.leaf (55, 7, 31, 0, 0, [])) (.branch 11 (.leaf (13, 10, 0, 0, 0, [])) (.leaf (60, 11, 4, 1, 20, [396])))))) (.branch 22 (.branch 16 (.branch 15 (.leaf (9, 14, 0, 2, 0, [])) (.leaf (67, 15, 0, 0, 0, []))) (.branch 19 (.leaf (60, 16, 1, 5, 134, [353])) (.leaf (46, 19, 25, 0, 0, [])))) (.branch 28 (.branch 25 (.leaf (20, 22, 0, 1, 9223372036854775809, [])) (.leaf (20, 25, 0, 2, 9223372036854775809, []))) (.branch 31 (.leaf (58, 28, 4, 0, 0, [])) (.branch 32 (.leaf (9, 31, 0, 1, 0, [])) (.leaf (83, 32, 0, 0, 0, []))))))
noncomputable def abM158 : abM := ((⟨"TallBins$House", "howManyHung", "()I"⟩, prog_6_method_17_code, 3, some .int), 0, 0, 0, 4, abK158)
set_option maxRecDepth 20000 in
noncomputable def abK159 : Lean.RArray abEy := .branch 15 (.branch 5 (.branch 2 (.branch 1 (.leaf (1, 0, 0, 0, 9223372036854775808, [])) (.leaf (15, 1, 0, 1, 0, []))) (.branch 3 (.leaf (1, 2, 0, 0, 9223372036854775808, [])) (.branch 4 (.leaf (15, 3, 0, 2, 0, [])) (.leaf (9, 4, 0, 2, 0, []))))) (.branch 10 (.branch 7 (.leaf (2, 5, 0, 0, 9223372036854775814, [])) (.leaf (55, 7, 28, 0, 0, []))) (.branch 11 (.leaf (9, 10, 0, 1, 0, [])) (.branch 12 (.leaf (13, 11, 0, 0, 0, [])) (.leaf (60, 12, 4, 1, 20, [396])))))) (.branch 22 (.branch 17 (.branch 16 (.leaf (9, 15, 0, 2, 0, [])) (.leaf (67, 16, 0, 0, 0, []))) (.branch 20 (.leaf (78, 17, 136, 0, 177, [1277, 1175, 1176])) (.branch 21 (.leaf (21, 20, 0, 0, 0, [])) (.leaf (15, 21, 0, 1, 0, []))))) (.branch 30 (.branch 25 (.leaf (20, 22, 0, 2, 9223372036854775809, [])) (.branch 28 (.leaf (58, 25, 4, 0, 0, [])) (.leaf (4, 28, 180, 0, 9223372037854775808, [1278])))) (.branch 31 (.leaf (9, 30, 0, 1, 0, [])) (.branch 34 (.leaf (79, 31, 269, 0, 181, [1279, 598])) (.leaf (83, 34, 0, 0, 0, []))))))
noncomputable def abM159 : abM := ((⟨"TallBins$House", "allBeetles", "()I"⟩, prog_6_method_18_code, 3, some .int), 0, 0, 0, 4, abK159)
set_option maxRecDepth 20000 in
noncomputable def abK160 : Lean.RArray abEy := .branch 13 (.branch 4 (.branch 2 (.branch 1 (.leaf (1, 0, 0, 0, 9223372036854775808, [])) (.leaf (15, 1, 0, 1, 0, []))) (.branch 3 (.leaf (1, 2, 0, 0, 9223372036854775808, [])) (.leaf (15, 3, 0, 2, 0, [])))) (.branch 6 (.branch 5 (.leaf (9, 4, 0, 2, 0, [])) (.leaf (1, 5, 0, 0, 9223372036854775812, []))) (.branch 9 (.leaf (55, 6, 30, 0, 0, [])) (.branch 10 (.leaf (13, 9, 0, 0, 0, [])) (.leaf (60, 10, 11, 6, 39, [534])))))) (.branch 21 (.branch 15 (.branch 14 (.leaf (9, 13, 0, 2, 0, [])) (.leaf (67, 14, 0, 0, 0, []))) (.branch 18 (.leaf (78, 15, 59, 0, 171, [827, 828, 829])) (.leaf (46, 18, 24, 0, 0, [])))) (.branch 27 (.branch 24 (.leaf (20, 21, 0, 1, 9223372036854775809, [])) (.leaf (20, 24, 0, 2, 9223372036854775809, []))) (.branch 30 (.leaf (58, 27, 4, 0, 0, [])) (.branch 31 (.leaf (9, 30, 0, 1, 0, [])) (.leaf (83, 31, 0, 0, 0, []))))))
noncomputable def abM160 : abM := ((⟨"TallBins", "howManyRows", "()I"⟩, prog_1_method_40_code, 3, some .int), 0, 0, 0, 11, abK160)
set_option maxRecDepth 20000 in
noncomputable def abK161 : Lean.RArray abEy := .branch 17 (.branch 9 (.branch 4 (.branch 1 (.leaf (9, 0, 0, 1, 0, [])) (.leaf (48, 1, 9, 0, 0, []))) (.branch 5 (.leaf (9, 4, 0, 1, 0, [])) (.branch 6 (.leaf (1, 5, 0, 0, 9223372036854775811, [])) (.leaf (54, 6, 12, 0, 0, []))))) (.branch 12 (.branch 11 (.leaf (2, 9, 0, 0, 9223372036854775806, [])) (.leaf (83, 11, 0, 0, 0, []))) (.branch 13 (.leaf (13, 12, 0, 0, 0, [])) (.branch 16 (.leaf (60, 13, 11, 4, 29, [532])) (.leaf (9, 16, 0, 1, 0, [])))))) (.branch 26 (.branch 19 (.branch 18 (.leaf (67, 17, 0, 0, 0, [])) (.leaf (13, 18, 0, 0, 0, []))) (.branch 22 (.leaf (60, 19, 11, 3, 25, [531])) (.branch 25 (.leaf (78, 22, 162, 0, 388, [1288, 1289, 1290])) (.leaf (13, 25, 0, 0, 0, []))))) (.branch 31 (.branch 29 (.leaf (60, 26, 11, 5, 33, [533])) (.branch 30 (.leaf (9, 29, 0, 1, 0, [])) (.leaf (1, 30, 0, 0, 9223372036854775809, [])))) (.branch 32 (.leaf (70, 31, 0, 0, 0, [])) (.branch 33 (.leaf (1, 32, 0, 0, 9223372036854775808, [])) (.leaf (83, 33, 0, 0, 0, []))))))
noncomputable def abM161 : abM := ((⟨"TallBins", "keep", "(I)I"⟩, prog_1_method_41_code, 2, some .int), 1, 0, 0, 11, abK161)
set_option maxRecDepth 20000 in
noncomputable def abK162 : Lean.RArray abEy := .branch 52 (.branch 24 (.branch 12 (.branch 5 (.branch 1 (.leaf (13, 0, 0, 0, 0, [])) (.branch 4 (.leaf (60, 1, 4, 0, 12, [394])) (.leaf (13, 4, 0, 1, 0, [])))) (.branch 8 (.leaf (60, 5, 4, 0, 12, [394])) (.branch 11 (.leaf (78, 8, 43, 0, 40, [752, 753, 754])) (.leaf (1, 11, 0, 0, 9223372036854775808, []))))) (.branch 16 (.branch 13 (.leaf (15, 12, 0, 2, 0, [])) (.branch 14 (.leaf (9, 13, 0, 2, 0, [])) (.leaf (2, 14, 0, 0, 9223372036854775814, [])))) (.branch 20 (.branch 19 (.leaf (55, 16, 40, 0, 0, [])) (.leaf (13, 19, 0, 0, 0, []))) (.branch 23 (.leaf (60, 20, 4, 1, 20, [396])) (.leaf (9, 23, 0, 2, 0, [])))))) (.branch 37 (.branch 29 (.branch 25 (.leaf (67, 24, 0, 0, 0, [])) (.branch 26 (.leaf (13, 25, 0, 1, 0, [])) (.leaf (60, 26, 4, 1, 20, [396])))) (.branch 31 (.branch 30 (.leaf (9, 29, 0, 2, 0, [])) (.leaf (67, 30, 0, 0, 0, []))) (.branch 34 (.leaf (78, 31, 115, 0, 44, [1292, 1081, 1082])) (.leaf (20, 34, 0, 2, 9223372036854775809, []))))) (.branch 44 (.branch 40 (.leaf (58, 37, 13, 0, 0, [])) (.branch 41 (.leaf (13, 40, 0, 0, 0, [])) (.leaf (60, 41, 4, 2, 27, [400])))) (.branch 48 (.branch 45 (.leaf (13, 44, 0, 1, 0, [])) (.leaf (60, 45, 4, 2, 27, [400]))) (.branch 51 (.leaf (78, 48, 163, 0, 47, [1293, 1294, 1295])) (.leaf (13, 51, 0, 1, 0, []))))))) (.branch 79 (.branch 66 (.branch 57 (.branch 55 (.leaf (60, 52, 4, 3, 31, [402])) (.branch 56 (.leaf (1, 55, 0, 0, 9223372036854775808, [])) (.leaf (13, 56, 0, 0, 0, [])))) (.branch 61 (.branch 60 (.leaf (60, 57, 4, 3, 31, [402])) (.leaf (1, 60, 0, 0, 9223372036854775808, []))) (.branch 63 (.leaf (2, 61, 0, 0, 9223372036854775816, [])) (.leaf (77, 63, 0, 0, 50, [1298, 758, 757, 102]))))) (.branch 71 (.branch 67 (.leaf (13, 66, 0, 0, 0, [])) (.branch 68 (.leaf (13, 67, 0, 1, 0, [])) (.leaf (60, 68, 4, 4, 56, [404])))) (.branch 75 (.branch 74 (.leaf (61, 71, 4, 4, 56, [404])) (.leaf (13, 74, 0, 0, 0, []))) (.branch 76 (.leaf (13, 75, 0, 1, 0, [])) (.leaf (60, 76, 4, 5, 35, [406])))))) (.branch 92 (.branch 84 (.branch 82 (.leaf (61, 79, 4, 5, 35, [406])) (.branch 83 (.leaf (13, 82, 0, 0, 0, [])) (.leaf (13, 83, 0, 1, 0, [])))) (.branch 90 (.branch 87 (.leaf (60, 84, 4, 6, 59, [408])) (.leaf (61, 87, 4, 6, 59, [408]))) (.branch 91 (.leaf (13, 90, 0, 0, 0, [])) (.leaf (13, 91, 0, 1, 0, []))))) (.branch 99 (.branch 95 (.leaf (60, 92, 4, 7, 62, [410])) (.branch 98 (.leaf (61, 95, 4, 7, 62, [410])) (.leaf (13, 98, 0, 0, 0, [])))) (.branch 103 (.branch 100 (.leaf (13, 99, 0, 1, 0, [])) (.leaf (60, 100, 4, 8, 65, [412]))) (.branch 106 (.leaf (61, 103, 4, 8, 65, [412])) (.leaf (82, 106, 0, 0, 0, [])))))))
noncomputable def abM162 : abM := ((⟨"TallBins$House", "copyFrom", "(LTallBins$House;)V"⟩, prog_6_method_2_code, 3, none), 1, 0, 0, 4, abK162)
set_option maxRecDepth 20000 in
noncomputable def abK163 : Lean.RArray abEy := .branch 16 (.branch 8 (.branch 2 (.branch 1 (.leaf (13, 0, 0, 0, 0, [])) (.leaf (13, 1, 0, 1, 0, []))) (.branch 5 (.leaf (60, 2, 5, 0, 15, [274])) (.leaf (61, 5, 5, 0, 15, [274])))) (.branch 10 (.branch 9 (.leaf (13, 8, 0, 0, 0, [])) (.leaf (13, 9, 0, 1, 0, []))) (.branch 13 (.leaf (60, 10, 5, 1, 19, [275])) (.leaf (61, 13, 5, 1, 19, [275]))))) (.branch 22 (.branch 20 (.branch 17 (.leaf (13, 16, 0, 1, 0, [])) (.leaf (60, 17, 5, 2, 11, [276]))) (.branch 21 (.leaf (1, 20, 0, 0, 9223372036854775808, [])) (.leaf (13, 21, 0, 0, 0, [])))) (.branch 26 (.branch 25 (.leaf (60, 22, 5, 2, 11, [276])) (.leaf (1, 25, 0, 0, 9223372036854775808, []))) (.branch 29 (.leaf (3, 26, 0, 0, 9223372036854776048, [])) (.branch 32 (.leaf (77, 29, 0, 0, 22, [1297, 758, 757, 102])) (.leaf (82, 32, 0, 0, 0, []))))))
noncomputable def abM163 : abM := ((⟨"TallBins$Ledger", "copyFrom", "(LTallBins$Ledger;)V"⟩, prog_7_method_2_code, 2, none), 1, 0, 0, 5, abK163)
set_option maxRecDepth 20000 in
noncomputable def abK164 : Lean.RArray abEy := .branch 23 (.branch 11 (.branch 5 (.branch 1 (.leaf (9, 0, 0, 1, 0, [])) (.branch 4 (.leaf (48, 1, 9, 0, 0, [])) (.leaf (9, 4, 0, 1, 0, [])))) (.branch 6 (.leaf (1, 5, 0, 0, 9223372036854775811, [])) (.branch 9 (.leaf (54, 6, 12, 0, 0, [])) (.leaf (2, 9, 0, 0, 9223372036854775806, []))))) (.branch 16 (.branch 12 (.leaf (83, 11, 0, 0, 0, [])) (.branch 13 (.leaf (13, 12, 0, 0, 0, [])) (.leaf (60, 13, 11, 5, 33, [533])))) (.branch 18 (.branch 17 (.leaf (9, 16, 0, 1, 0, [])) (.leaf (65, 17, 0, 0, 0, []))) (.branch 21 (.leaf (47, 18, 24, 0, 0, [])) (.leaf (2, 21, 0, 0, 9223372036854775802, [])))))) (.branch 34 (.branch 28 (.branch 24 (.leaf (83, 23, 0, 0, 0, [])) (.branch 25 (.leaf (13, 24, 0, 0, 0, [])) (.leaf (60, 25, 11, 3, 25, [531])))) (.branch 32 (.branch 29 (.leaf (13, 28, 0, 0, 0, [])) (.leaf (60, 29, 11, 4, 29, [532]))) (.branch 33 (.leaf (9, 32, 0, 1, 0, [])) (.leaf (67, 33, 0, 0, 0, []))))) (.branch 41 (.branch 37 (.leaf (78, 34, 162, 0, 388, [1288, 1289, 1290])) (.branch 38 (.leaf (13, 37, 0, 0, 0, [])) (.leaf (60, 38, 11, 10, 65, [538])))) (.branch 45 (.branch 42 (.leaf (1, 41, 0, 0, 9223372036854775808, [])) (.leaf (62, 42, 2, 0, 104, [500]))) (.branch 46 (.leaf (1, 45, 0, 0, 9223372036854775808, [])) (.leaf (83, 46, 0, 0, 0, []))))))
noncomputable def abM164 : abM := ((⟨"TallBins", "back", "(I)I"⟩, prog_1_method_42_code, 2, some .int), 1, 0, 0, 11, abK164)
set_option maxRecDepth 20000 in
noncomputable def abK165 : Lean.RArray abEy := .branch 25 (.branch 12 (.branch 7 (.branch 1 (.leaf (9, 0, 0, 1, 0, [])) (.branch 4 (.leaf (79, 1, 58, 0, 168, [824, 825])) (.leaf (46, 4, 22, 0, 0, [])))) (.branch 8 (.leaf (9, 7, 0, 2, 0, [])) (.branch 11 (.leaf (48, 8, 22, 0, 0, [])) (.leaf (9, 11, 0, 2, 0, []))))) (.branch 17 (.branch 13 (.leaf (1, 12, 0, 0, 9223372036854775811, [])) (.branch 16 (.leaf (56, 13, 22, 0, 0, [])) (.leaf (9, 16, 0, 3, 0, [])))) (.branch 22 (.branch 19 (.leaf (2, 17, 0, 0, 9223372036854775868, [])) (.leaf (57, 19, 25, 0, 0, []))) (.branch 24 (.leaf (2, 22, 0, 0, 9223372036854775806, [])) (.leaf (83, 24, 0, 0, 0, [])))))) (.branch 36 (.branch 31 (.branch 26 (.leaf (9, 25, 0, 3, 0, [])) (.branch 29 (.leaf (49, 26, 32, 0, 0, [])) (.leaf (2, 29, 0, 0, 9223372036854775805, [])))) (.branch 32 (.leaf (83, 31, 0, 0, 0, [])) (.branch 33 (.leaf (13, 32, 0, 0, 0, [])) (.leaf (60, 33, 11, 6, 39, [534]))))) (.branch 39 (.branch 37 (.leaf (9, 36, 0, 1, 0, [])) (.branch 38 (.leaf (67, 37, 0, 0, 0, [])) (.leaf (9, 38, 0, 2, 0, [])))) (.branch 43 (.branch 40 (.leaf (9, 39, 0, 3, 0, [])) (.leaf (78, 40, 166, 0, 391, [1307, 1308, 1309]))) (.branch 44 (.leaf (1, 43, 0, 0, 9223372036854775808, [])) (.leaf (83, 44, 0, 0, 0, []))))))
noncomputable def abM165 : abM := ((⟨"TallBins", "row", "(III)I"⟩, prog_1_method_43_code, 4, some .int), 3, 0, 0, 11, abK165)
set_option maxRecDepth 20000 in
noncomputable def abK166 : Lean.RArray abEy := .branch 13 (.branch 6 (.branch 2 (.branch 1 (.leaf (13, 0, 0, 0, 0, [])) (.leaf (9, 1, 0, 1, 0, []))) (.branch 5 (.leaf (61, 2, 9, 0, 19, [441])) (.leaf (13, 5, 0, 0, 0, [])))) (.branch 10 (.branch 7 (.leaf (9, 6, 0, 2, 0, [])) (.leaf (61, 7, 9, 1, 9, [443]))) (.branch 11 (.leaf (1, 10, 0, 0, 9223372036854775808, [])) (.branch 12 (.leaf (15, 11, 0, 3, 0, [])) (.leaf (9, 12, 0, 3, 0, [])))))) (.branch 23 (.branch 18 (.branch 15 (.leaf (2, 13, 0, 0, 9223372036854775868, [])) (.leaf (55, 15, 31, 0, 0, []))) (.branch 19 (.leaf (13, 18, 0, 0, 0, [])) (.branch 22 (.leaf (60, 19, 9, 2, 15, [444])) (.leaf (9, 22, 0, 3, 0, []))))) (.branch 25 (.branch 24 (.leaf (6, 23, 0, 0, 9223372036854775808, [])) (.leaf (71, 24, 0, 0, 0, []))) (.branch 28 (.leaf (20, 25, 0, 3, 9223372036854775809, [])) (.branch 31 (.leaf (58, 28, 12, 0, 0, [])) (.leaf (82, 31, 0, 0, 0, []))))))
noncomputable def abM166 : abM := ((⟨"TallBins$Row", "begin", "(II)V"⟩, prog_11_method_4_code, 4, none), 2, 0, 0, 9, abK166)
set_option maxRecDepth 20000 in
noncomputable def abK167 : Lean.RArray abEy := .branch 28 (.branch 14 (.branch 7 (.branch 1 (.leaf (9, 0, 0, 1, 0, [])) (.branch 4 (.leaf (79, 1, 58, 0, 168, [824, 825])) (.leaf (47, 4, 10, 0, 0, [])))) (.branch 10 (.branch 9 (.leaf (2, 7, 0, 0, 9223372036854775806, [])) (.leaf (83, 9, 0, 0, 0, []))) (.branch 11 (.leaf (13, 10, 0, 0, 0, [])) (.leaf (60, 11, 11, 6, 39, [534]))))) (.branch 18 (.branch 15 (.leaf (9, 14, 0, 1, 0, [])) (.branch 16 (.leaf (67, 15, 0, 0, 0, [])) (.leaf (18, 16, 0, 5, 0, [])))) (.branch 23 (.branch 20 (.leaf (12, 18, 0, 5, 0, [])) (.leaf (78, 20, 59, 0, 171, [827, 828, 829]))) (.branch 26 (.leaf (47, 23, 29, 0, 0, [])) (.leaf (2, 26, 0, 0, 9223372036854775802, [])))))) (.branch 42 (.branch 33 (.branch 29 (.leaf (83, 28, 0, 0, 0, [])) (.branch 30 (.leaf (9, 29, 0, 2, 0, [])) (.leaf (48, 30, 42, 0, 0, [])))) (.branch 36 (.branch 34 (.leaf (9, 33, 0, 2, 0, [])) (.leaf (12, 34, 0, 5, 0, []))) (.branch 39 (.leaf (78, 36, 60, 0, 174, [831, 832, 833])) (.leaf (54, 39, 45, 0, 0, []))))) (.branch 48 (.branch 45 (.branch 44 (.leaf (2, 42, 0, 0, 9223372036854775801, [])) (.leaf (83, 44, 0, 0, 0, []))) (.branch 47 (.leaf (12, 45, 0, 5, 0, [])) (.leaf (9, 47, 0, 2, 0, [])))) (.branch 52 (.branch 49 (.leaf (11, 48, 0, 3, 0, [])) (.leaf (78, 49, 168, 0, 395, [1315, 1316, 1317]))) (.branch 53 (.leaf (1, 52, 0, 0, 9223372036854775808, [])) (.leaf (83, 53, 0, 0, 0, []))))))
noncomputable def abM167 : abM := ((⟨"TallBins", "write", "(IIJ)I"⟩, prog_1_method_44_code, 6, some .int), 3, 0, 0, 11, abK167)
set_option maxRecDepth 20000 in
noncomputable def abK168 : Lean.RArray abEy := .branch 53 (.branch 39 (.branch 33 (.branch 4 (.branch 1 (.leaf (13, 0, 0, 0, 0, [])) (.leaf (60, 1, 9, 0, 19, [441]))) (.branch 32 (.leaf (59, 4, 70, 0, 9223372036854775808, [32, 45, 58])) (.leaf (13, 32, 0, 0, 0, [])))) (.branch 37 (.branch 36 (.leaf (60, 33, 9, 2, 15, [444])) (.leaf (9, 36, 0, 1, 0, []))) (.branch 38 (.leaf (11, 37, 0, 2, 0, [])) (.leaf (41, 38, 0, 0, 0, []))))) (.branch 45 (.branch 41 (.branch 40 (.leaf (42, 39, 0, 0, 0, [])) (.leaf (40, 40, 0, 0, 0, []))) (.branch 42 (.leaf (71, 41, 0, 0, 0, [])) (.leaf (58, 42, 77, 0, 0, [])))) (.branch 49 (.branch 46 (.leaf (13, 45, 0, 0, 0, [])) (.leaf (60, 46, 9, 2, 15, [444]))) (.branch 50 (.leaf (9, 49, 0, 1, 0, [])) (.branch 51 (.leaf (11, 50, 0, 2, 0, [])) (.leaf (41, 51, 0, 0, 0, []))))))) (.branch 65 (.branch 59 (.branch 55 (.branch 54 (.leaf (40, 53, 0, 0, 0, [])) (.leaf (71, 54, 0, 0, 0, []))) (.branch 58 (.leaf (58, 55, 77, 0, 0, [])) (.leaf (13, 58, 0, 0, 0, [])))) (.branch 63 (.branch 62 (.leaf (60, 59, 9, 2, 15, [444])) (.leaf (9, 62, 0, 1, 0, []))) (.branch 64 (.leaf (11, 63, 0, 2, 0, [])) (.leaf (41, 64, 0, 0, 0, []))))) (.branch 71 (.branch 67 (.branch 66 (.leaf (40, 65, 0, 0, 0, [])) (.leaf (71, 66, 0, 0, 0, []))) (.branch 70 (.leaf (58, 67, 77, 0, 0, [])) (.leaf (13, 70, 0, 0, 0, [])))) (.branch 75 (.branch 74 (.leaf (60, 71, 9, 2, 15, [444])) (.leaf (9, 74, 0, 1, 0, []))) (.branch 76 (.leaf (11, 75, 0, 2, 0, [])) (.branch 77 (.leaf (71, 76, 0, 0, 0, [])) (.leaf (82, 77, 0, 0, 0, [])))))))
noncomputable def abM168 : abM := ((⟨"TallBins$Row", "put", "(IJ)V"⟩, prog_11_method_6_code, 4, none), 2, 0, 0, 9, abK168)
set_option maxRecDepth 20000 in
noncomputable def abK169 : Lean.RArray abEy := .branch 54 (.branch 25 (.branch 14 (.branch 7 (.branch 1 (.leaf (9, 0, 0, 1, 0, [])) (.branch 4 (.leaf (79, 1, 58, 0, 168, [824, 825])) (.leaf (46, 4, 14, 0, 0, [])))) (.branch 8 (.leaf (9, 7, 0, 3, 0, [])) (.branch 11 (.leaf (79, 8, 58, 0, 168, [824, 825])) (.leaf (47, 11, 17, 0, 0, []))))) (.branch 18 (.branch 16 (.leaf (2, 14, 0, 0, 9223372036854775806, [])) (.branch 17 (.leaf (83, 16, 0, 0, 0, [])) (.leaf (13, 17, 0, 0, 0, [])))) (.branch 22 (.branch 21 (.leaf (60, 18, 11, 6, 39, [534])) (.leaf (9, 21, 0, 1, 0, []))) (.branch 23 (.leaf (67, 22, 0, 0, 0, [])) (.leaf (18, 23, 0, 6, 0, [])))))) (.branch 38 (.branch 30 (.branch 26 (.leaf (13, 25, 0, 0, 0, [])) (.branch 29 (.leaf (60, 26, 11, 6, 39, [534])) (.leaf (9, 29, 0, 3, 0, [])))) (.branch 33 (.branch 31 (.leaf (67, 30, 0, 0, 0, [])) (.leaf (18, 31, 0, 7, 0, []))) (.branch 35 (.leaf (12, 33, 0, 6, 0, [])) (.leaf (78, 35, 59, 0, 171, [827, 828, 829]))))) (.branch 46 (.branch 41 (.leaf (46, 38, 49, 0, 0, [])) (.branch 43 (.leaf (12, 41, 0, 7, 0, [])) (.leaf (78, 43, 59, 0, 171, [827, 828, 829])))) (.branch 51 (.branch 49 (.leaf (47, 46, 52, 0, 0, [])) (.leaf (2, 49, 0, 0, 9223372036854775802, []))) (.branch 52 (.leaf (83, 51, 0, 0, 0, [])) (.leaf (12, 52, 0, 6, 0, []))))))) (.branch 85 (.branch 70 (.branch 62 (.branch 57 (.leaf (60, 54, 9, 0, 399, [442])) (.branch 59 (.leaf (12, 57, 0, 7, 0, [])) (.leaf (60, 59, 9, 0, 399, [442])))) (.branch 67 (.branch 65 (.leaf (52, 62, 68, 0, 0, [])) (.leaf (2, 65, 0, 0, 9223372036854775800, []))) (.branch 68 (.leaf (83, 67, 0, 0, 0, [])) (.leaf (12, 68, 0, 6, 0, []))))) (.branch 76 (.branch 71 (.leaf (9, 70, 0, 2, 0, [])) (.branch 73 (.leaf (8, 71, 0, 5, 0, [])) (.leaf (78, 73, 170, 0, 402, [1323, 1324, 1325])))) (.branch 81 (.branch 79 (.leaf (46, 76, 91, 0, 0, [])) (.leaf (12, 79, 0, 7, 0, []))) (.branch 83 (.leaf (8, 81, 0, 4, 0, [])) (.leaf (8, 83, 0, 5, 0, [])))))) (.branch 100 (.branch 93 (.branch 88 (.leaf (78, 85, 170, 0, 402, [1323, 1324, 1325])) (.branch 91 (.leaf (47, 88, 94, 0, 0, [])) (.leaf (2, 91, 0, 0, 9223372036854775801, [])))) (.branch 96 (.branch 94 (.leaf (83, 93, 0, 0, 0, [])) (.leaf (12, 94, 0, 6, 0, []))) (.branch 99 (.leaf (60, 96, 9, 2, 405, [445])) (.leaf (9, 99, 0, 2, 0, []))))) (.branch 107 (.branch 102 (.leaf (12, 100, 0, 7, 0, [])) (.branch 105 (.leaf (60, 102, 9, 2, 405, [445])) (.leaf (8, 105, 0, 4, 0, [])))) (.branch 112 (.branch 109 (.leaf (8, 107, 0, 5, 0, [])) (.leaf (77, 109, 0, 0, 409, [1327, 758, 757, 102]))) (.branch 113 (.leaf (1, 112, 0, 0, 9223372036854775808, [])) (.leaf (83, 113, 0, 0, 0, [])))))))
noncomputable def abM169 : abM := ((⟨"TallBins", "paste", "(IIIII)I"⟩, prog_1_method_45_code, 8, some .int), 5, 0, 0, 11, abK169)
set_option maxRecDepth 20000 in
noncomputable def abK170 : Lean.RArray abEy := .branch 17 (.branch 8 (.branch 4 (.branch 1 (.leaf (9, 0, 0, 1, 0, [])) (.leaf (48, 1, 30, 0, 0, []))) (.branch 5 (.leaf (9, 4, 0, 2, 0, [])) (.leaf (48, 5, 30, 0, 0, [])))) (.branch 10 (.branch 9 (.leaf (9, 8, 0, 1, 0, [])) (.leaf (13, 9, 0, 0, 0, []))) (.branch 13 (.leaf (60, 10, 9, 1, 9, [443])) (.branch 16 (.leaf (56, 13, 30, 0, 0, [])) (.leaf (9, 16, 0, 2, 0, [])))))) (.branch 23 (.branch 21 (.branch 18 (.leaf (13, 17, 0, 0, 0, [])) (.leaf (60, 18, 9, 1, 9, [443]))) (.branch 22 (.leaf (9, 21, 0, 1, 0, [])) (.leaf (22, 22, 0, 0, 0, [])))) (.branch 27 (.branch 26 (.leaf (56, 23, 30, 0, 0, [])) (.leaf (1, 26, 0, 0, 9223372036854775809, []))) (.branch 30 (.leaf (58, 27, 31, 0, 0, [])) (.branch 31 (.leaf (1, 30, 0, 0, 9223372036854775808, [])) (.leaf (83, 31, 1, 0, 0, []))))))
noncomputable def abM170 : abM := ((⟨"TallBins$Row", "hasSpan", "(II)Z"⟩, prog_11_method_7_code, 3, some .boolean), 2, 0, 0, 9, abK170)
set_option maxRecDepth 20000 in
noncomputable def abK171 : Lean.RArray abEy := .branch 173 (.branch 87 (.branch 45 (.branch 23 (.branch 10 (.branch 4 (.branch 1 (.leaf (13, 0, 0, 0, 0, [])) (.leaf (76, 1, 0, 0, 7, [1333, 110, 111]))) (.branch 5 (.leaf (13, 4, 0, 0, 0, [])) (.branch 8 (.leaf (3, 5, 0, 0, 9223372036854777553, [])) (.leaf (74, 8, 100, 0, 0, [154]))))) (.branch 17 (.branch 13 (.leaf (63, 10, 12, 1, 13, [1344])) (.branch 14 (.leaf (13, 13, 0, 0, 0, [])) (.leaf (3, 14, 0, 0, 9223372036854781043, [])))) (.branch 19 (.leaf (74, 17, 100, 0, 0, [154])) (.branch 22 (.leaf (63, 19, 12, 2, 17, [1345])) (.leaf (13, 22, 0, 0, 0, [])))))) (.branch 33 (.branch 26 (.branch 24 (.leaf (1, 23, 0, 0, 9223372036854775811, [])) (.leaf (74, 24, 103, 0, 0, [155]))) (.branch 29 (.leaf (63, 26, 12, 3, 20, [1346])) (.branch 30 (.leaf (13, 29, 0, 0, 0, [])) (.leaf (3, 30, 0, 0, 9223372036854776408, []))))) (.branch 39 (.branch 35 (.leaf (74, 33, 102, 0, 0, [153])) (.branch 38 (.leaf (63, 35, 12, 4, 24, [1347])) (.leaf (13, 38, 0, 0, 0, [])))) (.branch 40 (.leaf (1, 39, 0, 0, 9223372036854775813, [])) (.branch 42 (.leaf (74, 40, 100, 0, 0, [154])) (.leaf (63, 42, 12, 6, 28, [1349]))))))) (.branch 66 (.branch 54 (.branch 47 (.branch 46 (.leaf (13, 45, 0, 0, 0, [])) (.leaf (1, 46, 0, 0, 9223372036854775807, []))) (.branch 50 (.leaf (61, 47, 12, 13, 31, [1356])) (.branch 51 (.leaf (13, 50, 0, 0, 0, [])) (.leaf (3, 51, 0, 0, 9223372036854777553, []))))) (.branch 60 (.branch 56 (.leaf (74, 54, 100, 0, 0, [154])) (.branch 59 (.leaf (63, 56, 12, 14, 34, [1357])) (.leaf (13, 59, 0, 0, 0, [])))) (.branch 61 (.leaf (1, 60, 0, 0, 9223372036854775812, [])) (.branch 63 (.leaf (74, 61, 103, 0, 0, [155])) (.leaf (63, 63, 12, 15, 37, [1358])))))) (.branch 75 (.branch 69 (.branch 67 (.leaf (13, 66, 0, 0, 0, [])) (.leaf (2, 67, 0, 0, 9223372036854775820, []))) (.branch 71 (.leaf (74, 69, 100, 0, 0, [154])) (.branch 74 (.leaf (63, 71, 12, 16, 40, [1359])) (.leaf (13, 74, 0, 0, 0, []))))) (.branch 82 (.branch 77 (.leaf (2, 75, 0, 0, 9223372036854775816, [])) (.branch 79 (.leaf (74, 77, 103, 0, 0, [155])) (.leaf (63, 79, 12, 17, 43, [1360])))) (.branch 83 (.leaf (13, 82, 0, 0, 0, [])) (.branch 85 (.leaf (2, 83, 0, 0, 9223372036854775820, [])) (.leaf (74, 85, 100, 0, 0, [154])))))))) (.branch 130 (.branch 108 (.branch 98 (.branch 91 (.branch 90 (.leaf (63, 87, 12, 18, 46, [1361])) (.leaf (13, 90, 0, 0, 0, []))) (.branch 93 (.leaf (2, 91, 0, 0, 9223372036854775820, [])) (.branch 95 (.leaf (74, 93, 100, 0, 0, [154])) (.leaf (63, 95, 12, 19, 49, [1362]))))) (.branch 103 (.branch 99 (.leaf (13, 98, 0, 0, 0, [])) (.branch 100 (.leaf (1, 99, 0, 0, 9223372036854775807, [])) (.leaf (61, 100, 12, 20, 52, [1363])))) (.branch 104 (.leaf (13, 103, 0, 0, 0, [])) (.branch 106 (.leaf (2, 104, 0, 0, 9223372036854775820, [])) (.leaf (74, 106, 100, 0, 0, [154])))))) (.branch 119 (.branch 112 (.branch 111 (.leaf (63, 108, 12, 21, 55, [1364])) (.leaf (13, 111, 0, 0, 0, []))) (.branch 114 (.leaf (2, 112, 0, 0, 9223372036854775820, [])) (.branch 116 (.leaf (74, 114, 100, 0, 0, [154])) (.leaf (63, 116, 12, 22, 58, [1365]))))) (.branch 124 (.branch 120 (.leaf (13, 119, 0, 0, 0, [])) (.branch 122 (.leaf (2, 120, 0, 0, 9223372036854775820, [])) (.leaf (74, 122, 101, 0, 0, [453])))) (.branch 127 (.leaf (63, 124, 12, 23, 61, [1366])) (.branch 128 (.leaf (13, 127, 0, 0, 0, [])) (.leaf (2, 128, 0, 0, 9223372036854775814, []))))))) (.branch 152 (.branch 140 (.branch 135 (.branch 132 (.leaf (74, 130, 100, 0, 0, [154])) (.leaf (63, 132, 12, 24, 65, [1367]))) (.branch 136 (.leaf (13, 135, 0, 0, 0, [])) (.branch 138 (.leaf (2, 136, 0, 0, 9223372036854775814, [])) (.leaf (74, 138, 100, 0, 0, [154]))))) (.branch 146 (.branch 143 (.leaf (63, 140, 12, 25, 68, [1368])) (.branch 144 (.leaf (13, 143, 0, 0, 0, [])) (.leaf (2, 144, 0, 0, 9223372036854775814, [])))) (.branch 148 (.leaf (74, 146, 100, 0, 0, [154])) (.branch 151 (.leaf (63, 148, 12, 26, 71, [1369])) (.leaf (13, 151, 0, 0, 0, [])))))) (.branch 161 (.branch 156 (.branch 154 (.leaf (2, 152, 0, 0, 9223372036854775814, [])) (.leaf (74, 154, 100, 0, 0, [154]))) (.branch 159 (.leaf (63, 156, 12, 27, 74, [1370])) (.branch 160 (.leaf (13, 159, 0, 0, 0, [])) (.leaf (1, 160, 0, 0, 9223372036854775807, []))))) (.branch 167 (.branch 164 (.leaf (61, 161, 12, 29, 77, [1372])) (.branch 165 (.leaf (13, 164, 0, 0, 0, [])) (.leaf (2, 165, 0, 0, 9223372036854775814, [])))) (.branch 169 (.leaf (74, 167, 100, 0, 0, [154])) (.branch 172 (.leaf (63, 169, 12, 30, 80, [1373])) (.leaf (13, 172, 0, 0, 0, []))))))))) (.branch 244 (.branch 208 (.branch 196 (.branch 183 (.branch 177 (.branch 175 (.leaf (2, 173, 0, 0, 9223372036854775814, [])) (.leaf (74, 175, 100, 0, 0, [154]))) (.branch 180 (.leaf (63, 177, 12, 31, 83, [1374])) (.branch 181 (.leaf (13, 180, 0, 0, 0, [])) (.leaf (2, 181, 0, 0, 9223372036854775814, []))))) (.branch 189 (.branch 185 (.leaf (74, 183, 100, 0, 0, [154])) (.branch 188 (.leaf (63, 185, 12, 35, 86, [1378])) (.leaf (13, 188, 0, 0, 0, [])))) (.branch 191 (.leaf (2, 189, 0, 0, 9223372036854775820, [])) (.branch 193 (.leaf (74, 191, 100, 0, 0, [154])) (.leaf (63, 193, 12, 36, 89, [1379])))))) (.branch 202 (.branch 198 (.branch 197 (.leaf (13, 196, 0, 0, 0, [])) (.leaf (1, 197, 0, 0, 9223372036854775812, []))) (.branch 200 (.leaf (74, 198, 100, 0, 0, [154])) (.branch 201 (.leaf (44, 200, 0, 0, 0, [])) (.leaf (1, 201, 0, 0, 9223372036854775808, []))))) (.branch 205 (.branch 203 (.leaf (1, 202, 0, 0, 9223372036854775807, [])) (.branch 204 (.leaf (69, 203, 0, 0, 0, [])) (.leaf (44, 204, 0, 0, 0, [])))) (.branch 206 (.leaf (1, 205, 0, 0, 9223372036854775809, [])) (.branch 207 (.leaf (1, 206, 0, 0, 9223372036854775807, [])) (.leaf (69, 207, 0, 0, 0, []))))))) (.branch 221 (.branch 213 (.branch 210 (.branch 209 (.leaf (44, 208, 0, 0, 0, [])) (.leaf (1, 209, 0, 0, 9223372036854775810, []))) (.branch 211 (.leaf (1, 210, 0, 0, 9223372036854775807, [])) (.branch 212 (.leaf (69, 211, 0, 0, 0, [])) (.leaf (44, 212, 0, 0, 0, []))))) (.branch 216 (.branch 214 (.leaf (1, 213, 0, 0, 9223372036854775811, [])) (.branch 215 (.leaf (1, 214, 0, 0, 9223372036854775807, [])) (.leaf (69, 215, 0, 0, 0, [])))) (.branch 219 (.leaf (63, 216, 12, 37, 92, [1380])) (.branch 220 (.leaf (13, 219, 0, 0, 0, [])) (.leaf (1, 220, 0, 0, 9223372036854775812, [])))))) (.branch 232 (.branch 226 (.branch 223 (.leaf (74, 221, 100, 0, 0, [154])) (.leaf (63, 223, 12, 38, 95, [1381]))) (.branch 227 (.leaf (13, 226, 0, 0, 0, [])) (.branch 230 (.leaf (3, 227, 0, 0, 9223372036854776048, [])) (.leaf (74, 230, 101, 0, 0, [453]))))) (.branch 238 (.branch 235 (.leaf (63, 232, 12, 39, 98, [1382])) (.branch 236 (.leaf (13, 235, 0, 0, 0, [])) (.leaf (2, 236, 0, 0, 9223372036854775868, [])))) (.branch 240 (.leaf (74, 238, 101, 0, 0, [453])) (.branch 243 (.leaf (63, 240, 12, 40, 101, [1383])) (.leaf (13, 243, 0, 0, 0, [])))))))) (.branch 278 (.branch 262 (.branch 252 (.branch 248 (.branch 247 (.leaf (60, 244, 12, 1, 13, [1344])) (.leaf (1, 247, 0, 0, 9223372036854775812, []))) (.branch 250 (.leaf (2, 248, 0, 0, 9223372036854775818, [])) (.branch 251 (.leaf (69, 250, 0, 0, 0, [])) (.leaf (1, 251, 0, 0, 9223372036854775808, []))))) (.branch 255 (.branch 253 (.leaf (15, 252, 0, 1, 0, [])) (.branch 254 (.leaf (9, 253, 0, 1, 0, [])) (.leaf (1, 254, 0, 0, 9223372036854775812, [])))) (.branch 258 (.leaf (55, 255, 274, 0, 0, [])) (.branch 259 (.leaf (13, 258, 0, 0, 0, [])) (.leaf (60, 259, 12, 1, 13, [1344])))))) (.branch 268 (.branch 265 (.branch 264 (.leaf (2, 262, 0, 0, 9223372036854775816, [])) (.leaf (9, 264, 0, 1, 0, []))) (.branch 266 (.leaf (21, 265, 0, 0, 0, [])) (.branch 267 (.leaf (1, 266, 0, 0, 9223372036854775807, [])) (.leaf (69, 267, 0, 0, 0, []))))) (.branch 275 (.branch 271 (.leaf (20, 268, 0, 1, 9223372036854775809, [])) (.branch 274 (.leaf (58, 271, 253, 0, 0, [])) (.leaf (1, 274, 0, 0, 9223372036854775808, [])))) (.branch 276 (.leaf (15, 275, 0, 1, 0, [])) (.branch 277 (.leaf (9, 276, 0, 1, 0, [])) (.leaf (1, 277, 0, 0, 9223372036854775812, []))))))) (.branch 300 (.branch 288 (.branch 282 (.branch 281 (.leaf (55, 278, 300, 0, 0, [])) (.leaf (13, 281, 0, 0, 0, []))) (.branch 285 (.leaf (60, 282, 12, 1, 13, [1344])) (.branch 287 (.leaf (2, 285, 0, 0, 9223372036854775836, [])) (.leaf (1, 287, 0, 0, 9223372036854775811, []))))) (.branch 291 (.branch 289 (.leaf (9, 288, 0, 1, 0, [])) (.branch 290 (.leaf (23, 289, 0, 0, 0, [])) (.leaf (21, 290, 0, 0, 0, [])))) (.branch 294 (.leaf (79, 291, 172, 0, 104, [1334, 1335])) (.branch 297 (.leaf (20, 294, 0, 1, 9223372036854775809, [])) (.leaf (58, 297, 276, 0, 0, [])))))) (.branch 309 (.branch 303 (.branch 301 (.leaf (1, 300, 0, 0, 9223372036854775808, [])) (.branch 302 (.leaf (15, 301, 0, 1, 0, [])) (.leaf (9, 302, 0, 1, 0, [])))) (.branch 305 (.leaf (2, 303, 0, 0, 9223372036854775814, [])) (.branch 308 (.leaf (55, 305, 322, 0, 0, [])) (.leaf (13, 308, 0, 0, 0, []))))) (.branch 316 (.branch 310 (.leaf (9, 309, 0, 1, 0, [])) (.branch 313 (.leaf (79, 310, 173, 0, 108, [1337, 1338])) (.leaf (78, 313, 174, 0, 112, [1340, 1342, 33])))) (.branch 319 (.leaf (20, 316, 0, 1, 9223372036854775809, [])) (.branch 322 (.leaf (58, 319, 302, 0, 0, [])) (.leaf (82, 322, 0, 0, 0, [])))))))))
noncomputable def abM171 : abM := ((⟨"TallBinsModel", "<init>", "()V"⟩, prog_14_method_3_code, 2, none), 0, 26, 9779, 12, abK171)
set_option maxRecDepth 20000 in
noncomputable def abK172 : Lean.RArray abEy := .branch 9 (.branch 5 (.branch 2 (.branch 1 (.leaf (13, 0, 0, 0, 0, [])) (.leaf (9, 1, 0, 1, 0, []))) (.branch 4 (.leaf (2, 2, 0, 0, 9223372036854775818, [])) (.leaf (69, 4, 0, 0, 0, [])))) (.branch 7 (.branch 6 (.leaf (13, 5, 0, 0, 0, [])) (.leaf (9, 6, 0, 1, 0, []))) (.branch 8 (.leaf (1, 7, 0, 0, 9223372036854775809, [])) (.leaf (21, 8, 0, 0, 0, []))))) (.branch 14 (.branch 12 (.branch 11 (.leaf (2, 9, 0, 0, 9223372036854775818, [])) (.leaf (69, 11, 0, 0, 0, []))) (.branch 13 (.leaf (13, 12, 0, 0, 0, [])) (.leaf (9, 13, 0, 1, 0, [])))) (.branch 16 (.branch 15 (.leaf (1, 14, 0, 0, 9223372036854775810, [])) (.leaf (21, 15, 0, 0, 0, []))) (.branch 18 (.leaf (2, 16, 0, 0, 9223372036854775908, [])) (.branch 19 (.leaf (69, 18, 0, 0, 0, [])) (.leaf (82, 19, 0, 0, 0, []))))))
noncomputable def abM172 : abM := ((⟨"TallBinsModel", "grainAtFirst", "([II)V"⟩, prog_14_method_4_code, 2, none), 2, 0, 0, 12, abK172)
set_option maxRecDepth 20000 in
noncomputable def abK173 : Lean.RArray abEy := .branch 7 (.branch 3 (.leaf (3, 0, 0, 0, 9223372036854776328, [])) (.branch 6 (.leaf (3, 3, 0, 0, 9223372036854775972, [])) (.leaf (9, 6, 0, 0, 0, [])))) (.branch 8 (.leaf (23, 7, 0, 0, 0, [])) (.branch 9 (.leaf (21, 8, 0, 0, 0, [])) (.leaf (83, 9, 0, 0, 0, []))))
noncomputable def abM173 : abM := ((⟨"TallBinsModel", "binAt", "(I)I"⟩, prog_14_method_5_code, 1, some .int), 1, 0, 0, 12, abK173)
set_option maxRecDepth 20000 in
noncomputable def abK174 : Lean.RArray abEy := .branch 31 (.branch 15 (.branch 6 (.branch 2 (.branch 1 (.leaf (1, 0, 0, 0, 9223372036854775812, [])) (.leaf (15, 1, 0, 2, 0, []))) (.branch 3 (.leaf (9, 2, 0, 2, 0, [])) (.leaf (3, 3, 0, 0, 9223372036854775972, [])))) (.branch 10 (.branch 9 (.leaf (55, 6, 24, 0, 0, [])) (.leaf (13, 9, 0, 0, 0, []))) (.branch 13 (.leaf (60, 10, 12, 1, 13, [1344])) (.branch 14 (.leaf (9, 13, 0, 1, 0, [])) (.leaf (9, 14, 0, 2, 0, [])))))) (.branch 24 (.branch 17 (.branch 16 (.leaf (21, 15, 0, 0, 0, [])) (.leaf (1, 16, 0, 0, 9223372036854775808, []))) (.branch 18 (.leaf (69, 17, 0, 0, 0, [])) (.branch 21 (.leaf (20, 18, 0, 2, 9223372036854775809, [])) (.leaf (58, 21, 2, 0, 0, []))))) (.branch 28 (.branch 25 (.leaf (13, 24, 0, 0, 0, [])) (.leaf (60, 25, 12, 1, 13, [1344]))) (.branch 29 (.leaf (9, 28, 0, 1, 0, [])) (.branch 30 (.leaf (1, 29, 0, 0, 9223372036854775812, [])) (.leaf (21, 30, 0, 0, 0, []))))))) (.branch 45 (.branch 35 (.branch 33 (.branch 32 (.leaf (1, 31, 0, 0, 9223372036854775807, [])) (.leaf (69, 32, 0, 0, 0, []))) (.branch 34 (.leaf (1, 33, 0, 0, 9223372036854775808, [])) (.leaf (15, 34, 0, 2, 0, [])))) (.branch 38 (.branch 36 (.leaf (9, 35, 0, 2, 0, [])) (.leaf (2, 36, 0, 0, 9223372036854775820, []))) (.branch 41 (.leaf (55, 38, 60, 0, 0, [])) (.branch 42 (.leaf (13, 41, 0, 0, 0, [])) (.leaf (60, 42, 12, 1, 13, [1344])))))) (.branch 51 (.branch 48 (.branch 46 (.leaf (9, 45, 0, 1, 0, [])) (.leaf (2, 46, 0, 0, 9223372036854775816, []))) (.branch 49 (.leaf (21, 48, 0, 0, 0, [])) (.branch 50 (.leaf (9, 49, 0, 2, 0, [])) (.leaf (21, 50, 0, 0, 0, []))))) (.branch 54 (.branch 53 (.leaf (2, 51, 0, 0, 9223372036854775907, [])) (.leaf (69, 53, 0, 0, 0, []))) (.branch 57 (.leaf (20, 54, 0, 2, 9223372036854775809, [])) (.branch 60 (.leaf (58, 57, 35, 0, 0, [])) (.leaf (82, 60, 0, 0, 0, [])))))))
noncomputable def abM174 : abM := ((⟨"TallBinsModel", "emptied", "(I)V"⟩, prog_14_method_6_code, 3, none), 1, 0, 0, 12, abK174)
set_option maxRecDepth 20000 in
noncomputable def abK175 : Lean.RArray abEy := .branch 32 (.branch 15 (.branch 6 (.branch 2 (.branch 1 (.leaf (9, 0, 0, 1, 0, [])) (.leaf (40, 1, 0, 0, 0, []))) (.branch 3 (.leaf (6, 2, 0, 0, 9223372036854775808, [])) (.leaf (7, 3, 135, 0, 9223372036854775810, [1471])))) (.branch 12 (.branch 9 (.leaf (79, 6, 176, 0, 118, [1472, 1473])) (.leaf (47, 9, 15, 0, 0, []))) (.branch 14 (.leaf (2, 12, 0, 0, 9223372036854775806, [])) (.leaf (83, 14, 0, 0, 0, []))))) (.branch 21 (.branch 17 (.branch 16 (.leaf (1, 15, 0, 0, 9223372036854775808, [])) (.leaf (15, 16, 0, 2, 0, []))) (.branch 18 (.leaf (9, 17, 0, 2, 0, [])) (.leaf (3, 18, 0, 0, 9223372036854777553, [])))) (.branch 25 (.branch 24 (.leaf (55, 21, 48, 0, 0, [])) (.leaf (13, 24, 0, 0, 0, []))) (.branch 28 (.leaf (60, 25, 12, 2, 17, [1345])) (.branch 31 (.leaf (3, 28, 0, 0, 9223372036854777553, [])) (.leaf (9, 31, 0, 1, 0, []))))))) (.branch 42 (.branch 36 (.branch 34 (.branch 33 (.leaf (23, 32, 0, 0, 0, [])) (.leaf (9, 33, 0, 2, 0, []))) (.branch 35 (.leaf (21, 34, 0, 0, 0, [])) (.leaf (13, 35, 0, 0, 0, [])))) (.branch 40 (.branch 39 (.leaf (60, 36, 12, 1, 13, [1344])) (.leaf (9, 39, 0, 2, 0, []))) (.branch 41 (.leaf (64, 40, 0, 0, 0, [])) (.leaf (69, 41, 0, 0, 0, []))))) (.branch 52 (.branch 48 (.branch 45 (.leaf (20, 42, 0, 2, 9223372036854775809, [])) (.leaf (58, 45, 17, 0, 0, []))) (.branch 49 (.leaf (13, 48, 0, 0, 0, [])) (.leaf (60, 49, 12, 3, 20, [1346])))) (.branch 54 (.branch 53 (.leaf (9, 52, 0, 1, 0, [])) (.leaf (1, 53, 0, 0, 9223372036854775809, []))) (.branch 55 (.leaf (70, 54, 0, 0, 0, [])) (.branch 56 (.leaf (1, 55, 0, 0, 9223372036854775808, [])) (.leaf (83, 56, 0, 0, 0, [])))))))
noncomputable def abM175 : abM := ((⟨"TallBinsModel", "keep", "(I)I"⟩, prog_14_method_14_code, 3, some .int), 1, 0, 0, 12, abK175)
set_option maxRecDepth 20000 in
noncomputable def abK176 : Lean.RArray abEy := .branch 9 (.branch 3 (.branch 1 (.leaf (11, 0, 0, 0, 0, [])) (.branch 2 (.leaf (11, 1, 0, 2, 0, [])) (.leaf (43, 2, 0, 0, 0, [])))) (.branch 6 (.leaf (48, 3, 17, 0, 0, [])) (.branch 7 (.leaf (11, 6, 0, 0, 0, [])) (.leaf (10, 7, 0, 4, 0, []))))) (.branch 14 (.branch 10 (.leaf (43, 9, 0, 0, 0, [])) (.branch 13 (.leaf (50, 10, 17, 0, 0, [])) (.leaf (1, 13, 0, 0, 9223372036854775809, [])))) (.branch 17 (.leaf (58, 14, 18, 0, 0, [])) (.branch 18 (.leaf (1, 17, 0, 0, 9223372036854775808, [])) (.leaf (83, 18, 1, 0, 0, [])))))
noncomputable def abM176 : abM := ((⟨"TallBinsModel", "in", "(JJJ)Z"⟩, prog_14_method_2_code, 6, some .boolean), 3, 0, 0, 12, abK176)
set_option maxRecDepth 20000 in
noncomputable def abK177 : Lean.RArray abEy := .branch 33 (.branch 16 (.branch 6 (.branch 2 (.branch 1 (.leaf (9, 0, 0, 1, 0, [])) (.leaf (40, 1, 0, 0, 0, []))) (.branch 3 (.leaf (6, 2, 0, 0, 9223372036854775808, [])) (.leaf (7, 3, 135, 0, 9223372036854775810, [1471])))) (.branch 12 (.branch 9 (.leaf (79, 6, 176, 0, 118, [1472, 1473])) (.leaf (47, 9, 15, 0, 0, []))) (.branch 14 (.leaf (2, 12, 0, 0, 9223372036854775806, [])) (.branch 15 (.leaf (83, 14, 0, 0, 0, [])) (.leaf (13, 15, 0, 0, 0, [])))))) (.branch 26 (.branch 20 (.branch 19 (.leaf (60, 16, 12, 3, 20, [1346])) (.leaf (9, 19, 0, 1, 0, []))) (.branch 21 (.leaf (65, 20, 0, 0, 0, [])) (.branch 24 (.leaf (47, 21, 27, 0, 0, [])) (.leaf (2, 24, 0, 0, 9223372036854775802, []))))) (.branch 28 (.branch 27 (.leaf (83, 26, 0, 0, 0, [])) (.leaf (1, 27, 0, 0, 9223372036854775808, []))) (.branch 29 (.leaf (15, 28, 0, 2, 0, [])) (.branch 30 (.leaf (9, 29, 0, 2, 0, [])) (.leaf (3, 30, 0, 0, 9223372036854777553, []))))))) (.branch 51 (.branch 42 (.branch 37 (.branch 36 (.leaf (55, 33, 60, 0, 0, [])) (.leaf (13, 36, 0, 0, 0, []))) (.branch 40 (.leaf (60, 37, 12, 1, 13, [1344])) (.branch 41 (.leaf (9, 40, 0, 2, 0, [])) (.leaf (13, 41, 0, 0, 0, []))))) (.branch 48 (.branch 45 (.leaf (60, 42, 12, 2, 17, [1345])) (.leaf (3, 45, 0, 0, 9223372036854777553, []))) (.branch 49 (.leaf (9, 48, 0, 1, 0, [])) (.branch 50 (.leaf (23, 49, 0, 0, 0, [])) (.leaf (9, 50, 0, 2, 0, [])))))) (.branch 60 (.branch 53 (.branch 52 (.leaf (21, 51, 0, 0, 0, [])) (.leaf (64, 52, 0, 0, 0, []))) (.branch 54 (.leaf (69, 53, 0, 0, 0, [])) (.branch 57 (.leaf (20, 54, 0, 2, 9223372036854775809, [])) (.leaf (58, 57, 29, 0, 0, []))))) (.branch 62 (.branch 61 (.leaf (13, 60, 0, 0, 0, [])) (.leaf (1, 61, 0, 0, 9223372036854775808, []))) (.branch 65 (.leaf (62, 62, 12, 32, 137, [1375])) (.branch 66 (.leaf (1, 65, 0, 0, 9223372036854775808, [])) (.leaf (83, 66, 0, 0, 0, [])))))))
noncomputable def abM177 : abM := ((⟨"TallBinsModel", "back", "(I)I"⟩, prog_14_method_15_code, 3, some .int), 1, 0, 0, 12, abK177)
set_option maxRecDepth 20000 in
noncomputable def abK178 : Lean.RArray abEy := .branch 55 (.branch 28 (.branch 15 (.branch 7 (.branch 4 (.branch 1 (.leaf (13, 0, 0, 0, 0, [])) (.leaf (60, 1, 12, 5, 141, [1348]))) (.branch 6 (.leaf (2, 4, 0, 0, 9223372036854775828, [])) (.leaf (21, 6, 0, 0, 0, [])))) (.branch 13 (.branch 10 (.leaf (3, 7, 0, 0, 9223372036854776408, [])) (.leaf (57, 10, 15, 0, 0, []))) (.branch 14 (.leaf (1, 13, 0, 0, 9223372036854775807, [])) (.leaf (83, 14, 0, 0, 0, []))))) (.branch 21 (.branch 19 (.branch 16 (.leaf (13, 15, 0, 0, 0, [])) (.leaf (60, 16, 12, 6, 28, [1349]))) (.branch 20 (.leaf (1, 19, 0, 0, 9223372036854775808, [])) (.leaf (9, 20, 0, 1, 0, [])))) (.branch 23 (.branch 22 (.leaf (69, 21, 0, 0, 0, [])) (.leaf (13, 22, 0, 0, 0, []))) (.branch 26 (.leaf (60, 23, 12, 6, 28, [1349])) (.branch 27 (.leaf (1, 26, 0, 0, 9223372036854775809, [])) (.leaf (9, 27, 0, 2, 0, []))))))) (.branch 41 (.branch 34 (.branch 30 (.branch 29 (.leaf (69, 28, 0, 0, 0, [])) (.leaf (13, 29, 0, 0, 0, []))) (.branch 33 (.leaf (60, 30, 12, 6, 28, [1349])) (.leaf (1, 33, 0, 0, 9223372036854775810, [])))) (.branch 36 (.branch 35 (.leaf (9, 34, 0, 3, 0, [])) (.leaf (69, 35, 0, 0, 0, []))) (.branch 37 (.leaf (13, 36, 0, 0, 0, [])) (.branch 40 (.leaf (60, 37, 12, 6, 28, [1349])) (.leaf (1, 40, 0, 0, 9223372036854775811, [])))))) (.branch 48 (.branch 44 (.branch 43 (.leaf (8, 41, 0, 4, 0, [])) (.leaf (69, 43, 0, 0, 0, []))) (.branch 45 (.leaf (13, 44, 0, 0, 0, [])) (.leaf (60, 45, 12, 6, 28, [1349])))) (.branch 51 (.branch 49 (.leaf (1, 48, 0, 0, 9223372036854775812, [])) (.leaf (8, 49, 0, 5, 0, []))) (.branch 52 (.leaf (69, 51, 0, 0, 0, [])) (.branch 53 (.leaf (1, 52, 0, 0, 9223372036854775808, [])) (.leaf (14, 53, 0, 6, 0, [])))))))) (.branch 88 (.branch 73 (.branch 63 (.branch 59 (.branch 57 (.leaf (8, 55, 0, 6, 0, [])) (.leaf (2, 57, 0, 0, 9223372036854775828, []))) (.branch 62 (.leaf (55, 59, 101, 0, 0, [])) (.leaf (13, 62, 0, 0, 0, [])))) (.branch 67 (.branch 66 (.leaf (60, 63, 12, 4, 24, [1347])) (.leaf (13, 66, 0, 0, 0, []))) (.branch 70 (.leaf (60, 67, 12, 5, 141, [1348])) (.branch 72 (.leaf (8, 70, 0, 6, 0, [])) (.leaf (21, 72, 0, 0, 0, [])))))) (.branch 80 (.branch 77 (.branch 74 (.leaf (13, 73, 0, 0, 0, [])) (.leaf (60, 74, 12, 6, 28, [1349]))) (.branch 79 (.leaf (8, 77, 0, 6, 0, [])) (.leaf (1, 79, 0, 0, 9223372036854775812, [])))) (.branch 82 (.branch 81 (.leaf (24, 80, 0, 0, 0, [])) (.leaf (64, 81, 0, 0, 0, []))) (.branch 84 (.leaf (2, 82, 0, 0, 9223372036854775832, [])) (.branch 86 (.leaf (2, 84, 0, 0, 9223372036854775816, [])) (.leaf (8, 86, 0, 6, 0, []))))))) (.branch 101 (.branch 92 (.branch 90 (.branch 89 (.leaf (1, 88, 0, 0, 9223372036854775812, [])) (.leaf (25, 89, 0, 0, 0, []))) (.branch 91 (.leaf (23, 90, 0, 0, 0, [])) (.leaf (22, 91, 0, 0, 0, [])))) (.branch 94 (.branch 93 (.leaf (30, 92, 0, 0, 0, [])) (.leaf (42, 93, 0, 0, 0, []))) (.branch 95 (.leaf (70, 94, 0, 0, 0, [])) (.branch 98 (.leaf (20, 95, 0, 6, 9223372036854775809, [])) (.leaf (58, 98, 55, 0, 0, [])))))) (.branch 108 (.branch 103 (.branch 102 (.leaf (13, 101, 0, 0, 0, [])) (.leaf (44, 102, 0, 0, 0, []))) (.branch 106 (.leaf (60, 103, 12, 5, 141, [1348])) (.leaf (2, 106, 0, 0, 9223372036854775828, [])))) (.branch 112 (.branch 109 (.leaf (21, 108, 0, 0, 0, [])) (.leaf (61, 109, 12, 5, 141, [1348]))) (.branch 113 (.leaf (13, 112, 0, 0, 0, [])) (.branch 116 (.leaf (60, 113, 12, 5, 141, [1348])) (.leaf (83, 116, 0, 0, 0, []))))))))
noncomputable def abM178 : abM := ((⟨"TallBinsModel", "feed", "(IIIII)I"⟩, prog_14_method_16_code, 7, some .int), 5, 0, 0, 12, abK178)
set_option maxRecDepth 20000 in
noncomputable def abK179 : Lean.RArray abEy := .branch 11 (.branch 3 (.branch 1 (.leaf (9, 0, 0, 1, 0, [])) (.branch 2 (.leaf (40, 1, 0, 0, 0, [])) (.leaf (6, 2, 0, 0, 9223372036854775808, [])))) (.branch 7 (.branch 4 (.leaf (13, 3, 0, 0, 0, [])) (.leaf (60, 4, 12, 5, 141, [1348]))) (.branch 8 (.leaf (40, 7, 0, 0, 0, [])) (.leaf (79, 8, 176, 0, 118, [1472, 1473]))))) (.branch 17 (.branch 15 (.branch 14 (.leaf (47, 11, 16, 0, 0, [])) (.leaf (1, 14, 0, 0, 9223372036854775807, []))) (.branch 16 (.leaf (83, 15, 0, 0, 0, [])) (.leaf (13, 16, 0, 0, 0, [])))) (.branch 21 (.branch 18 (.leaf (9, 17, 0, 1, 0, [])) (.leaf (61, 18, 12, 5, 141, [1348]))) (.branch 22 (.leaf (9, 21, 0, 1, 0, [])) (.leaf (83, 22, 0, 0, 0, [])))))
noncomputable def abM179 : abM := ((⟨"TallBinsModel", "end", "(I)I"⟩, prog_14_method_17_code, 2, some .int), 1, 0, 0, 12, abK179)
set_option maxRecDepth 20000 in
noncomputable def abK180 : Lean.RArray abEy := .branch 145 (.branch 74 (.branch 36 (.branch 17 (.branch 8 (.branch 2 (.branch 1 (.leaf (1, 0, 0, 0, 9223372036854775808, [])) (.leaf (15, 1, 0, 1, 0, []))) (.branch 3 (.leaf (9, 2, 0, 1, 0, [])) (.branch 5 (.leaf (2, 3, 0, 0, 9223372036854775814, [])) (.leaf (55, 5, 34, 0, 0, []))))) (.branch 10 (.branch 9 (.leaf (13, 8, 0, 0, 0, [])) (.leaf (9, 9, 0, 1, 0, []))) (.branch 13 (.leaf (78, 10, 181, 0, 273, [1491, 1493, 34])) (.branch 16 (.leaf (50, 13, 25, 0, 0, [])) (.leaf (13, 16, 0, 0, 0, [])))))) (.branch 27 (.branch 21 (.branch 18 (.leaf (9, 17, 0, 1, 0, [])) (.leaf (78, 18, 183, 0, 276, [1498, 1500, 35]))) (.branch 22 (.leaf (1, 21, 0, 0, 9223372036854775807, [])) (.branch 25 (.leaf (52, 22, 28, 0, 0, [])) (.leaf (2, 25, 0, 0, 9223372036854775803, []))))) (.branch 31 (.branch 28 (.leaf (83, 27, 0, 0, 0, [])) (.leaf (20, 28, 0, 1, 9223372036854775809, []))) (.branch 34 (.leaf (58, 31, 2, 0, 0, [])) (.branch 35 (.leaf (13, 34, 0, 0, 0, [])) (.leaf (13, 35, 0, 0, 0, []))))))) (.branch 54 (.branch 47 (.branch 42 (.branch 39 (.leaf (60, 36, 12, 5, 141, [1348])) (.leaf (61, 39, 12, 7, 144, [1350]))) (.branch 43 (.leaf (13, 42, 0, 0, 0, [])) (.branch 44 (.leaf (1, 43, 0, 0, 9223372036854775808, [])) (.leaf (61, 44, 12, 5, 141, [1348]))))) (.branch 49 (.branch 48 (.leaf (13, 47, 0, 0, 0, [])) (.leaf (1, 48, 0, 0, 9223372036854775808, []))) (.branch 52 (.leaf (61, 49, 12, 8, 147, [1351])) (.branch 53 (.leaf (13, 52, 0, 0, 0, [])) (.leaf (1, 53, 0, 0, 9223372036854775808, [])))))) (.branch 63 (.branch 58 (.branch 57 (.leaf (61, 54, 12, 12, 174, [1355])) (.leaf (13, 57, 0, 0, 0, []))) (.branch 59 (.leaf (1, 58, 0, 0, 9223372036854775807, [])) (.branch 62 (.leaf (61, 59, 12, 13, 31, [1356])) (.leaf (1, 62, 0, 0, 9223372036854775813, []))))) (.branch 67 (.branch 64 (.leaf (15, 63, 0, 1, 0, [])) (.branch 65 (.leaf (9, 64, 0, 1, 0, [])) (.leaf (2, 65, 0, 0, 9223372036854775815, [])))) (.branch 70 (.leaf (56, 67, 83, 0, 0, [])) (.branch 71 (.leaf (13, 70, 0, 0, 0, [])) (.leaf (60, 71, 12, 14, 34, [1357])))))))) (.branch 105 (.branch 90 (.branch 83 (.branch 76 (.branch 75 (.leaf (9, 74, 0, 1, 0, [])) (.leaf (1, 75, 0, 0, 9223372036854775808, []))) (.branch 77 (.leaf (69, 76, 0, 0, 0, [])) (.branch 80 (.leaf (20, 77, 0, 1, 9223372036854775809, [])) (.leaf (58, 80, 64, 0, 0, []))))) (.branch 85 (.branch 84 (.leaf (1, 83, 0, 0, 9223372036854775808, [])) (.leaf (15, 84, 0, 1, 0, []))) (.branch 86 (.leaf (9, 85, 0, 1, 0, [])) (.branch 87 (.leaf (1, 86, 0, 0, 9223372036854775812, [])) (.leaf (55, 87, 116, 0, 0, [])))))) (.branch 97 (.branch 94 (.branch 91 (.leaf (13, 90, 0, 0, 0, [])) (.leaf (60, 91, 12, 15, 37, [1358]))) (.branch 95 (.leaf (9, 94, 0, 1, 0, [])) (.branch 96 (.leaf (1, 95, 0, 0, 9223372036854775808, [])) (.leaf (70, 96, 0, 0, 0, []))))) (.branch 101 (.branch 98 (.leaf (13, 97, 0, 0, 0, [])) (.leaf (60, 98, 12, 14, 34, [1357]))) (.branch 103 (.leaf (2, 101, 0, 0, 9223372036854775836, [])) (.branch 104 (.leaf (1, 103, 0, 0, 9223372036854775811, [])) (.leaf (9, 104, 0, 1, 0, []))))))) (.branch 124 (.branch 116 (.branch 107 (.branch 106 (.leaf (23, 105, 0, 0, 0, [])) (.leaf (21, 106, 0, 0, 0, []))) (.branch 110 (.leaf (79, 107, 172, 0, 104, [1334, 1335])) (.branch 113 (.leaf (20, 110, 0, 1, 9223372036854775809, [])) (.leaf (58, 113, 85, 0, 0, []))))) (.branch 118 (.branch 117 (.leaf (1, 116, 0, 0, 9223372036854775808, [])) (.leaf (15, 117, 0, 1, 0, []))) (.branch 119 (.leaf (9, 118, 0, 1, 0, [])) (.branch 121 (.leaf (2, 119, 0, 0, 9223372036854775814, [])) (.leaf (55, 121, 140, 0, 0, [])))))) (.branch 133 (.branch 128 (.branch 125 (.leaf (13, 124, 0, 0, 0, [])) (.leaf (60, 125, 12, 14, 34, [1357]))) (.branch 129 (.leaf (9, 128, 0, 1, 0, [])) (.branch 132 (.leaf (79, 129, 173, 0, 108, [1337, 1338])) (.leaf (1, 132, 0, 0, 9223372036854775808, []))))) (.branch 140 (.branch 134 (.leaf (69, 133, 0, 0, 0, [])) (.branch 137 (.leaf (20, 134, 0, 1, 9223372036854775809, [])) (.leaf (58, 137, 118, 0, 0, [])))) (.branch 141 (.leaf (13, 140, 0, 0, 0, [])) (.branch 144 (.leaf (78, 141, 184, 0, 195, [1502, 1504, 36])) (.leaf (13, 144, 0, 0, 0, []))))))))) (.branch 223 (.branch 187 (.branch 169 (.branch 158 (.branch 151 (.branch 148 (.leaf (78, 145, 186, 0, 177, [1516, 1518, 38])) (.leaf (46, 148, 165, 0, 0, []))) (.branch 152 (.leaf (13, 151, 0, 0, 0, [])) (.branch 155 (.leaf (60, 152, 12, 10, 156, [1353])) (.leaf (46, 155, 165, 0, 0, []))))) (.branch 162 (.branch 159 (.leaf (13, 158, 0, 0, 0, [])) (.leaf (78, 159, 187, 0, 279, [1520, 1522, 39]))) (.branch 165 (.leaf (58, 162, 144, 0, 0, [])) (.branch 166 (.leaf (13, 165, 0, 0, 0, [])) (.leaf (78, 166, 186, 0, 177, [1516, 1518, 38])))))) (.branch 177 (.branch 174 (.branch 172 (.leaf (47, 169, 175, 0, 0, [])) (.leaf (2, 172, 0, 0, 9223372036854775804, []))) (.branch 175 (.leaf (83, 174, 0, 0, 0, [])) (.branch 176 (.leaf (1, 175, 0, 0, 9223372036854775813, [])) (.leaf (15, 176, 0, 1, 0, []))))) (.branch 180 (.branch 178 (.leaf (9, 177, 0, 1, 0, [])) (.leaf (2, 178, 0, 0, 9223372036854775815, []))) (.branch 183 (.leaf (56, 180, 201, 0, 0, [])) (.branch 184 (.leaf (13, 183, 0, 0, 0, [])) (.leaf (60, 184, 12, 1, 13, [1344]))))))) (.branch 204 (.branch 194 (.branch 189 (.branch 188 (.leaf (9, 187, 0, 1, 0, [])) (.leaf (13, 188, 0, 0, 0, []))) (.branch 192 (.leaf (60, 189, 12, 14, 34, [1357])) (.branch 193 (.leaf (9, 192, 0, 1, 0, [])) (.leaf (64, 193, 0, 0, 0, []))))) (.branch 198 (.branch 195 (.leaf (69, 194, 0, 0, 0, [])) (.leaf (20, 195, 0, 1, 9223372036854775809, []))) (.branch 201 (.leaf (58, 198, 177, 0, 0, [])) (.branch 203 (.leaf (2, 201, 0, 0, 9223372036854775836, [])) (.leaf (15, 203, 0, 1, 0, [])))))) (.branch 215 (.branch 208 (.branch 205 (.leaf (9, 204, 0, 1, 0, [])) (.leaf (3, 205, 0, 0, 9223372036854776328, []))) (.branch 211 (.leaf (55, 208, 229, 0, 0, [])) (.branch 212 (.leaf (13, 211, 0, 0, 0, [])) (.leaf (60, 212, 12, 1, 13, [1344]))))) (.branch 220 (.branch 216 (.leaf (9, 215, 0, 1, 0, [])) (.branch 217 (.leaf (13, 216, 0, 0, 0, [])) (.leaf (60, 217, 12, 14, 34, [1357])))) (.branch 221 (.leaf (9, 220, 0, 1, 0, [])) (.branch 222 (.leaf (64, 221, 0, 0, 0, [])) (.leaf (69, 222, 0, 0, 0, [])))))))) (.branch 259 (.branch 240 (.branch 232 (.branch 229 (.branch 226 (.leaf (20, 223, 0, 1, 9223372036854775809, [])) (.leaf (58, 226, 204, 0, 0, []))) (.branch 230 (.leaf (1, 229, 0, 0, 9223372036854775808, [])) (.branch 231 (.leaf (15, 230, 0, 1, 0, [])) (.leaf (9, 231, 0, 1, 0, []))))) (.branch 237 (.branch 234 (.leaf (2, 232, 0, 0, 9223372036854775814, [])) (.leaf (55, 234, 286, 0, 0, []))) (.branch 238 (.leaf (1, 237, 0, 0, 9223372036854775808, [])) (.branch 239 (.leaf (15, 238, 0, 2, 0, [])) (.leaf (9, 239, 0, 2, 0, [])))))) (.branch 249 (.branch 244 (.branch 241 (.leaf (1, 240, 0, 0, 9223372036854775812, [])) (.leaf (55, 241, 272, 0, 0, []))) (.branch 245 (.leaf (13, 244, 0, 0, 0, [])) (.branch 248 (.leaf (60, 245, 12, 1, 13, [1344])) (.leaf (9, 248, 0, 1, 0, []))))) (.branch 254 (.branch 252 (.leaf (79, 249, 173, 0, 108, [1337, 1338])) (.branch 253 (.leaf (9, 252, 0, 2, 0, [])) (.leaf (21, 253, 0, 0, 0, [])))) (.branch 255 (.leaf (13, 254, 0, 0, 0, [])) (.branch 258 (.leaf (60, 255, 12, 14, 34, [1357])) (.leaf (9, 258, 0, 1, 0, []))))))) (.branch 277 (.branch 266 (.branch 263 (.branch 262 (.leaf (79, 259, 173, 0, 108, [1337, 1338])) (.leaf (9, 262, 0, 2, 0, []))) (.branch 264 (.leaf (21, 263, 0, 0, 0, [])) (.branch 265 (.leaf (64, 264, 0, 0, 0, [])) (.leaf (69, 265, 0, 0, 0, []))))) (.branch 272 (.branch 269 (.leaf (20, 266, 0, 2, 9223372036854775809, [])) (.leaf (58, 269, 239, 0, 0, []))) (.branch 273 (.leaf (13, 272, 0, 0, 0, [])) (.branch 274 (.leaf (9, 273, 0, 1, 0, [])) (.leaf (79, 274, 173, 0, 108, [1337, 1338])))))) (.branch 288 (.branch 283 (.branch 280 (.leaf (78, 277, 174, 0, 112, [1340, 1342, 33])) (.leaf (20, 280, 0, 1, 9223372036854775809, []))) (.branch 286 (.leaf (58, 283, 231, 0, 0, [])) (.branch 287 (.leaf (13, 286, 0, 0, 0, [])) (.leaf (1, 287, 0, 0, 9223372036854775808, []))))) (.branch 295 (.branch 291 (.leaf (62, 288, 12, 32, 137, [1375])) (.branch 292 (.leaf (13, 291, 0, 0, 0, [])) (.leaf (60, 292, 12, 1, 13, [1344])))) (.branch 296 (.leaf (1, 295, 0, 0, 9223372036854775813, [])) (.branch 297 (.leaf (64, 296, 0, 0, 0, [])) (.leaf (83, 297, 0, 0, 0, [])))))))))
noncomputable def abM180 : abM := ((⟨"TallBinsModel", "text", "()I"⟩, prog_14_method_33_code, 3, some .int), 0, 0, 0, 12, abK180)
set_option maxRecDepth 20000 in
noncomputable def abK181 : Lean.RArray abEy := .branch 15 (.branch 5 (.branch 2 (.branch 1 (.leaf (1, 0, 0, 0, 9223372036854775808, [])) (.leaf (15, 1, 0, 2, 0, []))) (.branch 3 (.leaf (1, 2, 0, 0, 9223372036854775808, [])) (.branch 4 (.leaf (15, 3, 0, 3, 0, [])) (.leaf (9, 4, 0, 3, 0, []))))) (.branch 10 (.branch 7 (.leaf (2, 5, 0, 0, 9223372036854775820, [])) (.leaf (55, 7, 29, 0, 0, []))) (.branch 11 (.leaf (9, 10, 0, 2, 0, [])) (.branch 12 (.leaf (13, 11, 0, 0, 0, [])) (.leaf (60, 12, 12, 1, 13, [1344])))))) (.branch 22 (.branch 17 (.branch 16 (.leaf (9, 15, 0, 1, 0, [])) (.leaf (9, 16, 0, 3, 0, []))) (.branch 20 (.leaf (79, 17, 182, 0, 126, [1495, 1496])) (.branch 21 (.leaf (64, 20, 0, 0, 0, [])) (.leaf (21, 21, 0, 0, 0, []))))) (.branch 26 (.branch 23 (.leaf (15, 22, 0, 2, 0, [])) (.leaf (20, 23, 0, 3, 9223372036854775809, []))) (.branch 29 (.leaf (58, 26, 4, 0, 0, [])) (.branch 30 (.leaf (9, 29, 0, 2, 0, [])) (.leaf (83, 30, 0, 0, 0, []))))))
noncomputable def abM181 : abM := ((⟨"TallBinsModel", "unitsOf", "(I)I"⟩, prog_14_method_10_code, 4, some .int), 1, 0, 0, 12, abK181)
set_option maxRecDepth 20000 in
noncomputable def abK182 : Lean.RArray abEy := .branch 7 (.branch 4 (.branch 1 (.leaf (9, 0, 0, 0, 0, [])) (.leaf (79, 1, 173, 0, 108, [1337, 1338]))) (.branch 6 (.leaf (2, 4, 0, 0, 9223372036854775828, [])) (.leaf (21, 6, 0, 0, 0, [])))) (.branch 10 (.branch 9 (.leaf (2, 7, 0, 0, 9223372036854775820, [])) (.leaf (9, 9, 0, 1, 0, []))) (.branch 11 (.leaf (23, 10, 0, 0, 0, [])) (.branch 12 (.leaf (21, 11, 0, 0, 0, [])) (.leaf (83, 12, 0, 0, 0, [])))))
noncomputable def abM182 : abM := ((⟨"TallBinsModel", "ringAt", "(II)I"⟩, prog_14_method_9_code, 2, some .int), 2, 0, 0, 12, abK182)
set_option maxRecDepth 20000 in
noncomputable def abK183 : Lean.RArray abEy := .branch 14 (.branch 4 (.branch 2 (.branch 1 (.leaf (1, 0, 0, 0, 9223372036854775808, [])) (.leaf (15, 1, 0, 2, 0, []))) (.branch 3 (.leaf (9, 2, 0, 2, 0, [])) (.leaf (1, 3, 0, 0, 9223372036854775812, [])))) (.branch 8 (.branch 7 (.leaf (55, 4, 28, 0, 0, [])) (.leaf (13, 7, 0, 0, 0, []))) (.branch 11 (.leaf (60, 8, 12, 1, 13, [1344])) (.branch 13 (.leaf (2, 11, 0, 0, 9223372036854775816, [])) (.leaf (9, 13, 0, 2, 0, [])))))) (.branch 21 (.branch 16 (.branch 15 (.leaf (21, 14, 0, 0, 0, [])) (.leaf (64, 15, 0, 0, 0, []))) (.branch 17 (.leaf (9, 16, 0, 1, 0, [])) (.branch 20 (.leaf (53, 17, 22, 0, 0, [])) (.leaf (9, 20, 0, 2, 0, []))))) (.branch 25 (.branch 22 (.leaf (83, 21, 0, 0, 0, [])) (.leaf (20, 22, 0, 2, 9223372036854775809, []))) (.branch 28 (.leaf (58, 25, 2, 0, 0, [])) (.branch 29 (.leaf (1, 28, 0, 0, 9223372036854775807, [])) (.leaf (83, 29, 0, 0, 0, []))))))
noncomputable def abM183 : abM := ((⟨"TallBinsModel", "manIn", "(I)I"⟩, prog_14_method_12_code, 3, some .int), 1, 0, 0, 12, abK183)
set_option maxRecDepth 20000 in
noncomputable def abK184 : Lean.RArray abEy := .branch 130 (.branch 62 (.branch 32 (.branch 15 (.branch 8 (.branch 2 (.branch 1 (.leaf (13, 0, 0, 0, 0, [])) (.leaf (13, 1, 0, 0, 0, []))) (.branch 5 (.leaf (60, 2, 12, 8, 147, [1351])) (.leaf (78, 5, 185, 0, 150, [1506, 1508, 37])))) (.branch 13 (.branch 10 (.leaf (2, 8, 0, 0, 9223372036854775840, [])) (.leaf (52, 10, 26, 0, 0, []))) (.branch 14 (.leaf (13, 13, 0, 0, 0, [])) (.leaf (13, 14, 0, 0, 0, []))))) (.branch 26 (.branch 21 (.branch 18 (.leaf (60, 15, 12, 8, 147, [1351])) (.leaf (78, 18, 185, 0, 150, [1506, 1508, 37]))) (.branch 23 (.leaf (2, 21, 0, 0, 9223372036854775818, [])) (.leaf (53, 23, 39, 0, 0, [])))) (.branch 28 (.branch 27 (.leaf (13, 26, 0, 0, 0, [])) (.leaf (44, 27, 0, 0, 0, []))) (.branch 31 (.leaf (60, 28, 12, 8, 147, [1351])) (.leaf (1, 31, 0, 0, 9223372036854775809, [])))))) (.branch 48 (.branch 40 (.branch 36 (.branch 33 (.leaf (21, 32, 0, 0, 0, [])) (.leaf (61, 33, 12, 8, 147, [1351]))) (.branch 39 (.leaf (58, 36, 0, 0, 0, [])) (.leaf (13, 39, 0, 0, 0, [])))) (.branch 44 (.branch 41 (.leaf (13, 40, 0, 0, 0, [])) (.leaf (60, 41, 12, 8, 147, [1351]))) (.branch 47 (.leaf (61, 44, 12, 9, 153, [1352])) (.leaf (13, 47, 0, 0, 0, []))))) (.branch 56 (.branch 52 (.branch 49 (.leaf (13, 48, 0, 0, 0, [])) (.leaf (60, 49, 12, 8, 147, [1351]))) (.branch 55 (.leaf (78, 52, 185, 0, 150, [1506, 1508, 37])) (.leaf (15, 55, 0, 1, 0, [])))) (.branch 58 (.branch 57 (.leaf (9, 56, 0, 1, 0, [])) (.leaf (1, 57, 0, 0, 9223372036854775807, []))) (.branch 61 (.leaf (53, 58, 69, 0, 0, [])) (.leaf (13, 61, 0, 0, 0, []))))))) (.branch 98 (.branch 80 (.branch 70 (.branch 66 (.branch 63 (.leaf (1, 62, 0, 0, 9223372036854775808, [])) (.leaf (61, 63, 12, 10, 156, [1353]))) (.branch 69 (.leaf (58, 66, 256, 0, 0, [])) (.leaf (9, 69, 0, 1, 0, [])))) (.branch 74 (.branch 71 (.leaf (40, 70, 0, 0, 0, [])) (.leaf (7, 71, 159, 0, 9223372036854775905, [1510]))) (.branch 77 (.leaf (7, 74, 161, 0, 9223372036854775930, [1511])) (.leaf (79, 77, 176, 0, 118, [1472, 1473]))))) (.branch 88 (.branch 84 (.branch 83 (.leaf (46, 80, 125, 0, 0, [])) (.leaf (13, 83, 0, 0, 0, []))) (.branch 85 (.leaf (13, 84, 0, 0, 0, [])) (.leaf (60, 85, 12, 8, 147, [1351])))) (.branch 92 (.branch 91 (.leaf (78, 88, 185, 0, 150, [1506, 1508, 37])) (.leaf (40, 91, 0, 0, 0, []))) (.branch 95 (.leaf (7, 92, 159, 0, 9223372036854775905, [1510])) (.leaf (7, 95, 161, 0, 9223372036854775930, [1511])))))) (.branch 114 (.branch 106 (.branch 104 (.branch 101 (.leaf (79, 98, 176, 0, 118, [1472, 1473])) (.leaf (46, 101, 117, 0, 0, []))) (.branch 105 (.leaf (13, 104, 0, 0, 0, [])) (.leaf (44, 105, 0, 0, 0, [])))) (.branch 110 (.branch 109 (.leaf (60, 106, 12, 8, 147, [1351])) (.leaf (1, 109, 0, 0, 9223372036854775809, []))) (.branch 111 (.leaf (21, 110, 0, 0, 0, [])) (.leaf (61, 111, 12, 8, 147, [1351]))))) (.branch 122 (.branch 118 (.branch 117 (.leaf (58, 114, 83, 0, 0, [])) (.leaf (13, 117, 0, 0, 0, []))) (.branch 119 (.leaf (1, 118, 0, 0, 9223372036854775809, [])) (.leaf (61, 119, 12, 10, 156, [1353])))) (.branch 126 (.branch 125 (.leaf (58, 122, 256, 0, 0, [])) (.leaf (9, 125, 0, 1, 0, []))) (.branch 127 (.leaf (40, 126, 0, 0, 0, [])) (.leaf (7, 127, 163, 0, 9223372036854775856, [1512])))))))) (.branch 195 (.branch 166 (.branch 146 (.branch 140 (.branch 136 (.branch 133 (.leaf (7, 130, 165, 0, 9223372036854775865, [1513])) (.leaf (79, 133, 176, 0, 118, [1472, 1473]))) (.branch 139 (.leaf (46, 136, 214, 0, 0, [])) (.leaf (13, 139, 0, 0, 0, [])))) (.branch 144 (.branch 141 (.leaf (1, 140, 0, 0, 9223372036854775808, [])) (.leaf (61, 141, 12, 11, 167, [1354]))) (.branch 145 (.leaf (13, 144, 0, 0, 0, [])) (.leaf (13, 145, 0, 0, 0, []))))) (.branch 156 (.branch 152 (.branch 149 (.leaf (60, 146, 12, 8, 147, [1351])) (.leaf (78, 149, 185, 0, 150, [1506, 1508, 37]))) (.branch 153 (.leaf (40, 152, 0, 0, 0, [])) (.leaf (7, 153, 163, 0, 9223372036854775856, [1512])))) (.branch 162 (.branch 159 (.leaf (7, 156, 165, 0, 9223372036854775865, [1513])) (.leaf (79, 159, 176, 0, 118, [1472, 1473]))) (.branch 165 (.leaf (46, 162, 206, 0, 0, [])) (.leaf (13, 165, 0, 0, 0, [])))))) (.branch 180 (.branch 174 (.branch 170 (.branch 168 (.leaf (4, 166, 170, 0, 9223372036854875807, [1514])) (.leaf (2, 168, 0, 0, 9223372036854775818, []))) (.branch 171 (.leaf (13, 170, 0, 0, 0, [])) (.leaf (60, 171, 12, 11, 167, [1354])))) (.branch 176 (.branch 175 (.leaf (23, 174, 0, 0, 0, [])) (.leaf (13, 175, 0, 0, 0, []))) (.branch 177 (.leaf (13, 176, 0, 0, 0, [])) (.leaf (60, 177, 12, 8, 147, [1351]))))) (.branch 187 (.branch 184 (.branch 183 (.leaf (78, 180, 185, 0, 150, [1506, 1508, 37])) (.leaf (21, 183, 0, 0, 0, []))) (.branch 186 (.leaf (2, 184, 0, 0, 9223372036854775856, [])) (.leaf (22, 186, 0, 0, 0, [])))) (.branch 193 (.branch 190 (.leaf (79, 187, 269, 0, 171, [1515, 598])) (.leaf (61, 190, 12, 11, 167, [1354]))) (.branch 194 (.leaf (13, 193, 0, 0, 0, [])) (.leaf (44, 194, 0, 0, 0, []))))))) (.branch 226 (.branch 211 (.branch 203 (.branch 199 (.branch 198 (.leaf (60, 195, 12, 8, 147, [1351])) (.leaf (1, 198, 0, 0, 9223372036854775809, []))) (.branch 200 (.leaf (21, 199, 0, 0, 0, [])) (.leaf (61, 200, 12, 8, 147, [1351])))) (.branch 207 (.branch 206 (.leaf (58, 203, 144, 0, 0, [])) (.leaf (13, 206, 0, 0, 0, []))) (.branch 208 (.leaf (1, 207, 0, 0, 9223372036854775810, [])) (.leaf (61, 208, 12, 10, 156, [1353]))))) (.branch 219 (.branch 215 (.branch 214 (.leaf (58, 211, 256, 0, 0, [])) (.leaf (13, 214, 0, 0, 0, []))) (.branch 216 (.leaf (9, 215, 0, 1, 0, [])) (.leaf (61, 216, 12, 11, 167, [1354])))) (.branch 221 (.branch 220 (.leaf (13, 219, 0, 0, 0, [])) (.leaf (9, 220, 0, 1, 0, []))) (.branch 223 (.leaf (2, 221, 0, 0, 9223372036854775868, [])) (.leaf (52, 223, 238, 0, 0, [])))))) (.branch 242 (.branch 233 (.branch 229 (.branch 227 (.leaf (9, 226, 0, 1, 0, [])) (.leaf (2, 227, 0, 0, 9223372036854775870, []))) (.branch 232 (.leaf (52, 229, 238, 0, 0, [])) (.leaf (9, 232, 0, 1, 0, [])))) (.branch 238 (.branch 235 (.leaf (2, 233, 0, 0, 9223372036854775867, [])) (.leaf (53, 235, 242, 0, 0, []))) (.branch 239 (.leaf (1, 238, 0, 0, 9223372036854775811, [])) (.leaf (58, 239, 243, 0, 0, []))))) (.branch 248 (.branch 246 (.branch 243 (.leaf (1, 242, 0, 0, 9223372036854775812, [])) (.leaf (61, 243, 12, 10, 156, [1353]))) (.branch 247 (.leaf (13, 246, 0, 0, 0, [])) (.leaf (44, 247, 0, 0, 0, [])))) (.branch 252 (.branch 251 (.leaf (60, 248, 12, 8, 147, [1351])) (.leaf (1, 251, 0, 0, 9223372036854775809, []))) (.branch 253 (.leaf (21, 252, 0, 0, 0, [])) (.branch 256 (.leaf (61, 253, 12, 8, 147, [1351])) (.leaf (82, 256, 0, 0, 0, [])))))))))
noncomputable def abM184 : abM := ((⟨"TallBinsModel", "step", "()V"⟩, prog_14_method_19_code, 2, none), 0, 0, 0, 12, abK184)
set_option maxRecDepth 20000 in
noncomputable def abK185 : Lean.RArray abEy := .branch 12 (.branch 5 (.branch 1 (.leaf (9, 0, 0, 1, 0, [])) (.branch 2 (.leaf (13, 1, 0, 0, 0, [])) (.leaf (60, 2, 12, 7, 144, [1350])))) (.branch 8 (.leaf (55, 5, 21, 0, 0, [])) (.branch 9 (.leaf (13, 8, 0, 0, 0, [])) (.leaf (60, 9, 12, 4, 24, [1347]))))) (.branch 17 (.branch 13 (.leaf (9, 12, 0, 1, 0, [])) (.branch 14 (.leaf (65, 13, 0, 0, 0, [])) (.leaf (3, 14, 0, 0, 9223372036854776063, [])))) (.branch 21 (.branch 18 (.leaf (26, 17, 0, 0, 0, [])) (.leaf (58, 18, 22, 0, 0, []))) (.branch 22 (.leaf (1, 21, 0, 0, 9223372036854775807, [])) (.leaf (83, 22, 0, 0, 0, [])))))
noncomputable def abM185 : abM := ((⟨"TallBinsModel", "see", "(I)I"⟩, prog_14_method_18_code, 2, some .int), 1, 0, 0, 12, abK185)
set_option maxRecDepth 20000 in
noncomputable def abK186 : Lean.RArray abEy := .branch 7 (.branch 1 (.leaf (13, 0, 0, 0, 0, [])) (.branch 4 (.leaf (60, 1, 12, 12, 174, [1355])) (.leaf (47, 4, 11, 0, 0, [])))) (.branch 11 (.branch 8 (.leaf (1, 7, 0, 0, 9223372036854775809, [])) (.leaf (58, 8, 12, 0, 0, []))) (.branch 12 (.leaf (1, 11, 0, 0, 9223372036854775808, [])) (.leaf (83, 12, 1, 0, 0, []))))
noncomputable def abM186 : abM := ((⟨"TallBinsModel", "good", "()Z"⟩, prog_14_method_20_code, 1, some .boolean), 0, 0, 0, 12, abK186)
set_option maxRecDepth 20000 in
noncomputable def abK187 : Lean.RArray abEy := .branch 132 (.branch 68 (.branch 39 (.branch 21 (.branch 9 (.branch 3 (.leaf (13, 0, 0, 0, 0, [])) (.branch 6 (.leaf (78, 3, 188, 0, 191, [1525, 1527, 40])) (.leaf (47, 6, 45, 0, 0, [])))) (.branch 15 (.branch 12 (.leaf (13, 9, 0, 0, 0, [])) (.leaf (78, 12, 188, 0, 191, [1525, 1527, 40]))) (.branch 18 (.leaf (47, 15, 45, 0, 0, [])) (.leaf (13, 18, 0, 0, 0, []))))) (.branch 31 (.branch 24 (.leaf (78, 21, 188, 0, 191, [1525, 1527, 40])) (.branch 27 (.leaf (47, 24, 45, 0, 0, [])) (.leaf (13, 27, 0, 0, 0, [])))) (.branch 37 (.branch 34 (.leaf (78, 31, 188, 0, 191, [1525, 1527, 40])) (.leaf (47, 34, 45, 0, 0, []))) (.branch 38 (.leaf (13, 37, 0, 0, 0, [])) (.leaf (1, 38, 0, 0, 9223372036854775809, [])))))) (.branch 53 (.branch 46 (.branch 42 (.leaf (78, 39, 189, 0, 198, [1534, 1536, 41])) (.branch 45 (.leaf (58, 42, 61, 0, 0, [])) (.leaf (13, 45, 0, 0, 0, [])))) (.branch 50 (.branch 49 (.leaf (60, 46, 12, 14, 34, [1357])) (.leaf (1, 49, 0, 0, 9223372036854775813, []))) (.branch 51 (.leaf (64, 50, 0, 0, 0, [])) (.leaf (2, 51, 0, 0, 9223372036854775838, []))))) (.branch 58 (.branch 56 (.leaf (53, 53, 61, 0, 0, [])) (.branch 57 (.leaf (13, 56, 0, 0, 0, [])) (.leaf (1, 57, 0, 0, 9223372036854775811, [])))) (.branch 62 (.branch 61 (.leaf (78, 58, 189, 0, 198, [1534, 1536, 41])) (.leaf (13, 61, 0, 0, 0, []))) (.branch 65 (.leaf (78, 62, 186, 0, 177, [1516, 1518, 38])) (.leaf (47, 65, 69, 0, 0, []))))))) (.branch 92 (.branch 77 (.branch 73 (.branch 69 (.leaf (82, 68, 0, 0, 0, [])) (.branch 70 (.leaf (13, 69, 0, 0, 0, [])) (.leaf (60, 70, 12, 14, 34, [1357])))) (.branch 75 (.branch 74 (.leaf (1, 73, 0, 0, 9223372036854775813, [])) (.leaf (45, 74, 0, 0, 0, []))) (.branch 76 (.leaf (64, 75, 0, 0, 0, [])) (.leaf (1, 76, 0, 0, 9223372036854775809, []))))) (.branch 82 (.branch 78 (.leaf (21, 77, 0, 0, 0, [])) (.branch 79 (.leaf (69, 78, 0, 0, 0, [])) (.leaf (13, 79, 0, 0, 0, [])))) (.branch 88 (.branch 85 (.leaf (78, 82, 190, 0, 201, [1538, 1540, 42])) (.leaf (46, 85, 95, 0, 0, []))) (.branch 89 (.leaf (13, 88, 0, 0, 0, [])) (.leaf (78, 89, 191, 0, 259, [1542, 1544, 43])))))) (.branch 111 (.branch 101 (.branch 95 (.leaf (58, 92, 210, 0, 0, [])) (.branch 98 (.leaf (13, 95, 0, 0, 0, [])) (.leaf (78, 98, 190, 0, 201, [1538, 1540, 42])))) (.branch 105 (.branch 104 (.leaf (46, 101, 111, 0, 0, [])) (.leaf (13, 104, 0, 0, 0, []))) (.branch 108 (.leaf (78, 105, 194, 0, 262, [1559, 1561, 46])) (.leaf (58, 108, 210, 0, 0, []))))) (.branch 122 (.branch 118 (.branch 115 (.leaf (13, 111, 0, 0, 0, [])) (.leaf (78, 115, 190, 0, 201, [1538, 1540, 42]))) (.branch 121 (.leaf (46, 118, 128, 0, 0, [])) (.leaf (13, 121, 0, 0, 0, [])))) (.branch 128 (.branch 125 (.leaf (78, 122, 195, 0, 265, [1567, 1569, 47])) (.leaf (58, 125, 210, 0, 0, []))) (.branch 129 (.leaf (13, 128, 0, 0, 0, [])) (.leaf (78, 129, 184, 0, 195, [1502, 1504, 36])))))))) (.branch 185 (.branch 155 (.branch 143 (.branch 136 (.branch 134 (.leaf (2, 132, 0, 0, 9223372036854775848, [])) (.branch 135 (.leaf (1, 134, 0, 0, 9223372036854775811, [])) (.leaf (13, 135, 0, 0, 0, [])))) (.branch 141 (.branch 139 (.leaf (60, 136, 12, 14, 34, [1357])) (.leaf (2, 139, 0, 0, 9223372036854775814, []))) (.branch 142 (.leaf (64, 141, 0, 0, 0, [])) (.leaf (23, 142, 0, 0, 0, []))))) (.branch 146 (.branch 144 (.leaf (21, 143, 0, 0, 0, [])) (.branch 145 (.leaf (15, 144, 0, 1, 0, [])) (.leaf (13, 145, 0, 0, 0, [])))) (.branch 150 (.branch 149 (.leaf (60, 146, 12, 14, 34, [1357])) (.leaf (9, 149, 0, 1, 0, []))) (.branch 154 (.leaf (13, 150, 0, 0, 0, [])) (.leaf (1, 154, 0, 0, 9223372036854775808, [])))))) (.branch 168 (.branch 162 (.branch 158 (.leaf (3, 155, 0, 0, 9223372036854785807, [])) (.branch 161 (.leaf (78, 158, 193, 0, 220, [1552, 1554, 45])) (.leaf (69, 161, 0, 0, 0, [])))) (.branch 166 (.branch 163 (.leaf (13, 162, 0, 0, 0, [])) (.leaf (60, 163, 12, 14, 34, [1357]))) (.branch 167 (.leaf (9, 166, 0, 1, 0, [])) (.leaf (1, 167, 0, 0, 9223372036854775809, []))))) (.branch 177 (.branch 173 (.branch 169 (.leaf (21, 168, 0, 0, 0, [])) (.leaf (13, 169, 0, 0, 0, []))) (.branch 174 (.leaf (1, 173, 0, 0, 9223372036854775808, [])) (.leaf (3, 174, 0, 0, 9223372036854785807, [])))) (.branch 181 (.branch 180 (.leaf (78, 177, 193, 0, 220, [1552, 1554, 45])) (.leaf (69, 180, 0, 0, 0, []))) (.branch 182 (.leaf (13, 181, 0, 0, 0, [])) (.leaf (60, 182, 12, 14, 34, [1357]))))))) (.branch 208 (.branch 198 (.branch 188 (.branch 186 (.leaf (9, 185, 0, 1, 0, [])) (.branch 187 (.leaf (1, 186, 0, 0, 9223372036854775810, [])) (.leaf (21, 187, 0, 0, 0, [])))) (.branch 193 (.branch 192 (.leaf (13, 188, 0, 0, 0, [])) (.leaf (1, 192, 0, 0, 9223372036854775808, []))) (.branch 195 (.leaf (2, 193, 0, 0, 9223372036854775817, [])) (.leaf (78, 195, 193, 0, 220, [1552, 1554, 45]))))) (.branch 203 (.branch 199 (.leaf (69, 198, 0, 0, 0, [])) (.branch 200 (.leaf (13, 199, 0, 0, 0, [])) (.leaf (60, 200, 12, 14, 34, [1357])))) (.branch 206 (.branch 205 (.leaf (2, 203, 0, 0, 9223372036854775814, [])) (.leaf (45, 205, 0, 0, 0, []))) (.branch 207 (.leaf (64, 206, 0, 0, 0, [])) (.leaf (1, 207, 0, 0, 9223372036854775809, [])))))) (.branch 220 (.branch 211 (.branch 209 (.leaf (21, 208, 0, 0, 0, [])) (.branch 210 (.leaf (69, 209, 0, 0, 0, [])) (.leaf (13, 210, 0, 0, 0, [])))) (.branch 216 (.branch 213 (.leaf (2, 211, 0, 0, 9223372036854775867, [])) (.leaf (78, 213, 198, 0, 243, [1586, 1588, 50]))) (.branch 219 (.leaf (47, 216, 224, 0, 0, [])) (.leaf (13, 219, 0, 0, 0, []))))) (.branch 228 (.branch 224 (.branch 221 (.leaf (1, 220, 0, 0, 9223372036854775809, [])) (.leaf (78, 221, 189, 0, 198, [1534, 1536, 41]))) (.branch 225 (.leaf (13, 224, 0, 0, 0, [])) (.leaf (78, 225, 186, 0, 177, [1516, 1518, 38])))) (.branch 232 (.branch 231 (.leaf (46, 228, 235, 0, 0, [])) (.leaf (13, 231, 0, 0, 0, []))) (.branch 235 (.leaf (78, 232, 184, 0, 195, [1502, 1504, 36])) (.leaf (82, 235, 0, 0, 0, []))))))))
noncomputable def abM187 : abM := ((⟨"TallBinsModel", "readLine", "()V"⟩, prog_14_method_32_code, 2, none), 0, 0, 0, 12, abK187)
set_option maxRecDepth 20000 in
noncomputable def abK188 : Lean.RArray abEy := .branch 40 (.branch 20 (.branch 11 (.branch 4 (.branch 1 (.leaf (13, 0, 0, 0, 0, [])) (.leaf (78, 1, 186, 0, 177, [1516, 1518, 38]))) (.branch 7 (.leaf (46, 4, 35, 0, 0, [])) (.branch 8 (.leaf (13, 7, 0, 0, 0, [])) (.leaf (60, 8, 12, 10, 156, [1353]))))) (.branch 15 (.branch 12 (.leaf (1, 11, 0, 0, 9223372036854775809, [])) (.leaf (53, 12, 35, 0, 0, []))) (.branch 16 (.leaf (13, 15, 0, 0, 0, [])) (.branch 19 (.leaf (60, 16, 12, 8, 147, [1351])) (.leaf (13, 19, 0, 0, 0, [])))))) (.branch 32 (.branch 24 (.branch 23 (.leaf (60, 20, 12, 9, 153, [1352])) (.leaf (22, 23, 0, 0, 0, []))) (.branch 28 (.leaf (13, 24, 0, 1, 0, [])) (.branch 31 (.leaf (53, 28, 35, 0, 0, [])) (.leaf (1, 31, 0, 0, 9223372036854775809, []))))) (.branch 37 (.branch 35 (.leaf (58, 32, 36, 0, 0, [])) (.branch 36 (.leaf (1, 35, 0, 0, 9223372036854775808, [])) (.leaf (15, 36, 0, 2, 0, [])))) (.branch 38 (.leaf (1, 37, 0, 0, 9223372036854775808, [])) (.branch 39 (.leaf (15, 38, 0, 3, 0, [])) (.leaf (9, 39, 0, 3, 0, []))))))) (.branch 62 (.branch 52 (.branch 47 (.branch 44 (.leaf (13, 40, 0, 1, 0, [])) (.leaf (55, 44, 82, 0, 0, []))) (.branch 48 (.leaf (9, 47, 0, 2, 0, [])) (.branch 51 (.leaf (46, 48, 82, 0, 0, [])) (.leaf (13, 51, 0, 0, 0, []))))) (.branch 59 (.branch 55 (.leaf (60, 52, 12, 4, 24, [1347])) (.branch 56 (.leaf (13, 55, 0, 0, 0, [])) (.leaf (60, 56, 12, 9, 153, [1352])))) (.branch 60 (.leaf (9, 59, 0, 3, 0, [])) (.branch 61 (.leaf (21, 60, 0, 0, 0, [])) (.leaf (65, 61, 0, 0, 0, [])))))) (.branch 74 (.branch 67 (.branch 63 (.leaf (13, 62, 0, 1, 0, [])) (.leaf (9, 63, 0, 3, 0, []))) (.branch 70 (.leaf (53, 67, 74, 0, 0, [])) (.branch 71 (.leaf (1, 70, 0, 0, 9223372036854775809, [])) (.leaf (58, 71, 75, 0, 0, []))))) (.branch 79 (.branch 75 (.leaf (1, 74, 0, 0, 9223372036854775808, [])) (.branch 76 (.leaf (15, 75, 0, 2, 0, [])) (.leaf (20, 76, 0, 3, 9223372036854775809, [])))) (.branch 82 (.leaf (58, 79, 39, 0, 0, [])) (.branch 83 (.leaf (9, 82, 0, 2, 0, [])) (.leaf (83, 83, 1, 0, 0, [])))))))
noncomputable def abM188 : abM := ((⟨"TallBinsModel", "is", "(Ljava/lang/String;)Z"⟩, prog_14_method_22_code, 4, some .boolean), 1, 0, 0, 12, abK188)
set_option maxRecDepth 20000 in
noncomputable def abK189 : Lean.RArray abEy := .branch 10 (.branch 7 (.branch 1 (.leaf (13, 0, 0, 0, 0, [])) (.branch 4 (.leaf (78, 1, 186, 0, 177, [1516, 1518, 38])) (.leaf (47, 4, 8, 0, 0, [])))) (.branch 8 (.leaf (82, 7, 0, 0, 0, [])) (.branch 9 (.leaf (13, 8, 0, 0, 0, [])) (.leaf (9, 9, 0, 1, 0, []))))) (.branch 15 (.branch 13 (.leaf (61, 10, 12, 12, 174, [1355])) (.branch 14 (.leaf (13, 13, 0, 0, 0, [])) (.leaf (13, 14, 0, 0, 0, [])))) (.branch 18 (.leaf (60, 15, 12, 9, 153, [1352])) (.branch 21 (.leaf (61, 18, 12, 13, 31, [1356])) (.leaf (82, 21, 0, 0, 0, [])))))
noncomputable def abM189 : abM := ((⟨"TallBinsModel", "wrong", "(I)V"⟩, prog_14_method_21_code, 2, none), 1, 0, 0, 12, abK189)
set_option maxRecDepth 20000 in
noncomputable def abK190 : Lean.RArray abEy := .branch 7 (.branch 2 (.branch 1 (.leaf (13, 0, 0, 0, 0, [])) (.leaf (13, 1, 0, 1, 0, []))) (.branch 5 (.leaf (78, 2, 188, 0, 191, [1525, 1527, 40])) (.branch 6 (.leaf (15, 5, 0, 2, 0, [])) (.leaf (9, 6, 0, 2, 0, []))))) (.branch 11 (.branch 10 (.leaf (46, 7, 14, 0, 0, [])) (.leaf (13, 10, 0, 0, 0, []))) (.branch 14 (.leaf (78, 11, 184, 0, 195, [1502, 1504, 36])) (.branch 15 (.leaf (9, 14, 0, 2, 0, [])) (.leaf (83, 15, 1, 0, 0, [])))))
noncomputable def abM190 : abM := ((⟨"TallBinsModel", "takes", "(Ljava/lang/String;)Z"⟩, prog_14_method_23_code, 3, some .boolean), 1, 0, 0, 12, abK190)
set_option maxRecDepth 20000 in
noncomputable def abK191 : Lean.RArray abEy := .branch 82 (.branch 42 (.branch 20 (.branch 11 (.branch 4 (.branch 1 (.leaf (13, 0, 0, 0, 0, [])) (.leaf (78, 1, 186, 0, 177, [1516, 1518, 38]))) (.branch 7 (.leaf (46, 4, 50, 0, 0, [])) (.branch 8 (.leaf (13, 7, 0, 0, 0, [])) (.leaf (60, 8, 12, 10, 156, [1353]))))) (.branch 15 (.branch 12 (.leaf (1, 11, 0, 0, 9223372036854775810, [])) (.leaf (53, 12, 50, 0, 0, []))) (.branch 16 (.leaf (13, 15, 0, 0, 0, [])) (.branch 19 (.leaf (60, 16, 12, 11, 167, [1354])) (.leaf (40, 19, 0, 0, 0, [])))))) (.branch 31 (.branch 24 (.branch 21 (.leaf (6, 20, 0, 0, 9223372036854775808, [])) (.leaf (7, 21, 116, 0, 9223372036854775813, [1546]))) (.branch 27 (.leaf (79, 24, 176, 0, 118, [1472, 1473])) (.branch 30 (.leaf (46, 27, 50, 0, 0, [])) (.leaf (13, 30, 0, 0, 0, []))))) (.branch 35 (.branch 34 (.leaf (60, 31, 12, 14, 34, [1357])) (.leaf (13, 34, 0, 0, 0, []))) (.branch 38 (.leaf (60, 35, 12, 11, 167, [1354])) (.branch 41 (.leaf (79, 38, 173, 0, 108, [1337, 1338])) (.leaf (64, 41, 0, 0, 0, []))))))) (.branch 60 (.branch 51 (.branch 46 (.branch 45 (.leaf (51, 42, 50, 0, 0, [])) (.leaf (13, 45, 0, 0, 0, []))) (.branch 47 (.leaf (1, 46, 0, 0, 9223372036854775810, [])) (.branch 50 (.leaf (78, 47, 189, 0, 198, [1534, 1536, 41])) (.leaf (13, 50, 0, 0, 0, []))))) (.branch 53 (.branch 52 (.leaf (1, 51, 0, 0, 9223372036854775808, [])) (.leaf (1, 52, 0, 0, 9223372036854775813, []))) (.branch 56 (.leaf (78, 53, 192, 0, 204, [1547, 1549, 44])) (.branch 57 (.leaf (15, 56, 0, 1, 0, [])) (.leaf (13, 57, 0, 0, 0, [])))))) (.branch 68 (.branch 63 (.branch 61 (.leaf (1, 60, 0, 0, 9223372036854775809, [])) (.leaf (2, 61, 0, 0, 9223372036854775820, []))) (.branch 66 (.leaf (78, 63, 193, 0, 220, [1552, 1554, 45])) (.branch 67 (.leaf (15, 66, 0, 2, 0, [])) (.leaf (9, 67, 0, 1, 0, []))))) (.branch 75 (.branch 71 (.leaf (79, 68, 173, 0, 108, [1337, 1338])) (.branch 72 (.leaf (15, 71, 0, 3, 0, [])) (.leaf (13, 72, 0, 0, 0, [])))) (.branch 76 (.leaf (1, 75, 0, 0, 9223372036854775809, [])) (.branch 79 (.leaf (3, 76, 0, 0, 9223372036854776808, [])) (.leaf (78, 79, 193, 0, 220, [1552, 1554, 45])))))))) (.branch 122 (.branch 104 (.branch 93 (.branch 87 (.branch 84 (.leaf (14, 82, 0, 4, 0, [])) (.leaf (13, 84, 0, 0, 0, []))) (.branch 88 (.leaf (1, 87, 0, 0, 9223372036854775809, [])) (.branch 90 (.leaf (2, 88, 0, 0, 9223372036854775907, [])) (.leaf (78, 90, 193, 0, 220, [1552, 1554, 45]))))) (.branch 98 (.branch 95 (.leaf (14, 93, 0, 5, 0, [])) (.leaf (13, 95, 0, 0, 0, []))) (.branch 99 (.leaf (1, 98, 0, 0, 9223372036854775808, [])) (.branch 101 (.leaf (2, 99, 0, 0, 9223372036854775898, [])) (.leaf (78, 101, 193, 0, 220, [1552, 1554, 45])))))) (.branch 114 (.branch 107 (.branch 106 (.leaf (14, 104, 0, 6, 0, [])) (.leaf (13, 106, 0, 0, 0, []))) (.branch 110 (.leaf (78, 107, 186, 0, 177, [1516, 1518, 38])) (.branch 113 (.leaf (47, 110, 114, 0, 0, [])) (.leaf (82, 113, 0, 0, 0, []))))) (.branch 119 (.branch 115 (.leaf (13, 114, 0, 0, 0, [])) (.branch 118 (.leaf (60, 115, 12, 14, 34, [1357])) (.leaf (9, 118, 0, 3, 0, [])))) (.branch 120 (.leaf (9, 119, 0, 2, 0, [])) (.branch 121 (.leaf (69, 120, 0, 0, 0, [])) (.leaf (13, 121, 0, 0, 0, []))))))) (.branch 137 (.branch 130 (.branch 126 (.branch 125 (.leaf (60, 122, 12, 14, 34, [1357])) (.leaf (9, 125, 0, 3, 0, []))) (.branch 127 (.leaf (1, 126, 0, 0, 9223372036854775809, [])) (.branch 128 (.leaf (21, 127, 0, 0, 0, [])) (.leaf (8, 128, 0, 4, 0, []))))) (.branch 132 (.branch 131 (.leaf (69, 130, 0, 0, 0, [])) (.leaf (13, 131, 0, 0, 0, []))) (.branch 135 (.leaf (60, 132, 12, 14, 34, [1357])) (.branch 136 (.leaf (9, 135, 0, 3, 0, [])) (.leaf (1, 136, 0, 0, 9223372036854775810, [])))))) (.branch 145 (.branch 140 (.branch 138 (.leaf (21, 137, 0, 0, 0, [])) (.leaf (8, 138, 0, 5, 0, []))) (.branch 141 (.leaf (69, 140, 0, 0, 0, [])) (.branch 142 (.leaf (13, 141, 0, 0, 0, [])) (.leaf (60, 142, 12, 14, 34, [1357]))))) (.branch 148 (.branch 146 (.leaf (9, 145, 0, 3, 0, [])) (.branch 147 (.leaf (1, 146, 0, 0, 9223372036854775811, [])) (.leaf (21, 147, 0, 0, 0, [])))) (.branch 150 (.leaf (8, 148, 0, 6, 0, [])) (.branch 151 (.leaf (69, 150, 0, 0, 0, [])) (.leaf (82, 151, 0, 0, 0, []))))))))
noncomputable def abM191 : abM := ((⟨"TallBinsModel", "readBin", "()V"⟩, prog_14_method_28_code, 7, none), 0, 0, 0, 12, abK191)
set_option maxRecDepth 20000 in
noncomputable def abK192 : Lean.RArray abEy := .branch 34 (.branch 17 (.branch 8 (.branch 4 (.branch 1 (.leaf (13, 0, 0, 0, 0, [])) (.leaf (78, 1, 186, 0, 177, [1516, 1518, 38]))) (.branch 7 (.leaf (46, 4, 20, 0, 0, [])) (.leaf (13, 7, 0, 0, 0, [])))) (.branch 12 (.branch 11 (.leaf (60, 8, 12, 10, 156, [1353])) (.leaf (1, 11, 0, 0, 9223372036854775810, []))) (.branch 15 (.leaf (52, 12, 20, 0, 0, [])) (.branch 16 (.leaf (13, 15, 0, 0, 0, [])) (.leaf (1, 16, 0, 0, 9223372036854775809, [])))))) (.branch 27 (.branch 21 (.branch 20 (.leaf (78, 17, 189, 0, 198, [1534, 1536, 41])) (.leaf (13, 20, 0, 0, 0, []))) (.branch 24 (.leaf (78, 21, 186, 0, 177, [1516, 1518, 38])) (.leaf (46, 24, 47, 0, 0, [])))) (.branch 31 (.branch 28 (.leaf (13, 27, 0, 0, 0, [])) (.leaf (60, 28, 12, 11, 167, [1354]))) (.branch 32 (.leaf (40, 31, 0, 0, 0, [])) (.branch 33 (.leaf (9, 32, 0, 1, 0, [])) (.leaf (40, 33, 0, 0, 0, []))))))) (.branch 51 (.branch 42 (.branch 36 (.branch 35 (.leaf (9, 34, 0, 2, 0, [])) (.leaf (40, 35, 0, 0, 0, []))) (.branch 39 (.leaf (79, 36, 176, 0, 118, [1472, 1473])) (.leaf (47, 39, 47, 0, 0, [])))) (.branch 44 (.branch 43 (.leaf (13, 42, 0, 0, 0, [])) (.leaf (1, 43, 0, 0, 9223372036854775810, []))) (.branch 47 (.leaf (78, 44, 189, 0, 198, [1534, 1536, 41])) (.branch 48 (.leaf (13, 47, 0, 0, 0, [])) (.leaf (78, 48, 186, 0, 177, [1516, 1518, 38])))))) (.branch 60 (.branch 55 (.branch 54 (.leaf (47, 51, 56, 0, 0, [])) (.leaf (1, 54, 0, 0, 9223372036854775808, []))) (.branch 56 (.leaf (83, 55, 0, 0, 0, [])) (.branch 57 (.leaf (13, 56, 0, 0, 0, [])) (.leaf (60, 57, 12, 11, 167, [1354]))))) (.branch 62 (.branch 61 (.leaf (15, 60, 0, 3, 0, [])) (.leaf (13, 61, 0, 0, 0, []))) (.branch 65 (.leaf (78, 62, 184, 0, 195, [1502, 1504, 36])) (.branch 66 (.leaf (9, 65, 0, 3, 0, [])) (.leaf (83, 66, 0, 0, 0, [])))))))
noncomputable def abM192 : abM := ((⟨"TallBinsModel", "number", "(II)I"⟩, prog_14_method_25_code, 4, some .int), 2, 0, 0, 12, abK192)
set_option maxRecDepth 20000 in
noncomputable def abK193 : Lean.RArray abEy := .branch 10 (.branch 5 (.branch 1 (.leaf (13, 0, 0, 0, 0, [])) (.branch 2 (.leaf (13, 1, 0, 1, 0, [])) (.leaf (78, 2, 190, 0, 201, [1538, 1540, 42])))) (.branch 8 (.leaf (47, 5, 13, 0, 0, [])) (.branch 9 (.leaf (13, 8, 0, 0, 0, [])) (.leaf (1, 9, 0, 0, 9223372036854775809, []))))) (.branch 15 (.branch 13 (.leaf (78, 10, 189, 0, 198, [1534, 1536, 41])) (.branch 14 (.leaf (13, 13, 0, 0, 0, [])) (.leaf (9, 14, 0, 2, 0, [])))) (.branch 16 (.leaf (9, 15, 0, 3, 0, [])) (.branch 19 (.leaf (78, 16, 192, 0, 204, [1547, 1549, 44])) (.leaf (83, 19, 0, 0, 0, [])))))
noncomputable def abM193 : abM := ((⟨"TallBinsModel", "told", "(Ljava/lang/String;II)I"⟩, prog_14_method_26_code, 4, some .int), 3, 0, 0, 12, abK193)
set_option maxRecDepth 20000 in
noncomputable def abK194 : Lean.RArray abEy := .branch 73 (.branch 39 (.branch 19 (.branch 8 (.branch 4 (.branch 1 (.leaf (13, 0, 0, 0, 0, [])) (.leaf (78, 1, 186, 0, 177, [1516, 1518, 38]))) (.branch 7 (.leaf (46, 4, 47, 0, 0, [])) (.leaf (13, 7, 0, 0, 0, [])))) (.branch 12 (.branch 11 (.leaf (60, 8, 12, 10, 156, [1353])) (.leaf (1, 11, 0, 0, 9223372036854775810, []))) (.branch 15 (.leaf (53, 12, 47, 0, 0, [])) (.branch 16 (.leaf (13, 15, 0, 0, 0, [])) (.leaf (60, 16, 12, 11, 167, [1354])))))) (.branch 30 (.branch 21 (.branch 20 (.leaf (40, 19, 0, 0, 0, [])) (.leaf (6, 20, 0, 0, 9223372036854775808, []))) (.branch 24 (.leaf (7, 21, 230, 0, 9223372036854775811, [1563])) (.branch 27 (.leaf (79, 24, 176, 0, 118, [1472, 1473])) (.leaf (46, 27, 47, 0, 0, []))))) (.branch 34 (.branch 31 (.leaf (13, 30, 0, 0, 0, [])) (.leaf (60, 31, 12, 15, 37, [1358]))) (.branch 35 (.leaf (13, 34, 0, 0, 0, [])) (.branch 38 (.leaf (60, 35, 12, 11, 167, [1354])) (.leaf (65, 38, 0, 0, 0, []))))))) (.branch 55 (.branch 48 (.branch 43 (.branch 42 (.leaf (46, 39, 47, 0, 0, [])) (.leaf (13, 42, 0, 0, 0, []))) (.branch 44 (.leaf (1, 43, 0, 0, 9223372036854775810, [])) (.branch 47 (.leaf (78, 44, 189, 0, 198, [1534, 1536, 41])) (.leaf (13, 47, 0, 0, 0, []))))) (.branch 50 (.branch 49 (.leaf (1, 48, 0, 0, 9223372036854775808, [])) (.leaf (1, 49, 0, 0, 9223372036854775811, []))) (.branch 53 (.leaf (78, 50, 192, 0, 204, [1547, 1549, 44])) (.branch 54 (.leaf (15, 53, 0, 1, 0, [])) (.leaf (13, 54, 0, 0, 0, [])))))) (.branch 66 (.branch 61 (.branch 58 (.leaf (78, 55, 186, 0, 177, [1516, 1518, 38])) (.leaf (47, 58, 62, 0, 0, []))) (.branch 62 (.leaf (82, 61, 0, 0, 0, [])) (.branch 63 (.leaf (13, 62, 0, 0, 0, [])) (.leaf (60, 63, 12, 15, 37, [1358]))))) (.branch 68 (.branch 67 (.leaf (9, 66, 0, 1, 0, [])) (.leaf (1, 67, 0, 0, 9223372036854775809, []))) (.branch 69 (.leaf (70, 68, 0, 0, 0, [])) (.branch 70 (.leaf (13, 69, 0, 0, 0, [])) (.leaf (60, 70, 12, 14, 34, [1357])))))))) (.branch 101 (.branch 88 (.branch 78 (.branch 76 (.branch 75 (.leaf (2, 73, 0, 0, 9223372036854775836, [])) (.leaf (1, 75, 0, 0, 9223372036854775811, []))) (.branch 77 (.leaf (9, 76, 0, 1, 0, [])) (.leaf (23, 77, 0, 0, 0, [])))) (.branch 82 (.branch 79 (.leaf (21, 78, 0, 0, 0, [])) (.leaf (13, 79, 0, 0, 0, []))) (.branch 83 (.leaf (1, 82, 0, 0, 9223372036854775809, [])) (.branch 85 (.leaf (2, 83, 0, 0, 9223372036854775858, [])) (.leaf (78, 85, 193, 0, 220, [1552, 1554, 45])))))) (.branch 96 (.branch 90 (.branch 89 (.leaf (69, 88, 0, 0, 0, [])) (.leaf (13, 89, 0, 0, 0, []))) (.branch 93 (.leaf (60, 90, 12, 14, 34, [1357])) (.branch 95 (.leaf (2, 93, 0, 0, 9223372036854775836, [])) (.leaf (1, 95, 0, 0, 9223372036854775811, []))))) (.branch 98 (.branch 97 (.leaf (9, 96, 0, 1, 0, [])) (.leaf (23, 97, 0, 0, 0, []))) (.branch 99 (.leaf (21, 98, 0, 0, 0, [])) (.branch 100 (.leaf (1, 99, 0, 0, 9223372036854775809, [])) (.leaf (21, 100, 0, 0, 0, []))))))) (.branch 119 (.branch 111 (.branch 105 (.branch 104 (.leaf (13, 101, 0, 0, 0, [])) (.leaf (1, 104, 0, 0, 9223372036854775808, []))) (.branch 107 (.leaf (2, 105, 0, 0, 9223372036854775907, [])) (.branch 110 (.leaf (78, 107, 193, 0, 220, [1552, 1554, 45])) (.leaf (69, 110, 0, 0, 0, []))))) (.branch 115 (.branch 112 (.leaf (13, 111, 0, 0, 0, [])) (.leaf (60, 112, 12, 14, 34, [1357]))) (.branch 117 (.leaf (2, 115, 0, 0, 9223372036854775836, [])) (.branch 118 (.leaf (1, 117, 0, 0, 9223372036854775811, [])) (.leaf (9, 118, 0, 1, 0, [])))))) (.branch 126 (.branch 121 (.branch 120 (.leaf (23, 119, 0, 0, 0, [])) (.leaf (21, 120, 0, 0, 0, []))) (.branch 122 (.leaf (1, 121, 0, 0, 9223372036854775810, [])) (.branch 123 (.leaf (21, 122, 0, 0, 0, [])) (.leaf (13, 123, 0, 0, 0, []))))) (.branch 130 (.branch 127 (.leaf (1, 126, 0, 0, 9223372036854775808, [])) (.leaf (3, 127, 0, 0, 9223372036854776807, []))) (.branch 133 (.leaf (78, 130, 193, 0, 220, [1552, 1554, 45])) (.branch 134 (.leaf (69, 133, 0, 0, 0, [])) (.leaf (82, 134, 0, 0, 0, []))))))))
noncomputable def abM194 : abM := ((⟨"TallBinsModel", "readGrain", "()V"⟩, prog_14_method_29_code, 2, none), 0, 0, 0, 12, abK194)
set_option maxRecDepth 20000 in
noncomputable def abK195 : Lean.RArray abEy := .branch 32 (.branch 16 (.branch 11 (.branch 5 (.branch 3 (.leaf (3, 0, 0, 0, 9223372036854775938, [])) (.leaf (2, 3, 0, 0, 9223372036854775821, []))) (.branch 6 (.leaf (13, 5, 0, 0, 0, [])) (.branch 9 (.leaf (60, 6, 12, 14, 34, [1357])) (.leaf (2, 9, 0, 0, 9223372036854775815, []))))) (.branch 13 (.branch 12 (.leaf (64, 11, 0, 0, 0, [])) (.leaf (23, 12, 0, 0, 0, []))) (.branch 14 (.leaf (21, 13, 0, 0, 0, [])) (.branch 15 (.leaf (15, 14, 0, 1, 0, [])) (.leaf (13, 15, 0, 0, 0, [])))))) (.branch 23 (.branch 20 (.branch 19 (.leaf (60, 16, 12, 14, 34, [1357])) (.leaf (9, 19, 0, 1, 0, []))) (.branch 21 (.leaf (1, 20, 0, 0, 9223372036854775808, [])) (.branch 22 (.leaf (69, 21, 0, 0, 0, [])) (.leaf (1, 22, 0, 0, 9223372036854775809, []))))) (.branch 25 (.branch 24 (.leaf (15, 23, 0, 2, 0, [])) (.leaf (9, 24, 0, 2, 0, []))) (.branch 28 (.leaf (46, 25, 50, 0, 0, [])) (.branch 29 (.leaf (13, 28, 0, 0, 0, [])) (.leaf (78, 29, 186, 0, 177, [1516, 1518, 38]))))))) (.branch 54 (.branch 43 (.branch 36 (.branch 35 (.leaf (46, 32, 50, 0, 0, [])) (.leaf (13, 35, 0, 0, 0, []))) (.branch 37 (.leaf (9, 36, 0, 1, 0, [])) (.branch 40 (.leaf (78, 37, 196, 0, 246, [1571, 1573, 48])) (.leaf (13, 40, 0, 0, 0, []))))) (.branch 47 (.branch 46 (.leaf (78, 43, 190, 0, 201, [1538, 1540, 42])) (.leaf (15, 46, 0, 2, 0, []))) (.branch 50 (.leaf (58, 47, 24, 0, 0, [])) (.branch 51 (.leaf (13, 50, 0, 0, 0, [])) (.leaf (78, 51, 186, 0, 177, [1516, 1518, 38])))))) (.branch 64 (.branch 58 (.branch 57 (.leaf (46, 54, 68, 0, 0, [])) (.leaf (13, 57, 0, 0, 0, []))) (.branch 61 (.leaf (60, 58, 12, 14, 34, [1357])) (.branch 63 (.leaf (2, 61, 0, 0, 9223372036854775815, [])) (.leaf (45, 63, 0, 0, 0, []))))) (.branch 66 (.branch 65 (.leaf (64, 64, 0, 0, 0, [])) (.leaf (1, 65, 0, 0, 9223372036854775809, []))) (.branch 67 (.leaf (21, 66, 0, 0, 0, [])) (.branch 68 (.leaf (69, 67, 0, 0, 0, [])) (.leaf (82, 68, 0, 0, 0, [])))))))
noncomputable def abM195 : abM := ((⟨"TallBinsModel", "readBar", "()V"⟩, prog_14_method_31_code, 3, none), 0, 0, 0, 12, abK195)
set_option maxRecDepth 20000 in
noncomputable def abK196 : Lean.RArray abEy := .branch 120 (.branch 59 (.branch 30 (.branch 18 (.branch 10 (.branch 6 (.branch 3 (.leaf (13, 0, 0, 0, 0, [])) (.leaf (78, 3, 188, 0, 191, [1525, 1527, 40]))) (.branch 9 (.leaf (47, 6, 17, 0, 0, [])) (.leaf (13, 9, 0, 0, 0, [])))) (.branch 14 (.branch 13 (.leaf (78, 10, 197, 0, 240, [1576, 1578, 49])) (.leaf (1, 13, 0, 0, 9223372036854775807, []))) (.branch 17 (.leaf (52, 14, 21, 0, 0, [])) (.leaf (1, 17, 0, 0, 9223372036854775809, []))))) (.branch 24 (.branch 22 (.branch 21 (.leaf (58, 18, 22, 0, 0, [])) (.leaf (1, 21, 0, 0, 9223372036854775808, []))) (.branch 23 (.leaf (15, 22, 0, 2, 0, [])) (.leaf (13, 23, 0, 0, 0, [])))) (.branch 28 (.branch 27 (.leaf (60, 24, 12, 14, 34, [1357])) (.leaf (9, 27, 0, 1, 0, []))) (.branch 29 (.leaf (64, 28, 0, 0, 0, [])) (.leaf (1, 29, 0, 0, 9223372036854775811, [])))))) (.branch 46 (.branch 38 (.branch 34 (.branch 33 (.leaf (53, 30, 46, 0, 0, [])) (.leaf (13, 33, 0, 0, 0, []))) (.branch 35 (.leaf (9, 34, 0, 2, 0, [])) (.leaf (46, 35, 42, 0, 0, [])))) (.branch 42 (.branch 39 (.leaf (1, 38, 0, 0, 9223372036854775811, [])) (.leaf (58, 39, 43, 0, 0, []))) (.branch 43 (.leaf (1, 42, 0, 0, 9223372036854775809, [])) (.leaf (78, 43, 189, 0, 198, [1534, 1536, 41]))))) (.branch 54 (.branch 50 (.branch 47 (.leaf (13, 46, 0, 0, 0, [])) (.leaf (78, 47, 186, 0, 177, [1516, 1518, 38]))) (.branch 53 (.leaf (47, 50, 54, 0, 0, [])) (.leaf (82, 53, 0, 0, 0, [])))) (.branch 56 (.branch 55 (.leaf (9, 54, 0, 1, 0, [])) (.leaf (1, 55, 0, 0, 9223372036854775809, []))) (.branch 57 (.leaf (21, 56, 0, 0, 0, [])) (.branch 58 (.leaf (1, 57, 0, 0, 9223372036854775812, [])) (.leaf (13, 58, 0, 0, 0, [])))))))) (.branch 87 (.branch 71 (.branch 65 (.branch 63 (.branch 62 (.leaf (60, 59, 12, 14, 34, [1357])) (.leaf (9, 62, 0, 1, 0, []))) (.branch 64 (.leaf (64, 63, 0, 0, 0, [])) (.leaf (23, 64, 0, 0, 0, [])))) (.branch 67 (.branch 66 (.leaf (21, 65, 0, 0, 0, [])) (.leaf (15, 66, 0, 3, 0, []))) (.branch 68 (.leaf (13, 67, 0, 0, 0, [])) (.leaf (60, 68, 12, 14, 34, [1357]))))) (.branch 81 (.branch 75 (.branch 72 (.leaf (9, 71, 0, 3, 0, [])) (.leaf (13, 72, 0, 0, 0, []))) (.branch 78 (.leaf (78, 75, 190, 0, 201, [1538, 1540, 42])) (.leaf (46, 78, 85, 0, 0, [])))) (.branch 85 (.branch 82 (.leaf (1, 81, 0, 0, 9223372036854775809, [])) (.leaf (58, 82, 86, 0, 0, []))) (.branch 86 (.leaf (1, 85, 0, 0, 9223372036854775808, [])) (.leaf (69, 86, 0, 0, 0, [])))))) (.branch 101 (.branch 95 (.branch 91 (.branch 88 (.leaf (13, 87, 0, 0, 0, [])) (.leaf (78, 88, 197, 0, 240, [1576, 1578, 49]))) (.branch 93 (.leaf (14, 91, 0, 4, 0, [])) (.leaf (8, 93, 0, 4, 0, [])))) (.branch 99 (.branch 96 (.leaf (1, 95, 0, 0, 9223372036854775807, [])) (.leaf (53, 96, 104, 0, 0, []))) (.branch 100 (.leaf (13, 99, 0, 0, 0, [])) (.leaf (1, 100, 0, 0, 9223372036854775809, []))))) (.branch 111 (.branch 105 (.branch 104 (.leaf (78, 101, 189, 0, 198, [1534, 1536, 41])) (.leaf (13, 104, 0, 0, 0, []))) (.branch 108 (.leaf (78, 105, 186, 0, 177, [1516, 1518, 38])) (.leaf (47, 108, 112, 0, 0, [])))) (.branch 113 (.branch 112 (.leaf (82, 111, 0, 0, 0, [])) (.leaf (13, 112, 0, 0, 0, []))) (.branch 116 (.leaf (78, 113, 184, 0, 195, [1502, 1504, 36])) (.branch 117 (.leaf (13, 116, 0, 0, 0, [])) (.leaf (60, 117, 12, 14, 34, [1357]))))))))) (.branch 173 (.branch 141 (.branch 131 (.branch 125 (.branch 122 (.branch 121 (.leaf (9, 120, 0, 3, 0, [])) (.leaf (1, 121, 0, 0, 9223372036854775809, []))) (.branch 123 (.leaf (21, 122, 0, 0, 0, [])) (.leaf (8, 123, 0, 4, 0, [])))) (.branch 127 (.branch 126 (.leaf (69, 125, 0, 0, 0, [])) (.leaf (13, 126, 0, 0, 0, []))) (.branch 130 (.leaf (60, 127, 12, 14, 34, [1357])) (.leaf (9, 130, 0, 3, 0, []))))) (.branch 135 (.branch 133 (.branch 132 (.leaf (1, 131, 0, 0, 9223372036854775810, [])) (.leaf (21, 132, 0, 0, 0, []))) (.branch 134 (.leaf (1, 133, 0, 0, 9223372036854775808, [])) (.leaf (69, 134, 0, 0, 0, [])))) (.branch 139 (.branch 136 (.leaf (13, 135, 0, 0, 0, [])) (.leaf (60, 136, 12, 14, 34, [1357]))) (.branch 140 (.leaf (9, 139, 0, 3, 0, [])) (.leaf (1, 140, 0, 0, 9223372036854775811, [])))))) (.branch 153 (.branch 146 (.branch 143 (.branch 142 (.leaf (21, 141, 0, 0, 0, [])) (.leaf (1, 142, 0, 0, 9223372036854775808, []))) (.branch 144 (.leaf (69, 143, 0, 0, 0, [])) (.leaf (8, 144, 0, 4, 0, [])))) (.branch 150 (.branch 147 (.leaf (1, 146, 0, 0, 9223372036854775812, [])) (.leaf (55, 147, 213, 0, 0, []))) (.branch 151 (.leaf (13, 150, 0, 0, 0, [])) (.leaf (2, 151, 0, 0, 9223372036854775868, []))))) (.branch 162 (.branch 159 (.branch 156 (.leaf (78, 153, 198, 0, 243, [1586, 1588, 50])) (.leaf (47, 156, 173, 0, 0, []))) (.branch 160 (.leaf (13, 159, 0, 0, 0, [])) (.leaf (2, 160, 0, 0, 9223372036854775870, [])))) (.branch 168 (.branch 165 (.leaf (78, 162, 198, 0, 243, [1586, 1588, 50])) (.leaf (47, 165, 173, 0, 0, []))) (.branch 169 (.leaf (13, 168, 0, 0, 0, [])) (.branch 170 (.leaf (1, 169, 0, 0, 9223372036854775809, [])) (.leaf (78, 170, 189, 0, 198, [1534, 1536, 41])))))))) (.branch 201 (.branch 187 (.branch 181 (.branch 177 (.branch 174 (.leaf (13, 173, 0, 0, 0, [])) (.leaf (78, 174, 186, 0, 177, [1516, 1518, 38]))) (.branch 180 (.leaf (47, 177, 181, 0, 0, [])) (.leaf (82, 180, 0, 0, 0, [])))) (.branch 185 (.branch 182 (.leaf (13, 181, 0, 0, 0, [])) (.leaf (60, 182, 12, 14, 34, [1357]))) (.branch 186 (.leaf (9, 185, 0, 3, 0, [])) (.leaf (1, 186, 0, 0, 9223372036854775810, []))))) (.branch 193 (.branch 189 (.branch 188 (.leaf (21, 187, 0, 0, 0, [])) (.leaf (13, 188, 0, 0, 0, []))) (.branch 192 (.leaf (60, 189, 12, 11, 167, [1354])) (.leaf (69, 192, 0, 0, 0, [])))) (.branch 197 (.branch 194 (.leaf (13, 193, 0, 0, 0, [])) (.leaf (78, 194, 184, 0, 195, [1502, 1504, 36]))) (.branch 198 (.leaf (13, 197, 0, 0, 0, [])) (.leaf (60, 198, 12, 14, 34, [1357])))))) (.branch 213 (.branch 205 (.branch 203 (.branch 202 (.leaf (9, 201, 0, 3, 0, [])) (.leaf (1, 202, 0, 0, 9223372036854775811, []))) (.branch 204 (.leaf (21, 203, 0, 0, 0, [])) (.leaf (13, 204, 0, 0, 0, [])))) (.branch 209 (.branch 206 (.leaf (1, 205, 0, 0, 9223372036854775808, [])) (.leaf (3, 206, 0, 0, 9223372036854785807, []))) (.branch 212 (.leaf (78, 209, 192, 0, 204, [1547, 1549, 44])) (.leaf (69, 212, 0, 0, 0, []))))) (.branch 219 (.branch 217 (.branch 214 (.leaf (13, 213, 0, 0, 0, [])) (.leaf (60, 214, 12, 14, 34, [1357]))) (.branch 218 (.leaf (9, 217, 0, 1, 0, [])) (.leaf (45, 218, 0, 0, 0, [])))) (.branch 221 (.branch 220 (.leaf (64, 219, 0, 0, 0, [])) (.leaf (1, 220, 0, 0, 9223372036854775809, []))) (.branch 222 (.leaf (21, 221, 0, 0, 0, [])) (.branch 223 (.leaf (69, 222, 0, 0, 0, [])) (.leaf (82, 223, 0, 0, 0, [])))))))))
noncomputable def abM196 : abM := ((⟨"TallBinsModel", "readCond", "(I)V"⟩, prog_14_method_30_code, 5, none), 1, 0, 0, 12, abK196)
set_option maxRecDepth 20000 in
noncomputable def abK197 : Lean.RArray abEy := .branch 42 (.branch 22 (.branch 10 (.branch 6 (.branch 3 (.leaf (13, 0, 0, 0, 0, [])) (.leaf (78, 3, 188, 0, 191, [1525, 1527, 40]))) (.branch 9 (.leaf (46, 6, 13, 0, 0, [])) (.leaf (1, 9, 0, 0, 9223372036854775808, [])))) (.branch 16 (.branch 13 (.leaf (58, 10, 79, 0, 0, [])) (.leaf (13, 13, 0, 0, 0, []))) (.branch 19 (.leaf (78, 16, 188, 0, 191, [1525, 1527, 40])) (.leaf (46, 19, 26, 0, 0, []))))) (.branch 32 (.branch 26 (.branch 23 (.leaf (1, 22, 0, 0, 9223372036854775809, [])) (.leaf (58, 23, 79, 0, 0, []))) (.branch 29 (.leaf (13, 26, 0, 0, 0, [])) (.leaf (78, 29, 188, 0, 191, [1525, 1527, 40])))) (.branch 36 (.branch 35 (.leaf (46, 32, 39, 0, 0, [])) (.leaf (1, 35, 0, 0, 9223372036854775810, []))) (.branch 39 (.leaf (58, 36, 79, 0, 0, [])) (.leaf (13, 39, 0, 0, 0, [])))))) (.branch 62 (.branch 52 (.branch 48 (.branch 45 (.leaf (78, 42, 188, 0, 191, [1525, 1527, 40])) (.leaf (46, 45, 52, 0, 0, []))) (.branch 49 (.leaf (1, 48, 0, 0, 9223372036854775811, [])) (.leaf (58, 49, 79, 0, 0, [])))) (.branch 58 (.branch 55 (.leaf (13, 52, 0, 0, 0, [])) (.leaf (78, 55, 188, 0, 191, [1525, 1527, 40]))) (.branch 61 (.leaf (46, 58, 65, 0, 0, [])) (.leaf (1, 61, 0, 0, 9223372036854775812, []))))) (.branch 74 (.branch 68 (.branch 65 (.leaf (58, 62, 79, 0, 0, [])) (.leaf (13, 65, 0, 0, 0, []))) (.branch 71 (.leaf (78, 68, 188, 0, 191, [1525, 1527, 40])) (.leaf (46, 71, 78, 0, 0, [])))) (.branch 78 (.branch 75 (.leaf (1, 74, 0, 0, 9223372036854775813, [])) (.leaf (58, 75, 79, 0, 0, []))) (.branch 79 (.leaf (1, 78, 0, 0, 9223372036854775807, [])) (.leaf (83, 79, 0, 0, 0, []))))))
noncomputable def abM197 : abM := ((⟨"TallBinsModel", "wordHere", "()I"⟩, prog_14_method_27_code, 1, some .int), 0, 0, 0, 12, abK197)
set_option maxRecDepth 20000 in
noncomputable def abK198 : Lean.RArray abEy := .branch 15 (.branch 7 (.branch 1 (.leaf (13, 0, 0, 0, 0, [])) (.branch 4 (.leaf (78, 1, 186, 0, 177, [1516, 1518, 38])) (.leaf (46, 4, 27, 0, 0, [])))) (.branch 11 (.branch 8 (.leaf (13, 7, 0, 0, 0, [])) (.leaf (60, 8, 12, 10, 156, [1353]))) (.branch 12 (.leaf (1, 11, 0, 0, 9223372036854775811, [])) (.leaf (53, 12, 27, 0, 0, []))))) (.branch 23 (.branch 19 (.branch 16 (.leaf (13, 15, 0, 0, 0, [])) (.leaf (60, 16, 12, 11, 167, [1354]))) (.branch 20 (.leaf (9, 19, 0, 1, 0, [])) (.leaf (53, 20, 27, 0, 0, [])))) (.branch 27 (.branch 24 (.leaf (1, 23, 0, 0, 9223372036854775809, [])) (.leaf (58, 24, 28, 0, 0, []))) (.branch 28 (.leaf (1, 27, 0, 0, 9223372036854775808, [])) (.leaf (83, 28, 1, 0, 0, [])))))
noncomputable def abM198 : abM := ((⟨"TallBinsModel", "isSign", "(I)Z"⟩, prog_14_method_24_code, 2, some .boolean), 1, 0, 0, 12, abK198)
set_option maxRecDepth 20000 in
noncomputable def abK199 : Lean.RArray abEy := .branch 12 (.branch 5 (.branch 1 (.leaf (9, 0, 0, 1, 0, [])) (.branch 4 (.leaf (47, 1, 11, 0, 0, [])) (.leaf (13, 4, 0, 0, 0, [])))) (.branch 8 (.leaf (60, 5, 12, 12, 174, [1355])) (.branch 11 (.leaf (58, 8, 24, 0, 0, [])) (.leaf (9, 11, 0, 1, 0, []))))) (.branch 17 (.branch 13 (.leaf (1, 12, 0, 0, 9223372036854775809, [])) (.branch 16 (.leaf (53, 13, 23, 0, 0, [])) (.leaf (13, 16, 0, 0, 0, [])))) (.branch 23 (.branch 20 (.leaf (60, 17, 12, 13, 31, [1356])) (.leaf (58, 20, 24, 0, 0, []))) (.branch 24 (.leaf (1, 23, 0, 0, 9223372036854775807, [])) (.leaf (83, 24, 0, 0, 0, [])))))
noncomputable def abM199 : abM := ((⟨"TallBinsModel", "fault", "(I)I"⟩, prog_14_method_34_code, 2, some .int), 1, 0, 0, 12, abK199)
set_option maxRecDepth 20000 in
noncomputable def abK200 : Lean.RArray abEy := .branch 157 (.branch 78 (.branch 39 (.branch 19 (.branch 6 (.branch 2 (.branch 1 (.leaf (13, 0, 0, 0, 0, [])) (.leaf (9, 1, 0, 1, 0, []))) (.branch 3 (.leaf (9, 2, 0, 2, 0, [])) (.branch 4 (.leaf (9, 3, 0, 3, 0, [])) (.leaf (8, 4, 0, 4, 0, []))))) (.branch 13 (.branch 8 (.leaf (8, 6, 0, 5, 0, [])) (.branch 10 (.leaf (8, 8, 0, 6, 0, [])) (.leaf (78, 10, 201, 0, 295, [1602, 1604, 51])))) (.branch 16 (.leaf (47, 13, 19, 0, 0, [])) (.branch 18 (.leaf (2, 16, 0, 0, 9223372036854775806, [])) (.leaf (83, 18, 0, 0, 0, [])))))) (.branch 31 (.branch 25 (.branch 20 (.leaf (9, 19, 0, 1, 0, [])) (.branch 23 (.leaf (79, 20, 173, 0, 108, [1337, 1338])) (.leaf (14, 23, 0, 7, 0, [])))) (.branch 26 (.leaf (13, 25, 0, 0, 0, [])) (.branch 29 (.leaf (60, 26, 12, 1, 13, [1344])) (.leaf (8, 29, 0, 7, 0, []))))) (.branch 34 (.branch 32 (.leaf (1, 31, 0, 0, 9223372036854775812, [])) (.branch 33 (.leaf (21, 32, 0, 0, 0, [])) (.leaf (64, 33, 0, 0, 0, [])))) (.branch 35 (.leaf (1, 34, 0, 0, 9223372036854775807, [])) (.branch 38 (.leaf (52, 35, 51, 0, 0, [])) (.leaf (13, 38, 0, 0, 0, []))))))) (.branch 57 (.branch 47 (.branch 44 (.branch 42 (.leaf (60, 39, 12, 1, 13, [1344])) (.leaf (8, 42, 0, 7, 0, []))) (.branch 45 (.leaf (1, 44, 0, 0, 9223372036854775812, [])) (.branch 46 (.leaf (21, 45, 0, 0, 0, [])) (.leaf (64, 46, 0, 0, 0, []))))) (.branch 52 (.branch 48 (.leaf (9, 47, 0, 2, 0, [])) (.branch 51 (.leaf (53, 48, 60, 0, 0, [])) (.leaf (13, 51, 0, 0, 0, [])))) (.branch 53 (.leaf (9, 52, 0, 1, 0, [])) (.branch 56 (.leaf (78, 53, 183, 0, 276, [1498, 1500, 35])) (.leaf (1, 56, 0, 0, 9223372036854775807, [])))))) (.branch 69 (.branch 63 (.branch 60 (.leaf (52, 57, 63, 0, 0, [])) (.branch 62 (.leaf (2, 60, 0, 0, 9223372036854775803, [])) (.leaf (83, 62, 0, 0, 0, [])))) (.branch 64 (.leaf (13, 63, 0, 0, 0, [])) (.branch 67 (.leaf (60, 64, 12, 1, 13, [1344])) (.leaf (8, 67, 0, 7, 0, []))))) (.branch 74 (.branch 70 (.leaf (64, 69, 0, 0, 0, [])) (.branch 71 (.leaf (13, 70, 0, 0, 0, [])) (.leaf (60, 71, 12, 1, 13, [1344])))) (.branch 76 (.leaf (8, 74, 0, 7, 0, [])) (.branch 77 (.leaf (1, 76, 0, 0, 9223372036854775809, [])) (.leaf (21, 77, 0, 0, 0, [])))))))) (.branch 114 (.branch 95 (.branch 85 (.branch 80 (.branch 79 (.leaf (64, 78, 0, 0, 0, [])) (.leaf (23, 79, 0, 0, 0, []))) (.branch 81 (.leaf (13, 80, 0, 0, 0, [])) (.branch 82 (.leaf (9, 81, 0, 1, 0, [])) (.leaf (78, 82, 181, 0, 273, [1491, 1493, 34]))))) (.branch 91 (.branch 86 (.leaf (22, 85, 0, 0, 0, [])) (.branch 88 (.leaf (8, 86, 0, 4, 0, [])) (.leaf (55, 88, 94, 0, 0, [])))) (.branch 93 (.leaf (2, 91, 0, 0, 9223372036854775805, [])) (.branch 94 (.leaf (83, 93, 0, 0, 0, [])) (.leaf (13, 94, 0, 0, 0, [])))))) (.branch 104 (.branch 101 (.branch 98 (.leaf (60, 95, 12, 1, 13, [1344])) (.branch 100 (.leaf (8, 98, 0, 7, 0, [])) (.leaf (1, 100, 0, 0, 9223372036854775812, [])))) (.branch 102 (.leaf (21, 101, 0, 0, 0, [])) (.branch 103 (.leaf (9, 102, 0, 2, 0, [])) (.leaf (69, 103, 0, 0, 0, []))))) (.branch 109 (.branch 106 (.leaf (8, 104, 0, 4, 0, [])) (.branch 108 (.leaf (14, 106, 0, 8, 0, [])) (.leaf (1, 108, 0, 0, 9223372036854775808, [])))) (.branch 111 (.leaf (14, 109, 0, 9, 0, [])) (.branch 112 (.leaf (1, 111, 0, 0, 9223372036854775808, [])) (.leaf (14, 112, 0, 10, 0, []))))))) (.branch 137 (.branch 123 (.branch 117 (.branch 116 (.leaf (8, 114, 0, 10, 0, [])) (.leaf (13, 116, 0, 0, 0, []))) (.branch 120 (.leaf (60, 117, 12, 1, 13, [1344])) (.branch 122 (.leaf (8, 120, 0, 7, 0, [])) (.leaf (64, 122, 0, 0, 0, []))))) (.branch 131 (.branch 126 (.leaf (55, 123, 253, 0, 0, [])) (.branch 128 (.leaf (8, 126, 0, 8, 0, [])) (.leaf (51, 128, 253, 0, 0, [])))) (.branch 132 (.leaf (9, 131, 0, 1, 0, [])) (.branch 134 (.leaf (8, 132, 0, 10, 0, [])) (.leaf (79, 134, 182, 0, 126, [1495, 1496])))))) (.branch 148 (.branch 142 (.branch 139 (.leaf (14, 137, 0, 11, 0, [])) (.branch 141 (.leaf (8, 139, 0, 8, 0, [])) (.leaf (13, 141, 0, 0, 0, [])))) (.branch 145 (.leaf (60, 142, 12, 1, 13, [1344])) (.branch 147 (.leaf (8, 145, 0, 7, 0, [])) (.leaf (1, 147, 0, 0, 9223372036854775809, []))))) (.branch 151 (.branch 149 (.leaf (21, 148, 0, 0, 0, [])) (.branch 150 (.leaf (64, 149, 0, 0, 0, [])) (.leaf (13, 150, 0, 0, 0, [])))) (.branch 154 (.leaf (60, 151, 12, 1, 13, [1344])) (.branch 156 (.leaf (8, 154, 0, 11, 0, [])) (.leaf (64, 156, 0, 0, 0, []))))))))) (.branch 224 (.branch 192 (.branch 175 (.branch 167 (.branch 161 (.branch 158 (.leaf (22, 157, 0, 0, 0, [])) (.leaf (79, 158, 269, 0, 171, [1515, 598]))) (.branch 163 (.leaf (14, 161, 0, 12, 0, [])) (.branch 164 (.leaf (13, 163, 0, 0, 0, [])) (.leaf (60, 164, 12, 1, 13, [1344]))))) (.branch 171 (.branch 169 (.leaf (8, 167, 0, 11, 0, [])) (.branch 170 (.leaf (45, 169, 0, 0, 0, [])) (.leaf (64, 170, 0, 0, 0, [])))) (.branch 173 (.leaf (8, 171, 0, 12, 0, [])) (.branch 174 (.leaf (21, 173, 0, 0, 0, [])) (.leaf (69, 174, 0, 0, 0, [])))))) (.branch 184 (.branch 181 (.branch 176 (.leaf (13, 175, 0, 0, 0, [])) (.branch 179 (.leaf (60, 176, 12, 1, 13, [1344])) (.leaf (8, 179, 0, 11, 0, [])))) (.branch 182 (.leaf (1, 181, 0, 0, 9223372036854775809, [])) (.branch 183 (.leaf (21, 182, 0, 0, 0, [])) (.leaf (45, 183, 0, 0, 0, []))))) (.branch 189 (.branch 185 (.leaf (64, 184, 0, 0, 0, [])) (.branch 187 (.leaf (8, 185, 0, 12, 0, [])) (.leaf (8, 187, 0, 5, 0, [])))) (.branch 190 (.leaf (23, 189, 0, 0, 0, [])) (.branch 191 (.leaf (21, 190, 0, 0, 0, [])) (.leaf (69, 191, 0, 0, 0, []))))))) (.branch 208 (.branch 200 (.branch 196 (.branch 193 (.leaf (13, 192, 0, 0, 0, [])) (.leaf (60, 193, 12, 1, 13, [1344]))) (.branch 198 (.leaf (8, 196, 0, 11, 0, [])) (.branch 199 (.leaf (1, 198, 0, 0, 9223372036854775810, [])) (.leaf (21, 199, 0, 0, 0, []))))) (.branch 204 (.branch 201 (.leaf (45, 200, 0, 0, 0, [])) (.branch 202 (.leaf (64, 201, 0, 0, 0, [])) (.leaf (8, 202, 0, 12, 0, [])))) (.branch 206 (.leaf (8, 204, 0, 6, 0, [])) (.branch 207 (.leaf (23, 206, 0, 0, 0, [])) (.leaf (21, 207, 0, 0, 0, [])))))) (.branch 217 (.branch 213 (.branch 209 (.leaf (69, 208, 0, 0, 0, [])) (.branch 210 (.leaf (13, 209, 0, 0, 0, [])) (.leaf (60, 210, 12, 1, 13, [1344])))) (.branch 215 (.leaf (8, 213, 0, 11, 0, [])) (.branch 216 (.leaf (1, 215, 0, 0, 9223372036854775812, [])) (.leaf (21, 216, 0, 0, 0, []))))) (.branch 220 (.branch 218 (.leaf (9, 217, 0, 3, 0, [])) (.branch 219 (.leaf (21, 218, 0, 0, 0, [])) (.leaf (45, 219, 0, 0, 0, [])))) (.branch 221 (.leaf (64, 220, 0, 0, 0, [])) (.branch 223 (.leaf (8, 221, 0, 12, 0, [])) (.leaf (21, 223, 0, 0, 0, [])))))))) (.branch 264 (.branch 244 (.branch 232 (.branch 227 (.branch 225 (.leaf (69, 224, 0, 0, 0, [])) (.leaf (8, 225, 0, 8, 0, []))) (.branch 229 (.leaf (8, 227, 0, 12, 0, [])) (.branch 230 (.leaf (22, 229, 0, 0, 0, [])) (.leaf (14, 230, 0, 8, 0, []))))) (.branch 239 (.branch 234 (.leaf (8, 232, 0, 9, 0, [])) (.branch 236 (.leaf (8, 234, 0, 12, 0, [])) (.leaf (51, 236, 243, 0, 0, [])))) (.branch 240 (.leaf (1, 239, 0, 0, 9223372036854775809, [])) (.branch 243 (.leaf (58, 240, 244, 0, 0, [])) (.leaf (1, 243, 0, 0, 9223372036854775808, [])))))) (.branch 257 (.branch 250 (.branch 245 (.leaf (21, 244, 0, 0, 0, [])) (.branch 247 (.leaf (14, 245, 0, 9, 0, [])) (.leaf (20, 247, 0, 10, 9223372036854775809, [])))) (.branch 253 (.leaf (58, 250, 114, 0, 0, [])) (.branch 254 (.leaf (13, 253, 0, 0, 0, [])) (.leaf (60, 254, 12, 1, 13, [1344]))))) (.branch 260 (.branch 258 (.leaf (1, 257, 0, 0, 9223372036854775809, [])) (.branch 259 (.leaf (45, 258, 0, 0, 0, [])) (.leaf (64, 259, 0, 0, 0, [])))) (.branch 262 (.leaf (8, 260, 0, 4, 0, [])) (.branch 263 (.leaf (21, 262, 0, 0, 0, [])) (.leaf (69, 263, 0, 0, 0, []))))))) (.branch 280 (.branch 273 (.branch 270 (.branch 265 (.leaf (13, 264, 0, 0, 0, [])) (.branch 268 (.leaf (60, 265, 12, 1, 13, [1344])) (.leaf (2, 268, 0, 0, 9223372036854775820, [])))) (.branch 271 (.leaf (9, 270, 0, 3, 0, [])) (.branch 272 (.leaf (21, 271, 0, 0, 0, [])) (.leaf (45, 272, 0, 0, 0, []))))) (.branch 277 (.branch 274 (.leaf (64, 273, 0, 0, 0, [])) (.branch 276 (.leaf (8, 274, 0, 4, 0, [])) (.leaf (21, 276, 0, 0, 0, [])))) (.branch 278 (.leaf (69, 277, 0, 0, 0, [])) (.branch 279 (.leaf (13, 278, 0, 0, 0, [])) (.leaf (9, 279, 0, 1, 0, [])))))) (.branch 290 (.branch 284 (.branch 281 (.leaf (9, 280, 0, 2, 0, [])) (.branch 282 (.leaf (9, 281, 0, 3, 0, [])) (.leaf (8, 282, 0, 4, 0, [])))) (.branch 286 (.leaf (8, 284, 0, 9, 0, [])) (.branch 289 (.leaf (78, 286, 203, 0, 299, [1615, 1617, 53])) (.leaf (13, 289, 0, 0, 0, []))))) (.branch 295 (.branch 291 (.leaf (1, 290, 0, 0, 9223372036854775808, [])) (.branch 294 (.leaf (62, 291, 12, 32, 137, [1375])) (.leaf (13, 294, 0, 0, 0, [])))) (.branch 296 (.leaf (9, 295, 0, 1, 0, [])) (.branch 299 (.leaf (78, 296, 181, 0, 273, [1491, 1493, 34])) (.leaf (83, 299, 0, 0, 0, [])))))))))
noncomputable def abM200 : abM := ((⟨"TallBinsModel", "fill", "(IIIIII)I"⟩, prog_14_method_38_code, 13, some .int), 6, 0, 0, 12, abK200)
set_option maxRecDepth 20000 in
noncomputable def abK201 : Lean.RArray abEy := .branch 36 (.branch 17 (.branch 8 (.branch 2 (.branch 1 (.leaf (13, 0, 0, 0, 0, [])) (.leaf (9, 1, 0, 1, 0, []))) (.branch 5 (.leaf (78, 2, 202, 0, 122, [1606, 1608, 52])) (.leaf (46, 5, 77, 0, 0, [])))) (.branch 10 (.branch 9 (.leaf (9, 8, 0, 2, 0, [])) (.leaf (40, 9, 0, 0, 0, []))) (.branch 11 (.leaf (6, 10, 0, 0, 9223372036854775808, [])) (.branch 14 (.leaf (7, 11, 230, 0, 9223372036854775811, [1563])) (.leaf (79, 14, 176, 0, 118, [1472, 1473])))))) (.branch 26 (.branch 21 (.branch 20 (.leaf (46, 17, 77, 0, 0, [])) (.leaf (9, 20, 0, 3, 0, []))) (.branch 22 (.leaf (40, 21, 0, 0, 0, [])) (.branch 23 (.leaf (6, 22, 0, 0, 9223372036854775808, [])) (.leaf (7, 23, 285, 0, 9223372036854775815, [1610]))))) (.branch 32 (.branch 29 (.leaf (79, 26, 176, 0, 118, [1472, 1473])) (.leaf (46, 29, 77, 0, 0, []))) (.branch 34 (.leaf (8, 32, 0, 4, 0, [])) (.branch 35 (.leaf (40, 34, 0, 0, 0, [])) (.leaf (6, 35, 0, 0, 9223372036854775809, []))))))) (.branch 58 (.branch 47 (.branch 42 (.branch 39 (.leaf (7, 36, 287, 0, 9223372036854785807, [1611])) (.leaf (79, 39, 176, 0, 118, [1472, 1473]))) (.branch 45 (.leaf (46, 42, 77, 0, 0, [])) (.leaf (8, 45, 0, 5, 0, [])))) (.branch 49 (.branch 48 (.leaf (40, 47, 0, 0, 0, [])) (.leaf (6, 48, 0, 0, 9223372036854775808, []))) (.branch 52 (.leaf (7, 49, 289, 0, 9223372036854775848, [1612])) (.branch 55 (.leaf (79, 52, 176, 0, 118, [1472, 1473])) (.leaf (46, 55, 77, 0, 0, [])))))) (.branch 70 (.branch 61 (.branch 60 (.leaf (8, 58, 0, 6, 0, [])) (.leaf (40, 60, 0, 0, 0, []))) (.branch 64 (.leaf (7, 61, 291, 0, 9223372036854775778, [1613])) (.branch 67 (.leaf (7, 64, 293, 0, 9223372036854775868, [1614])) (.leaf (79, 67, 176, 0, 118, [1472, 1473]))))) (.branch 74 (.branch 73 (.leaf (46, 70, 77, 0, 0, [])) (.leaf (1, 73, 0, 0, 9223372036854775809, []))) (.branch 77 (.leaf (58, 74, 78, 0, 0, [])) (.branch 78 (.leaf (1, 77, 0, 0, 9223372036854775808, [])) (.leaf (83, 78, 1, 0, 0, [])))))))
noncomputable def abM201 : abM := ((⟨"TallBinsModel", "mayFill", "(IIIIII)Z"⟩, prog_14_method_37_code, 7, some .boolean), 6, 0, 0, 12, abK201)
set_option maxRecDepth 20000 in
noncomputable def abK202 : Lean.RArray abEy := .branch 16 (.branch 6 (.branch 2 (.branch 1 (.leaf (9, 0, 0, 1, 0, [])) (.leaf (40, 1, 0, 0, 0, []))) (.branch 3 (.leaf (6, 2, 0, 0, 9223372036854775808, [])) (.leaf (7, 3, 116, 0, 9223372036854775813, [1546])))) (.branch 12 (.branch 9 (.leaf (79, 6, 176, 0, 118, [1472, 1473])) (.leaf (46, 9, 28, 0, 0, []))) (.branch 13 (.leaf (13, 12, 0, 0, 0, [])) (.leaf (60, 13, 12, 1, 13, [1344]))))) (.branch 24 (.branch 20 (.branch 17 (.leaf (9, 16, 0, 1, 0, [])) (.leaf (79, 17, 173, 0, 108, [1337, 1338]))) (.branch 21 (.leaf (64, 20, 0, 0, 0, [])) (.leaf (51, 21, 28, 0, 0, [])))) (.branch 28 (.branch 25 (.leaf (1, 24, 0, 0, 9223372036854775809, [])) (.leaf (58, 25, 29, 0, 0, []))) (.branch 29 (.leaf (1, 28, 0, 0, 9223372036854775808, [])) (.leaf (83, 29, 1, 0, 0, [])))))
noncomputable def abM202 : abM := ((⟨"TallBinsModel", "isBin", "(I)Z"⟩, prog_14_method_7_code, 2, some .boolean), 1, 0, 0, 12, abK202)
set_option maxRecDepth 20000 in
noncomputable def abK203 : Lean.RArray abEy := .branch 49 (.branch 27 (.branch 15 (.branch 6 (.branch 3 (.leaf (3, 0, 0, 0, 9223372036854777313, [])) (.branch 5 (.leaf (2, 3, 0, 0, 9223372036854775814, [])) (.leaf (13, 5, 0, 0, 0, [])))) (.branch 12 (.branch 9 (.leaf (60, 6, 12, 1, 13, [1344])) (.leaf (3, 9, 0, 0, 9223372036854777312, []))) (.branch 13 (.leaf (64, 12, 0, 0, 0, [])) (.leaf (2, 13, 0, 0, 9223372036854775848, []))))) (.branch 20 (.branch 17 (.branch 16 (.leaf (25, 15, 0, 0, 0, [])) (.leaf (23, 16, 0, 0, 0, []))) (.branch 18 (.leaf (21, 17, 0, 0, 0, [])) (.leaf (14, 18, 0, 6, 0, [])))) (.branch 24 (.branch 21 (.leaf (13, 20, 0, 0, 0, [])) (.leaf (60, 21, 12, 1, 13, [1344]))) (.branch 26 (.leaf (8, 24, 0, 6, 0, [])) (.leaf (9, 26, 0, 1, 0, [])))))) (.branch 38 (.branch 34 (.branch 29 (.branch 28 (.leaf (69, 27, 0, 0, 0, [])) (.leaf (13, 28, 0, 0, 0, []))) (.branch 32 (.leaf (60, 29, 12, 1, 13, [1344])) (.leaf (8, 32, 0, 6, 0, [])))) (.branch 36 (.branch 35 (.leaf (1, 34, 0, 0, 9223372036854775809, [])) (.leaf (21, 35, 0, 0, 0, []))) (.branch 37 (.leaf (9, 36, 0, 2, 0, [])) (.leaf (69, 37, 0, 0, 0, []))))) (.branch 45 (.branch 42 (.branch 39 (.leaf (13, 38, 0, 0, 0, [])) (.leaf (60, 39, 12, 1, 13, [1344]))) (.branch 44 (.leaf (8, 42, 0, 6, 0, [])) (.leaf (1, 44, 0, 0, 9223372036854775810, [])))) (.branch 47 (.branch 46 (.leaf (21, 45, 0, 0, 0, [])) (.leaf (9, 46, 0, 3, 0, []))) (.branch 48 (.leaf (69, 47, 0, 0, 0, [])) (.leaf (13, 48, 0, 0, 0, []))))))) (.branch 74 (.branch 63 (.branch 56 (.branch 54 (.branch 52 (.leaf (60, 49, 12, 1, 13, [1344])) (.leaf (8, 52, 0, 6, 0, []))) (.branch 55 (.leaf (1, 54, 0, 0, 9223372036854775811, [])) (.leaf (21, 55, 0, 0, 0, [])))) (.branch 59 (.branch 58 (.leaf (8, 56, 0, 4, 0, [])) (.leaf (69, 58, 0, 0, 0, []))) (.branch 60 (.leaf (13, 59, 0, 0, 0, [])) (.leaf (60, 60, 12, 1, 13, [1344]))))) (.branch 68 (.branch 66 (.branch 65 (.leaf (8, 63, 0, 6, 0, [])) (.leaf (1, 65, 0, 0, 9223372036854775812, []))) (.branch 67 (.leaf (21, 66, 0, 0, 0, [])) (.leaf (13, 67, 0, 0, 0, [])))) (.branch 72 (.branch 71 (.leaf (60, 68, 12, 1, 13, [1344])) (.leaf (1, 71, 0, 0, 9223372036854775808, []))) (.branch 73 (.leaf (64, 72, 0, 0, 0, [])) (.leaf (69, 73, 0, 0, 0, [])))))) (.branch 86 (.branch 81 (.branch 78 (.branch 75 (.leaf (13, 74, 0, 0, 0, [])) (.leaf (60, 75, 12, 1, 13, [1344]))) (.branch 80 (.leaf (8, 78, 0, 6, 0, [])) (.leaf (1, 80, 0, 0, 9223372036854775813, [])))) (.branch 84 (.branch 82 (.leaf (21, 81, 0, 0, 0, [])) (.leaf (8, 82, 0, 5, 0, []))) (.branch 85 (.leaf (69, 84, 0, 0, 0, [])) (.leaf (13, 85, 0, 0, 0, []))))) (.branch 94 (.branch 92 (.branch 89 (.leaf (60, 86, 12, 1, 13, [1344])) (.leaf (3, 89, 0, 0, 9223372036854777312, []))) (.branch 93 (.leaf (45, 92, 0, 0, 0, [])) (.leaf (64, 93, 0, 0, 0, [])))) (.branch 96 (.branch 95 (.leaf (1, 94, 0, 0, 9223372036854775809, [])) (.leaf (21, 95, 0, 0, 0, []))) (.branch 97 (.leaf (69, 96, 0, 0, 0, [])) (.leaf (82, 97, 0, 0, 0, [])))))))
noncomputable def abM203 : abM := ((⟨"TallBinsModel", "logs", "(IIIII)V"⟩, prog_14_method_39_code, 7, none), 5, 0, 0, 12, abK203)
set_option maxRecDepth 20000 in
noncomputable def abK204 : Lean.RArray abEy := .branch 38 (.branch 18 (.branch 9 (.branch 2 (.branch 1 (.leaf (1, 0, 0, 0, 9223372036854775808, [])) (.leaf (13, 1, 0, 0, 0, []))) (.branch 5 (.leaf (60, 2, 12, 1, 13, [1344])) (.branch 8 (.leaf (3, 5, 0, 0, 9223372036854777312, [])) (.leaf (64, 8, 0, 0, 0, []))))) (.branch 15 (.branch 11 (.leaf (2, 9, 0, 0, 9223372036854775848, [])) (.branch 12 (.leaf (22, 11, 0, 0, 0, [])) (.leaf (79, 12, 271, 0, 303, [1623, 864])))) (.branch 16 (.leaf (15, 15, 0, 3, 0, [])) (.branch 17 (.leaf (9, 16, 0, 1, 0, [])) (.leaf (40, 17, 0, 0, 0, [])))))) (.branch 28 (.branch 23 (.branch 19 (.leaf (6, 18, 0, 0, 9223372036854775808, [])) (.branch 20 (.leaf (13, 19, 0, 0, 0, [])) (.leaf (60, 20, 12, 1, 13, [1344])))) (.branch 26 (.leaf (3, 23, 0, 0, 9223372036854777312, [])) (.branch 27 (.leaf (64, 26, 0, 0, 0, [])) (.leaf (9, 27, 0, 3, 0, []))))) (.branch 31 (.branch 29 (.leaf (22, 28, 0, 0, 0, [])) (.branch 30 (.leaf (1, 29, 0, 0, 9223372036854775809, [])) (.leaf (22, 30, 0, 0, 0, [])))) (.branch 32 (.leaf (40, 31, 0, 0, 0, [])) (.branch 35 (.leaf (79, 32, 176, 0, 118, [1472, 1473])) (.leaf (46, 35, 73, 0, 0, []))))))) (.branch 60 (.branch 47 (.branch 40 (.branch 39 (.leaf (9, 38, 0, 2, 0, [])) (.leaf (40, 39, 0, 0, 0, []))) (.branch 41 (.leaf (6, 40, 0, 0, 9223372036854775808, [])) (.branch 44 (.leaf (7, 41, 116, 0, 9223372036854775813, [1546])) (.leaf (79, 44, 176, 0, 118, [1472, 1473]))))) (.branch 54 (.branch 50 (.leaf (46, 47, 73, 0, 0, [])) (.branch 51 (.leaf (13, 50, 0, 0, 0, [])) (.leaf (60, 51, 12, 1, 13, [1344])))) (.branch 57 (.leaf (3, 54, 0, 0, 9223372036854777313, [])) (.branch 59 (.leaf (2, 57, 0, 0, 9223372036854775814, [])) (.leaf (9, 59, 0, 3, 0, [])))))) (.branch 67 (.branch 64 (.branch 61 (.leaf (9, 60, 0, 1, 0, [])) (.branch 62 (.leaf (21, 61, 0, 0, 0, [])) (.leaf (2, 62, 0, 0, 9223372036854775848, [])))) (.branch 65 (.leaf (25, 64, 0, 0, 0, [])) (.branch 66 (.leaf (23, 65, 0, 0, 0, [])) (.leaf (21, 66, 0, 0, 0, []))))) (.branch 70 (.branch 68 (.leaf (9, 67, 0, 2, 0, [])) (.branch 69 (.leaf (21, 68, 0, 0, 0, [])) (.leaf (64, 69, 0, 0, 0, [])))) (.branch 73 (.leaf (58, 70, 76, 0, 0, [])) (.branch 76 (.leaf (5, 73, 306, 0, 9223372034854775808, [1624])) (.leaf (83, 76, 0, 0, 0, [])))))))
noncomputable def abM204 : abM := ((⟨"TallBinsModel", "filled", "(II)I"⟩, prog_14_method_40_code, 4, some .int), 2, 0, 0, 12, abK204)
set_option maxRecDepth 20000 in
noncomputable def abK205 : Lean.RArray abEy := .branch 93 (.branch 43 (.branch 24 (.branch 12 (.branch 5 (.branch 1 (.leaf (13, 0, 0, 0, 0, [])) (.branch 2 (.leaf (9, 1, 0, 1, 0, [])) (.leaf (78, 2, 202, 0, 122, [1606, 1608, 52])))) (.branch 8 (.leaf (46, 5, 15, 0, 0, [])) (.branch 9 (.leaf (9, 8, 0, 2, 0, [])) (.leaf (79, 9, 206, 0, 307, [1629, 1630]))))) (.branch 18 (.branch 15 (.leaf (47, 12, 18, 0, 0, [])) (.branch 17 (.leaf (2, 15, 0, 0, 9223372036854775806, [])) (.leaf (83, 17, 0, 0, 0, [])))) (.branch 22 (.branch 19 (.leaf (13, 18, 0, 0, 0, [])) (.leaf (60, 19, 12, 37, 92, [1380]))) (.branch 23 (.leaf (9, 22, 0, 2, 0, [])) (.leaf (64, 23, 0, 0, 0, [])))))) (.branch 33 (.branch 30 (.branch 25 (.leaf (1, 24, 0, 0, 9223372036854775807, [])) (.branch 28 (.leaf (53, 25, 31, 0, 0, [])) (.leaf (2, 28, 0, 0, 9223372036854775802, [])))) (.branch 31 (.leaf (83, 30, 0, 0, 0, [])) (.branch 32 (.leaf (1, 31, 0, 0, 9223372036854775808, [])) (.leaf (15, 32, 0, 3, 0, []))))) (.branch 37 (.branch 35 (.leaf (2, 33, 0, 0, 9223372036854775868, [])) (.branch 36 (.leaf (9, 35, 0, 2, 0, [])) (.leaf (23, 36, 0, 0, 0, [])))) (.branch 41 (.branch 39 (.leaf (14, 37, 0, 4, 0, [])) (.leaf (8, 39, 0, 4, 0, []))) (.branch 42 (.leaf (1, 41, 0, 0, 9223372036854775813, [])) (.leaf (21, 42, 0, 0, 0, []))))))) (.branch 63 (.branch 52 (.branch 47 (.branch 45 (.leaf (2, 43, 0, 0, 9223372036854775868, [])) (.branch 46 (.leaf (9, 45, 0, 2, 0, [])) (.leaf (23, 46, 0, 0, 0, [])))) (.branch 48 (.leaf (13, 47, 0, 0, 0, [])) (.branch 51 (.leaf (60, 48, 12, 37, 92, [1380])) (.leaf (9, 51, 0, 2, 0, []))))) (.branch 57 (.branch 53 (.leaf (64, 52, 0, 0, 0, [])) (.branch 54 (.leaf (21, 53, 0, 0, 0, [])) (.leaf (56, 54, 181, 0, 0, [])))) (.branch 60 (.branch 58 (.leaf (1, 57, 0, 0, 9223372036854775809, [])) (.leaf (14, 58, 0, 5, 0, []))) (.branch 61 (.leaf (1, 60, 0, 0, 9223372036854775808, [])) (.leaf (14, 61, 0, 6, 0, [])))))) (.branch 78 (.branch 69 (.branch 65 (.leaf (8, 63, 0, 6, 0, [])) (.branch 66 (.leaf (1, 65, 0, 0, 9223372036854775813, [])) (.leaf (55, 66, 109, 0, 0, [])))) (.branch 74 (.branch 71 (.leaf (8, 69, 0, 5, 0, [])) (.leaf (46, 71, 100, 0, 0, []))) (.branch 75 (.leaf (13, 74, 0, 0, 0, [])) (.leaf (60, 75, 12, 39, 98, [1382]))))) (.branch 83 (.branch 80 (.leaf (8, 78, 0, 4, 0, [])) (.branch 82 (.leaf (8, 80, 0, 6, 0, [])) (.leaf (21, 82, 0, 0, 0, [])))) (.branch 87 (.branch 84 (.leaf (66, 83, 0, 0, 0, [])) (.leaf (7, 84, 312, 0, 9223372034707292160, [1632]))) (.branch 90 (.leaf (7, 87, 314, 0, 9223372039002259455, [1633])) (.leaf (79, 90, 176, 0, 118, [1472, 1473])))))))) (.branch 140 (.branch 120 (.branch 106 (.branch 100 (.branch 96 (.leaf (46, 93, 100, 0, 0, [])) (.branch 97 (.leaf (1, 96, 0, 0, 9223372036854775809, [])) (.leaf (58, 97, 101, 0, 0, [])))) (.branch 101 (.leaf (1, 100, 0, 0, 9223372036854775808, [])) (.branch 103 (.leaf (14, 101, 0, 5, 0, [])) (.leaf (20, 103, 0, 6, 9223372036854775809, []))))) (.branch 114 (.branch 109 (.leaf (58, 106, 63, 0, 0, [])) (.branch 111 (.leaf (8, 109, 0, 5, 0, [])) (.leaf (46, 111, 170, 0, 0, [])))) (.branch 116 (.branch 115 (.leaf (13, 114, 0, 0, 0, [])) (.leaf (9, 115, 0, 1, 0, []))) (.branch 117 (.leaf (13, 116, 0, 0, 0, [])) (.leaf (60, 117, 12, 39, 98, [1382])))))) (.branch 130 (.branch 124 (.branch 122 (.leaf (8, 120, 0, 4, 0, [])) (.branch 123 (.leaf (66, 122, 0, 0, 0, [])) (.leaf (41, 123, 0, 0, 0, [])))) (.branch 125 (.leaf (13, 124, 0, 0, 0, [])) (.branch 128 (.leaf (60, 125, 12, 39, 98, [1382])) (.leaf (8, 128, 0, 4, 0, []))))) (.branch 133 (.branch 131 (.leaf (1, 130, 0, 0, 9223372036854775809, [])) (.branch 132 (.leaf (21, 131, 0, 0, 0, [])) (.leaf (66, 132, 0, 0, 0, [])))) (.branch 135 (.branch 134 (.leaf (41, 133, 0, 0, 0, [])) (.leaf (13, 134, 0, 0, 0, []))) (.branch 138 (.leaf (60, 135, 12, 39, 98, [1382])) (.leaf (8, 138, 0, 4, 0, []))))))) (.branch 158 (.branch 148 (.branch 143 (.branch 141 (.leaf (1, 140, 0, 0, 9223372036854775810, [])) (.branch 142 (.leaf (21, 141, 0, 0, 0, [])) (.leaf (66, 142, 0, 0, 0, [])))) (.branch 144 (.leaf (41, 143, 0, 0, 0, [])) (.branch 145 (.leaf (13, 144, 0, 0, 0, [])) (.leaf (60, 145, 12, 39, 98, [1382]))))) (.branch 152 (.branch 150 (.leaf (8, 148, 0, 4, 0, [])) (.branch 151 (.leaf (1, 150, 0, 0, 9223372036854775811, [])) (.leaf (21, 151, 0, 0, 0, [])))) (.branch 154 (.branch 153 (.leaf (66, 152, 0, 0, 0, [])) (.leaf (41, 153, 0, 0, 0, []))) (.branch 155 (.leaf (13, 154, 0, 0, 0, [])) (.leaf (60, 155, 12, 39, 98, [1382])))))) (.branch 170 (.branch 162 (.branch 160 (.leaf (8, 158, 0, 4, 0, [])) (.branch 161 (.leaf (1, 160, 0, 0, 9223372036854775812, [])) (.leaf (21, 161, 0, 0, 0, [])))) (.branch 164 (.branch 163 (.leaf (66, 162, 0, 0, 0, [])) (.leaf (41, 163, 0, 0, 0, []))) (.branch 167 (.leaf (78, 164, 200, 0, 316, [1634, 1599, 1600])) (.leaf (49, 167, 172, 0, 0, []))))) (.branch 175 (.branch 171 (.leaf (9, 170, 0, 3, 0, [])) (.branch 172 (.leaf (83, 171, 0, 0, 0, [])) (.leaf (20, 172, 0, 3, 9223372036854775809, [])))) (.branch 181 (.branch 178 (.leaf (20, 175, 0, 4, 9223372036854775813, [])) (.leaf (58, 178, 39, 0, 0, []))) (.branch 182 (.leaf (9, 181, 0, 3, 0, [])) (.leaf (83, 182, 0, 0, 0, []))))))))
noncomputable def abM205 : abM := ((⟨"TallBinsModel", "fills", "(II)I"⟩, prog_14_method_41_code, 7, some .int), 2, 0, 0, 12, abK205)
set_option maxRecDepth 20000 in
noncomputable def abK206 : Lean.RArray abEy := .branch 3 (.branch 1 (.leaf (9, 0, 0, 0, 0, [])) (.branch 2 (.leaf (40, 1, 0, 0, 0, [])) (.leaf (6, 2, 0, 0, 9223372036854775808, [])))) (.branch 6 (.leaf (7, 3, 230, 0, 9223372036854775811, [1563])) (.branch 9 (.leaf (79, 6, 176, 0, 118, [1472, 1473])) (.leaf (83, 9, 1, 0, 0, []))))
noncomputable def abM206 : abM := ((⟨"TallBinsModel", "isSlot", "(I)Z"⟩, prog_14_method_95_code, 1, some .boolean), 1, 0, 0, 12, abK206)
set_option maxRecDepth 20000 in
noncomputable def abK207 : Lean.RArray abEy := .branch 13 (.branch 8 (.branch 2 (.branch 1 (.leaf (13, 0, 0, 0, 0, [])) (.leaf (9, 1, 0, 1, 0, []))) (.branch 5 (.leaf (78, 2, 202, 0, 122, [1606, 1608, 52])) (.leaf (47, 5, 11, 0, 0, [])))) (.branch 11 (.branch 10 (.leaf (2, 8, 0, 0, 9223372036854775806, [])) (.leaf (83, 10, 0, 0, 0, []))) (.branch 12 (.leaf (13, 11, 0, 0, 0, [])) (.leaf (9, 12, 0, 1, 0, []))))) (.branch 24 (.branch 19 (.branch 16 (.leaf (78, 13, 181, 0, 273, [1491, 1493, 34])) (.leaf (47, 16, 24, 0, 0, []))) (.branch 21 (.leaf (2, 19, 0, 0, 9223372036854775802, [])) (.leaf (58, 21, 29, 0, 0, [])))) (.branch 26 (.branch 25 (.leaf (13, 24, 0, 0, 0, [])) (.leaf (9, 25, 0, 1, 0, []))) (.branch 29 (.leaf (78, 26, 208, 0, 327, [1639, 1641, 54])) (.leaf (83, 29, 0, 0, 0, [])))))
noncomputable def abM207 : abM := ((⟨"TallBinsModel", "flow", "(I)I"⟩, prog_14_method_44_code, 2, some .int), 1, 0, 0, 12, abK207)
set_option maxRecDepth 20000 in
noncomputable def abK208 : Lean.RArray abEy := .branch 28 (.branch 11 (.branch 6 (.branch 2 (.branch 1 (.leaf (13, 0, 0, 0, 0, [])) (.leaf (9, 1, 0, 1, 0, []))) (.branch 3 (.leaf (1, 2, 0, 0, 9223372036854775809, [])) (.leaf (78, 3, 209, 0, 320, [1643, 1645, 55])))) (.branch 8 (.branch 7 (.leaf (1, 6, 0, 0, 9223372036854775810, [])) (.leaf (1, 7, 0, 0, 9223372036854775808, []))) (.branch 9 (.leaf (13, 8, 0, 0, 0, [])) (.branch 10 (.leaf (9, 9, 0, 1, 0, [])) (.leaf (1, 10, 0, 0, 9223372036854775808, [])))))) (.branch 21 (.branch 15 (.branch 12 (.leaf (1, 11, 0, 0, 9223372036854775809, [])) (.leaf (78, 12, 210, 0, 323, [1647, 1649, 56]))) (.branch 17 (.leaf (2, 15, 0, 0, 9223372036854775822, [])) (.branch 18 (.leaf (22, 17, 0, 0, 0, [])) (.leaf (79, 18, 271, 0, 303, [1623, 864]))))) (.branch 23 (.branch 22 (.leaf (23, 21, 0, 0, 0, [])) (.leaf (21, 22, 0, 0, 0, []))) (.branch 24 (.leaf (15, 23, 0, 2, 0, [])) (.branch 25 (.leaf (13, 24, 0, 0, 0, [])) (.leaf (60, 25, 12, 1, 13, [1344]))))))) (.branch 40 (.branch 35 (.branch 32 (.branch 29 (.leaf (9, 28, 0, 1, 0, [])) (.leaf (79, 29, 173, 0, 108, [1337, 1338]))) (.branch 33 (.leaf (1, 32, 0, 0, 9223372036854775810, [])) (.branch 34 (.leaf (21, 33, 0, 0, 0, [])) (.leaf (64, 34, 0, 0, 0, []))))) (.branch 37 (.branch 36 (.leaf (15, 35, 0, 3, 0, [])) (.leaf (9, 36, 0, 2, 0, []))) (.branch 38 (.leaf (1, 37, 0, 0, 9223372036854775811, [])) (.branch 39 (.leaf (9, 38, 0, 3, 0, [])) (.leaf (23, 39, 0, 0, 0, [])))))) (.branch 49 (.branch 44 (.branch 43 (.leaf (57, 40, 47, 0, 0, [])) (.leaf (1, 43, 0, 0, 9223372036854775810, []))) (.branch 47 (.leaf (58, 44, 57, 0, 0, [])) (.branch 48 (.leaf (9, 47, 0, 2, 0, [])) (.leaf (9, 48, 0, 3, 0, []))))) (.branch 53 (.branch 52 (.leaf (57, 49, 56, 0, 0, [])) (.leaf (1, 52, 0, 0, 9223372036854775809, []))) (.branch 56 (.leaf (58, 53, 57, 0, 0, [])) (.branch 57 (.leaf (1, 56, 0, 0, 9223372036854775808, [])) (.leaf (83, 57, 0, 0, 0, [])))))))
noncomputable def abM208 : abM := ((⟨"TallBinsModel", "flowOf", "(I)I"⟩, prog_14_method_43_code, 4, some .int), 1, 0, 0, 12, abK208)
set_option maxRecDepth 20000 in
noncomputable def abK209 : Lean.RArray abEy := .branch 18 (.branch 10 (.branch 5 (.branch 1 (.leaf (13, 0, 0, 0, 0, [])) (.branch 4 (.leaf (60, 1, 12, 1, 13, [1344])) (.leaf (9, 4, 0, 1, 0, [])))) (.branch 8 (.leaf (79, 5, 173, 0, 108, [1337, 1338])) (.branch 9 (.leaf (1, 8, 0, 0, 9223372036854775812, [])) (.leaf (21, 9, 0, 0, 0, []))))) (.branch 13 (.branch 11 (.leaf (64, 10, 0, 0, 0, [])) (.branch 12 (.leaf (15, 11, 0, 3, 0, [])) (.leaf (9, 12, 0, 3, 0, [])))) (.branch 14 (.leaf (1, 13, 0, 0, 9223372036854775807, [])) (.branch 17 (.leaf (53, 14, 21, 0, 0, [])) (.leaf (1, 17, 0, 0, 9223372036854775808, [])))))) (.branch 29 (.branch 25 (.branch 21 (.leaf (58, 18, 34, 0, 0, [])) (.branch 22 (.leaf (13, 21, 0, 0, 0, [])) (.leaf (60, 22, 12, 1, 13, [1344])))) (.branch 27 (.leaf (2, 25, 0, 0, 9223372036854775836, [])) (.branch 28 (.leaf (1, 27, 0, 0, 9223372036854775811, [])) (.leaf (9, 28, 0, 3, 0, []))))) (.branch 32 (.branch 30 (.leaf (23, 29, 0, 0, 0, [])) (.branch 31 (.leaf (21, 30, 0, 0, 0, [])) (.leaf (9, 31, 0, 2, 0, [])))) (.branch 33 (.leaf (21, 32, 0, 0, 0, [])) (.branch 34 (.leaf (64, 33, 0, 0, 0, [])) (.leaf (83, 34, 0, 0, 0, []))))))
noncomputable def abM209 : abM := ((⟨"TallBinsModel", "grainIs", "(II)I"⟩, prog_14_method_42_code, 4, some .int), 2, 0, 0, 12, abK209)
set_option maxRecDepth 20000 in
noncomputable def abK210 : Lean.RArray abEy := .branch 21 (.branch 8 (.branch 2 (.branch 1 (.leaf (9, 0, 0, 1, 0, [])) (.leaf (9, 1, 0, 2, 0, []))) (.branch 5 (.leaf (79, 2, 182, 0, 126, [1495, 1496])) (.branch 7 (.leaf (14, 5, 0, 4, 0, [])) (.leaf (13, 7, 0, 0, 0, []))))) (.branch 14 (.branch 11 (.leaf (60, 8, 12, 1, 13, [1344])) (.branch 13 (.leaf (8, 11, 0, 4, 0, [])) (.leaf (64, 13, 0, 0, 0, [])))) (.branch 17 (.leaf (47, 14, 21, 0, 0, [])) (.branch 18 (.leaf (1, 17, 0, 0, 9223372036854775808, [])) (.leaf (58, 18, 40, 0, 0, [])))))) (.branch 30 (.branch 27 (.branch 22 (.leaf (13, 21, 0, 0, 0, [])) (.branch 25 (.leaf (60, 22, 12, 1, 13, [1344])) (.leaf (8, 25, 0, 4, 0, [])))) (.branch 28 (.leaf (9, 27, 0, 3, 0, [])) (.branch 29 (.leaf (21, 28, 0, 0, 0, [])) (.leaf (64, 29, 0, 0, 0, []))))) (.branch 36 (.branch 31 (.leaf (13, 30, 0, 0, 0, [])) (.branch 34 (.leaf (60, 31, 12, 1, 13, [1344])) (.leaf (8, 34, 0, 4, 0, [])))) (.branch 37 (.leaf (64, 36, 0, 0, 0, [])) (.branch 40 (.leaf (79, 37, 270, 0, 130, [1651, 861])) (.leaf (83, 40, 0, 0, 0, []))))))
noncomputable def abM210 : abM := ((⟨"TallBinsModel", "isOf", "(III)I"⟩, prog_14_method_13_code, 5, some .int), 3, 0, 0, 12, abK210)
set_option maxRecDepth 20000 in
noncomputable def abK211 : Lean.RArray abEy := .branch 68 (.branch 34 (.branch 17 (.branch 8 (.branch 2 (.branch 1 (.leaf (13, 0, 0, 0, 0, [])) (.leaf (9, 1, 0, 1, 0, []))) (.branch 5 (.leaf (78, 2, 202, 0, 122, [1606, 1608, 52])) (.leaf (46, 5, 20, 0, 0, [])))) (.branch 10 (.branch 9 (.leaf (9, 8, 0, 2, 0, [])) (.leaf (40, 9, 0, 0, 0, []))) (.branch 11 (.leaf (6, 10, 0, 0, 9223372036854775809, [])) (.branch 14 (.leaf (7, 11, 287, 0, 9223372036854785807, [1611])) (.leaf (79, 14, 176, 0, 118, [1472, 1473])))))) (.branch 24 (.branch 22 (.branch 20 (.leaf (47, 17, 23, 0, 0, [])) (.leaf (2, 20, 0, 0, 9223372036854775806, []))) (.branch 23 (.leaf (83, 22, 0, 0, 0, [])) (.leaf (13, 23, 0, 0, 0, [])))) (.branch 28 (.branch 25 (.leaf (9, 24, 0, 1, 0, [])) (.leaf (78, 25, 181, 0, 273, [1491, 1493, 34]))) (.branch 31 (.leaf (47, 28, 34, 0, 0, [])) (.branch 33 (.leaf (2, 31, 0, 0, 9223372036854775802, [])) (.leaf (83, 33, 0, 0, 0, []))))))) (.branch 51 (.branch 42 (.branch 36 (.branch 35 (.leaf (13, 34, 0, 0, 0, [])) (.leaf (9, 35, 0, 1, 0, []))) (.branch 39 (.leaf (78, 36, 212, 0, 344, [1656, 1658, 57])) (.leaf (47, 39, 51, 0, 0, [])))) (.branch 44 (.branch 43 (.leaf (13, 42, 0, 0, 0, [])) (.leaf (9, 43, 0, 1, 0, []))) (.branch 47 (.leaf (78, 44, 183, 0, 276, [1498, 1500, 35])) (.branch 48 (.leaf (1, 47, 0, 0, 9223372036854775807, [])) (.leaf (52, 48, 54, 0, 0, [])))))) (.branch 59 (.branch 54 (.branch 53 (.leaf (2, 51, 0, 0, 9223372036854775803, [])) (.leaf (83, 53, 0, 0, 0, []))) (.branch 55 (.leaf (13, 54, 0, 0, 0, [])) (.branch 56 (.leaf (9, 55, 0, 1, 0, [])) (.leaf (78, 56, 208, 0, 327, [1639, 1641, 54]))))) (.branch 63 (.branch 60 (.leaf (1, 59, 0, 0, 9223372036854775810, [])) (.leaf (53, 60, 82, 0, 0, []))) (.branch 64 (.leaf (13, 63, 0, 0, 0, [])) (.branch 67 (.leaf (60, 64, 12, 1, 13, [1344])) (.leaf (9, 67, 0, 1, 0, [])))))))) (.branch 93 (.branch 81 (.branch 74 (.branch 72 (.branch 71 (.leaf (79, 68, 173, 0, 108, [1337, 1338])) (.leaf (1, 71, 0, 0, 9223372036854775813, []))) (.branch 73 (.leaf (21, 72, 0, 0, 0, [])) (.leaf (1, 73, 0, 0, 9223372036854775809, [])))) (.branch 76 (.branch 75 (.leaf (69, 74, 0, 0, 0, [])) (.leaf (13, 75, 0, 0, 0, []))) (.branch 77 (.leaf (1, 76, 0, 0, 9223372036854775808, [])) (.branch 80 (.leaf (62, 77, 12, 32, 137, [1375])) (.leaf (1, 80, 0, 0, 9223372036854775808, [])))))) (.branch 85 (.branch 83 (.branch 82 (.leaf (83, 81, 0, 0, 0, [])) (.leaf (13, 82, 0, 0, 0, []))) (.branch 84 (.leaf (9, 83, 0, 1, 0, [])) (.leaf (9, 84, 0, 2, 0, [])))) (.branch 89 (.branch 88 (.leaf (78, 85, 213, 0, 347, [1660, 1662, 58])) (.leaf (1, 88, 0, 0, 9223372036854775808, []))) (.branch 90 (.leaf (15, 89, 0, 3, 0, [])) (.branch 91 (.leaf (9, 90, 0, 3, 0, [])) (.leaf (2, 91, 0, 0, 9223372036854775820, []))))))) (.branch 108 (.branch 101 (.branch 97 (.branch 96 (.leaf (55, 93, 114, 0, 0, [])) (.leaf (13, 96, 0, 0, 0, []))) (.branch 100 (.leaf (60, 97, 12, 19, 49, [1362])) (.leaf (9, 100, 0, 3, 0, [])))) (.branch 105 (.branch 102 (.leaf (13, 101, 0, 0, 0, [])) (.leaf (60, 102, 12, 18, 46, [1361]))) (.branch 106 (.leaf (9, 105, 0, 3, 0, [])) (.branch 107 (.leaf (64, 106, 0, 0, 0, [])) (.leaf (69, 107, 0, 0, 0, [])))))) (.branch 119 (.branch 114 (.branch 111 (.leaf (20, 108, 0, 3, 9223372036854775809, [])) (.leaf (58, 111, 90, 0, 0, []))) (.branch 115 (.leaf (13, 114, 0, 0, 0, [])) (.branch 116 (.leaf (9, 115, 0, 1, 0, [])) (.leaf (61, 116, 12, 20, 52, [1363]))))) (.branch 123 (.branch 120 (.leaf (13, 119, 0, 0, 0, [])) (.leaf (60, 120, 12, 19, 49, [1362]))) (.branch 124 (.leaf (1, 123, 0, 0, 9223372036854775808, [])) (.branch 125 (.leaf (64, 124, 0, 0, 0, [])) (.leaf (83, 125, 0, 0, 0, []))))))))
noncomputable def abM211 : abM := ((⟨"TallBinsModel", "draw", "(II)I"⟩, prog_14_method_48_code, 4, some .int), 2, 0, 0, 12, abK211)
set_option maxRecDepth 20000 in
noncomputable def abK212 : Lean.RArray abEy := .branch 10 (.branch 5 (.branch 1 (.leaf (13, 0, 0, 0, 0, [])) (.branch 4 (.leaf (60, 1, 12, 1, 13, [1344])) (.leaf (9, 4, 0, 1, 0, [])))) (.branch 8 (.leaf (79, 5, 173, 0, 108, [1337, 1338])) (.branch 9 (.leaf (1, 8, 0, 0, 9223372036854775813, [])) (.leaf (21, 9, 0, 0, 0, []))))) (.branch 15 (.branch 11 (.leaf (64, 10, 0, 0, 0, [])) (.branch 12 (.leaf (1, 11, 0, 0, 9223372036854775809, [])) (.leaf (53, 12, 19, 0, 0, [])))) (.branch 19 (.branch 16 (.leaf (1, 15, 0, 0, 9223372036854775809, [])) (.leaf (58, 16, 20, 0, 0, []))) (.branch 20 (.leaf (1, 19, 0, 0, 9223372036854775808, [])) (.leaf (83, 20, 1, 0, 0, [])))))
noncomputable def abM212 : abM := ((⟨"TallBinsModel", "isHung", "(I)Z"⟩, prog_14_method_11_code, 2, some .boolean), 1, 0, 0, 12, abK212)
set_option maxRecDepth 20000 in
noncomputable def abK213 : Lean.RArray abEy := .branch 109 (.branch 55 (.branch 29 (.branch 12 (.branch 5 (.branch 1 (.leaf (9, 0, 0, 1, 0, [])) (.branch 4 (.leaf (79, 1, 173, 0, 108, [1337, 1338])) (.leaf (15, 4, 0, 3, 0, [])))) (.branch 8 (.branch 6 (.leaf (1, 5, 0, 0, 9223372036854775808, [])) (.leaf (14, 6, 0, 4, 0, []))) (.branch 10 (.leaf (8, 8, 0, 4, 0, [])) (.leaf (2, 10, 0, 0, 9223372036854775820, []))))) (.branch 21 (.branch 16 (.branch 15 (.leaf (55, 12, 29, 0, 0, [])) (.leaf (13, 15, 0, 0, 0, []))) (.branch 19 (.leaf (60, 16, 12, 18, 46, [1361])) (.leaf (8, 19, 0, 4, 0, [])))) (.branch 23 (.branch 22 (.leaf (1, 21, 0, 0, 9223372036854775808, [])) (.leaf (69, 22, 0, 0, 0, []))) (.branch 26 (.leaf (20, 23, 0, 4, 9223372036854775809, [])) (.leaf (58, 26, 8, 0, 0, [])))))) (.branch 42 (.branch 34 (.branch 30 (.leaf (13, 29, 0, 0, 0, [])) (.branch 31 (.leaf (9, 30, 0, 1, 0, [])) (.leaf (78, 31, 208, 0, 327, [1639, 1641, 54])))) (.branch 38 (.branch 37 (.leaf (47, 34, 41, 0, 0, [])) (.leaf (1, 37, 0, 0, 9223372036854775809, []))) (.branch 41 (.leaf (58, 38, 42, 0, 0, [])) (.leaf (1, 41, 0, 0, 9223372036854775808, []))))) (.branch 49 (.branch 45 (.branch 44 (.leaf (14, 42, 0, 4, 0, [])) (.leaf (1, 44, 0, 0, 9223372036854775808, []))) (.branch 47 (.leaf (14, 45, 0, 5, 0, [])) (.leaf (8, 47, 0, 5, 0, [])))) (.branch 53 (.branch 50 (.leaf (13, 49, 0, 0, 0, [])) (.leaf (60, 50, 12, 1, 13, [1344]))) (.branch 54 (.leaf (9, 53, 0, 3, 0, [])) (.leaf (64, 54, 0, 0, 0, []))))))) (.branch 81 (.branch 70 (.branch 60 (.branch 58 (.leaf (55, 55, 98, 0, 0, [])) (.branch 59 (.leaf (13, 58, 0, 0, 0, [])) (.leaf (9, 59, 0, 1, 0, [])))) (.branch 65 (.branch 62 (.leaf (8, 60, 0, 4, 0, [])) (.leaf (46, 62, 70, 0, 0, []))) (.branch 67 (.leaf (8, 65, 0, 5, 0, [])) (.leaf (58, 67, 81, 0, 0, []))))) (.branch 76 (.branch 74 (.branch 71 (.leaf (13, 70, 0, 0, 0, [])) (.leaf (60, 71, 12, 1, 13, [1344]))) (.branch 75 (.leaf (9, 74, 0, 3, 0, [])) (.leaf (64, 75, 0, 0, 0, [])))) (.branch 78 (.branch 77 (.leaf (1, 76, 0, 0, 9223372036854775809, [])) (.leaf (22, 77, 0, 0, 0, []))) (.branch 80 (.leaf (8, 78, 0, 5, 0, [])) (.leaf (22, 80, 0, 0, 0, [])))))) (.branch 92 (.branch 86 (.branch 82 (.leaf (9, 81, 0, 2, 0, [])) (.branch 83 (.leaf (13, 82, 0, 0, 0, [])) (.leaf (60, 83, 12, 18, 46, [1361])))) (.branch 88 (.branch 87 (.leaf (1, 86, 0, 0, 9223372036854775808, [])) (.leaf (64, 87, 0, 0, 0, []))) (.branch 89 (.leaf (22, 88, 0, 0, 0, [])) (.leaf (78, 89, 214, 0, 337, [1664, 1666, 59]))))) (.branch 103 (.branch 98 (.branch 95 (.leaf (20, 92, 0, 5, 9223372036854775809, [])) (.leaf (58, 95, 47, 0, 0, []))) (.branch 100 (.leaf (8, 98, 0, 4, 0, [])) (.leaf (46, 100, 108, 0, 0, [])))) (.branch 105 (.branch 104 (.leaf (13, 103, 0, 0, 0, [])) (.leaf (9, 104, 0, 1, 0, []))) (.branch 108 (.leaf (78, 105, 216, 0, 341, [1673, 1675, 61])) (.leaf (13, 108, 0, 0, 0, [])))))))) (.branch 155 (.branch 131 (.branch 119 (.branch 115 (.branch 112 (.leaf (60, 109, 12, 1, 13, [1344])) (.branch 113 (.leaf (9, 112, 0, 3, 0, [])) (.leaf (2, 113, 0, 0, 9223372036854775814, [])))) (.branch 117 (.branch 116 (.leaf (21, 115, 0, 0, 0, [])) (.leaf (45, 116, 0, 0, 0, []))) (.branch 118 (.leaf (64, 117, 0, 0, 0, [])) (.leaf (13, 118, 0, 0, 0, []))))) (.branch 125 (.branch 123 (.branch 122 (.leaf (60, 119, 12, 18, 46, [1361])) (.leaf (1, 122, 0, 0, 9223372036854775808, []))) (.branch 124 (.leaf (64, 123, 0, 0, 0, [])) (.leaf (21, 124, 0, 0, 0, [])))) (.branch 127 (.branch 126 (.leaf (69, 125, 0, 0, 0, [])) (.leaf (13, 126, 0, 0, 0, []))) (.branch 130 (.leaf (60, 127, 12, 1, 13, [1344])) (.leaf (1, 130, 0, 0, 9223372036854775810, [])))))) (.branch 140 (.branch 134 (.branch 132 (.leaf (45, 131, 0, 0, 0, [])) (.branch 133 (.leaf (64, 132, 0, 0, 0, [])) (.leaf (13, 133, 0, 0, 0, [])))) (.branch 138 (.branch 137 (.leaf (60, 134, 12, 18, 46, [1361])) (.leaf (1, 137, 0, 0, 9223372036854775808, []))) (.branch 139 (.leaf (64, 138, 0, 0, 0, [])) (.leaf (21, 139, 0, 0, 0, []))))) (.branch 146 (.branch 142 (.branch 141 (.leaf (69, 140, 0, 0, 0, [])) (.leaf (1, 141, 0, 0, 9223372036854775808, []))) (.branch 144 (.leaf (14, 142, 0, 5, 0, [])) (.leaf (8, 144, 0, 5, 0, [])))) (.branch 151 (.branch 148 (.leaf (2, 146, 0, 0, 9223372036854775816, [])) (.leaf (55, 148, 179, 0, 0, []))) (.branch 152 (.leaf (13, 151, 0, 0, 0, [])) (.leaf (60, 152, 12, 1, 13, [1344]))))))) (.branch 179 (.branch 166 (.branch 160 (.branch 157 (.leaf (2, 155, 0, 0, 9223372036854775828, [])) (.branch 159 (.leaf (8, 157, 0, 5, 0, [])) (.leaf (21, 159, 0, 0, 0, [])))) (.branch 162 (.branch 161 (.leaf (45, 160, 0, 0, 0, [])) (.leaf (64, 161, 0, 0, 0, []))) (.branch 163 (.leaf (13, 162, 0, 0, 0, [])) (.leaf (60, 163, 12, 18, 46, [1361]))))) (.branch 171 (.branch 169 (.branch 167 (.leaf (1, 166, 0, 0, 9223372036854775812, [])) (.leaf (8, 167, 0, 5, 0, []))) (.branch 170 (.leaf (21, 169, 0, 0, 0, [])) (.leaf (64, 170, 0, 0, 0, [])))) (.branch 173 (.branch 172 (.leaf (21, 171, 0, 0, 0, [])) (.leaf (69, 172, 0, 0, 0, []))) (.branch 176 (.leaf (20, 173, 0, 5, 9223372036854775809, [])) (.leaf (58, 176, 144, 0, 0, [])))))) (.branch 192 (.branch 184 (.branch 180 (.leaf (13, 179, 0, 0, 0, [])) (.branch 181 (.leaf (9, 180, 0, 1, 0, [])) (.leaf (78, 181, 181, 0, 273, [1491, 1493, 34])))) (.branch 188 (.branch 187 (.leaf (47, 184, 196, 0, 0, [])) (.leaf (13, 187, 0, 0, 0, []))) (.branch 191 (.leaf (60, 188, 12, 1, 13, [1344])) (.leaf (9, 191, 0, 3, 0, []))))) (.branch 196 (.branch 194 (.branch 193 (.leaf (1, 192, 0, 0, 9223372036854775812, [])) (.leaf (21, 193, 0, 0, 0, []))) (.branch 195 (.leaf (1, 194, 0, 0, 9223372036854775807, [])) (.leaf (69, 195, 0, 0, 0, [])))) (.branch 198 (.branch 197 (.leaf (13, 196, 0, 0, 0, [])) (.leaf (1, 197, 0, 0, 9223372036854775808, []))) (.branch 201 (.leaf (62, 198, 12, 32, 137, [1375])) (.leaf (82, 201, 0, 0, 0, []))))))))
noncomputable def abM213 : abM := ((⟨"TallBinsModel", "draws", "(II)V"⟩, prog_14_method_47_code, 6, none), 2, 0, 0, 12, abK213)
set_option maxRecDepth 20000 in
noncomputable def abK214 : Lean.RArray abEy := .branch 35 (.branch 18 (.branch 9 (.branch 4 (.branch 1 (.leaf (9, 0, 0, 3, 0, [])) (.leaf (46, 1, 17, 0, 0, []))) (.branch 5 (.leaf (13, 4, 0, 0, 0, [])) (.branch 8 (.leaf (60, 5, 12, 1, 13, [1344])) (.leaf (9, 8, 0, 1, 0, []))))) (.branch 13 (.branch 10 (.leaf (9, 9, 0, 2, 0, [])) (.leaf (79, 10, 182, 0, 126, [1495, 1496]))) (.branch 14 (.leaf (64, 13, 0, 0, 0, [])) (.branch 17 (.leaf (47, 14, 18, 0, 0, [])) (.leaf (82, 17, 0, 0, 0, [])))))) (.branch 25 (.branch 20 (.branch 19 (.leaf (13, 18, 0, 0, 0, [])) (.leaf (9, 19, 0, 1, 0, []))) (.branch 21 (.leaf (9, 20, 0, 2, 0, [])) (.branch 24 (.leaf (79, 21, 182, 0, 126, [1495, 1496])) (.leaf (9, 24, 0, 3, 0, []))))) (.branch 30 (.branch 26 (.leaf (13, 25, 0, 0, 0, [])) (.branch 29 (.leaf (60, 26, 12, 1, 13, [1344])) (.leaf (9, 29, 0, 1, 0, [])))) (.branch 31 (.leaf (9, 30, 0, 2, 0, [])) (.branch 34 (.leaf (79, 31, 182, 0, 126, [1495, 1496])) (.leaf (64, 34, 0, 0, 0, []))))))) (.branch 57 (.branch 46 (.branch 41 (.branch 38 (.leaf (79, 35, 269, 0, 171, [1515, 598])) (.leaf (78, 38, 215, 0, 330, [1668, 1670, 60]))) (.branch 42 (.leaf (1, 41, 0, 0, 9223372036854775808, [])) (.branch 44 (.leaf (14, 42, 0, 4, 0, [])) (.leaf (8, 44, 0, 4, 0, []))))) (.branch 51 (.branch 48 (.leaf (2, 46, 0, 0, 9223372036854775820, [])) (.leaf (55, 48, 74, 0, 0, []))) (.branch 52 (.leaf (13, 51, 0, 0, 0, [])) (.branch 55 (.leaf (60, 52, 12, 18, 46, [1361])) (.leaf (8, 55, 0, 4, 0, [])))))) (.branch 65 (.branch 59 (.branch 58 (.leaf (45, 57, 0, 0, 0, [])) (.leaf (64, 58, 0, 0, 0, []))) (.branch 60 (.leaf (13, 59, 0, 0, 0, [])) (.branch 63 (.leaf (60, 60, 12, 16, 40, [1359])) (.leaf (8, 63, 0, 4, 0, []))))) (.branch 68 (.branch 66 (.leaf (64, 65, 0, 0, 0, [])) (.branch 67 (.leaf (21, 66, 0, 0, 0, [])) (.leaf (69, 67, 0, 0, 0, [])))) (.branch 71 (.leaf (20, 68, 0, 4, 9223372036854775809, [])) (.branch 74 (.leaf (58, 71, 44, 0, 0, [])) (.leaf (82, 74, 0, 0, 0, [])))))))
noncomputable def abM214 : abM := ((⟨"TallBinsModel", "takes0", "(III)V"⟩, prog_14_method_45_code, 5, none), 3, 0, 0, 12, abK214)
set_option maxRecDepth 20000 in
noncomputable def abK215 : Lean.RArray abEy := .branch 131 (.branch 65 (.branch 31 (.branch 14 (.branch 7 (.branch 4 (.branch 1 (.leaf (13, 0, 0, 0, 0, [])) (.leaf (60, 1, 12, 1, 13, [1344]))) (.branch 5 (.leaf (9, 4, 0, 1, 0, [])) (.branch 6 (.leaf (64, 5, 0, 0, 0, [])) (.leaf (40, 6, 0, 0, 0, []))))) (.branch 9 (.branch 8 (.leaf (17, 7, 0, 3, 0, [])) (.leaf (13, 8, 0, 0, 0, []))) (.branch 12 (.leaf (60, 9, 12, 16, 40, [1359])) (.branch 13 (.leaf (1, 12, 0, 0, 9223372036854775808, [])) (.leaf (9, 13, 0, 2, 0, [])))))) (.branch 21 (.branch 16 (.branch 15 (.leaf (69, 14, 0, 0, 0, [])) (.leaf (1, 15, 0, 0, 9223372036854775809, []))) (.branch 18 (.leaf (14, 16, 0, 5, 0, [])) (.branch 20 (.leaf (8, 18, 0, 5, 0, [])) (.leaf (1, 20, 0, 0, 9223372036854775812, []))))) (.branch 25 (.branch 24 (.leaf (55, 21, 55, 0, 0, [])) (.leaf (13, 24, 0, 0, 0, []))) (.branch 28 (.leaf (60, 25, 12, 16, 40, [1359])) (.branch 30 (.leaf (8, 28, 0, 5, 0, [])) (.leaf (9, 30, 0, 2, 0, []))))))) (.branch 44 (.branch 39 (.branch 33 (.branch 32 (.leaf (40, 31, 0, 0, 0, [])) (.leaf (13, 32, 0, 0, 0, []))) (.branch 36 (.leaf (60, 33, 12, 1, 13, [1344])) (.branch 37 (.leaf (9, 36, 0, 1, 0, [])) (.leaf (8, 37, 0, 5, 0, []))))) (.branch 41 (.branch 40 (.leaf (21, 39, 0, 0, 0, [])) (.leaf (64, 40, 0, 0, 0, []))) (.branch 42 (.leaf (40, 41, 0, 0, 0, [])) (.branch 43 (.leaf (34, 42, 0, 0, 0, [])) (.leaf (11, 43, 0, 3, 0, [])))))) (.branch 55 (.branch 48 (.branch 47 (.leaf (79, 44, 272, 0, 282, [1672, 896])) (.leaf (41, 47, 0, 0, 0, []))) (.branch 49 (.leaf (69, 48, 0, 0, 0, [])) (.branch 52 (.leaf (20, 49, 0, 5, 9223372036854775809, [])) (.leaf (58, 52, 18, 0, 0, []))))) (.branch 59 (.branch 56 (.leaf (9, 55, 0, 2, 0, [])) (.branch 58 (.leaf (14, 56, 0, 5, 0, [])) (.leaf (1, 58, 0, 0, 9223372036854775808, [])))) (.branch 61 (.leaf (14, 59, 0, 6, 0, [])) (.branch 63 (.leaf (8, 61, 0, 6, 0, [])) (.leaf (2, 63, 0, 0, 9223372036854775816, [])))))))) (.branch 94 (.branch 82 (.branch 75 (.branch 69 (.branch 68 (.leaf (55, 65, 123, 0, 0, [])) (.leaf (13, 68, 0, 0, 0, []))) (.branch 72 (.leaf (60, 69, 12, 16, 40, [1359])) (.branch 73 (.leaf (1, 72, 0, 0, 9223372036854775812, [])) (.leaf (8, 73, 0, 6, 0, []))))) (.branch 77 (.branch 76 (.leaf (21, 75, 0, 0, 0, [])) (.leaf (9, 76, 0, 2, 0, []))) (.branch 78 (.leaf (40, 77, 0, 0, 0, [])) (.branch 79 (.leaf (13, 78, 0, 0, 0, [])) (.leaf (60, 79, 12, 1, 13, [1344])))))) (.branch 88 (.branch 84 (.branch 83 (.leaf (9, 82, 0, 1, 0, [])) (.leaf (1, 83, 0, 0, 9223372036854775812, []))) (.branch 85 (.leaf (21, 84, 0, 0, 0, [])) (.branch 87 (.leaf (8, 85, 0, 6, 0, [])) (.leaf (21, 87, 0, 0, 0, []))))) (.branch 90 (.branch 89 (.leaf (64, 88, 0, 0, 0, [])) (.leaf (40, 89, 0, 0, 0, []))) (.branch 91 (.leaf (34, 90, 0, 0, 0, [])) (.branch 93 (.leaf (11, 91, 0, 3, 0, [])) (.leaf (41, 93, 0, 0, 0, []))))))) (.branch 109 (.branch 102 (.branch 97 (.branch 95 (.leaf (69, 94, 0, 0, 0, [])) (.leaf (8, 95, 0, 5, 0, []))) (.branch 98 (.leaf (13, 97, 0, 0, 0, [])) (.branch 101 (.leaf (60, 98, 12, 16, 40, [1359])) (.leaf (1, 101, 0, 0, 9223372036854775812, []))))) (.branch 105 (.branch 104 (.leaf (8, 102, 0, 6, 0, [])) (.leaf (21, 104, 0, 0, 0, []))) (.branch 106 (.leaf (64, 105, 0, 0, 0, [])) (.branch 107 (.leaf (22, 106, 0, 0, 0, [])) (.leaf (14, 107, 0, 5, 0, [])))))) (.branch 117 (.branch 113 (.branch 110 (.leaf (13, 109, 0, 0, 0, [])) (.leaf (60, 110, 12, 17, 43, [1360]))) (.branch 115 (.leaf (8, 113, 0, 6, 0, [])) (.branch 116 (.leaf (1, 115, 0, 0, 9223372036854775808, [])) (.leaf (70, 116, 0, 0, 0, []))))) (.branch 125 (.branch 120 (.leaf (20, 117, 0, 6, 9223372036854775809, [])) (.branch 123 (.leaf (58, 120, 61, 0, 0, [])) (.leaf (8, 123, 0, 5, 0, [])))) (.branch 128 (.leaf (51, 125, 232, 0, 0, [])) (.branch 129 (.leaf (1, 128, 0, 0, 9223372036854775807, [])) (.leaf (14, 129, 0, 6, 0, []))))))))) (.branch 195 (.branch 166 (.branch 151 (.branch 141 (.branch 134 (.branch 132 (.leaf (1, 131, 0, 0, 9223372036854775808, [])) (.leaf (14, 132, 0, 7, 0, []))) (.branch 136 (.leaf (8, 134, 0, 7, 0, [])) (.branch 138 (.leaf (2, 136, 0, 0, 9223372036854775816, [])) (.leaf (55, 138, 205, 0, 0, []))))) (.branch 145 (.branch 142 (.leaf (13, 141, 0, 0, 0, [])) (.leaf (60, 142, 12, 17, 43, [1360]))) (.branch 147 (.leaf (8, 145, 0, 7, 0, [])) (.branch 148 (.leaf (65, 147, 0, 0, 0, [])) (.leaf (47, 148, 199, 0, 0, [])))))) (.branch 159 (.branch 154 (.branch 153 (.leaf (8, 151, 0, 6, 0, [])) (.leaf (1, 153, 0, 0, 9223372036854775807, []))) (.branch 157 (.leaf (52, 154, 195, 0, 0, [])) (.branch 158 (.leaf (9, 157, 0, 2, 0, [])) (.leaf (40, 158, 0, 0, 0, []))))) (.branch 163 (.branch 160 (.leaf (13, 159, 0, 0, 0, [])) (.leaf (60, 160, 12, 1, 13, [1344]))) (.branch 164 (.leaf (9, 163, 0, 1, 0, [])) (.branch 165 (.leaf (1, 164, 0, 0, 9223372036854775812, [])) (.leaf (21, 165, 0, 0, 0, []))))))) (.branch 180 (.branch 172 (.branch 169 (.branch 168 (.leaf (8, 166, 0, 7, 0, [])) (.leaf (21, 168, 0, 0, 0, []))) (.branch 170 (.leaf (64, 169, 0, 0, 0, [])) (.branch 171 (.leaf (40, 170, 0, 0, 0, [])) (.leaf (34, 171, 0, 0, 0, []))))) (.branch 175 (.branch 174 (.leaf (11, 172, 0, 3, 0, [])) (.leaf (9, 174, 0, 2, 0, []))) (.branch 176 (.leaf (40, 175, 0, 0, 0, [])) (.branch 177 (.leaf (13, 176, 0, 0, 0, [])) (.leaf (60, 177, 12, 1, 13, [1344])))))) (.branch 186 (.branch 182 (.branch 181 (.leaf (9, 180, 0, 1, 0, [])) (.leaf (1, 181, 0, 0, 9223372036854775812, []))) (.branch 183 (.leaf (21, 182, 0, 0, 0, [])) (.branch 185 (.leaf (8, 183, 0, 6, 0, [])) (.leaf (21, 185, 0, 0, 0, []))))) (.branch 189 (.branch 187 (.leaf (64, 186, 0, 0, 0, [])) (.branch 188 (.leaf (40, 187, 0, 0, 0, [])) (.leaf (34, 188, 0, 0, 0, [])))) (.branch 191 (.leaf (11, 189, 0, 3, 0, [])) (.branch 192 (.leaf (43, 191, 0, 0, 0, [])) (.leaf (51, 192, 199, 0, 0, [])))))))) (.branch 232 (.branch 214 (.branch 206 (.branch 199 (.branch 197 (.leaf (8, 195, 0, 7, 0, [])) (.leaf (14, 197, 0, 6, 0, []))) (.branch 202 (.leaf (20, 199, 0, 7, 9223372036854775809, [])) (.branch 205 (.leaf (58, 202, 134, 0, 0, [])) (.leaf (13, 205, 0, 0, 0, []))))) (.branch 211 (.branch 209 (.leaf (60, 206, 12, 17, 43, [1360])) (.leaf (8, 209, 0, 6, 0, []))) (.branch 212 (.leaf (1, 211, 0, 0, 9223372036854775809, [])) (.branch 213 (.leaf (70, 212, 0, 0, 0, [])) (.leaf (13, 213, 0, 0, 0, [])))))) (.branch 222 (.branch 218 (.branch 217 (.leaf (60, 214, 12, 16, 40, [1359])) (.leaf (1, 217, 0, 0, 9223372036854775812, []))) (.branch 220 (.leaf (8, 218, 0, 6, 0, [])) (.branch 221 (.leaf (21, 220, 0, 0, 0, [])) (.leaf (45, 221, 0, 0, 0, []))))) (.branch 225 (.branch 223 (.leaf (64, 222, 0, 0, 0, [])) (.branch 224 (.leaf (1, 223, 0, 0, 9223372036854775809, [])) (.leaf (21, 224, 0, 0, 0, [])))) (.branch 226 (.leaf (69, 225, 0, 0, 0, [])) (.branch 229 (.leaf (20, 226, 0, 5, 9223372036854775807, [])) (.leaf (58, 229, 123, 0, 0, []))))))) (.branch 250 (.branch 242 (.branch 235 (.branch 233 (.leaf (1, 232, 0, 0, 9223372036854775808, [])) (.leaf (14, 233, 0, 6, 0, []))) (.branch 237 (.leaf (8, 235, 0, 6, 0, [])) (.branch 239 (.leaf (2, 237, 0, 0, 9223372036854775820, [])) (.leaf (55, 239, 267, 0, 0, []))))) (.branch 246 (.branch 243 (.leaf (13, 242, 0, 0, 0, [])) (.leaf (60, 243, 12, 1, 13, [1344]))) (.branch 247 (.leaf (9, 246, 0, 1, 0, [])) (.branch 249 (.leaf (8, 247, 0, 6, 0, [])) (.leaf (21, 249, 0, 0, 0, [])))))) (.branch 258 (.branch 252 (.branch 251 (.leaf (45, 250, 0, 0, 0, [])) (.leaf (64, 251, 0, 0, 0, []))) (.branch 253 (.leaf (13, 252, 0, 0, 0, [])) (.branch 256 (.leaf (60, 253, 12, 16, 40, [1359])) (.leaf (8, 256, 0, 6, 0, []))))) (.branch 261 (.branch 259 (.leaf (64, 258, 0, 0, 0, [])) (.branch 260 (.leaf (22, 259, 0, 0, 0, [])) (.leaf (69, 260, 0, 0, 0, [])))) (.branch 264 (.leaf (20, 261, 0, 6, 9223372036854775809, [])) (.branch 267 (.leaf (58, 264, 235, 0, 0, [])) (.leaf (82, 267, 0, 0, 0, [])))))))))
noncomputable def abM215 : abM := ((⟨"TallBinsModel", "parts", "(II)V"⟩, prog_14_method_35_code, 8, none), 2, 0, 0, 12, abK215)
set_option maxRecDepth 20000 in
noncomputable def abK216 : Lean.RArray abEy := .branch 46 (.branch 22 (.branch 9 (.branch 5 (.branch 1 (.leaf (9, 0, 0, 1, 0, [])) (.branch 4 (.leaf (79, 1, 173, 0, 108, [1337, 1338])) (.leaf (15, 4, 0, 2, 0, [])))) (.branch 7 (.branch 6 (.leaf (1, 5, 0, 0, 9223372036854775808, [])) (.leaf (15, 6, 0, 3, 0, []))) (.branch 8 (.leaf (9, 7, 0, 3, 0, [])) (.leaf (13, 8, 0, 0, 0, []))))) (.branch 17 (.branch 13 (.branch 12 (.leaf (60, 9, 12, 1, 13, [1344])) (.leaf (9, 12, 0, 2, 0, []))) (.branch 14 (.leaf (64, 13, 0, 0, 0, [])) (.leaf (55, 14, 109, 0, 0, [])))) (.branch 19 (.branch 18 (.leaf (9, 17, 0, 3, 0, [])) (.leaf (1, 18, 0, 0, 9223372036854775809, []))) (.branch 20 (.leaf (21, 19, 0, 0, 0, [])) (.leaf (14, 20, 0, 4, 0, [])))))) (.branch 34 (.branch 28 (.branch 24 (.leaf (8, 22, 0, 4, 0, [])) (.branch 25 (.leaf (13, 24, 0, 0, 0, [])) (.leaf (60, 25, 12, 1, 13, [1344])))) (.branch 30 (.branch 29 (.leaf (9, 28, 0, 2, 0, [])) (.leaf (64, 29, 0, 0, 0, []))) (.branch 33 (.leaf (55, 30, 103, 0, 0, [])) (.leaf (13, 33, 0, 0, 0, []))))) (.branch 40 (.branch 38 (.branch 37 (.leaf (60, 34, 12, 1, 13, [1344])) (.leaf (9, 37, 0, 2, 0, []))) (.branch 39 (.leaf (1, 38, 0, 0, 9223372036854775809, [])) (.leaf (21, 39, 0, 0, 0, [])))) (.branch 42 (.branch 41 (.leaf (64, 40, 0, 0, 0, [])) (.leaf (13, 41, 0, 0, 0, []))) (.branch 45 (.leaf (60, 42, 12, 1, 13, [1344])) (.leaf (9, 45, 0, 1, 0, []))))))) (.branch 76 (.branch 57 (.branch 51 (.branch 47 (.leaf (9, 46, 0, 3, 0, [])) (.branch 50 (.leaf (79, 47, 182, 0, 126, [1495, 1496])) (.leaf (64, 50, 0, 0, 0, [])))) (.branch 53 (.branch 52 (.leaf (22, 51, 0, 0, 0, [])) (.leaf (13, 52, 0, 0, 0, []))) (.branch 56 (.leaf (60, 53, 12, 1, 13, [1344])) (.leaf (9, 56, 0, 1, 0, []))))) (.branch 66 (.branch 62 (.branch 59 (.leaf (8, 57, 0, 4, 0, [])) (.leaf (79, 59, 182, 0, 126, [1495, 1496]))) (.branch 63 (.leaf (64, 62, 0, 0, 0, [])) (.leaf (79, 63, 269, 0, 171, [1515, 598])))) (.branch 70 (.branch 68 (.leaf (14, 66, 0, 5, 0, [])) (.leaf (8, 68, 0, 5, 0, []))) (.branch 73 (.leaf (47, 70, 76, 0, 0, [])) (.leaf (58, 73, 97, 0, 0, [])))))) (.branch 90 (.branch 83 (.branch 78 (.branch 77 (.leaf (13, 76, 0, 0, 0, [])) (.leaf (9, 77, 0, 1, 0, []))) (.branch 80 (.leaf (8, 78, 0, 4, 0, [])) (.leaf (79, 80, 182, 0, 126, [1495, 1496])))) (.branch 88 (.branch 85 (.leaf (8, 83, 0, 5, 0, [])) (.leaf (78, 85, 215, 0, 330, [1668, 1670, 60]))) (.branch 89 (.leaf (13, 88, 0, 0, 0, [])) (.leaf (9, 89, 0, 1, 0, []))))) (.branch 100 (.branch 94 (.branch 91 (.leaf (9, 90, 0, 3, 0, [])) (.leaf (79, 91, 182, 0, 126, [1495, 1496]))) (.branch 97 (.leaf (78, 94, 217, 0, 334, [1677, 1679, 62])) (.leaf (20, 97, 0, 4, 9223372036854775809, [])))) (.branch 106 (.branch 103 (.leaf (58, 100, 22, 0, 0, [])) (.leaf (20, 103, 0, 3, 9223372036854775809, []))) (.branch 109 (.leaf (58, 106, 7, 0, 0, [])) (.leaf (82, 109, 0, 0, 0, [])))))))
noncomputable def abM216 : abM := ((⟨"TallBinsModel", "settles", "(I)V"⟩, prog_14_method_46_code, 6, none), 1, 0, 0, 12, abK216)
set_option maxRecDepth 20000 in
noncomputable def abK217 : Lean.RArray abEy := .branch 15 (.branch 8 (.branch 2 (.branch 1 (.leaf (1, 0, 0, 0, 9223372036854775808, [])) (.leaf (15, 1, 0, 2, 0, []))) (.branch 3 (.leaf (9, 2, 0, 2, 0, [])) (.branch 5 (.leaf (2, 3, 0, 0, 9223372036854775820, [])) (.leaf (55, 5, 31, 0, 0, []))))) (.branch 12 (.branch 9 (.leaf (13, 8, 0, 0, 0, [])) (.leaf (60, 9, 12, 1, 13, [1344]))) (.branch 13 (.leaf (9, 12, 0, 1, 0, [])) (.branch 14 (.leaf (9, 13, 0, 2, 0, [])) (.leaf (21, 14, 0, 0, 0, [])))))) (.branch 22 (.branch 17 (.branch 16 (.leaf (45, 15, 0, 0, 0, [])) (.leaf (64, 16, 0, 0, 0, []))) (.branch 18 (.leaf (13, 17, 0, 0, 0, [])) (.branch 21 (.leaf (60, 18, 12, 16, 40, [1359])) (.leaf (9, 21, 0, 2, 0, []))))) (.branch 25 (.branch 23 (.leaf (64, 22, 0, 0, 0, [])) (.branch 24 (.leaf (21, 23, 0, 0, 0, [])) (.leaf (69, 24, 0, 0, 0, [])))) (.branch 28 (.leaf (20, 25, 0, 2, 9223372036854775809, [])) (.branch 31 (.leaf (58, 28, 2, 0, 0, [])) (.leaf (82, 31, 0, 0, 0, []))))))
noncomputable def abM217 : abM := ((⟨"TallBinsModel", "lays", "(I)V"⟩, prog_14_method_36_code, 3, none), 1, 0, 0, 12, abK217)
set_option maxRecDepth 20000 in
noncomputable def abK218 : Lean.RArray abEy := .branch 50 (.branch 28 (.branch 12 (.branch 5 (.branch 1 (.leaf (13, 0, 0, 0, 0, [])) (.branch 2 (.leaf (9, 1, 0, 1, 0, [])) (.leaf (78, 2, 202, 0, 122, [1606, 1608, 52])))) (.branch 10 (.branch 8 (.leaf (47, 5, 11, 0, 0, [])) (.leaf (2, 8, 0, 0, 9223372036854775806, []))) (.branch 11 (.leaf (83, 10, 0, 0, 0, [])) (.leaf (13, 11, 0, 0, 0, []))))) (.branch 20 (.branch 16 (.branch 13 (.leaf (9, 12, 0, 1, 0, [])) (.leaf (78, 13, 212, 0, 344, [1656, 1658, 57]))) (.branch 19 (.leaf (46, 16, 28, 0, 0, [])) (.leaf (13, 19, 0, 0, 0, [])))) (.branch 24 (.branch 21 (.leaf (9, 20, 0, 1, 0, [])) (.leaf (78, 21, 183, 0, 276, [1498, 1500, 35]))) (.branch 25 (.leaf (1, 24, 0, 0, 9223372036854775807, [])) (.leaf (52, 25, 31, 0, 0, [])))))) (.branch 40 (.branch 32 (.branch 30 (.leaf (2, 28, 0, 0, 9223372036854775803, [])) (.branch 31 (.leaf (83, 30, 0, 0, 0, [])) (.leaf (13, 31, 0, 0, 0, [])))) (.branch 36 (.branch 35 (.leaf (60, 32, 12, 1, 13, [1344])) (.leaf (9, 35, 0, 1, 0, []))) (.branch 39 (.leaf (79, 36, 173, 0, 108, [1337, 1338])) (.leaf (1, 39, 0, 0, 9223372036854775813, []))))) (.branch 44 (.branch 42 (.branch 41 (.leaf (21, 40, 0, 0, 0, [])) (.leaf (1, 41, 0, 0, 9223372036854775808, []))) (.branch 43 (.leaf (69, 42, 0, 0, 0, [])) (.leaf (13, 43, 0, 0, 0, [])))) (.branch 48 (.branch 45 (.leaf (1, 44, 0, 0, 9223372036854775808, [])) (.leaf (62, 45, 12, 32, 137, [1375]))) (.branch 49 (.leaf (1, 48, 0, 0, 9223372036854775808, [])) (.leaf (15, 49, 0, 2, 0, []))))))) (.branch 76 (.branch 60 (.branch 53 (.branch 51 (.leaf (1, 50, 0, 0, 9223372036854775808, [])) (.branch 52 (.leaf (15, 51, 0, 3, 0, [])) (.leaf (9, 52, 0, 3, 0, [])))) (.branch 58 (.branch 55 (.leaf (2, 53, 0, 0, 9223372036854775820, [])) (.leaf (55, 55, 85, 0, 0, []))) (.branch 59 (.leaf (9, 58, 0, 2, 0, [])) (.leaf (13, 59, 0, 0, 0, []))))) (.branch 68 (.branch 64 (.branch 63 (.leaf (60, 60, 12, 1, 13, [1344])) (.leaf (9, 63, 0, 1, 0, []))) (.branch 65 (.leaf (9, 64, 0, 3, 0, [])) (.leaf (79, 65, 182, 0, 126, [1495, 1496])))) (.branch 72 (.branch 69 (.leaf (64, 68, 0, 0, 0, [])) (.leaf (51, 69, 76, 0, 0, []))) (.branch 73 (.leaf (1, 72, 0, 0, 9223372036854775809, [])) (.leaf (58, 73, 77, 0, 0, [])))))) (.branch 88 (.branch 82 (.branch 78 (.branch 77 (.leaf (1, 76, 0, 0, 9223372036854775808, [])) (.leaf (21, 77, 0, 0, 0, []))) (.branch 79 (.leaf (15, 78, 0, 2, 0, [])) (.leaf (20, 79, 0, 3, 9223372036854775809, [])))) (.branch 86 (.branch 85 (.leaf (58, 82, 52, 0, 0, [])) (.leaf (13, 85, 0, 0, 0, []))) (.branch 87 (.leaf (9, 86, 0, 1, 0, [])) (.leaf (1, 87, 0, 0, 9223372036854775808, []))))) (.branch 96 (.branch 92 (.branch 91 (.leaf (78, 88, 209, 0, 320, [1643, 1645, 55])) (.leaf (13, 91, 0, 0, 0, []))) (.branch 93 (.leaf (9, 92, 0, 1, 0, [])) (.leaf (78, 93, 181, 0, 273, [1491, 1493, 34])))) (.branch 98 (.branch 97 (.leaf (23, 96, 0, 0, 0, [])) (.leaf (9, 97, 0, 2, 0, []))) (.branch 99 (.leaf (23, 98, 0, 0, 0, [])) (.leaf (83, 99, 0, 0, 0, [])))))))
noncomputable def abM218 : abM := ((⟨"TallBinsModel", "poke", "(I)I"⟩, prog_14_method_49_code, 4, some .int), 1, 0, 0, 12, abK218)
set_option maxRecDepth 20000 in
noncomputable def abK219 : Lean.RArray abEy := .branch 161 (.branch 83 (.branch 39 (.branch 21 (.branch 9 (.branch 2 (.branch 1 (.leaf (13, 0, 0, 0, 0, [])) (.leaf (9, 1, 0, 1, 0, []))) (.branch 5 (.leaf (78, 2, 202, 0, 122, [1606, 1608, 52])) (.branch 8 (.leaf (46, 5, 21, 0, 0, [])) (.leaf (13, 8, 0, 0, 0, []))))) (.branch 16 (.branch 10 (.leaf (9, 9, 0, 2, 0, [])) (.branch 13 (.leaf (78, 10, 202, 0, 122, [1606, 1608, 52])) (.leaf (46, 13, 21, 0, 0, [])))) (.branch 17 (.leaf (9, 16, 0, 1, 0, [])) (.branch 18 (.leaf (9, 17, 0, 2, 0, [])) (.leaf (53, 18, 24, 0, 0, [])))))) (.branch 30 (.branch 25 (.branch 23 (.leaf (2, 21, 0, 0, 9223372036854775806, [])) (.branch 24 (.leaf (83, 23, 0, 0, 0, [])) (.leaf (13, 24, 0, 0, 0, [])))) (.branch 26 (.leaf (9, 25, 0, 1, 0, [])) (.branch 29 (.leaf (78, 26, 181, 0, 273, [1491, 1493, 34])) (.leaf (15, 29, 0, 3, 0, []))))) (.branch 36 (.branch 31 (.leaf (9, 30, 0, 3, 0, [])) (.branch 34 (.leaf (47, 31, 37, 0, 0, [])) (.leaf (2, 34, 0, 0, 9223372036854775802, [])))) (.branch 37 (.leaf (83, 36, 0, 0, 0, [])) (.branch 38 (.leaf (13, 37, 0, 0, 0, [])) (.leaf (9, 38, 0, 1, 0, []))))))) (.branch 62 (.branch 50 (.branch 45 (.branch 42 (.leaf (78, 39, 212, 0, 344, [1656, 1658, 57])) (.leaf (47, 42, 80, 0, 0, []))) (.branch 46 (.leaf (13, 45, 0, 0, 0, [])) (.branch 47 (.leaf (9, 46, 0, 1, 0, [])) (.leaf (78, 47, 208, 0, 327, [1639, 1641, 54]))))) (.branch 55 (.branch 51 (.leaf (1, 50, 0, 0, 9223372036854775810, [])) (.branch 54 (.leaf (52, 51, 80, 0, 0, [])) (.leaf (13, 54, 0, 0, 0, [])))) (.branch 56 (.leaf (9, 55, 0, 2, 0, [])) (.branch 59 (.leaf (78, 56, 181, 0, 273, [1491, 1493, 34])) (.leaf (50, 59, 80, 0, 0, [])))))) (.branch 72 (.branch 67 (.branch 63 (.leaf (13, 62, 0, 0, 0, [])) (.branch 64 (.leaf (9, 63, 0, 1, 0, [])) (.leaf (78, 64, 183, 0, 276, [1498, 1500, 35])))) (.branch 68 (.leaf (1, 67, 0, 0, 9223372036854775807, [])) (.branch 71 (.leaf (53, 68, 80, 0, 0, [])) (.leaf (13, 71, 0, 0, 0, []))))) (.branch 77 (.branch 73 (.leaf (9, 72, 0, 2, 0, [])) (.branch 76 (.leaf (78, 73, 183, 0, 276, [1498, 1500, 35])) (.leaf (1, 76, 0, 0, 9223372036854775807, [])))) (.branch 80 (.leaf (52, 77, 83, 0, 0, [])) (.branch 82 (.leaf (2, 80, 0, 0, 9223372036854775803, [])) (.leaf (83, 82, 0, 0, 0, [])))))))) (.branch 121 (.branch 103 (.branch 93 (.branch 87 (.branch 84 (.leaf (9, 83, 0, 1, 0, [])) (.leaf (79, 84, 173, 0, 108, [1337, 1338]))) (.branch 89 (.leaf (14, 87, 0, 4, 0, [])) (.branch 90 (.leaf (9, 89, 0, 2, 0, [])) (.leaf (79, 90, 173, 0, 108, [1337, 1338]))))) (.branch 99 (.branch 95 (.leaf (14, 93, 0, 5, 0, [])) (.branch 96 (.leaf (13, 95, 0, 0, 0, [])) (.leaf (60, 96, 12, 1, 13, [1344])))) (.branch 101 (.leaf (8, 99, 0, 5, 0, [])) (.branch 102 (.leaf (64, 101, 0, 0, 0, [])) (.leaf (13, 102, 0, 0, 0, [])))))) (.branch 112 (.branch 109 (.branch 106 (.leaf (60, 103, 12, 1, 13, [1344])) (.branch 108 (.leaf (8, 106, 0, 5, 0, [])) (.leaf (1, 108, 0, 0, 9223372036854775809, [])))) (.branch 110 (.leaf (21, 109, 0, 0, 0, [])) (.branch 111 (.leaf (64, 110, 0, 0, 0, [])) (.leaf (23, 111, 0, 0, 0, []))))) (.branch 118 (.branch 113 (.leaf (9, 112, 0, 3, 0, [])) (.branch 116 (.leaf (55, 113, 119, 0, 0, [])) (.leaf (2, 116, 0, 0, 9223372036854775805, [])))) (.branch 119 (.leaf (83, 118, 0, 0, 0, [])) (.branch 120 (.leaf (13, 119, 0, 0, 0, [])) (.leaf (9, 120, 0, 1, 0, []))))))) (.branch 143 (.branch 134 (.branch 128 (.branch 124 (.leaf (78, 121, 208, 0, 327, [1639, 1641, 54])) (.branch 127 (.leaf (47, 124, 131, 0, 0, [])) (.leaf (1, 127, 0, 0, 9223372036854775809, [])))) (.branch 131 (.leaf (58, 128, 132, 0, 0, [])) (.branch 132 (.leaf (1, 131, 0, 0, 9223372036854775808, [])) (.leaf (14, 132, 0, 6, 0, []))))) (.branch 140 (.branch 135 (.leaf (13, 134, 0, 0, 0, [])) (.branch 138 (.leaf (60, 135, 12, 1, 13, [1344])) (.leaf (8, 138, 0, 5, 0, [])))) (.branch 141 (.leaf (1, 140, 0, 0, 9223372036854775812, [])) (.branch 142 (.leaf (21, 141, 0, 0, 0, [])) (.leaf (13, 142, 0, 0, 0, [])))))) (.branch 152 (.branch 149 (.branch 146 (.leaf (60, 143, 12, 1, 13, [1344])) (.branch 148 (.leaf (8, 146, 0, 4, 0, [])) (.leaf (1, 148, 0, 0, 9223372036854775812, [])))) (.branch 150 (.leaf (21, 149, 0, 0, 0, [])) (.branch 151 (.leaf (64, 150, 0, 0, 0, [])) (.leaf (69, 151, 0, 0, 0, []))))) (.branch 156 (.branch 153 (.leaf (1, 152, 0, 0, 9223372036854775808, [])) (.branch 155 (.leaf (14, 153, 0, 7, 0, [])) (.leaf (1, 155, 0, 0, 9223372036854775808, [])))) (.branch 158 (.leaf (14, 156, 0, 8, 0, [])) (.branch 160 (.leaf (8, 158, 0, 8, 0, [])) (.leaf (13, 160, 0, 0, 0, []))))))))) (.branch 248 (.branch 205 (.branch 185 (.branch 171 (.branch 166 (.branch 164 (.leaf (60, 161, 12, 1, 13, [1344])) (.leaf (8, 164, 0, 4, 0, []))) (.branch 167 (.leaf (64, 166, 0, 0, 0, [])) (.branch 170 (.leaf (55, 167, 310, 0, 0, [])) (.leaf (9, 170, 0, 1, 0, []))))) (.branch 178 (.branch 173 (.leaf (8, 171, 0, 6, 0, [])) (.branch 176 (.leaf (46, 173, 181, 0, 0, [])) (.leaf (8, 176, 0, 8, 0, [])))) (.branch 181 (.leaf (58, 178, 193, 0, 0, [])) (.branch 182 (.leaf (13, 181, 0, 0, 0, [])) (.leaf (60, 182, 12, 1, 13, [1344])))))) (.branch 193 (.branch 189 (.branch 187 (.leaf (8, 185, 0, 4, 0, [])) (.branch 188 (.leaf (64, 187, 0, 0, 0, [])) (.leaf (1, 188, 0, 0, 9223372036854775809, [])))) (.branch 190 (.leaf (22, 189, 0, 0, 0, [])) (.branch 192 (.leaf (8, 190, 0, 8, 0, [])) (.leaf (22, 192, 0, 0, 0, []))))) (.branch 199 (.branch 196 (.leaf (79, 193, 182, 0, 126, [1495, 1496])) (.branch 198 (.leaf (14, 196, 0, 9, 0, [])) (.leaf (13, 198, 0, 0, 0, [])))) (.branch 202 (.leaf (60, 199, 12, 1, 13, [1344])) (.branch 204 (.leaf (8, 202, 0, 9, 0, [])) (.leaf (64, 204, 0, 0, 0, []))))))) (.branch 226 (.branch 215 (.branch 209 (.branch 208 (.leaf (51, 205, 304, 0, 0, [])) (.leaf (13, 208, 0, 0, 0, []))) (.branch 212 (.leaf (60, 209, 12, 1, 13, [1344])) (.branch 213 (.leaf (9, 212, 0, 2, 0, [])) (.leaf (8, 213, 0, 7, 0, []))))) (.branch 220 (.branch 218 (.leaf (79, 215, 182, 0, 126, [1495, 1496])) (.branch 219 (.leaf (64, 218, 0, 0, 0, [])) (.leaf (13, 219, 0, 0, 0, [])))) (.branch 223 (.leaf (60, 220, 12, 1, 13, [1344])) (.branch 225 (.leaf (8, 223, 0, 5, 0, [])) (.leaf (1, 225, 0, 0, 9223372036854775809, [])))))) (.branch 238 (.branch 231 (.branch 227 (.leaf (21, 226, 0, 0, 0, [])) (.branch 228 (.leaf (64, 227, 0, 0, 0, [])) (.leaf (53, 228, 237, 0, 0, [])))) (.branch 234 (.leaf (20, 231, 0, 7, 9223372036854775809, [])) (.branch 237 (.leaf (58, 234, 208, 0, 0, [])) (.leaf (13, 237, 0, 0, 0, []))))) (.branch 244 (.branch 240 (.leaf (8, 238, 0, 9, 0, [])) (.branch 241 (.leaf (13, 240, 0, 0, 0, [])) (.leaf (60, 241, 12, 1, 13, [1344])))) (.branch 246 (.leaf (8, 244, 0, 9, 0, [])) (.branch 247 (.leaf (64, 246, 0, 0, 0, [])) (.leaf (13, 247, 0, 0, 0, [])))))))) (.branch 287 (.branch 267 (.branch 256 (.branch 253 (.branch 251 (.leaf (60, 248, 12, 1, 13, [1344])) (.leaf (8, 251, 0, 5, 0, []))) (.branch 254 (.leaf (1, 253, 0, 0, 9223372036854775809, [])) (.branch 255 (.leaf (21, 254, 0, 0, 0, [])) (.leaf (64, 255, 0, 0, 0, []))))) (.branch 261 (.branch 257 (.leaf (13, 256, 0, 0, 0, [])) (.branch 260 (.leaf (60, 257, 12, 1, 13, [1344])) (.leaf (9, 260, 0, 2, 0, [])))) (.branch 263 (.leaf (8, 261, 0, 7, 0, [])) (.branch 266 (.leaf (79, 263, 182, 0, 126, [1495, 1496])) (.leaf (64, 266, 0, 0, 0, [])))))) (.branch 279 (.branch 274 (.branch 268 (.leaf (22, 267, 0, 0, 0, [])) (.branch 271 (.leaf (79, 268, 269, 0, 171, [1515, 598])) (.leaf (78, 271, 215, 0, 330, [1668, 1670, 60])))) (.branch 275 (.leaf (13, 274, 0, 0, 0, [])) (.branch 278 (.leaf (60, 275, 12, 16, 40, [1359])) (.leaf (1, 278, 0, 0, 9223372036854775810, []))))) (.branch 282 (.branch 280 (.leaf (45, 279, 0, 0, 0, [])) (.branch 281 (.leaf (64, 280, 0, 0, 0, [])) (.leaf (1, 281, 0, 0, 9223372036854775811, [])))) (.branch 283 (.leaf (13, 282, 0, 0, 0, [])) (.branch 286 (.leaf (60, 283, 12, 16, 40, [1359])) (.leaf (1, 286, 0, 0, 9223372036854775808, []))))))) (.branch 310 (.branch 293 (.branch 290 (.branch 288 (.leaf (64, 287, 0, 0, 0, [])) (.branch 289 (.leaf (23, 288, 0, 0, 0, [])) (.leaf (22, 289, 0, 0, 0, [])))) (.branch 291 (.leaf (69, 290, 0, 0, 0, [])) (.branch 292 (.leaf (13, 291, 0, 0, 0, [])) (.leaf (9, 292, 0, 2, 0, []))))) (.branch 301 (.branch 295 (.leaf (8, 293, 0, 7, 0, [])) (.branch 298 (.leaf (79, 295, 182, 0, 126, [1495, 1496])) (.leaf (78, 298, 217, 0, 334, [1677, 1679, 62])))) (.branch 304 (.leaf (58, 301, 198, 0, 0, [])) (.branch 307 (.leaf (20, 304, 0, 8, 9223372036854775809, [])) (.leaf (58, 307, 158, 0, 0, [])))))) (.branch 319 (.branch 316 (.branch 311 (.leaf (13, 310, 0, 0, 0, [])) (.branch 314 (.leaf (60, 311, 12, 1, 13, [1344])) (.leaf (8, 314, 0, 4, 0, [])))) (.branch 317 (.leaf (1, 316, 0, 0, 9223372036854775812, [])) (.branch 318 (.leaf (21, 317, 0, 0, 0, [])) (.leaf (1, 318, 0, 0, 9223372036854775807, []))))) (.branch 322 (.branch 320 (.leaf (69, 319, 0, 0, 0, [])) (.branch 321 (.leaf (13, 320, 0, 0, 0, [])) (.leaf (1, 321, 0, 0, 9223372036854775808, [])))) (.branch 325 (.leaf (62, 322, 12, 32, 137, [1375])) (.branch 326 (.leaf (9, 325, 0, 3, 0, [])) (.leaf (83, 326, 0, 0, 0, [])))))))))
noncomputable def abM219 : abM := ((⟨"TallBinsModel", "turn", "(II)I"⟩, prog_14_method_50_code, 10, some .int), 2, 0, 0, 12, abK219)
set_option maxRecDepth 20000 in
noncomputable def abK220 : Lean.RArray abEy := .branch 40 (.branch 18 (.branch 10 (.branch 5 (.branch 1 (.leaf (9, 0, 0, 1, 0, [])) (.branch 4 (.leaf (47, 1, 11, 0, 0, [])) (.leaf (13, 4, 0, 0, 0, [])))) (.branch 8 (.leaf (60, 5, 12, 19, 49, [1362])) (.branch 9 (.leaf (1, 8, 0, 0, 9223372036854775808, [])) (.leaf (64, 9, 0, 0, 0, []))))) (.branch 13 (.branch 11 (.leaf (83, 10, 0, 0, 0, [])) (.branch 12 (.leaf (9, 11, 0, 1, 0, [])) (.leaf (1, 12, 0, 0, 9223372036854775809, [])))) (.branch 16 (.leaf (52, 13, 21, 0, 0, [])) (.branch 17 (.leaf (9, 16, 0, 1, 0, [])) (.leaf (1, 17, 0, 0, 9223372036854775810, [])))))) (.branch 30 (.branch 25 (.branch 21 (.leaf (53, 18, 50, 0, 0, [])) (.branch 22 (.leaf (13, 21, 0, 0, 0, [])) (.leaf (60, 22, 12, 19, 49, [1362])))) (.branch 26 (.leaf (1, 25, 0, 0, 9223372036854775808, [])) (.branch 27 (.leaf (64, 26, 0, 0, 0, [])) (.leaf (47, 27, 34, 0, 0, []))))) (.branch 35 (.branch 31 (.leaf (1, 30, 0, 0, 9223372036854775808, [])) (.branch 34 (.leaf (58, 31, 49, 0, 0, [])) (.leaf (13, 34, 0, 0, 0, [])))) (.branch 38 (.leaf (60, 35, 12, 19, 49, [1362])) (.branch 39 (.leaf (9, 38, 0, 1, 0, [])) (.leaf (64, 39, 0, 0, 0, []))))))) (.branch 60 (.branch 50 (.branch 45 (.branch 41 (.leaf (13, 40, 0, 0, 0, [])) (.branch 44 (.leaf (60, 41, 12, 19, 49, [1362])) (.leaf (1, 44, 0, 0, 9223372036854775808, [])))) (.branch 46 (.leaf (64, 45, 0, 0, 0, [])) (.branch 49 (.leaf (79, 46, 270, 0, 130, [1651, 861])) (.leaf (83, 49, 0, 0, 0, []))))) (.branch 55 (.branch 51 (.leaf (9, 50, 0, 1, 0, [])) (.branch 52 (.leaf (1, 51, 0, 0, 9223372036854775811, [])) (.leaf (53, 52, 60, 0, 0, [])))) (.branch 56 (.leaf (13, 55, 0, 0, 0, [])) (.branch 59 (.leaf (60, 56, 12, 20, 52, [1363])) (.leaf (83, 59, 0, 0, 0, [])))))) (.branch 74 (.branch 65 (.branch 61 (.leaf (9, 60, 0, 1, 0, [])) (.branch 62 (.leaf (40, 61, 0, 0, 0, [])) (.leaf (7, 62, 350, 0, 9223372036854775812, [1693])))) (.branch 68 (.leaf (7, 65, 352, 0, 9223372036854775819, [1694])) (.branch 71 (.leaf (79, 68, 176, 0, 118, [1472, 1473])) (.leaf (46, 71, 83, 0, 0, []))))) (.branch 79 (.branch 75 (.leaf (13, 74, 0, 0, 0, [])) (.branch 78 (.leaf (60, 75, 12, 19, 49, [1362])) (.leaf (9, 78, 0, 1, 0, [])))) (.branch 83 (.branch 80 (.leaf (64, 79, 0, 0, 0, [])) (.leaf (58, 80, 86, 0, 0, []))) (.branch 86 (.leaf (5, 83, 306, 0, 9223372034854775808, [1624])) (.leaf (83, 86, 0, 0, 0, [])))))))
noncomputable def abM220 : abM := ((⟨"TallBinsModel", "load", "(I)I"⟩, prog_14_method_51_code, 2, some .int), 1, 0, 0, 12, abK220)
set_option maxRecDepth 20000 in
noncomputable def abK221 : Lean.RArray abEy := .branch 61 (.branch 32 (.branch 12 (.branch 6 (.branch 2 (.branch 1 (.leaf (13, 0, 0, 0, 0, [])) (.leaf (9, 1, 0, 1, 0, []))) (.branch 3 (.leaf (9, 2, 0, 2, 0, [])) (.leaf (78, 3, 222, 0, 354, [1699, 1701, 63])))) (.branch 10 (.branch 9 (.leaf (46, 6, 21, 0, 0, [])) (.leaf (9, 9, 0, 3, 0, []))) (.branch 11 (.leaf (40, 10, 0, 0, 0, [])) (.leaf (6, 11, 0, 0, 9223372036854775808, []))))) (.branch 24 (.branch 18 (.branch 15 (.leaf (7, 12, 358, 0, 9223372036854775820, [1703])) (.leaf (79, 15, 176, 0, 118, [1472, 1473]))) (.branch 21 (.leaf (47, 18, 25, 0, 0, [])) (.leaf (5, 21, 306, 0, 9223372034854775808, [1624])))) (.branch 26 (.branch 25 (.leaf (83, 24, 0, 0, 0, [])) (.leaf (9, 25, 0, 1, 0, []))) (.branch 27 (.leaf (9, 26, 0, 2, 0, [])) (.branch 30 (.leaf (79, 27, 182, 0, 126, [1495, 1496])) (.leaf (14, 30, 0, 4, 0, []))))))) (.branch 45 (.branch 38 (.branch 34 (.branch 33 (.leaf (9, 32, 0, 3, 0, [])) (.leaf (1, 33, 0, 0, 9223372036854775809, []))) (.branch 37 (.leaf (52, 34, 42, 0, 0, [])) (.leaf (9, 37, 0, 3, 0, [])))) (.branch 42 (.branch 39 (.leaf (1, 38, 0, 0, 9223372036854775810, [])) (.leaf (53, 39, 50, 0, 0, []))) (.branch 43 (.leaf (13, 42, 0, 0, 0, [])) (.branch 44 (.leaf (9, 43, 0, 1, 0, [])) (.leaf (9, 44, 0, 2, 0, [])))))) (.branch 51 (.branch 49 (.branch 46 (.leaf (9, 45, 0, 3, 0, [])) (.leaf (78, 46, 210, 0, 323, [1647, 1649, 56]))) (.branch 50 (.leaf (83, 49, 0, 0, 0, [])) (.leaf (9, 50, 0, 3, 0, [])))) (.branch 55 (.branch 52 (.leaf (1, 51, 0, 0, 9223372036854775812, [])) (.leaf (53, 52, 81, 0, 0, []))) (.branch 56 (.leaf (13, 55, 0, 0, 0, [])) (.branch 59 (.leaf (60, 56, 12, 1, 13, [1344])) (.leaf (8, 59, 0, 4, 0, [])))))))) (.branch 86 (.branch 72 (.branch 65 (.branch 63 (.branch 62 (.leaf (1, 61, 0, 0, 9223372036854775809, [])) (.leaf (21, 62, 0, 0, 0, []))) (.branch 64 (.leaf (64, 63, 0, 0, 0, [])) (.leaf (13, 64, 0, 0, 0, [])))) (.branch 67 (.branch 66 (.leaf (9, 65, 0, 1, 0, [])) (.leaf (9, 66, 0, 2, 0, []))) (.branch 68 (.leaf (1, 67, 0, 0, 9223372036854775809, [])) (.branch 71 (.leaf (78, 68, 210, 0, 323, [1647, 1649, 56])) (.leaf (13, 71, 0, 0, 0, [])))))) (.branch 79 (.branch 77 (.branch 75 (.leaf (60, 72, 12, 1, 13, [1344])) (.leaf (8, 75, 0, 4, 0, []))) (.branch 78 (.leaf (64, 77, 0, 0, 0, [])) (.leaf (23, 78, 0, 0, 0, [])))) (.branch 81 (.branch 80 (.leaf (22, 79, 0, 0, 0, [])) (.leaf (83, 80, 0, 0, 0, []))) (.branch 82 (.leaf (9, 81, 0, 3, 0, [])) (.branch 85 (.leaf (46, 82, 90, 0, 0, [])) (.leaf (9, 85, 0, 3, 0, []))))))) (.branch 102 (.branch 94 (.branch 90 (.branch 87 (.leaf (1, 86, 0, 0, 9223372036854775811, [])) (.leaf (53, 87, 102, 0, 0, []))) (.branch 91 (.leaf (13, 90, 0, 0, 0, [])) (.leaf (60, 91, 12, 1, 13, [1344])))) (.branch 97 (.branch 96 (.leaf (8, 94, 0, 4, 0, [])) (.leaf (9, 96, 0, 3, 0, []))) (.branch 98 (.leaf (21, 97, 0, 0, 0, [])) (.branch 99 (.leaf (64, 98, 0, 0, 0, [])) (.leaf (58, 99, 113, 0, 0, [])))))) (.branch 109 (.branch 106 (.branch 103 (.leaf (13, 102, 0, 0, 0, [])) (.leaf (60, 103, 12, 1, 13, [1344]))) (.branch 108 (.leaf (8, 106, 0, 4, 0, [])) (.leaf (9, 108, 0, 3, 0, [])))) (.branch 111 (.branch 110 (.leaf (21, 109, 0, 0, 0, [])) (.leaf (1, 110, 0, 0, 9223372036854775809, []))) (.branch 112 (.leaf (22, 111, 0, 0, 0, [])) (.branch 113 (.leaf (64, 112, 0, 0, 0, [])) (.leaf (83, 113, 0, 0, 0, []))))))))
noncomputable def abM221 : abM := ((⟨"TallBinsModel", "ring", "(III)I"⟩, prog_14_method_52_code, 5, some .int), 3, 0, 0, 12, abK221)
set_option maxRecDepth 20000 in
noncomputable def abK222 : Lean.RArray abEy := .branch 16 (.branch 9 (.branch 2 (.branch 1 (.leaf (13, 0, 0, 0, 0, [])) (.leaf (9, 1, 0, 1, 0, []))) (.branch 5 (.leaf (78, 2, 202, 0, 122, [1606, 1608, 52])) (.branch 8 (.leaf (46, 5, 33, 0, 0, [])) (.leaf (9, 8, 0, 2, 0, []))))) (.branch 11 (.branch 10 (.leaf (40, 9, 0, 0, 0, [])) (.leaf (6, 10, 0, 0, 9223372036854775808, []))) (.branch 12 (.leaf (13, 11, 0, 0, 0, [])) (.branch 15 (.leaf (60, 12, 12, 1, 13, [1344])) (.leaf (9, 15, 0, 1, 0, [])))))) (.branch 23 (.branch 20 (.branch 19 (.leaf (79, 16, 173, 0, 108, [1337, 1338])) (.leaf (64, 19, 0, 0, 0, []))) (.branch 21 (.leaf (1, 20, 0, 0, 9223372036854775809, [])) (.branch 22 (.leaf (22, 21, 0, 0, 0, [])) (.leaf (40, 22, 0, 0, 0, []))))) (.branch 30 (.branch 26 (.leaf (79, 23, 176, 0, 118, [1472, 1473])) (.branch 29 (.leaf (46, 26, 33, 0, 0, [])) (.leaf (1, 29, 0, 0, 9223372036854775809, [])))) (.branch 33 (.leaf (58, 30, 34, 0, 0, [])) (.branch 34 (.leaf (1, 33, 0, 0, 9223372036854775808, [])) (.leaf (83, 34, 1, 0, 0, []))))))
noncomputable def abM222 : abM := ((⟨"TallBinsModel", "isRing", "(II)Z"⟩, prog_14_method_8_code, 3, some .boolean), 2, 0, 0, 12, abK222)
set_option maxRecDepth 20000 in
noncomputable def abK223 : Lean.RArray abEy := .branch 14 (.branch 6 (.branch 2 (.branch 1 (.leaf (13, 0, 0, 0, 0, [])) (.leaf (9, 1, 0, 1, 0, []))) (.branch 3 (.leaf (9, 2, 0, 2, 0, [])) (.leaf (78, 3, 222, 0, 354, [1699, 1701, 63])))) (.branch 12 (.branch 9 (.leaf (47, 6, 13, 0, 0, [])) (.leaf (5, 9, 306, 0, 9223372034854775808, [1624]))) (.branch 13 (.leaf (83, 12, 0, 0, 0, [])) (.leaf (13, 13, 0, 0, 0, []))))) (.branch 20 (.branch 16 (.branch 15 (.leaf (9, 14, 0, 1, 0, [])) (.leaf (9, 15, 0, 3, 0, []))) (.branch 19 (.leaf (78, 16, 224, 0, 360, [1708, 1710, 64])) (.leaf (13, 19, 0, 0, 0, [])))) (.branch 24 (.branch 23 (.leaf (60, 20, 12, 21, 55, [1364])) (.leaf (9, 23, 0, 2, 0, []))) (.branch 25 (.leaf (64, 24, 0, 0, 0, [])) (.leaf (83, 25, 0, 0, 0, [])))))
noncomputable def abM223 : abM := ((⟨"TallBinsModel", "press", "(IIZ)I"⟩, prog_14_method_54_code, 4, some .int), 3, 0, 0, 12, abK223)
set_option maxRecDepth 20000 in
noncomputable def abK224 : Lean.RArray abEy := .branch 82 (.branch 41 (.branch 19 (.branch 9 (.branch 4 (.branch 1 (.leaf (9, 0, 0, 1, 0, [])) (.leaf (79, 1, 173, 0, 108, [1337, 1338]))) (.branch 5 (.leaf (15, 4, 0, 3, 0, [])) (.branch 6 (.leaf (9, 5, 0, 2, 0, [])) (.leaf (46, 6, 29, 0, 0, []))))) (.branch 14 (.branch 10 (.leaf (13, 9, 0, 0, 0, [])) (.branch 11 (.leaf (9, 10, 0, 1, 0, [])) (.leaf (78, 11, 181, 0, 273, [1491, 1493, 34])))) (.branch 17 (.leaf (51, 14, 29, 0, 0, [])) (.branch 18 (.leaf (13, 17, 0, 0, 0, [])) (.leaf (9, 18, 0, 1, 0, [])))))) (.branch 32 (.branch 26 (.branch 22 (.leaf (78, 19, 208, 0, 327, [1639, 1641, 54])) (.branch 25 (.leaf (47, 22, 29, 0, 0, [])) (.leaf (1, 25, 0, 0, 9223372036854775809, [])))) (.branch 29 (.leaf (58, 26, 30, 0, 0, [])) (.branch 30 (.leaf (1, 29, 0, 0, 9223372036854775808, [])) (.leaf (14, 30, 0, 4, 0, []))))) (.branch 36 (.branch 33 (.leaf (1, 32, 0, 0, 9223372036854775808, [])) (.branch 35 (.leaf (14, 33, 0, 5, 0, [])) (.leaf (13, 35, 0, 0, 0, [])))) (.branch 39 (.leaf (60, 36, 12, 1, 13, [1344])) (.branch 40 (.leaf (9, 39, 0, 3, 0, [])) (.leaf (64, 40, 0, 0, 0, []))))))) (.branch 62 (.branch 51 (.branch 45 (.branch 42 (.leaf (1, 41, 0, 0, 9223372036854775809, [])) (.branch 43 (.leaf (22, 42, 0, 0, 0, [])) (.leaf (14, 43, 0, 6, 0, [])))) (.branch 47 (.leaf (8, 45, 0, 6, 0, [])) (.branch 50 (.leaf (48, 47, 162, 0, 0, [])) (.leaf (13, 50, 0, 0, 0, []))))) (.branch 57 (.branch 54 (.leaf (60, 51, 12, 21, 55, [1364])) (.branch 56 (.leaf (8, 54, 0, 6, 0, [])) (.leaf (13, 56, 0, 0, 0, [])))) (.branch 58 (.leaf (9, 57, 0, 1, 0, [])) (.branch 59 (.leaf (1, 58, 0, 0, 9223372036854775808, [])) (.leaf (78, 59, 209, 0, 320, [1643, 1645, 55])))))) (.branch 73 (.branch 67 (.branch 63 (.leaf (13, 62, 0, 0, 0, [])) (.branch 66 (.leaf (60, 63, 12, 1, 13, [1344])) (.leaf (9, 66, 0, 1, 0, [])))) (.branch 69 (.leaf (8, 67, 0, 6, 0, [])) (.branch 72 (.leaf (79, 69, 182, 0, 126, [1495, 1496])) (.leaf (64, 72, 0, 0, 0, []))))) (.branch 77 (.branch 74 (.leaf (23, 73, 0, 0, 0, [])) (.branch 76 (.leaf (8, 74, 0, 5, 0, [])) (.leaf (21, 76, 0, 0, 0, [])))) (.branch 78 (.leaf (69, 77, 0, 0, 0, [])) (.branch 79 (.leaf (13, 78, 0, 0, 0, [])) (.leaf (60, 79, 12, 22, 58, [1365])))))))) (.branch 121 (.branch 99 (.branch 91 (.branch 85 (.branch 84 (.leaf (8, 82, 0, 6, 0, [])) (.leaf (13, 84, 0, 0, 0, []))) (.branch 88 (.leaf (60, 85, 12, 21, 55, [1364])) (.branch 90 (.leaf (8, 88, 0, 6, 0, [])) (.leaf (64, 90, 0, 0, 0, []))))) (.branch 96 (.branch 92 (.leaf (13, 91, 0, 0, 0, [])) (.branch 95 (.leaf (60, 92, 12, 1, 13, [1344])) (.leaf (9, 95, 0, 3, 0, [])))) (.branch 97 (.leaf (1, 96, 0, 0, 9223372036854775811, [])) (.branch 98 (.leaf (21, 97, 0, 0, 0, [])) (.leaf (64, 98, 0, 0, 0, [])))))) (.branch 109 (.branch 103 (.branch 100 (.leaf (23, 99, 0, 0, 0, [])) (.branch 102 (.leaf (2, 100, 0, 0, 9223372036854775908, [])) (.leaf (24, 102, 0, 0, 0, [])))) (.branch 104 (.leaf (69, 103, 0, 0, 0, [])) (.branch 106 (.leaf (8, 104, 0, 4, 0, [])) (.leaf (46, 106, 139, 0, 0, []))))) (.branch 115 (.branch 110 (.leaf (13, 109, 0, 0, 0, [])) (.branch 113 (.leaf (60, 110, 12, 22, 58, [1365])) (.leaf (8, 113, 0, 6, 0, [])))) (.branch 116 (.leaf (13, 115, 0, 0, 0, [])) (.branch 119 (.leaf (60, 116, 12, 21, 55, [1364])) (.leaf (8, 119, 0, 6, 0, []))))))) (.branch 140 (.branch 131 (.branch 125 (.branch 122 (.leaf (64, 121, 0, 0, 0, [])) (.branch 124 (.leaf (2, 122, 0, 0, 9223372036854775822, [])) (.leaf (13, 124, 0, 0, 0, [])))) (.branch 128 (.leaf (60, 125, 12, 22, 58, [1365])) (.branch 130 (.leaf (8, 128, 0, 6, 0, [])) (.leaf (64, 130, 0, 0, 0, []))))) (.branch 135 (.branch 132 (.leaf (23, 131, 0, 0, 0, [])) (.branch 134 (.leaf (2, 132, 0, 0, 9223372036854775818, [])) (.leaf (24, 134, 0, 0, 0, [])))) (.branch 138 (.leaf (79, 135, 269, 0, 171, [1515, 598])) (.branch 139 (.leaf (69, 138, 0, 0, 0, [])) (.leaf (13, 139, 0, 0, 0, [])))))) (.branch 152 (.branch 146 (.branch 143 (.leaf (60, 140, 12, 21, 55, [1364])) (.branch 145 (.leaf (8, 143, 0, 6, 0, [])) (.leaf (64, 145, 0, 0, 0, [])))) (.branch 147 (.leaf (13, 146, 0, 0, 0, [])) (.branch 150 (.leaf (60, 147, 12, 22, 58, [1365])) (.leaf (8, 150, 0, 6, 0, []))))) (.branch 156 (.branch 153 (.leaf (64, 152, 0, 0, 0, [])) (.branch 154 (.leaf (22, 153, 0, 0, 0, [])) (.leaf (14, 154, 0, 5, 0, [])))) (.branch 159 (.leaf (20, 156, 0, 6, 9223372036854775807, [])) (.branch 162 (.leaf (58, 159, 45, 0, 0, [])) (.leaf (82, 162, 0, 0, 0, []))))))))
noncomputable def abM224 : abM := ((⟨"TallBinsModel", "presses", "(IZ)V"⟩, prog_14_method_53_code, 7, none), 2, 0, 0, 12, abK224)
set_option maxRecDepth 20000 in
noncomputable def abK225 : Lean.RArray abEy := .branch 14 (.branch 6 (.branch 2 (.branch 1 (.leaf (13, 0, 0, 0, 0, [])) (.leaf (9, 1, 0, 1, 0, []))) (.branch 3 (.leaf (9, 2, 0, 2, 0, [])) (.leaf (78, 3, 222, 0, 354, [1699, 1701, 63])))) (.branch 12 (.branch 9 (.leaf (47, 6, 13, 0, 0, [])) (.leaf (5, 9, 306, 0, 9223372034854775808, [1624]))) (.branch 13 (.leaf (83, 12, 0, 0, 0, [])) (.leaf (13, 13, 0, 0, 0, []))))) (.branch 20 (.branch 16 (.branch 15 (.leaf (9, 14, 0, 1, 0, [])) (.leaf (9, 15, 0, 3, 0, []))) (.branch 19 (.leaf (78, 16, 224, 0, 360, [1708, 1710, 64])) (.leaf (13, 19, 0, 0, 0, [])))) (.branch 24 (.branch 23 (.leaf (60, 20, 12, 22, 58, [1365])) (.leaf (9, 23, 0, 2, 0, []))) (.branch 25 (.leaf (64, 24, 0, 0, 0, [])) (.leaf (83, 25, 0, 0, 0, [])))))
noncomputable def abM225 : abM := ((⟨"TallBinsModel", "wall", "(IIZ)I"⟩, prog_14_method_55_code, 4, some .int), 3, 0, 0, 12, abK225)
set_option maxRecDepth 20000 in
noncomputable def abK226 : Lean.RArray abEy := .branch 36 (.branch 21 (.branch 10 (.branch 2 (.branch 1 (.leaf (13, 0, 0, 0, 0, [])) (.leaf (9, 1, 0, 1, 0, []))) (.branch 5 (.leaf (78, 2, 202, 0, 122, [1606, 1608, 52])) (.branch 8 (.leaf (47, 5, 11, 0, 0, [])) (.leaf (2, 8, 0, 0, 9223372036854775806, []))))) (.branch 13 (.branch 11 (.leaf (83, 10, 0, 0, 0, [])) (.branch 12 (.leaf (13, 11, 0, 0, 0, [])) (.leaf (9, 12, 0, 1, 0, [])))) (.branch 16 (.leaf (78, 13, 181, 0, 273, [1491, 1493, 34])) (.branch 19 (.leaf (47, 16, 22, 0, 0, [])) (.leaf (2, 19, 0, 0, 9223372036854775802, [])))))) (.branch 28 (.branch 23 (.branch 22 (.leaf (83, 21, 0, 0, 0, [])) (.leaf (13, 22, 0, 0, 0, []))) (.branch 24 (.leaf (9, 23, 0, 1, 0, [])) (.branch 25 (.leaf (9, 24, 0, 2, 0, [])) (.leaf (78, 25, 224, 0, 360, [1708, 1710, 64]))))) (.branch 31 (.branch 29 (.leaf (1, 28, 0, 0, 9223372036854775808, [])) (.branch 30 (.leaf (15, 29, 0, 3, 0, [])) (.leaf (1, 30, 0, 0, 9223372036854775809, [])))) (.branch 33 (.leaf (14, 31, 0, 4, 0, [])) (.branch 35 (.leaf (8, 33, 0, 4, 0, [])) (.leaf (13, 35, 0, 0, 0, []))))))) (.branch 58 (.branch 47 (.branch 40 (.branch 39 (.leaf (60, 36, 12, 1, 13, [1344])) (.leaf (9, 39, 0, 1, 0, []))) (.branch 43 (.leaf (79, 40, 173, 0, 108, [1337, 1338])) (.branch 44 (.leaf (64, 43, 0, 0, 0, [])) (.leaf (55, 44, 76, 0, 0, []))))) (.branch 53 (.branch 48 (.leaf (13, 47, 0, 0, 0, [])) (.branch 51 (.leaf (60, 48, 12, 22, 58, [1365])) (.leaf (8, 51, 0, 4, 0, [])))) (.branch 54 (.leaf (64, 53, 0, 0, 0, [])) (.branch 55 (.leaf (13, 54, 0, 0, 0, [])) (.leaf (60, 55, 12, 22, 58, [1365])))))) (.branch 68 (.branch 60 (.branch 59 (.leaf (9, 58, 0, 3, 0, [])) (.leaf (64, 59, 0, 0, 0, []))) (.branch 63 (.leaf (57, 60, 68, 0, 0, [])) (.branch 65 (.leaf (8, 63, 0, 4, 0, [])) (.leaf (58, 65, 69, 0, 0, []))))) (.branch 73 (.branch 69 (.leaf (9, 68, 0, 3, 0, [])) (.branch 70 (.leaf (15, 69, 0, 3, 0, [])) (.leaf (20, 70, 0, 4, 9223372036854775809, [])))) (.branch 76 (.leaf (58, 73, 33, 0, 0, [])) (.branch 77 (.leaf (9, 76, 0, 3, 0, [])) (.leaf (83, 77, 0, 0, 0, [])))))))
noncomputable def abM226 : abM := ((⟨"TallBinsModel", "worst", "(IZ)I"⟩, prog_14_method_56_code, 5, some .int), 2, 0, 0, 12, abK226)
set_option maxRecDepth 20000 in
noncomputable def abK227 : Lean.RArray abEy := .branch 110 (.branch 55 (.branch 28 (.branch 15 (.branch 5 (.branch 1 (.leaf (9, 0, 0, 1, 0, [])) (.branch 2 (.leaf (40, 1, 0, 0, 0, [])) (.leaf (7, 2, 383, 0, 9223372036854775768, [1724])))) (.branch 11 (.branch 8 (.leaf (7, 5, 385, 0, 9223372036854775858, [1725])) (.leaf (79, 8, 176, 0, 118, [1472, 1473]))) (.branch 14 (.leaf (46, 11, 38, 0, 0, [])) (.leaf (9, 14, 0, 2, 0, []))))) (.branch 20 (.branch 16 (.leaf (40, 15, 0, 0, 0, [])) (.branch 17 (.leaf (6, 16, 0, 0, 9223372036854775808, [])) (.leaf (7, 17, 387, 0, 9223372036854775871, [1726])))) (.branch 26 (.branch 23 (.leaf (79, 20, 176, 0, 118, [1472, 1473])) (.leaf (46, 23, 38, 0, 0, []))) (.branch 27 (.leaf (9, 26, 0, 3, 0, [])) (.leaf (40, 27, 0, 0, 0, [])))))) (.branch 42 (.branch 35 (.branch 29 (.leaf (6, 28, 0, 0, 9223372036854775808, [])) (.branch 32 (.leaf (7, 29, 287, 0, 9223372036854785807, [1611])) (.leaf (79, 32, 176, 0, 118, [1472, 1473])))) (.branch 40 (.branch 38 (.leaf (47, 35, 41, 0, 0, [])) (.leaf (2, 38, 0, 0, 9223372036854775806, []))) (.branch 41 (.leaf (83, 40, 0, 0, 0, [])) (.leaf (1, 41, 0, 0, 9223372036854775808, []))))) (.branch 47 (.branch 44 (.leaf (14, 42, 0, 4, 0, [])) (.branch 45 (.leaf (1, 44, 0, 0, 9223372036854775808, [])) (.leaf (14, 45, 0, 5, 0, [])))) (.branch 51 (.branch 49 (.leaf (8, 47, 0, 5, 0, [])) (.leaf (2, 49, 0, 0, 9223372036854775814, []))) (.branch 54 (.leaf (55, 51, 165, 0, 0, [])) (.leaf (13, 54, 0, 0, 0, []))))))) (.branch 84 (.branch 72 (.branch 63 (.branch 57 (.leaf (8, 55, 0, 5, 0, [])) (.branch 60 (.leaf (78, 57, 202, 0, 122, [1606, 1608, 52])) (.leaf (47, 60, 66, 0, 0, [])))) (.branch 67 (.branch 66 (.leaf (58, 63, 159, 0, 0, [])) (.leaf (13, 66, 0, 0, 0, []))) (.branch 69 (.leaf (8, 67, 0, 5, 0, [])) (.leaf (78, 69, 228, 0, 389, [1727, 1729, 65]))))) (.branch 76 (.branch 73 (.leaf (13, 72, 0, 0, 0, [])) (.branch 75 (.leaf (8, 73, 0, 5, 0, [])) (.leaf (9, 75, 0, 1, 0, [])))) (.branch 80 (.branch 79 (.leaf (78, 76, 229, 0, 392, [1731, 1733, 66])) (.leaf (1, 79, 0, 0, 9223372036854775808, []))) (.branch 82 (.leaf (14, 80, 0, 6, 0, [])) (.leaf (8, 82, 0, 6, 0, [])))))) (.branch 100 (.branch 90 (.branch 86 (.leaf (2, 84, 0, 0, 9223372036854775820, [])) (.branch 89 (.leaf (55, 86, 117, 0, 0, [])) (.leaf (13, 89, 0, 0, 0, [])))) (.branch 95 (.branch 93 (.leaf (60, 90, 12, 1, 13, [1344])) (.leaf (8, 93, 0, 5, 0, []))) (.branch 97 (.leaf (8, 95, 0, 6, 0, [])) (.leaf (79, 97, 182, 0, 126, [1495, 1496]))))) (.branch 103 (.branch 101 (.leaf (1, 100, 0, 0, 9223372036854775810, [])) (.branch 102 (.leaf (21, 101, 0, 0, 0, [])) (.leaf (13, 102, 0, 0, 0, [])))) (.branch 108 (.branch 106 (.leaf (60, 103, 12, 23, 61, [1366])) (.leaf (8, 106, 0, 6, 0, []))) (.branch 109 (.leaf (66, 108, 0, 0, 0, [])) (.leaf (41, 109, 0, 0, 0, [])))))))) (.branch 159 (.branch 133 (.branch 122 (.branch 117 (.branch 111 (.leaf (69, 110, 0, 0, 0, [])) (.branch 114 (.leaf (20, 111, 0, 6, 9223372036854775809, [])) (.leaf (58, 114, 82, 0, 0, [])))) (.branch 120 (.branch 118 (.leaf (9, 117, 0, 2, 0, [])) (.leaf (8, 118, 0, 5, 0, []))) (.branch 121 (.leaf (30, 120, 0, 0, 0, [])) (.leaf (1, 121, 0, 0, 9223372036854775809, []))))) (.branch 127 (.branch 123 (.leaf (26, 122, 0, 0, 0, [])) (.branch 124 (.leaf (1, 123, 0, 0, 9223372036854775809, [])) (.leaf (53, 124, 139, 0, 0, [])))) (.branch 130 (.branch 129 (.leaf (8, 127, 0, 4, 0, [])) (.leaf (13, 129, 0, 0, 0, []))) (.branch 132 (.leaf (8, 130, 0, 5, 0, [])) (.leaf (9, 132, 0, 3, 0, [])))))) (.branch 146 (.branch 139 (.branch 136 (.leaf (78, 133, 232, 0, 395, [1743, 1745, 69])) (.branch 137 (.leaf (21, 136, 0, 0, 0, [])) (.leaf (14, 137, 0, 4, 0, [])))) (.branch 142 (.branch 140 (.leaf (13, 139, 0, 0, 0, [])) (.leaf (8, 140, 0, 5, 0, []))) (.branch 145 (.leaf (78, 142, 233, 0, 398, [1747, 1749, 70])) (.leaf (13, 145, 0, 0, 0, []))))) (.branch 154 (.branch 149 (.leaf (60, 146, 12, 1, 13, [1344])) (.branch 151 (.leaf (8, 149, 0, 5, 0, [])) (.leaf (79, 151, 173, 0, 108, [1337, 1338])))) (.branch 157 (.branch 156 (.leaf (2, 154, 0, 0, 9223372036854775814, [])) (.leaf (21, 156, 0, 0, 0, []))) (.branch 158 (.leaf (1, 157, 0, 0, 9223372036854775808, [])) (.leaf (69, 158, 0, 0, 0, []))))))) (.branch 181 (.branch 172 (.branch 166 (.branch 162 (.leaf (20, 159, 0, 5, 9223372036854775809, [])) (.branch 165 (.leaf (58, 162, 47, 0, 0, [])) (.leaf (13, 165, 0, 0, 0, [])))) (.branch 170 (.branch 169 (.leaf (60, 166, 12, 1, 13, [1344])) (.leaf (1, 169, 0, 0, 9223372036854775812, []))) (.branch 171 (.leaf (9, 170, 0, 1, 0, [])) (.leaf (69, 171, 0, 0, 0, []))))) (.branch 177 (.branch 173 (.leaf (13, 172, 0, 0, 0, [])) (.branch 176 (.leaf (60, 173, 12, 1, 13, [1344])) (.leaf (1, 176, 0, 0, 9223372036854775808, [])))) (.branch 179 (.branch 178 (.leaf (45, 177, 0, 0, 0, [])) (.leaf (64, 178, 0, 0, 0, []))) (.branch 180 (.leaf (1, 179, 0, 0, 9223372036854775809, [])) (.leaf (21, 180, 0, 0, 0, [])))))) (.branch 191 (.branch 186 (.branch 182 (.leaf (69, 181, 0, 0, 0, [])) (.branch 183 (.leaf (13, 182, 0, 0, 0, [])) (.leaf (60, 183, 12, 1, 13, [1344])))) (.branch 188 (.branch 187 (.leaf (1, 186, 0, 0, 9223372036854775811, [])) (.leaf (45, 187, 0, 0, 0, []))) (.branch 189 (.leaf (64, 188, 0, 0, 0, [])) (.leaf (8, 189, 0, 4, 0, []))))) (.branch 194 (.branch 192 (.leaf (21, 191, 0, 0, 0, [])) (.branch 193 (.leaf (69, 192, 0, 0, 0, [])) (.leaf (13, 193, 0, 0, 0, [])))) (.branch 198 (.branch 195 (.leaf (1, 194, 0, 0, 9223372036854775808, [])) (.leaf (62, 195, 12, 32, 137, [1375]))) (.branch 200 (.leaf (8, 198, 0, 4, 0, [])) (.leaf (83, 200, 0, 0, 0, []))))))))
noncomputable def abM227 : abM := ((⟨"TallBinsModel", "day", "(III)I"⟩, prog_14_method_63_code, 7, some .int), 3, 0, 0, 12, abK227)
set_option maxRecDepth 20000 in
noncomputable def abK228 : Lean.RArray abEy := .branch 17 (.branch 8 (.branch 2 (.branch 1 (.leaf (1, 0, 0, 0, 9223372036854775808, [])) (.leaf (15, 1, 0, 2, 0, []))) (.branch 3 (.leaf (9, 2, 0, 2, 0, [])) (.branch 5 (.leaf (2, 3, 0, 0, 9223372036854775820, [])) (.leaf (55, 5, 33, 0, 0, []))))) (.branch 12 (.branch 9 (.leaf (13, 8, 0, 0, 0, [])) (.leaf (60, 9, 12, 23, 61, [1366]))) (.branch 13 (.leaf (9, 12, 0, 2, 0, [])) (.branch 14 (.leaf (13, 13, 0, 0, 0, [])) (.leaf (60, 14, 12, 1, 13, [1344])))))) (.branch 24 (.branch 19 (.branch 18 (.leaf (9, 17, 0, 1, 0, [])) (.leaf (9, 18, 0, 2, 0, []))) (.branch 22 (.leaf (79, 19, 182, 0, 126, [1495, 1496])) (.branch 23 (.leaf (1, 22, 0, 0, 9223372036854775810, [])) (.leaf (21, 23, 0, 0, 0, []))))) (.branch 27 (.branch 25 (.leaf (64, 24, 0, 0, 0, [])) (.branch 26 (.leaf (40, 25, 0, 0, 0, [])) (.leaf (71, 26, 0, 0, 0, [])))) (.branch 30 (.leaf (20, 27, 0, 2, 9223372036854775809, [])) (.branch 33 (.leaf (58, 30, 2, 0, 0, [])) (.leaf (82, 33, 0, 0, 0, []))))))
noncomputable def abM228 : abM := ((⟨"TallBinsModel", "warmNow", "(I)V"⟩, prog_14_method_57_code, 3, none), 1, 0, 0, 12, abK228)
set_option maxRecDepth 20000 in
noncomputable def abK229 : Lean.RArray abEy := .branch 131 (.branch 62 (.branch 29 (.branch 15 (.branch 8 (.branch 4 (.branch 1 (.leaf (13, 0, 0, 0, 0, [])) (.leaf (60, 1, 12, 1, 13, [1344]))) (.branch 5 (.leaf (9, 4, 0, 1, 0, [])) (.leaf (79, 5, 173, 0, 108, [1337, 1338])))) (.branch 10 (.branch 9 (.leaf (64, 8, 0, 0, 0, [])) (.leaf (15, 9, 0, 3, 0, []))) (.branch 11 (.leaf (1, 10, 0, 0, 9223372036854775808, [])) (.branch 13 (.leaf (14, 11, 0, 4, 0, [])) (.leaf (8, 13, 0, 4, 0, [])))))) (.branch 23 (.branch 19 (.branch 16 (.leaf (9, 15, 0, 3, 0, [])) (.leaf (55, 16, 56, 0, 0, []))) (.branch 20 (.leaf (13, 19, 0, 0, 0, [])) (.leaf (60, 20, 12, 23, 61, [1366])))) (.branch 26 (.branch 25 (.leaf (8, 23, 0, 4, 0, [])) (.leaf (45, 25, 0, 0, 0, []))) (.branch 27 (.leaf (66, 26, 0, 0, 0, [])) (.branch 28 (.leaf (13, 27, 0, 0, 0, [])) (.leaf (9, 28, 0, 1, 0, []))))))) (.branch 46 (.branch 36 (.branch 34 (.branch 31 (.leaf (8, 29, 0, 4, 0, [])) (.leaf (78, 31, 230, 0, 368, [1735, 1737, 67]))) (.branch 35 (.leaf (40, 34, 0, 0, 0, [])) (.leaf (13, 35, 0, 0, 0, [])))) (.branch 40 (.branch 39 (.leaf (60, 36, 12, 1, 13, [1344])) (.leaf (9, 39, 0, 1, 0, []))) (.branch 42 (.leaf (8, 40, 0, 4, 0, [])) (.branch 45 (.leaf (79, 42, 182, 0, 126, [1495, 1496])) (.leaf (64, 45, 0, 0, 0, [])))))) (.branch 53 (.branch 48 (.branch 47 (.leaf (40, 46, 0, 0, 0, [])) (.leaf (34, 47, 0, 0, 0, []))) (.branch 49 (.leaf (32, 48, 0, 0, 0, [])) (.branch 50 (.leaf (71, 49, 0, 0, 0, [])) (.leaf (20, 50, 0, 4, 9223372036854775809, []))))) (.branch 57 (.branch 56 (.leaf (58, 53, 13, 0, 0, [])) (.leaf (1, 56, 0, 0, 9223372036854775808, []))) (.branch 59 (.leaf (14, 57, 0, 4, 0, [])) (.branch 61 (.leaf (8, 59, 0, 4, 0, [])) (.leaf (1, 61, 0, 0, 9223372036854775809, [])))))))) (.branch 96 (.branch 78 (.branch 68 (.branch 64 (.branch 63 (.leaf (21, 62, 0, 0, 0, [])) (.leaf (9, 63, 0, 3, 0, []))) (.branch 67 (.leaf (55, 64, 163, 0, 0, [])) (.leaf (13, 67, 0, 0, 0, [])))) (.branch 72 (.branch 71 (.leaf (60, 68, 12, 1, 13, [1344])) (.leaf (9, 71, 0, 1, 0, []))) (.branch 74 (.leaf (8, 72, 0, 4, 0, [])) (.branch 77 (.leaf (79, 74, 182, 0, 126, [1495, 1496])) (.leaf (64, 77, 0, 0, 0, [])))))) (.branch 86 (.branch 82 (.branch 79 (.leaf (13, 78, 0, 0, 0, [])) (.leaf (60, 79, 12, 1, 13, [1344]))) (.branch 83 (.leaf (9, 82, 0, 1, 0, [])) (.branch 85 (.leaf (8, 83, 0, 4, 0, [])) (.leaf (1, 85, 0, 0, 9223372036854775809, []))))) (.branch 90 (.branch 87 (.leaf (21, 86, 0, 0, 0, [])) (.leaf (79, 87, 182, 0, 126, [1495, 1496]))) (.branch 91 (.leaf (64, 90, 0, 0, 0, [])) (.branch 94 (.leaf (79, 91, 269, 0, 171, [1515, 598])) (.leaf (14, 94, 0, 5, 0, []))))))) (.branch 113 (.branch 105 (.branch 101 (.branch 98 (.leaf (8, 96, 0, 5, 0, [])) (.leaf (47, 98, 104, 0, 0, []))) (.branch 104 (.leaf (58, 101, 157, 0, 0, [])) (.leaf (13, 104, 0, 0, 0, [])))) (.branch 108 (.branch 106 (.leaf (9, 105, 0, 1, 0, [])) (.leaf (8, 106, 0, 4, 0, []))) (.branch 109 (.leaf (1, 108, 0, 0, 9223372036854775809, [])) (.branch 110 (.leaf (21, 109, 0, 0, 0, [])) (.leaf (78, 110, 231, 0, 364, [1739, 1741, 68])))))) (.branch 121 (.branch 115 (.branch 114 (.leaf (13, 113, 0, 0, 0, [])) (.leaf (9, 114, 0, 1, 0, []))) (.branch 117 (.leaf (8, 115, 0, 4, 0, [])) (.branch 120 (.leaf (78, 117, 231, 0, 364, [1739, 1741, 68])) (.leaf (33, 120, 0, 0, 0, []))))) (.branch 127 (.branch 125 (.leaf (7, 121, 350, 0, 9223372036854775812, [1693])) (.leaf (8, 125, 0, 5, 0, []))) (.branch 128 (.leaf (40, 127, 0, 0, 0, [])) (.branch 129 (.leaf (34, 128, 0, 0, 0, [])) (.leaf (16, 129, 0, 6, 0, []))))))))) (.branch 198 (.branch 160 (.branch 144 (.branch 138 (.branch 135 (.branch 132 (.leaf (13, 131, 0, 0, 0, [])) (.leaf (60, 132, 12, 23, 61, [1366]))) (.branch 137 (.leaf (8, 135, 0, 4, 0, [])) (.leaf (45, 137, 0, 0, 0, [])))) (.branch 141 (.branch 139 (.leaf (66, 138, 0, 0, 0, [])) (.leaf (10, 139, 0, 6, 0, []))) (.branch 142 (.leaf (32, 141, 0, 0, 0, [])) (.branch 143 (.leaf (71, 142, 0, 0, 0, [])) (.leaf (13, 143, 0, 0, 0, [])))))) (.branch 152 (.branch 149 (.branch 147 (.leaf (60, 144, 12, 23, 61, [1366])) (.leaf (8, 147, 0, 4, 0, []))) (.branch 150 (.leaf (1, 149, 0, 0, 9223372036854775809, [])) (.branch 151 (.leaf (21, 150, 0, 0, 0, [])) (.leaf (45, 151, 0, 0, 0, []))))) (.branch 155 (.branch 153 (.leaf (66, 152, 0, 0, 0, [])) (.leaf (10, 153, 0, 6, 0, []))) (.branch 156 (.leaf (33, 155, 0, 0, 0, [])) (.branch 157 (.leaf (71, 156, 0, 0, 0, [])) (.leaf (20, 157, 0, 4, 9223372036854775809, []))))))) (.branch 177 (.branch 168 (.branch 164 (.branch 163 (.leaf (58, 160, 59, 0, 0, [])) (.leaf (1, 163, 0, 0, 9223372036854775808, []))) (.branch 166 (.leaf (14, 164, 0, 4, 0, [])) (.leaf (8, 166, 0, 4, 0, [])))) (.branch 172 (.branch 169 (.leaf (9, 168, 0, 3, 0, [])) (.leaf (55, 169, 262, 0, 0, []))) (.branch 173 (.leaf (13, 172, 0, 0, 0, [])) (.branch 176 (.leaf (60, 173, 12, 1, 13, [1344])) (.leaf (9, 176, 0, 1, 0, [])))))) (.branch 189 (.branch 182 (.branch 179 (.leaf (8, 177, 0, 4, 0, [])) (.leaf (79, 179, 182, 0, 126, [1495, 1496]))) (.branch 183 (.leaf (64, 182, 0, 0, 0, [])) (.branch 186 (.leaf (47, 183, 189, 0, 0, [])) (.leaf (58, 186, 256, 0, 0, []))))) (.branch 191 (.branch 190 (.leaf (13, 189, 0, 0, 0, [])) (.leaf (9, 190, 0, 1, 0, []))) (.branch 193 (.leaf (8, 191, 0, 4, 0, [])) (.branch 196 (.leaf (78, 193, 231, 0, 364, [1739, 1741, 68])) (.leaf (16, 196, 0, 5, 0, [])))))))) (.branch 231 (.branch 211 (.branch 205 (.branch 202 (.branch 199 (.leaf (13, 198, 0, 0, 0, [])) (.leaf (60, 199, 12, 23, 61, [1366]))) (.branch 204 (.leaf (8, 202, 0, 4, 0, [])) (.leaf (45, 204, 0, 0, 0, [])))) (.branch 208 (.branch 206 (.leaf (66, 205, 0, 0, 0, [])) (.leaf (10, 206, 0, 5, 0, []))) (.branch 209 (.leaf (9, 208, 0, 2, 0, [])) (.branch 210 (.leaf (40, 209, 0, 0, 0, [])) (.leaf (43, 210, 0, 0, 0, [])))))) (.branch 221 (.branch 215 (.branch 214 (.leaf (49, 211, 229, 0, 0, [])) (.leaf (13, 214, 0, 0, 0, []))) (.branch 218 (.leaf (60, 215, 12, 1, 13, [1344])) (.branch 219 (.leaf (9, 218, 0, 1, 0, [])) (.leaf (8, 219, 0, 4, 0, []))))) (.branch 225 (.branch 224 (.leaf (79, 221, 182, 0, 126, [1495, 1496])) (.leaf (64, 224, 0, 0, 0, []))) (.branch 226 (.leaf (40, 225, 0, 0, 0, [])) (.branch 229 (.leaf (58, 226, 254, 0, 0, [])) (.leaf (10, 229, 0, 5, 0, []))))))) (.branch 247 (.branch 237 (.branch 233 (.branch 232 (.leaf (9, 231, 0, 2, 0, [])) (.leaf (40, 232, 0, 0, 0, []))) (.branch 234 (.leaf (43, 233, 0, 0, 0, [])) (.leaf (51, 234, 253, 0, 0, [])))) (.branch 241 (.branch 238 (.leaf (13, 237, 0, 0, 0, [])) (.leaf (60, 238, 12, 1, 13, [1344]))) (.branch 242 (.leaf (9, 241, 0, 1, 0, [])) (.branch 244 (.leaf (8, 242, 0, 4, 0, [])) (.leaf (79, 244, 182, 0, 126, [1495, 1496])))))) (.branch 254 (.branch 249 (.branch 248 (.leaf (64, 247, 0, 0, 0, [])) (.leaf (31, 248, 0, 0, 0, []))) (.branch 250 (.leaf (40, 249, 0, 0, 0, [])) (.branch 253 (.leaf (58, 250, 254, 0, 0, [])) (.leaf (6, 253, 0, 0, 9223372036854775808, []))))) (.branch 256 (.branch 255 (.leaf (32, 254, 0, 0, 0, [])) (.leaf (71, 255, 0, 0, 0, []))) (.branch 259 (.leaf (20, 256, 0, 4, 9223372036854775809, [])) (.branch 262 (.leaf (58, 259, 166, 0, 0, [])) (.leaf (82, 262, 0, 0, 0, [])))))))))
noncomputable def abM229 : abM := ((⟨"TallBinsModel", "warms", "(II)V"⟩, prog_14_method_60_code, 8, none), 2, 0, 0, 12, abK229)
set_option maxRecDepth 20000 in
noncomputable def abK230 : Lean.RArray abEy := .branch 41 (.branch 22 (.branch 8 (.branch 3 (.branch 1 (.leaf (1, 0, 0, 0, 9223372036854775808, [])) (.branch 2 (.leaf (15, 1, 0, 3, 0, [])) (.leaf (1, 2, 0, 0, 9223372036854775808, [])))) (.branch 5 (.leaf (14, 3, 0, 4, 0, [])) (.branch 7 (.leaf (8, 5, 0, 4, 0, [])) (.leaf (13, 7, 0, 0, 0, []))))) (.branch 14 (.branch 11 (.leaf (60, 8, 12, 1, 13, [1344])) (.branch 13 (.leaf (2, 11, 0, 0, 9223372036854775814, [])) (.leaf (64, 13, 0, 0, 0, [])))) (.branch 19 (.branch 17 (.leaf (55, 14, 83, 0, 0, [])) (.leaf (2, 17, 0, 0, 9223372036854775848, []))) (.branch 20 (.leaf (1, 19, 0, 0, 9223372036854775811, [])) (.leaf (8, 20, 0, 4, 0, [])))))) (.branch 29 (.branch 26 (.branch 23 (.leaf (23, 22, 0, 0, 0, [])) (.branch 24 (.leaf (21, 23, 0, 0, 0, [])) (.leaf (14, 24, 0, 5, 0, [])))) (.branch 27 (.leaf (13, 26, 0, 0, 0, [])) (.branch 28 (.leaf (9, 27, 0, 1, 0, [])) (.leaf (9, 28, 0, 2, 0, []))))) (.branch 36 (.branch 32 (.leaf (78, 29, 231, 0, 364, [1739, 1741, 68])) (.branch 33 (.leaf (13, 32, 0, 0, 0, [])) (.leaf (60, 33, 12, 1, 13, [1344])))) (.branch 39 (.branch 38 (.leaf (8, 36, 0, 5, 0, [])) (.leaf (64, 38, 0, 0, 0, []))) (.branch 40 (.leaf (40, 39, 0, 0, 0, [])) (.leaf (43, 40, 0, 0, 0, []))))))) (.branch 63 (.branch 51 (.branch 46 (.branch 44 (.leaf (48, 41, 77, 0, 0, [])) (.branch 45 (.leaf (13, 44, 0, 0, 0, [])) (.leaf (9, 45, 0, 1, 0, [])))) (.branch 47 (.leaf (9, 46, 0, 2, 0, [])) (.branch 48 (.leaf (1, 47, 0, 0, 9223372036854775809, [])) (.leaf (78, 48, 210, 0, 323, [1647, 1649, 56]))))) (.branch 57 (.branch 52 (.leaf (13, 51, 0, 0, 0, [])) (.branch 55 (.leaf (60, 52, 12, 1, 13, [1344])) (.leaf (8, 55, 0, 5, 0, [])))) (.branch 59 (.branch 58 (.leaf (1, 57, 0, 0, 9223372036854775809, [])) (.leaf (21, 58, 0, 0, 0, []))) (.branch 60 (.leaf (64, 59, 0, 0, 0, [])) (.leaf (54, 60, 77, 0, 0, [])))))) (.branch 72 (.branch 68 (.branch 64 (.leaf (9, 63, 0, 3, 0, [])) (.branch 65 (.leaf (13, 64, 0, 0, 0, [])) (.leaf (60, 65, 12, 1, 13, [1344])))) (.branch 70 (.leaf (8, 68, 0, 5, 0, [])) (.branch 71 (.leaf (1, 70, 0, 0, 9223372036854775810, [])) (.leaf (21, 71, 0, 0, 0, []))))) (.branch 77 (.branch 73 (.leaf (64, 72, 0, 0, 0, [])) (.branch 76 (.leaf (79, 73, 271, 0, 303, [1623, 864])) (.leaf (15, 76, 0, 3, 0, [])))) (.branch 83 (.branch 80 (.leaf (20, 77, 0, 4, 9223372036854775809, [])) (.leaf (58, 80, 5, 0, 0, []))) (.branch 84 (.leaf (9, 83, 0, 3, 0, [])) (.leaf (83, 84, 0, 0, 0, [])))))))
noncomputable def abM230 : abM := ((⟨"TallBinsModel", "breathOf", "(II)I"⟩, prog_14_method_59_code, 6, some .int), 2, 0, 0, 12, abK230)
set_option maxRecDepth 20000 in
noncomputable def abK231 : Lean.RArray abEy := .branch 15 (.branch 6 (.branch 4 (.branch 1 (.leaf (13, 0, 0, 0, 0, [])) (.leaf (60, 1, 12, 1, 13, [1344]))) (.branch 5 (.leaf (9, 4, 0, 1, 0, [])) (.leaf (9, 5, 0, 2, 0, [])))) (.branch 10 (.branch 9 (.leaf (79, 6, 182, 0, 126, [1495, 1496])) (.leaf (64, 9, 0, 0, 0, []))) (.branch 11 (.leaf (15, 10, 0, 3, 0, [])) (.branch 12 (.leaf (9, 11, 0, 3, 0, [])) (.leaf (47, 12, 19, 0, 0, [])))))) (.branch 24 (.branch 19 (.branch 16 (.leaf (6, 15, 0, 0, 9223372036854775808, [])) (.leaf (58, 16, 30, 0, 0, []))) (.branch 20 (.leaf (13, 19, 0, 0, 0, [])) (.branch 23 (.leaf (60, 20, 12, 23, 61, [1366])) (.leaf (9, 23, 0, 2, 0, []))))) (.branch 26 (.branch 25 (.leaf (66, 24, 0, 0, 0, [])) (.leaf (9, 25, 0, 3, 0, []))) (.branch 27 (.leaf (40, 26, 0, 0, 0, [])) (.branch 30 (.leaf (79, 27, 272, 0, 282, [1672, 896])) (.leaf (84, 30, 0, 0, 0, []))))))
noncomputable def abM231 : abM := ((⟨"TallBinsModel", "warmOf", "(II)J"⟩, prog_14_method_58_code, 4, some .long), 2, 0, 0, 12, abK231)
set_option maxRecDepth 20000 in
noncomputable def abK232 : Lean.RArray abEy := .branch 44 (.branch 22 (.branch 8 (.branch 3 (.branch 1 (.leaf (9, 0, 0, 2, 0, [])) (.branch 2 (.leaf (15, 1, 0, 3, 0, [])) (.leaf (1, 2, 0, 0, 9223372036854775808, [])))) (.branch 5 (.leaf (14, 3, 0, 4, 0, [])) (.branch 7 (.leaf (8, 5, 0, 4, 0, [])) (.leaf (13, 7, 0, 0, 0, []))))) (.branch 15 (.branch 11 (.leaf (60, 8, 12, 1, 13, [1344])) (.branch 12 (.leaf (9, 11, 0, 1, 0, [])) (.leaf (79, 12, 173, 0, 108, [1337, 1338])))) (.branch 19 (.branch 16 (.leaf (64, 15, 0, 0, 0, [])) (.leaf (55, 16, 82, 0, 0, []))) (.branch 20 (.leaf (9, 19, 0, 1, 0, [])) (.leaf (8, 20, 0, 4, 0, [])))))) (.branch 33 (.branch 28 (.branch 25 (.leaf (79, 22, 182, 0, 126, [1495, 1496])) (.branch 27 (.leaf (14, 25, 0, 5, 0, [])) (.leaf (1, 27, 0, 0, 9223372036854775808, [])))) (.branch 29 (.leaf (9, 28, 0, 3, 0, [])) (.branch 30 (.leaf (13, 29, 0, 0, 0, [])) (.leaf (60, 30, 12, 1, 13, [1344]))))) (.branch 37 (.branch 35 (.leaf (8, 33, 0, 5, 0, [])) (.branch 36 (.leaf (1, 35, 0, 0, 9223372036854775809, [])) (.leaf (21, 36, 0, 0, 0, [])))) (.branch 40 (.branch 38 (.leaf (64, 37, 0, 0, 0, [])) (.leaf (2, 38, 0, 0, 9223372036854775820, []))) (.branch 41 (.leaf (13, 40, 0, 0, 0, [])) (.leaf (60, 41, 12, 1, 13, [1344]))))))) (.branch 66 (.branch 55 (.branch 48 (.branch 46 (.leaf (8, 44, 0, 5, 0, [])) (.branch 47 (.leaf (64, 46, 0, 0, 0, [])) (.leaf (23, 47, 0, 0, 0, [])))) (.branch 49 (.leaf (22, 48, 0, 0, 0, [])) (.branch 52 (.leaf (79, 49, 269, 0, 171, [1515, 598])) (.leaf (79, 52, 271, 0, 303, [1623, 864]))))) (.branch 61 (.branch 57 (.leaf (14, 55, 0, 6, 0, [])) (.branch 58 (.leaf (13, 57, 0, 0, 0, [])) (.leaf (60, 58, 12, 1, 13, [1344])))) (.branch 64 (.branch 63 (.leaf (8, 61, 0, 5, 0, [])) (.leaf (1, 63, 0, 0, 9223372036854775809, []))) (.branch 65 (.leaf (21, 64, 0, 0, 0, [])) (.leaf (45, 65, 0, 0, 0, [])))))) (.branch 75 (.branch 70 (.branch 67 (.leaf (64, 66, 0, 0, 0, [])) (.branch 69 (.leaf (8, 67, 0, 6, 0, [])) (.leaf (22, 69, 0, 0, 0, [])))) (.branch 72 (.branch 71 (.leaf (69, 70, 0, 0, 0, [])) (.leaf (9, 71, 0, 3, 0, []))) (.branch 74 (.leaf (8, 72, 0, 6, 0, [])) (.leaf (22, 74, 0, 0, 0, []))))) (.branch 82 (.branch 76 (.leaf (15, 75, 0, 3, 0, [])) (.branch 79 (.leaf (20, 76, 0, 4, 9223372036854775809, [])) (.leaf (58, 79, 5, 0, 0, [])))) (.branch 84 (.branch 83 (.leaf (9, 82, 0, 2, 0, [])) (.leaf (9, 83, 0, 3, 0, []))) (.branch 85 (.leaf (22, 84, 0, 0, 0, [])) (.leaf (83, 85, 0, 0, 0, [])))))))
noncomputable def abM232 : abM := ((⟨"TallBinsModel", "dries", "(II)I"⟩, prog_14_method_61_code, 7, some .int), 2, 0, 0, 12, abK232)
set_option maxRecDepth 20000 in
noncomputable def abK233 : Lean.RArray abEy := .branch 68 (.branch 33 (.branch 15 (.branch 4 (.branch 2 (.branch 1 (.leaf (1, 0, 0, 0, 9223372036854775808, [])) (.leaf (15, 1, 0, 2, 0, []))) (.branch 3 (.leaf (9, 2, 0, 2, 0, [])) (.leaf (13, 3, 0, 0, 0, [])))) (.branch 8 (.branch 7 (.leaf (60, 4, 12, 1, 13, [1344])) (.leaf (9, 7, 0, 1, 0, []))) (.branch 11 (.leaf (79, 8, 173, 0, 108, [1337, 1338])) (.branch 12 (.leaf (64, 11, 0, 0, 0, [])) (.leaf (55, 12, 153, 0, 0, [])))))) (.branch 22 (.branch 17 (.branch 16 (.leaf (9, 15, 0, 1, 0, [])) (.leaf (9, 16, 0, 2, 0, []))) (.branch 20 (.leaf (79, 17, 182, 0, 126, [1495, 1496])) (.branch 21 (.leaf (15, 20, 0, 3, 0, [])) (.leaf (13, 21, 0, 0, 0, []))))) (.branch 26 (.branch 25 (.leaf (60, 22, 12, 1, 13, [1344])) (.leaf (9, 25, 0, 3, 0, []))) (.branch 27 (.leaf (64, 26, 0, 0, 0, [])) (.branch 30 (.leaf (47, 27, 33, 0, 0, [])) (.leaf (58, 30, 147, 0, 0, []))))))) (.branch 48 (.branch 40 (.branch 35 (.branch 34 (.leaf (13, 33, 0, 0, 0, [])) (.leaf (9, 34, 0, 1, 0, []))) (.branch 36 (.leaf (9, 35, 0, 2, 0, [])) (.branch 37 (.leaf (1, 36, 0, 0, 9223372036854775810, [])) (.leaf (78, 37, 210, 0, 323, [1647, 1649, 56]))))) (.branch 43 (.branch 42 (.leaf (14, 40, 0, 4, 0, [])) (.leaf (13, 42, 0, 0, 0, []))) (.branch 46 (.leaf (60, 43, 12, 1, 13, [1344])) (.branch 47 (.leaf (9, 46, 0, 3, 0, [])) (.leaf (1, 47, 0, 0, 9223372036854775811, [])))))) (.branch 55 (.branch 50 (.branch 49 (.leaf (21, 48, 0, 0, 0, [])) (.leaf (64, 49, 0, 0, 0, []))) (.branch 51 (.leaf (40, 50, 0, 0, 0, [])) (.branch 53 (.leaf (16, 51, 0, 5, 0, [])) (.leaf (8, 53, 0, 4, 0, []))))) (.branch 59 (.branch 56 (.leaf (40, 55, 0, 0, 0, [])) (.leaf (7, 56, 371, 0, 9223372036854775823, [1751]))) (.branch 62 (.leaf (7, 59, 373, 0, 9223372036854775832, [1752])) (.branch 65 (.leaf (79, 62, 176, 0, 118, [1472, 1473])) (.leaf (46, 65, 80, 0, 0, [])))))))) (.branch 112 (.branch 89 (.branch 77 (.branch 72 (.branch 70 (.leaf (10, 68, 0, 5, 0, [])) (.leaf (10, 70, 0, 5, 0, []))) (.branch 76 (.leaf (7, 72, 350, 0, 9223372036854775812, [1693])) (.leaf (32, 76, 0, 0, 0, [])))) (.branch 82 (.branch 80 (.leaf (58, 77, 128, 0, 0, [])) (.leaf (8, 80, 0, 4, 0, []))) (.branch 83 (.leaf (40, 82, 0, 0, 0, [])) (.branch 86 (.leaf (7, 83, 375, 0, 9223372036854775833, [1753])) (.leaf (7, 86, 377, 0, 9223372036854775843, [1754])))))) (.branch 101 (.branch 95 (.branch 92 (.leaf (79, 89, 176, 0, 118, [1472, 1473])) (.leaf (46, 92, 104, 0, 0, []))) (.branch 98 (.leaf (7, 95, 135, 0, 9223372036854775810, [1471])) (.branch 100 (.leaf (10, 98, 0, 5, 0, [])) (.leaf (34, 100, 0, 0, 0, []))))) (.branch 106 (.branch 104 (.leaf (58, 101, 128, 0, 0, [])) (.leaf (8, 104, 0, 4, 0, []))) (.branch 107 (.leaf (1, 106, 0, 0, 9223372036854775813, [])) (.branch 110 (.leaf (54, 107, 117, 0, 0, [])) (.leaf (8, 110, 0, 4, 0, []))))))) (.branch 135 (.branch 126 (.branch 117 (.branch 114 (.leaf (2, 112, 0, 0, 9223372036854775853, [])) (.leaf (57, 114, 126, 0, 0, []))) (.branch 119 (.leaf (10, 117, 0, 5, 0, [])) (.branch 123 (.leaf (7, 119, 135, 0, 9223372036854775810, [1471])) (.leaf (58, 123, 128, 0, 0, []))))) (.branch 130 (.branch 128 (.leaf (10, 126, 0, 5, 0, [])) (.leaf (16, 128, 0, 5, 0, []))) (.branch 131 (.leaf (13, 130, 0, 0, 0, [])) (.branch 134 (.leaf (60, 131, 12, 1, 13, [1344])) (.leaf (9, 134, 0, 3, 0, [])))))) (.branch 145 (.branch 137 (.branch 136 (.leaf (1, 135, 0, 0, 9223372036854775811, [])) (.leaf (21, 136, 0, 0, 0, []))) (.branch 140 (.leaf (7, 137, 379, 0, 9223372036855775808, [1755])) (.branch 142 (.leaf (10, 140, 0, 5, 0, [])) (.leaf (79, 142, 275, 0, 381, [1756, 1757]))))) (.branch 147 (.branch 146 (.leaf (41, 145, 0, 0, 0, [])) (.leaf (69, 146, 0, 0, 0, []))) (.branch 150 (.leaf (20, 147, 0, 2, 9223372036854775809, [])) (.branch 153 (.leaf (58, 150, 2, 0, 0, [])) (.leaf (82, 153, 0, 0, 0, []))))))))
noncomputable def abM233 : abM := ((⟨"TallBinsModel", "breeds", "(I)V"⟩, prog_14_method_62_code, 7, none), 1, 0, 0, 12, abK233)
set_option maxRecDepth 20000 in
noncomputable def abK234 : Lean.RArray abEy := .branch 50 (.branch 24 (.branch 10 (.branch 3 (.branch 1 (.leaf (13, 0, 0, 0, 0, [])) (.branch 2 (.leaf (9, 1, 0, 1, 0, [])) (.leaf (9, 2, 0, 2, 0, [])))) (.branch 6 (.leaf (78, 3, 222, 0, 354, [1699, 1701, 63])) (.branch 9 (.leaf (46, 6, 21, 0, 0, [])) (.leaf (9, 9, 0, 3, 0, []))))) (.branch 15 (.branch 11 (.leaf (40, 10, 0, 0, 0, [])) (.branch 12 (.leaf (6, 11, 0, 0, 9223372036854775809, [])) (.leaf (7, 12, 401, 0, 9223372036854776808, [1763])))) (.branch 21 (.branch 18 (.leaf (79, 15, 176, 0, 118, [1472, 1473])) (.leaf (47, 18, 24, 0, 0, []))) (.branch 23 (.leaf (2, 21, 0, 0, 9223372036854775806, [])) (.leaf (83, 23, 0, 0, 0, [])))))) (.branch 37 (.branch 29 (.branch 25 (.leaf (9, 24, 0, 1, 0, [])) (.branch 26 (.leaf (9, 25, 0, 2, 0, [])) (.leaf (79, 26, 182, 0, 126, [1495, 1496])))) (.branch 32 (.branch 31 (.leaf (14, 29, 0, 4, 0, [])) (.leaf (13, 31, 0, 0, 0, []))) (.branch 35 (.leaf (60, 32, 12, 1, 13, [1344])) (.leaf (8, 35, 0, 4, 0, []))))) (.branch 43 (.branch 38 (.leaf (64, 37, 0, 0, 0, [])) (.branch 41 (.leaf (47, 38, 44, 0, 0, [])) (.leaf (2, 41, 0, 0, 9223372036854775802, [])))) (.branch 45 (.branch 44 (.leaf (83, 43, 0, 0, 0, [])) (.leaf (13, 44, 0, 0, 0, []))) (.branch 48 (.leaf (60, 45, 12, 1, 13, [1344])) (.leaf (8, 48, 0, 4, 0, []))))))) (.branch 71 (.branch 59 (.branch 53 (.branch 51 (.leaf (1, 50, 0, 0, 9223372036854775811, [])) (.branch 52 (.leaf (21, 51, 0, 0, 0, [])) (.leaf (13, 52, 0, 0, 0, [])))) (.branch 56 (.leaf (60, 53, 12, 1, 13, [1344])) (.branch 58 (.leaf (8, 56, 0, 4, 0, [])) (.leaf (1, 58, 0, 0, 9223372036854775811, []))))) (.branch 64 (.branch 60 (.leaf (21, 59, 0, 0, 0, [])) (.branch 61 (.leaf (64, 60, 0, 0, 0, [])) (.leaf (5, 61, 403, 0, 9223372036855775808, [1764])))) (.branch 68 (.branch 65 (.leaf (13, 64, 0, 0, 0, [])) (.leaf (60, 65, 12, 1, 13, [1344]))) (.branch 70 (.leaf (8, 68, 0, 4, 0, [])) (.leaf (1, 70, 0, 0, 9223372036854775811, [])))))) (.branch 82 (.branch 74 (.branch 72 (.leaf (21, 71, 0, 0, 0, [])) (.branch 73 (.leaf (64, 72, 0, 0, 0, [])) (.leaf (9, 73, 0, 3, 0, [])))) (.branch 78 (.branch 75 (.leaf (21, 74, 0, 0, 0, [])) (.leaf (79, 75, 269, 0, 171, [1515, 598]))) (.branch 81 (.leaf (79, 78, 271, 0, 303, [1623, 864])) (.leaf (69, 81, 0, 0, 0, []))))) (.branch 88 (.branch 83 (.leaf (13, 82, 0, 0, 0, [])) (.branch 86 (.leaf (60, 83, 12, 1, 13, [1344])) (.leaf (8, 86, 0, 4, 0, [])))) (.branch 90 (.branch 89 (.leaf (1, 88, 0, 0, 9223372036854775811, [])) (.leaf (21, 89, 0, 0, 0, []))) (.branch 91 (.leaf (64, 90, 0, 0, 0, [])) (.leaf (83, 91, 0, 0, 0, [])))))))
noncomputable def abM234 : abM := ((⟨"TallBinsModel", "beetles", "(III)I"⟩, prog_14_method_64_code, 5, some .int), 3, 0, 0, 12, abK234)
set_option maxRecDepth 20000 in
noncomputable def abK235 : Lean.RArray abEy := .branch 38 (.branch 18 (.branch 9 (.branch 2 (.branch 1 (.leaf (13, 0, 0, 0, 0, [])) (.leaf (9, 1, 0, 1, 0, []))) (.branch 5 (.leaf (78, 2, 202, 0, 122, [1606, 1608, 52])) (.branch 8 (.leaf (46, 5, 18, 0, 0, [])) (.leaf (9, 8, 0, 2, 0, []))))) (.branch 11 (.branch 10 (.leaf (40, 9, 0, 0, 0, [])) (.leaf (6, 10, 0, 0, 9223372036854775808, []))) (.branch 12 (.leaf (6, 11, 0, 0, 9223372036854775809, [])) (.branch 15 (.leaf (79, 12, 176, 0, 118, [1472, 1473])) (.leaf (47, 15, 21, 0, 0, [])))))) (.branch 26 (.branch 21 (.branch 20 (.leaf (2, 18, 0, 0, 9223372036854775806, [])) (.leaf (83, 20, 0, 0, 0, []))) (.branch 22 (.leaf (1, 21, 0, 0, 9223372036854775808, [])) (.branch 24 (.leaf (14, 22, 0, 4, 0, [])) (.leaf (8, 24, 0, 4, 0, []))))) (.branch 31 (.branch 27 (.leaf (13, 26, 0, 0, 0, [])) (.branch 30 (.leaf (60, 27, 12, 1, 13, [1344])) (.leaf (9, 30, 0, 1, 0, [])))) (.branch 34 (.leaf (79, 31, 173, 0, 108, [1337, 1338])) (.branch 35 (.leaf (64, 34, 0, 0, 0, [])) (.leaf (55, 35, 75, 0, 0, []))))))) (.branch 57 (.branch 48 (.branch 42 (.branch 39 (.leaf (13, 38, 0, 0, 0, [])) (.leaf (60, 39, 12, 1, 13, [1344]))) (.branch 43 (.leaf (9, 42, 0, 1, 0, [])) (.branch 45 (.leaf (8, 43, 0, 4, 0, [])) (.leaf (79, 45, 182, 0, 126, [1495, 1496]))))) (.branch 53 (.branch 49 (.leaf (64, 48, 0, 0, 0, [])) (.branch 52 (.leaf (51, 49, 69, 0, 0, [])) (.leaf (13, 52, 0, 0, 0, [])))) (.branch 54 (.leaf (9, 53, 0, 1, 0, [])) (.branch 56 (.leaf (8, 54, 0, 4, 0, [])) (.leaf (1, 56, 0, 0, 9223372036854775810, [])))))) (.branch 66 (.branch 59 (.branch 58 (.leaf (9, 57, 0, 2, 0, [])) (.leaf (22, 58, 0, 0, 0, []))) (.branch 62 (.leaf (78, 59, 210, 0, 323, [1647, 1649, 56])) (.branch 63 (.leaf (9, 62, 0, 3, 0, [])) (.leaf (54, 63, 69, 0, 0, []))))) (.branch 72 (.branch 68 (.leaf (8, 66, 0, 4, 0, [])) (.branch 69 (.leaf (83, 68, 0, 0, 0, [])) (.leaf (20, 69, 0, 4, 9223372036854775809, [])))) (.branch 75 (.leaf (58, 72, 24, 0, 0, [])) (.branch 76 (.leaf (1, 75, 0, 0, 9223372036854775807, [])) (.leaf (83, 76, 0, 0, 0, [])))))))
noncomputable def abM235 : abM := ((⟨"TallBinsModel", "mark", "(III)I"⟩, prog_14_method_65_code, 5, some .int), 3, 0, 0, 12, abK235)
set_option maxRecDepth 20000 in
noncomputable def abK236 : Lean.RArray abEy := .branch 45 (.branch 21 (.branch 11 (.branch 5 (.branch 1 (.leaf (13, 0, 0, 0, 0, [])) (.branch 2 (.leaf (9, 1, 0, 1, 0, [])) (.leaf (78, 2, 202, 0, 122, [1606, 1608, 52])))) (.branch 8 (.leaf (47, 5, 11, 0, 0, [])) (.branch 10 (.leaf (2, 8, 0, 0, 9223372036854775806, [])) (.leaf (83, 10, 0, 0, 0, []))))) (.branch 16 (.branch 12 (.leaf (13, 11, 0, 0, 0, [])) (.branch 13 (.leaf (9, 12, 0, 1, 0, [])) (.leaf (78, 13, 228, 0, 389, [1727, 1729, 65])))) (.branch 18 (.branch 17 (.leaf (1, 16, 0, 0, 9223372036854775808, [])) (.leaf (15, 17, 0, 3, 0, []))) (.branch 19 (.leaf (9, 18, 0, 3, 0, [])) (.leaf (2, 19, 0, 0, 9223372036854775868, [])))))) (.branch 34 (.branch 28 (.branch 24 (.leaf (56, 21, 97, 0, 0, [])) (.branch 25 (.leaf (9, 24, 0, 3, 0, [])) (.leaf (51, 25, 39, 0, 0, [])))) (.branch 30 (.branch 29 (.leaf (13, 28, 0, 0, 0, [])) (.leaf (9, 29, 0, 1, 0, []))) (.branch 31 (.leaf (13, 30, 0, 0, 0, [])) (.leaf (60, 31, 12, 1, 13, [1344]))))) (.branch 39 (.branch 35 (.leaf (1, 34, 0, 0, 9223372036854775812, [])) (.branch 36 (.leaf (64, 35, 0, 0, 0, [])) (.leaf (78, 36, 229, 0, 392, [1731, 1733, 66])))) (.branch 42 (.branch 40 (.leaf (1, 39, 0, 0, 9223372036854775808, [])) (.leaf (14, 40, 0, 4, 0, []))) (.branch 44 (.leaf (8, 42, 0, 4, 0, [])) (.leaf (13, 44, 0, 0, 0, []))))))) (.branch 72 (.branch 60 (.branch 52 (.branch 48 (.leaf (60, 45, 12, 1, 13, [1344])) (.branch 49 (.leaf (9, 48, 0, 1, 0, [])) (.leaf (79, 49, 173, 0, 108, [1337, 1338])))) (.branch 56 (.branch 53 (.leaf (64, 52, 0, 0, 0, [])) (.leaf (55, 53, 91, 0, 0, []))) (.branch 57 (.leaf (13, 56, 0, 0, 0, [])) (.leaf (60, 57, 12, 1, 13, [1344]))))) (.branch 66 (.branch 61 (.leaf (9, 60, 0, 1, 0, [])) (.branch 63 (.leaf (8, 61, 0, 4, 0, [])) (.leaf (79, 63, 182, 0, 126, [1495, 1496])))) (.branch 70 (.branch 67 (.leaf (64, 66, 0, 0, 0, [])) (.leaf (51, 67, 85, 0, 0, []))) (.branch 71 (.leaf (13, 70, 0, 0, 0, [])) (.leaf (9, 71, 0, 1, 0, [])))))) (.branch 84 (.branch 78 (.branch 74 (.leaf (8, 72, 0, 4, 0, [])) (.branch 77 (.leaf (78, 74, 231, 0, 364, [1739, 1741, 68])) (.leaf (9, 77, 0, 2, 0, [])))) (.branch 80 (.branch 79 (.leaf (40, 78, 0, 0, 0, [])) (.leaf (43, 79, 0, 0, 0, []))) (.branch 83 (.leaf (48, 80, 85, 0, 0, [])) (.leaf (9, 83, 0, 3, 0, []))))) (.branch 91 (.branch 85 (.leaf (83, 84, 0, 0, 0, [])) (.branch 88 (.leaf (20, 85, 0, 4, 9223372036854775809, [])) (.leaf (58, 88, 42, 0, 0, [])))) (.branch 97 (.branch 94 (.leaf (20, 91, 0, 3, 9223372036854775809, [])) (.leaf (58, 94, 18, 0, 0, []))) (.branch 98 (.leaf (1, 97, 0, 0, 9223372036854775807, [])) (.leaf (83, 98, 0, 0, 0, [])))))))
noncomputable def abM236 : abM := ((⟨"TallBinsModel", "foretell", "(II)I"⟩, prog_14_method_66_code, 5, some .int), 2, 0, 0, 12, abK236)
set_option maxRecDepth 20000 in
noncomputable def abK237 : Lean.RArray abEy := .branch 98 (.branch 50 (.branch 23 (.branch 7 (.branch 3 (.branch 1 (.leaf (1, 0, 0, 0, 9223372036854775808, [])) (.branch 2 (.leaf (15, 1, 0, 2, 0, [])) (.leaf (1, 2, 0, 0, 9223372036854775808, [])))) (.branch 4 (.leaf (15, 3, 0, 3, 0, [])) (.branch 5 (.leaf (1, 4, 0, 0, 9223372036854775808, [])) (.leaf (14, 5, 0, 4, 0, []))))) (.branch 14 (.branch 9 (.leaf (8, 7, 0, 4, 0, [])) (.branch 11 (.leaf (2, 9, 0, 0, 9223372036854775814, [])) (.leaf (55, 11, 123, 0, 0, [])))) (.branch 17 (.branch 15 (.leaf (13, 14, 0, 0, 0, [])) (.leaf (8, 15, 0, 4, 0, []))) (.branch 20 (.leaf (78, 17, 202, 0, 122, [1606, 1608, 52])) (.leaf (47, 20, 26, 0, 0, [])))))) (.branch 35 (.branch 29 (.branch 26 (.leaf (58, 23, 117, 0, 0, [])) (.branch 27 (.leaf (13, 26, 0, 0, 0, [])) (.leaf (8, 27, 0, 4, 0, [])))) (.branch 30 (.leaf (9, 29, 0, 1, 0, [])) (.branch 33 (.leaf (78, 30, 238, 0, 411, [1777, 1779, 71])) (.leaf (14, 33, 0, 5, 0, []))))) (.branch 41 (.branch 37 (.leaf (8, 35, 0, 5, 0, [])) (.branch 40 (.leaf (46, 37, 71, 0, 0, [])) (.leaf (13, 40, 0, 0, 0, [])))) (.branch 46 (.branch 43 (.leaf (8, 41, 0, 4, 0, [])) (.leaf (78, 43, 183, 0, 276, [1498, 1500, 35]))) (.branch 47 (.leaf (1, 46, 0, 0, 9223372036854775807, [])) (.leaf (53, 47, 69, 0, 0, []))))))) (.branch 74 (.branch 62 (.branch 56 (.branch 51 (.leaf (13, 50, 0, 0, 0, [])) (.branch 53 (.leaf (8, 51, 0, 4, 0, [])) (.leaf (78, 53, 212, 0, 344, [1656, 1658, 57])))) (.branch 59 (.leaf (47, 56, 69, 0, 0, [])) (.branch 60 (.leaf (13, 59, 0, 0, 0, [])) (.leaf (8, 60, 0, 4, 0, []))))) (.branch 69 (.branch 65 (.leaf (78, 62, 208, 0, 327, [1639, 1641, 54])) (.branch 66 (.leaf (1, 65, 0, 0, 9223372036854775810, [])) (.leaf (53, 66, 71, 0, 0, [])))) (.branch 71 (.branch 70 (.leaf (1, 69, 0, 0, 9223372036854775807, [])) (.leaf (83, 70, 0, 0, 0, []))) (.branch 72 (.leaf (9, 71, 0, 2, 0, [])) (.leaf (8, 72, 0, 5, 0, [])))))) (.branch 86 (.branch 80 (.branch 77 (.leaf (46, 74, 84, 0, 0, [])) (.branch 78 (.leaf (1, 77, 0, 0, 9223372036854775809, [])) (.leaf (8, 78, 0, 4, 0, [])))) (.branch 84 (.branch 81 (.leaf (29, 80, 0, 0, 0, [])) (.leaf (58, 81, 85, 0, 0, []))) (.branch 85 (.leaf (1, 84, 0, 0, 9223372036854775808, [])) (.leaf (27, 85, 0, 0, 0, []))))) (.branch 89 (.branch 87 (.leaf (15, 86, 0, 2, 0, [])) (.branch 88 (.leaf (9, 87, 0, 3, 0, [])) (.leaf (13, 88, 0, 0, 0, [])))) (.branch 94 (.branch 91 (.leaf (8, 89, 0, 4, 0, [])) (.leaf (78, 91, 181, 0, 273, [1491, 1493, 34]))) (.branch 97 (.leaf (47, 94, 114, 0, 0, [])) (.leaf (13, 97, 0, 0, 0, [])))))))) (.branch 147 (.branch 123 (.branch 110 (.branch 104 (.branch 100 (.leaf (8, 98, 0, 4, 0, [])) (.branch 103 (.leaf (78, 100, 183, 0, 276, [1498, 1500, 35])) (.leaf (1, 103, 0, 0, 9223372036854775807, [])))) (.branch 107 (.leaf (53, 104, 114, 0, 0, [])) (.branch 108 (.leaf (1, 107, 0, 0, 9223372036854775809, [])) (.leaf (8, 108, 0, 4, 0, []))))) (.branch 115 (.branch 111 (.leaf (29, 110, 0, 0, 0, [])) (.branch 114 (.leaf (58, 111, 115, 0, 0, [])) (.leaf (1, 114, 0, 0, 9223372036854775808, [])))) (.branch 117 (.branch 116 (.leaf (27, 115, 0, 0, 0, [])) (.leaf (15, 116, 0, 3, 0, []))) (.branch 120 (.leaf (20, 117, 0, 4, 9223372036854775809, [])) (.leaf (58, 120, 7, 0, 0, [])))))) (.branch 133 (.branch 129 (.branch 124 (.leaf (13, 123, 0, 0, 0, [])) (.branch 127 (.leaf (60, 124, 12, 28, 404, [1371])) (.leaf (14, 127, 0, 4, 0, [])))) (.branch 131 (.branch 130 (.leaf (13, 129, 0, 0, 0, [])) (.leaf (9, 130, 0, 2, 0, []))) (.branch 132 (.leaf (9, 131, 0, 3, 0, [])) (.leaf (1, 132, 0, 0, 9223372036854775808, []))))) (.branch 140 (.branch 136 (.leaf (78, 133, 239, 0, 407, [1781, 1783, 72])) (.branch 139 (.leaf (47, 136, 147, 0, 0, [])) (.leaf (13, 139, 0, 0, 0, [])))) (.branch 145 (.branch 142 (.leaf (8, 140, 0, 4, 0, [])) (.leaf (61, 142, 12, 28, 404, [1371]))) (.branch 146 (.leaf (1, 145, 0, 0, 9223372036854775807, [])) (.leaf (83, 146, 0, 0, 0, []))))))) (.branch 172 (.branch 159 (.branch 152 (.branch 148 (.leaf (1, 147, 0, 0, 9223372036854775808, [])) (.branch 150 (.leaf (14, 148, 0, 5, 0, [])) (.leaf (8, 150, 0, 5, 0, [])))) (.branch 153 (.leaf (13, 152, 0, 0, 0, [])) (.branch 156 (.leaf (60, 153, 12, 28, 404, [1371])) (.leaf (55, 156, 193, 0, 0, []))))) (.branch 165 (.branch 160 (.leaf (13, 159, 0, 0, 0, [])) (.branch 163 (.leaf (60, 160, 12, 24, 65, [1367])) (.leaf (8, 163, 0, 5, 0, [])))) (.branch 169 (.branch 166 (.leaf (13, 165, 0, 0, 0, [])) (.leaf (60, 166, 12, 26, 71, [1369]))) (.branch 171 (.leaf (8, 169, 0, 5, 0, [])) (.leaf (64, 171, 0, 0, 0, [])))))) (.branch 185 (.branch 177 (.branch 173 (.leaf (69, 172, 0, 0, 0, [])) (.branch 174 (.leaf (13, 173, 0, 0, 0, [])) (.leaf (60, 174, 12, 25, 68, [1368])))) (.branch 180 (.branch 179 (.leaf (8, 177, 0, 5, 0, [])) (.leaf (13, 179, 0, 0, 0, []))) (.branch 183 (.leaf (60, 180, 12, 27, 74, [1370])) (.leaf (8, 183, 0, 5, 0, []))))) (.branch 190 (.branch 186 (.leaf (64, 185, 0, 0, 0, [])) (.branch 187 (.leaf (69, 186, 0, 0, 0, [])) (.leaf (20, 187, 0, 5, 9223372036854775809, [])))) (.branch 194 (.branch 193 (.leaf (58, 190, 150, 0, 0, [])) (.leaf (13, 193, 0, 0, 0, []))) (.branch 197 (.leaf (60, 194, 12, 28, 404, [1371])) (.leaf (83, 197, 0, 0, 0, []))))))))
noncomputable def abM237 : abM := ((⟨"TallBinsModel", "plan", "(I)I"⟩, prog_14_method_69_code, 6, some .int), 1, 0, 0, 12, abK237)
set_option maxRecDepth 20000 in
noncomputable def abK238 : Lean.RArray abEy := .branch 35 (.branch 15 (.branch 5 (.branch 2 (.branch 1 (.leaf (1, 0, 0, 0, 9223372036854775808, [])) (.leaf (15, 1, 0, 3, 0, []))) (.branch 3 (.leaf (1, 2, 0, 0, 9223372036854775808, [])) (.leaf (14, 3, 0, 4, 0, [])))) (.branch 8 (.branch 7 (.leaf (8, 5, 0, 4, 0, [])) (.leaf (13, 7, 0, 0, 0, []))) (.branch 11 (.leaf (60, 8, 12, 1, 13, [1344])) (.branch 12 (.leaf (9, 11, 0, 1, 0, [])) (.leaf (79, 12, 173, 0, 108, [1337, 1338])))))) (.branch 24 (.branch 19 (.branch 16 (.leaf (64, 15, 0, 0, 0, [])) (.leaf (55, 16, 69, 0, 0, []))) (.branch 20 (.leaf (13, 19, 0, 0, 0, [])) (.branch 21 (.leaf (9, 20, 0, 1, 0, [])) (.leaf (78, 21, 202, 0, 122, [1606, 1608, 52]))))) (.branch 28 (.branch 27 (.leaf (46, 24, 69, 0, 0, [])) (.leaf (9, 27, 0, 3, 0, []))) (.branch 31 (.leaf (47, 28, 57, 0, 0, [])) (.branch 32 (.leaf (13, 31, 0, 0, 0, [])) (.leaf (60, 32, 12, 1, 13, [1344]))))))) (.branch 53 (.branch 45 (.branch 38 (.branch 36 (.leaf (9, 35, 0, 1, 0, [])) (.leaf (8, 36, 0, 4, 0, []))) (.branch 41 (.leaf (79, 38, 182, 0, 126, [1495, 1496])) (.branch 42 (.leaf (64, 41, 0, 0, 0, [])) (.leaf (51, 42, 61, 0, 0, []))))) (.branch 47 (.branch 46 (.leaf (13, 45, 0, 0, 0, [])) (.leaf (9, 46, 0, 1, 0, []))) (.branch 49 (.leaf (8, 47, 0, 4, 0, [])) (.branch 50 (.leaf (1, 49, 0, 0, 9223372036854775810, [])) (.leaf (78, 50, 210, 0, 323, [1647, 1649, 56])))))) (.branch 62 (.branch 57 (.branch 54 (.leaf (9, 53, 0, 2, 0, [])) (.leaf (54, 54, 61, 0, 0, []))) (.branch 58 (.leaf (1, 57, 0, 0, 9223372036854775809, [])) (.branch 61 (.leaf (58, 58, 62, 0, 0, [])) (.leaf (1, 61, 0, 0, 9223372036854775808, []))))) (.branch 66 (.branch 63 (.leaf (15, 62, 0, 3, 0, [])) (.leaf (20, 63, 0, 4, 9223372036854775809, []))) (.branch 69 (.leaf (58, 66, 5, 0, 0, [])) (.branch 70 (.leaf (9, 69, 0, 3, 0, [])) (.leaf (83, 70, 1, 0, 0, [])))))))
noncomputable def abM238 : abM := ((⟨"TallBinsModel", "isHot", "(II)Z"⟩, prog_14_method_67_code, 5, some .boolean), 2, 0, 0, 12, abK238)
set_option maxRecDepth 20000 in
noncomputable def abK239 : Lean.RArray abEy := .branch 87 (.branch 43 (.branch 21 (.branch 10 (.branch 5 (.branch 1 (.leaf (9, 0, 0, 1, 0, [])) (.branch 4 (.leaf (47, 1, 11, 0, 0, [])) (.leaf (13, 4, 0, 0, 0, [])))) (.branch 6 (.leaf (9, 5, 0, 3, 0, [])) (.branch 9 (.leaf (61, 6, 12, 28, 404, [1371])) (.leaf (1, 9, 0, 0, 9223372036854775809, []))))) (.branch 14 (.branch 11 (.leaf (83, 10, 1, 0, 0, [])) (.branch 12 (.leaf (1, 11, 0, 0, 9223372036854775808, [])) (.leaf (14, 12, 0, 4, 0, [])))) (.branch 16 (.leaf (8, 14, 0, 4, 0, [])) (.branch 18 (.leaf (2, 16, 0, 0, 9223372036854775814, [])) (.leaf (55, 18, 162, 0, 0, [])))))) (.branch 30 (.branch 25 (.branch 22 (.leaf (9, 21, 0, 1, 0, [])) (.branch 24 (.leaf (8, 22, 0, 4, 0, [])) (.leaf (30, 24, 0, 0, 0, [])))) (.branch 26 (.leaf (1, 25, 0, 0, 9223372036854775809, [])) (.branch 27 (.leaf (26, 26, 0, 0, 0, [])) (.leaf (47, 27, 33, 0, 0, []))))) (.branch 36 (.branch 33 (.leaf (58, 30, 156, 0, 0, [])) (.branch 34 (.leaf (1, 33, 0, 0, 9223372036854775808, [])) (.leaf (14, 34, 0, 5, 0, [])))) (.branch 38 (.leaf (8, 36, 0, 5, 0, [])) (.branch 40 (.leaf (2, 38, 0, 0, 9223372036854775814, [])) (.leaf (55, 40, 156, 0, 0, []))))))) (.branch 63 (.branch 52 (.branch 47 (.branch 44 (.leaf (9, 43, 0, 2, 0, [])) (.branch 46 (.leaf (8, 44, 0, 5, 0, [])) (.leaf (30, 46, 0, 0, 0, [])))) (.branch 48 (.leaf (1, 47, 0, 0, 9223372036854775809, [])) (.branch 49 (.leaf (26, 48, 0, 0, 0, [])) (.leaf (46, 49, 150, 0, 0, []))))) (.branch 58 (.branch 53 (.leaf (13, 52, 0, 0, 0, [])) (.branch 56 (.leaf (60, 53, 12, 1, 13, [1344])) (.leaf (8, 56, 0, 5, 0, [])))) (.branch 61 (.leaf (79, 58, 173, 0, 108, [1337, 1338])) (.branch 62 (.leaf (64, 61, 0, 0, 0, [])) (.leaf (13, 62, 0, 0, 0, [])))))) (.branch 74 (.branch 71 (.branch 66 (.leaf (60, 63, 12, 1, 13, [1344])) (.branch 68 (.leaf (8, 66, 0, 5, 0, [])) (.leaf (79, 68, 173, 0, 108, [1337, 1338])))) (.branch 72 (.leaf (1, 71, 0, 0, 9223372036854775809, [])) (.branch 73 (.leaf (21, 72, 0, 0, 0, [])) (.leaf (64, 73, 0, 0, 0, []))))) (.branch 78 (.branch 75 (.leaf (23, 74, 0, 0, 0, [])) (.branch 76 (.leaf (13, 75, 0, 0, 0, [])) (.leaf (8, 76, 0, 4, 0, [])))) (.branch 81 (.leaf (78, 78, 181, 0, 273, [1491, 1493, 34])) (.branch 84 (.leaf (55, 81, 87, 0, 0, [])) (.leaf (58, 84, 150, 0, 0, [])))))))) (.branch 119 (.branch 105 (.branch 96 (.branch 92 (.branch 88 (.leaf (13, 87, 0, 0, 0, [])) (.branch 91 (.leaf (60, 88, 12, 26, 71, [1369])) (.leaf (9, 91, 0, 3, 0, [])))) (.branch 94 (.leaf (8, 92, 0, 4, 0, [])) (.branch 95 (.leaf (69, 94, 0, 0, 0, [])) (.leaf (13, 95, 0, 0, 0, []))))) (.branch 102 (.branch 99 (.leaf (60, 96, 12, 27, 74, [1370])) (.branch 100 (.leaf (9, 99, 0, 3, 0, [])) (.leaf (8, 100, 0, 5, 0, [])))) (.branch 103 (.leaf (69, 102, 0, 0, 0, [])) (.branch 104 (.leaf (13, 103, 0, 0, 0, [])) (.leaf (9, 104, 0, 1, 0, [])))))) (.branch 112 (.branch 109 (.branch 106 (.leaf (1, 105, 0, 0, 9223372036854775809, [])) (.branch 108 (.leaf (8, 106, 0, 4, 0, [])) (.leaf (29, 108, 0, 0, 0, [])))) (.branch 110 (.leaf (1, 109, 0, 0, 9223372036854775807, [])) (.branch 111 (.leaf (28, 110, 0, 0, 0, [])) (.leaf (26, 111, 0, 0, 0, []))))) (.branch 116 (.branch 113 (.leaf (9, 112, 0, 2, 0, [])) (.branch 114 (.leaf (1, 113, 0, 0, 9223372036854775809, [])) (.leaf (8, 114, 0, 5, 0, [])))) (.branch 117 (.leaf (29, 116, 0, 0, 0, [])) (.branch 118 (.leaf (1, 117, 0, 0, 9223372036854775807, [])) (.leaf (28, 118, 0, 0, 0, []))))))) (.branch 139 (.branch 130 (.branch 123 (.branch 120 (.leaf (26, 119, 0, 0, 0, [])) (.branch 121 (.leaf (13, 120, 0, 0, 0, [])) (.leaf (8, 121, 0, 4, 0, [])))) (.branch 126 (.leaf (78, 123, 183, 0, 276, [1498, 1500, 35])) (.branch 127 (.leaf (1, 126, 0, 0, 9223372036854775807, [])) (.leaf (53, 127, 137, 0, 0, []))))) (.branch 134 (.branch 131 (.leaf (1, 130, 0, 0, 9223372036854775809, [])) (.branch 133 (.leaf (8, 131, 0, 4, 0, [])) (.leaf (29, 133, 0, 0, 0, [])))) (.branch 137 (.leaf (58, 134, 138, 0, 0, [])) (.branch 138 (.leaf (1, 137, 0, 0, 9223372036854775808, [])) (.leaf (27, 138, 0, 0, 0, [])))))) (.branch 149 (.branch 142 (.branch 140 (.leaf (9, 139, 0, 3, 0, [])) (.branch 141 (.leaf (1, 140, 0, 0, 9223372036854775809, [])) (.leaf (21, 141, 0, 0, 0, [])))) (.branch 145 (.leaf (78, 142, 239, 0, 407, [1781, 1783, 72])) (.branch 148 (.leaf (46, 145, 150, 0, 0, [])) (.leaf (1, 148, 0, 0, 9223372036854775809, []))))) (.branch 156 (.branch 150 (.leaf (83, 149, 1, 0, 0, [])) (.branch 153 (.leaf (20, 150, 0, 5, 9223372036854775809, [])) (.leaf (58, 153, 36, 0, 0, [])))) (.branch 162 (.branch 159 (.leaf (20, 156, 0, 4, 9223372036854775809, [])) (.leaf (58, 159, 14, 0, 0, []))) (.branch 163 (.leaf (1, 162, 0, 0, 9223372036854775808, [])) (.leaf (83, 163, 1, 0, 0, []))))))))
noncomputable def abM239 : abM := ((⟨"TallBinsModel", "turns", "(III)Z"⟩, prog_14_method_68_code, 6, some .boolean), 3, 0, 0, 12, abK239)
set_option maxRecDepth 20000 in
noncomputable def abK240 : Lean.RArray abEy := .branch 23 (.branch 9 (.branch 3 (.branch 1 (.leaf (9, 0, 0, 1, 0, [])) (.branch 2 (.leaf (40, 1, 0, 0, 0, [])) (.leaf (6, 2, 0, 0, 9223372036854775808, [])))) (.branch 7 (.branch 4 (.leaf (13, 3, 0, 0, 0, [])) (.leaf (60, 4, 12, 28, 404, [1371]))) (.branch 8 (.leaf (1, 7, 0, 0, 9223372036854775809, [])) (.leaf (22, 8, 0, 0, 0, []))))) (.branch 17 (.branch 13 (.branch 10 (.leaf (40, 9, 0, 0, 0, [])) (.leaf (79, 10, 176, 0, 118, [1472, 1473]))) (.branch 16 (.leaf (46, 13, 48, 0, 0, [])) (.leaf (9, 16, 0, 2, 0, [])))) (.branch 19 (.branch 18 (.leaf (40, 17, 0, 0, 0, [])) (.leaf (6, 18, 0, 0, 9223372036854775808, []))) (.branch 20 (.leaf (6, 19, 0, 0, 9223372036854775809, [])) (.leaf (79, 20, 176, 0, 118, [1472, 1473])))))) (.branch 36 (.branch 30 (.branch 26 (.leaf (46, 23, 48, 0, 0, [])) (.branch 27 (.leaf (9, 26, 0, 2, 0, [])) (.leaf (47, 27, 39, 0, 0, [])))) (.branch 34 (.branch 31 (.leaf (13, 30, 0, 0, 0, [])) (.leaf (60, 31, 12, 24, 65, [1367]))) (.branch 35 (.leaf (9, 34, 0, 1, 0, [])) (.leaf (64, 35, 0, 0, 0, []))))) (.branch 44 (.branch 40 (.branch 39 (.leaf (58, 36, 49, 0, 0, [])) (.leaf (13, 39, 0, 0, 0, []))) (.branch 43 (.leaf (60, 40, 12, 25, 68, [1368])) (.leaf (9, 43, 0, 1, 0, [])))) (.branch 48 (.branch 45 (.leaf (64, 44, 0, 0, 0, [])) (.leaf (58, 45, 49, 0, 0, []))) (.branch 49 (.leaf (1, 48, 0, 0, 9223372036854775807, [])) (.leaf (83, 49, 0, 0, 0, []))))))
noncomputable def abM240 : abM := ((⟨"TallBinsModel", "planned", "(II)I"⟩, prog_14_method_70_code, 3, some .int), 2, 0, 0, 12, abK240)
set_option maxRecDepth 20000 in
noncomputable def abK241 : Lean.RArray abEy := .branch 45 (.branch 24 (.branch 10 (.branch 3 (.branch 1 (.leaf (13, 0, 0, 0, 0, [])) (.branch 2 (.leaf (9, 1, 0, 1, 0, [])) (.leaf (9, 2, 0, 2, 0, [])))) (.branch 6 (.leaf (78, 3, 222, 0, 354, [1699, 1701, 63])) (.branch 9 (.leaf (46, 6, 29, 0, 0, [])) (.leaf (9, 9, 0, 3, 0, []))))) (.branch 17 (.branch 11 (.leaf (40, 10, 0, 0, 0, [])) (.branch 14 (.leaf (7, 11, 291, 0, 9223372036854775778, [1613])) (.leaf (7, 14, 414, 0, 9223372036854775888, [1793])))) (.branch 20 (.leaf (79, 17, 176, 0, 118, [1472, 1473])) (.branch 23 (.leaf (47, 20, 32, 0, 0, [])) (.leaf (9, 23, 0, 3, 0, [])))))) (.branch 36 (.branch 31 (.branch 26 (.leaf (2, 24, 0, 0, 9223372036854775907, [])) (.branch 29 (.leaf (52, 26, 32, 0, 0, [])) (.leaf (2, 29, 0, 0, 9223372036854775806, [])))) (.branch 32 (.leaf (83, 31, 0, 0, 0, [])) (.branch 33 (.leaf (13, 32, 0, 0, 0, [])) (.leaf (60, 33, 12, 1, 13, [1344]))))) (.branch 42 (.branch 37 (.leaf (9, 36, 0, 1, 0, [])) (.branch 40 (.leaf (79, 37, 173, 0, 108, [1337, 1338])) (.leaf (2, 40, 0, 0, 9223372036854775816, [])))) (.branch 43 (.leaf (21, 42, 0, 0, 0, [])) (.branch 44 (.leaf (9, 43, 0, 2, 0, [])) (.leaf (21, 44, 0, 0, 0, []))))))) (.branch 64 (.branch 53 (.branch 48 (.branch 46 (.leaf (9, 45, 0, 3, 0, [])) (.branch 47 (.leaf (69, 46, 0, 0, 0, [])) (.leaf (1, 47, 0, 0, 9223372036854775808, [])))) (.branch 50 (.leaf (14, 48, 0, 4, 0, [])) (.branch 51 (.leaf (1, 50, 0, 0, 9223372036854775808, [])) (.leaf (14, 51, 0, 5, 0, []))))) (.branch 60 (.branch 55 (.leaf (8, 53, 0, 5, 0, [])) (.branch 57 (.leaf (2, 55, 0, 0, 9223372036854775820, [])) (.leaf (55, 57, 88, 0, 0, [])))) (.branch 62 (.leaf (8, 60, 0, 4, 0, [])) (.branch 63 (.leaf (13, 62, 0, 0, 0, [])) (.leaf (9, 63, 0, 1, 0, [])))))) (.branch 78 (.branch 71 (.branch 66 (.leaf (8, 64, 0, 5, 0, [])) (.branch 69 (.leaf (78, 66, 242, 0, 416, [1794, 1796, 73])) (.leaf (2, 69, 0, 0, 9223372036854775907, [])))) (.branch 74 (.leaf (53, 71, 78, 0, 0, [])) (.branch 75 (.leaf (1, 74, 0, 0, 9223372036854775808, [])) (.leaf (58, 75, 79, 0, 0, []))))) (.branch 82 (.branch 79 (.leaf (1, 78, 0, 0, 9223372036854775809, [])) (.branch 80 (.leaf (21, 79, 0, 0, 0, [])) (.leaf (14, 80, 0, 4, 0, [])))) (.branch 88 (.branch 85 (.leaf (20, 82, 0, 5, 9223372036854775809, [])) (.leaf (58, 85, 53, 0, 0, []))) (.branch 90 (.leaf (8, 88, 0, 4, 0, [])) (.leaf (83, 90, 0, 0, 0, [])))))))
noncomputable def abM241 : abM := ((⟨"TallBinsModel", "gauge", "(III)I"⟩, prog_14_method_72_code, 6, some .int), 3, 0, 0, 12, abK241)
set_option maxRecDepth 20000 in
noncomputable def abK242 : Lean.RArray abEy := .branch 10 (.branch 4 (.branch 1 (.leaf (13, 0, 0, 0, 0, [])) (.leaf (60, 1, 12, 1, 13, [1344]))) (.branch 5 (.leaf (9, 4, 0, 1, 0, [])) (.branch 8 (.leaf (79, 5, 173, 0, 108, [1337, 1338])) (.leaf (2, 8, 0, 0, 9223372036854775816, []))))) (.branch 12 (.branch 11 (.leaf (21, 10, 0, 0, 0, [])) (.leaf (9, 11, 0, 2, 0, []))) (.branch 13 (.leaf (21, 12, 0, 0, 0, [])) (.branch 14 (.leaf (64, 13, 0, 0, 0, [])) (.leaf (83, 14, 0, 0, 0, [])))))
noncomputable def abM242 : abM := ((⟨"TallBinsModel", "readingOf", "(II)I"⟩, prog_14_method_71_code, 3, some .int), 2, 0, 0, 12, abK242)
set_option maxRecDepth 20000 in
noncomputable def abK243 : Lean.RArray abEy := .branch 24 (.branch 11 (.branch 3 (.branch 1 (.leaf (13, 0, 0, 0, 0, [])) (.branch 2 (.leaf (9, 1, 0, 1, 0, [])) (.leaf (9, 2, 0, 2, 0, [])))) (.branch 9 (.branch 6 (.leaf (78, 3, 222, 0, 354, [1699, 1701, 63])) (.leaf (46, 6, 19, 0, 0, []))) (.branch 10 (.leaf (9, 9, 0, 3, 0, [])) (.leaf (40, 10, 0, 0, 0, []))))) (.branch 16 (.branch 12 (.leaf (6, 11, 0, 0, 9223372036854775808, [])) (.branch 13 (.leaf (6, 12, 0, 0, 9223372036854775809, [])) (.leaf (79, 13, 176, 0, 118, [1472, 1473])))) (.branch 22 (.branch 19 (.leaf (47, 16, 23, 0, 0, [])) (.leaf (5, 19, 306, 0, 9223372034854775808, [1624]))) (.branch 23 (.leaf (83, 22, 0, 0, 0, [])) (.leaf (13, 23, 0, 0, 0, [])))))) (.branch 35 (.branch 31 (.branch 25 (.leaf (9, 24, 0, 1, 0, [])) (.branch 28 (.leaf (78, 25, 244, 0, 422, [1802, 1804, 74])) (.leaf (46, 28, 49, 0, 0, [])))) (.branch 33 (.branch 32 (.leaf (13, 31, 0, 0, 0, [])) (.leaf (9, 32, 0, 1, 0, []))) (.branch 34 (.leaf (9, 33, 0, 2, 0, [])) (.leaf (9, 34, 0, 3, 0, []))))) (.branch 43 (.branch 39 (.branch 38 (.leaf (47, 35, 42, 0, 0, [])) (.leaf (1, 38, 0, 0, 9223372036854775809, []))) (.branch 42 (.leaf (58, 39, 43, 0, 0, [])) (.leaf (1, 42, 0, 0, 9223372036854775808, [])))) (.branch 49 (.branch 46 (.leaf (78, 43, 245, 0, 425, [1807, 1809, 75])) (.leaf (58, 46, 52, 0, 0, []))) (.branch 52 (.leaf (3, 49, 0, 0, 9223372036854770808, [])) (.leaf (83, 52, 0, 0, 0, []))))))
noncomputable def abM243 : abM := ((⟨"TallBinsModel", "between", "(III)I"⟩, prog_14_method_75_code, 4, some .int), 3, 0, 0, 12, abK243)
set_option maxRecDepth 20000 in
noncomputable def abK244 : Lean.RArray abEy := .branch 38 (.branch 16 (.branch 8 (.branch 2 (.branch 1 (.leaf (1, 0, 0, 0, 9223372036854775808, [])) (.leaf (15, 1, 0, 2, 0, []))) (.branch 3 (.leaf (9, 2, 0, 2, 0, [])) (.branch 5 (.leaf (2, 3, 0, 0, 9223372036854775820, [])) (.leaf (55, 5, 75, 0, 0, []))))) (.branch 11 (.branch 9 (.leaf (1, 8, 0, 0, 9223372036854775808, [])) (.branch 10 (.leaf (15, 9, 0, 3, 0, [])) (.leaf (9, 10, 0, 3, 0, [])))) (.branch 12 (.leaf (9, 11, 0, 2, 0, [])) (.branch 15 (.leaf (55, 12, 69, 0, 0, [])) (.leaf (13, 15, 0, 0, 0, [])))))) (.branch 27 (.branch 21 (.branch 17 (.leaf (9, 16, 0, 1, 0, [])) (.branch 18 (.leaf (9, 17, 0, 2, 0, [])) (.leaf (78, 18, 242, 0, 416, [1794, 1796, 73])))) (.branch 23 (.leaf (2, 21, 0, 0, 9223372036854775907, [])) (.branch 26 (.leaf (52, 23, 63, 0, 0, [])) (.leaf (13, 26, 0, 0, 0, []))))) (.branch 32 (.branch 28 (.leaf (9, 27, 0, 1, 0, [])) (.branch 29 (.leaf (9, 28, 0, 3, 0, [])) (.leaf (78, 29, 242, 0, 416, [1794, 1796, 73])))) (.branch 34 (.leaf (2, 32, 0, 0, 9223372036854775907, [])) (.branch 37 (.leaf (52, 34, 63, 0, 0, [])) (.leaf (13, 37, 0, 0, 0, []))))))) (.branch 55 (.branch 45 (.branch 40 (.branch 39 (.leaf (9, 38, 0, 1, 0, [])) (.leaf (9, 39, 0, 2, 0, []))) (.branch 43 (.leaf (78, 40, 242, 0, 416, [1794, 1796, 73])) (.branch 44 (.leaf (13, 43, 0, 0, 0, [])) (.leaf (9, 44, 0, 1, 0, []))))) (.branch 50 (.branch 46 (.leaf (9, 45, 0, 3, 0, [])) (.branch 49 (.leaf (78, 46, 242, 0, 416, [1794, 1796, 73])) (.leaf (22, 49, 0, 0, 0, [])))) (.branch 53 (.leaf (79, 50, 274, 0, 419, [1806, 1116])) (.branch 54 (.leaf (1, 53, 0, 0, 9223372036854775812, [])) (.leaf (9, 54, 0, 2, 0, [])))))) (.branch 63 (.branch 58 (.branch 56 (.leaf (9, 55, 0, 3, 0, [])) (.branch 57 (.leaf (22, 56, 0, 0, 0, [])) (.leaf (23, 57, 0, 0, 0, [])))) (.branch 61 (.leaf (57, 58, 63, 0, 0, [])) (.branch 62 (.leaf (1, 61, 0, 0, 9223372036854775808, [])) (.leaf (83, 62, 1, 0, 0, []))))) (.branch 72 (.branch 66 (.leaf (20, 63, 0, 3, 9223372036854775809, [])) (.branch 69 (.leaf (58, 66, 10, 0, 0, [])) (.leaf (20, 69, 0, 2, 9223372036854775809, [])))) (.branch 75 (.leaf (58, 72, 2, 0, 0, [])) (.branch 76 (.leaf (1, 75, 0, 0, 9223372036854775809, [])) (.leaf (83, 76, 1, 0, 0, [])))))))
noncomputable def abM244 : abM := ((⟨"TallBinsModel", "agree", "(I)Z"⟩, prog_14_method_73_code, 4, some .boolean), 1, 0, 0, 12, abK244)
set_option maxRecDepth 20000 in
noncomputable def abK245 : Lean.RArray abEy := .branch 47 (.branch 24 (.branch 13 (.branch 6 (.branch 1 (.leaf (9, 0, 0, 3, 0, [])) (.branch 4 (.leaf (46, 1, 9, 0, 0, [])) (.leaf (2, 4, 0, 0, 9223372036854775778, [])))) (.branch 9 (.leaf (58, 6, 11, 0, 0, [])) (.branch 11 (.leaf (2, 9, 0, 0, 9223372036854775888, [])) (.leaf (14, 11, 0, 4, 0, []))))) (.branch 18 (.branch 14 (.leaf (1, 13, 0, 0, 9223372036854775808, [])) (.branch 16 (.leaf (14, 14, 0, 5, 0, [])) (.leaf (8, 16, 0, 5, 0, [])))) (.branch 20 (.leaf (2, 18, 0, 0, 9223372036854775820, [])) (.branch 23 (.leaf (55, 20, 94, 0, 0, [])) (.leaf (13, 23, 0, 0, 0, [])))))) (.branch 38 (.branch 30 (.branch 25 (.leaf (9, 24, 0, 1, 0, [])) (.branch 27 (.leaf (8, 25, 0, 5, 0, [])) (.leaf (78, 27, 242, 0, 416, [1794, 1796, 73])))) (.branch 32 (.leaf (2, 30, 0, 0, 9223372036854775907, [])) (.branch 35 (.leaf (53, 32, 38, 0, 0, [])) (.leaf (58, 35, 88, 0, 0, []))))) (.branch 42 (.branch 39 (.leaf (1, 38, 0, 0, 9223372036854775812, [])) (.branch 40 (.leaf (9, 39, 0, 2, 0, [])) (.leaf (8, 40, 0, 5, 0, [])))) (.branch 43 (.leaf (22, 42, 0, 0, 0, [])) (.branch 46 (.leaf (79, 43, 274, 0, 419, [1806, 1116])) (.leaf (23, 46, 0, 0, 0, []))))))) (.branch 71 (.branch 57 (.branch 53 (.branch 49 (.leaf (14, 47, 0, 6, 0, [])) (.branch 50 (.leaf (9, 49, 0, 3, 0, [])) (.leaf (46, 50, 71, 0, 0, [])))) (.branch 55 (.leaf (8, 53, 0, 4, 0, [])) (.branch 56 (.leaf (13, 55, 0, 0, 0, [])) (.leaf (9, 56, 0, 1, 0, []))))) (.branch 64 (.branch 59 (.leaf (8, 57, 0, 5, 0, [])) (.branch 62 (.leaf (78, 59, 242, 0, 416, [1794, 1796, 73])) (.leaf (8, 62, 0, 6, 0, [])))) (.branch 65 (.leaf (22, 64, 0, 0, 0, [])) (.branch 68 (.leaf (79, 65, 271, 0, 303, [1623, 864])) (.leaf (58, 68, 86, 0, 0, [])))))) (.branch 82 (.branch 75 (.branch 73 (.leaf (8, 71, 0, 4, 0, [])) (.branch 74 (.leaf (13, 73, 0, 0, 0, [])) (.leaf (9, 74, 0, 1, 0, [])))) (.branch 77 (.leaf (8, 75, 0, 5, 0, [])) (.branch 80 (.leaf (78, 77, 242, 0, 416, [1794, 1796, 73])) (.leaf (8, 80, 0, 6, 0, []))))) (.branch 88 (.branch 83 (.leaf (21, 82, 0, 0, 0, [])) (.branch 86 (.leaf (79, 83, 269, 0, 171, [1515, 598])) (.leaf (14, 86, 0, 4, 0, [])))) (.branch 94 (.branch 91 (.leaf (20, 88, 0, 5, 9223372036854775809, [])) (.leaf (58, 91, 16, 0, 0, []))) (.branch 96 (.leaf (8, 94, 0, 4, 0, [])) (.leaf (83, 96, 0, 0, 0, [])))))))
noncomputable def abM245 : abM := ((⟨"TallBinsModel", "mayRead", "(IIZ)I"⟩, prog_14_method_74_code, 7, some .int), 3, 0, 0, 12, abK245)
set_option maxRecDepth 20000 in
noncomputable def abK246 : Lean.RArray abEy := .branch 40 (.branch 22 (.branch 11 (.branch 5 (.branch 1 (.leaf (13, 0, 0, 0, 0, [])) (.branch 2 (.leaf (9, 1, 0, 1, 0, [])) (.leaf (78, 2, 202, 0, 122, [1606, 1608, 52])))) (.branch 8 (.leaf (47, 5, 11, 0, 0, [])) (.branch 10 (.leaf (2, 8, 0, 0, 9223372036854775806, [])) (.leaf (83, 10, 0, 0, 0, []))))) (.branch 16 (.branch 12 (.leaf (13, 11, 0, 0, 0, [])) (.branch 13 (.leaf (9, 12, 0, 1, 0, [])) (.leaf (78, 13, 244, 0, 422, [1802, 1804, 74])))) (.branch 19 (.leaf (47, 16, 22, 0, 0, [])) (.branch 21 (.leaf (2, 19, 0, 0, 9223372036854775803, [])) (.leaf (83, 21, 0, 0, 0, [])))))) (.branch 29 (.branch 25 (.branch 23 (.leaf (1, 22, 0, 0, 9223372036854775807, [])) (.branch 24 (.leaf (15, 23, 0, 2, 0, [])) (.leaf (1, 24, 0, 0, 9223372036854775808, [])))) (.branch 26 (.leaf (15, 25, 0, 3, 0, [])) (.branch 27 (.leaf (1, 26, 0, 0, 9223372036854775808, [])) (.leaf (14, 27, 0, 4, 0, []))))) (.branch 35 (.branch 31 (.leaf (8, 29, 0, 4, 0, [])) (.branch 32 (.leaf (13, 31, 0, 0, 0, [])) (.leaf (60, 32, 12, 1, 13, [1344])))) (.branch 36 (.leaf (9, 35, 0, 1, 0, [])) (.branch 39 (.leaf (79, 36, 173, 0, 108, [1337, 1338])) (.leaf (64, 39, 0, 0, 0, []))))))) (.branch 60 (.branch 51 (.branch 45 (.branch 43 (.leaf (55, 40, 83, 0, 0, [])) (.branch 44 (.leaf (13, 43, 0, 0, 0, [])) (.leaf (9, 44, 0, 1, 0, [])))) (.branch 47 (.leaf (8, 45, 0, 4, 0, [])) (.branch 48 (.leaf (1, 47, 0, 0, 9223372036854775808, [])) (.leaf (78, 48, 245, 0, 425, [1807, 1809, 75]))))) (.branch 55 (.branch 52 (.leaf (13, 51, 0, 0, 0, [])) (.branch 53 (.leaf (9, 52, 0, 1, 0, [])) (.leaf (8, 53, 0, 4, 0, [])))) (.branch 56 (.leaf (1, 55, 0, 0, 9223372036854775809, [])) (.branch 59 (.leaf (78, 56, 245, 0, 425, [1807, 1809, 75])) (.leaf (22, 59, 0, 0, 0, [])))))) (.branch 73 (.branch 65 (.branch 62 (.leaf (14, 60, 0, 5, 0, [])) (.branch 64 (.leaf (8, 62, 0, 5, 0, [])) (.leaf (9, 64, 0, 3, 0, [])))) (.branch 68 (.leaf (56, 65, 71, 0, 0, [])) (.branch 71 (.leaf (58, 68, 77, 0, 0, [])) (.leaf (8, 71, 0, 5, 0, []))))) (.branch 77 (.branch 74 (.leaf (15, 73, 0, 3, 0, [])) (.branch 76 (.leaf (8, 74, 0, 4, 0, [])) (.leaf (15, 76, 0, 2, 0, [])))) (.branch 83 (.branch 80 (.leaf (20, 77, 0, 4, 9223372036854775809, [])) (.leaf (58, 80, 29, 0, 0, []))) (.branch 84 (.leaf (9, 83, 0, 2, 0, [])) (.leaf (83, 84, 0, 0, 0, [])))))))
noncomputable def abM246 : abM := ((⟨"TallBinsModel", "nextRope", "(I)I"⟩, prog_14_method_76_code, 6, some .int), 1, 0, 0, 12, abK246)
set_option maxRecDepth 20000 in
noncomputable def abK247 : Lean.RArray abEy := .branch 50 (.branch 22 (.branch 12 (.branch 5 (.branch 1 (.leaf (13, 0, 0, 0, 0, [])) (.branch 2 (.leaf (9, 1, 0, 1, 0, [])) (.leaf (78, 2, 202, 0, 122, [1606, 1608, 52])))) (.branch 10 (.branch 8 (.leaf (47, 5, 11, 0, 0, [])) (.leaf (2, 8, 0, 0, 9223372036854775806, []))) (.branch 11 (.leaf (83, 10, 0, 0, 0, [])) (.leaf (1, 11, 0, 0, 9223372036854775808, []))))) (.branch 15 (.branch 13 (.leaf (15, 12, 0, 2, 0, [])) (.branch 14 (.leaf (1, 13, 0, 0, 9223372036854775808, [])) (.leaf (15, 14, 0, 3, 0, [])))) (.branch 18 (.branch 16 (.leaf (9, 15, 0, 3, 0, [])) (.leaf (2, 16, 0, 0, 9223372036854775820, []))) (.branch 21 (.leaf (55, 18, 97, 0, 0, [])) (.leaf (13, 21, 0, 0, 0, [])))))) (.branch 36 (.branch 27 (.branch 23 (.leaf (9, 22, 0, 1, 0, [])) (.branch 24 (.leaf (9, 23, 0, 3, 0, [])) (.leaf (78, 24, 242, 0, 416, [1794, 1796, 73])))) (.branch 32 (.branch 29 (.leaf (2, 27, 0, 0, 9223372036854775907, [])) (.leaf (53, 29, 35, 0, 0, []))) (.branch 35 (.leaf (58, 32, 91, 0, 0, [])) (.leaf (13, 35, 0, 0, 0, []))))) (.branch 44 (.branch 40 (.branch 39 (.leaf (60, 36, 12, 1, 13, [1344])) (.leaf (9, 39, 0, 1, 0, []))) (.branch 41 (.leaf (9, 40, 0, 3, 0, [])) (.leaf (79, 41, 182, 0, 126, [1495, 1496])))) (.branch 48 (.branch 45 (.leaf (64, 44, 0, 0, 0, [])) (.leaf (46, 45, 69, 0, 0, []))) (.branch 49 (.leaf (13, 48, 0, 0, 0, [])) (.leaf (9, 49, 0, 1, 0, []))))))) (.branch 74 (.branch 61 (.branch 55 (.branch 51 (.leaf (9, 50, 0, 3, 0, [])) (.branch 54 (.leaf (78, 51, 242, 0, 416, [1794, 1796, 73])) (.leaf (13, 54, 0, 0, 0, [])))) (.branch 57 (.branch 56 (.leaf (9, 55, 0, 1, 0, [])) (.leaf (9, 56, 0, 3, 0, []))) (.branch 58 (.leaf (1, 57, 0, 0, 9223372036854775810, [])) (.leaf (78, 58, 210, 0, 323, [1647, 1649, 56]))))) (.branch 66 (.branch 62 (.leaf (22, 61, 0, 0, 0, [])) (.branch 65 (.leaf (79, 62, 274, 0, 419, [1806, 1116])) (.leaf (1, 65, 0, 0, 9223372036854775810, [])))) (.branch 70 (.branch 69 (.leaf (57, 66, 73, 0, 0, [])) (.leaf (1, 69, 0, 0, 9223372036854775809, []))) (.branch 73 (.leaf (58, 70, 74, 0, 0, [])) (.leaf (1, 73, 0, 0, 9223372036854775808, [])))))) (.branch 85 (.branch 79 (.branch 76 (.leaf (14, 74, 0, 4, 0, [])) (.branch 77 (.leaf (9, 76, 0, 2, 0, [])) (.leaf (8, 77, 0, 4, 0, [])))) (.branch 83 (.branch 82 (.leaf (46, 79, 88, 0, 0, [])) (.leaf (1, 82, 0, 0, 9223372036854775809, []))) (.branch 84 (.leaf (9, 83, 0, 3, 0, [])) (.leaf (29, 84, 0, 0, 0, []))))) (.branch 91 (.branch 89 (.branch 88 (.leaf (58, 85, 89, 0, 0, [])) (.leaf (1, 88, 0, 0, 9223372036854775808, []))) (.branch 90 (.leaf (27, 89, 0, 0, 0, [])) (.leaf (15, 90, 0, 2, 0, [])))) (.branch 97 (.branch 94 (.leaf (20, 91, 0, 3, 9223372036854775809, [])) (.leaf (58, 94, 15, 0, 0, []))) (.branch 98 (.leaf (9, 97, 0, 2, 0, [])) (.leaf (83, 98, 0, 0, 0, [])))))))
noncomputable def abM247 : abM := ((⟨"TallBinsModel", "lies", "(I)I"⟩, prog_14_method_77_code, 5, some .int), 1, 0, 0, 12, abK247)
set_option maxRecDepth 20000 in
noncomputable def abK248 : Lean.RArray abEy := .branch 42 (.branch 23 (.branch 12 (.branch 3 (.branch 1 (.leaf (9, 0, 0, 1, 0, [])) (.branch 2 (.leaf (40, 1, 0, 0, 0, [])) (.leaf (6, 2, 0, 0, 9223372036854775808, [])))) (.branch 6 (.leaf (7, 3, 230, 0, 9223372036854775811, [1563])) (.branch 9 (.leaf (79, 6, 176, 0, 118, [1472, 1473])) (.leaf (46, 9, 20, 0, 0, []))))) (.branch 17 (.branch 13 (.leaf (13, 12, 0, 0, 0, [])) (.branch 14 (.leaf (9, 13, 0, 2, 0, [])) (.leaf (78, 14, 202, 0, 122, [1606, 1608, 52])))) (.branch 20 (.leaf (47, 17, 23, 0, 0, [])) (.branch 22 (.leaf (2, 20, 0, 0, 9223372036854775806, [])) (.leaf (83, 22, 0, 0, 0, [])))))) (.branch 32 (.branch 29 (.branch 24 (.leaf (13, 23, 0, 0, 0, [])) (.branch 27 (.leaf (60, 24, 12, 1, 13, [1344])) (.leaf (2, 27, 0, 0, 9223372036854775816, [])))) (.branch 30 (.leaf (9, 29, 0, 1, 0, [])) (.branch 31 (.leaf (21, 30, 0, 0, 0, [])) (.leaf (64, 31, 0, 0, 0, []))))) (.branch 37 (.branch 33 (.leaf (1, 32, 0, 0, 9223372036854775807, [])) (.branch 36 (.leaf (53, 33, 45, 0, 0, [])) (.leaf (13, 36, 0, 0, 0, [])))) (.branch 38 (.leaf (9, 37, 0, 2, 0, [])) (.branch 41 (.leaf (78, 38, 183, 0, 276, [1498, 1500, 35])) (.leaf (1, 41, 0, 0, 9223372036854775807, []))))))) (.branch 61 (.branch 53 (.branch 48 (.branch 45 (.leaf (52, 42, 48, 0, 0, [])) (.branch 47 (.leaf (2, 45, 0, 0, 9223372036854775803, [])) (.leaf (83, 47, 0, 0, 0, [])))) (.branch 49 (.leaf (13, 48, 0, 0, 0, [])) (.branch 50 (.leaf (9, 49, 0, 2, 0, [])) (.leaf (78, 50, 249, 0, 439, [1823, 1825, 76]))))) (.branch 56 (.branch 54 (.leaf (15, 53, 0, 3, 0, [])) (.branch 55 (.leaf (9, 54, 0, 3, 0, [])) (.leaf (1, 55, 0, 0, 9223372036854775807, [])))) (.branch 59 (.leaf (52, 56, 67, 0, 0, [])) (.branch 60 (.leaf (13, 59, 0, 0, 0, [])) (.leaf (9, 60, 0, 3, 0, [])))))) (.branch 73 (.branch 67 (.branch 64 (.leaf (61, 61, 12, 29, 77, [1372])) (.branch 66 (.leaf (2, 64, 0, 0, 9223372036854775802, [])) (.leaf (83, 66, 0, 0, 0, [])))) (.branch 68 (.leaf (13, 67, 0, 0, 0, [])) (.branch 71 (.leaf (60, 68, 12, 1, 13, [1344])) (.leaf (2, 71, 0, 0, 9223372036854775816, []))))) (.branch 76 (.branch 74 (.leaf (9, 73, 0, 1, 0, [])) (.branch 75 (.leaf (21, 74, 0, 0, 0, [])) (.leaf (9, 75, 0, 2, 0, [])))) (.branch 77 (.leaf (69, 76, 0, 0, 0, [])) (.branch 78 (.leaf (1, 77, 0, 0, 9223372036854775808, [])) (.leaf (83, 78, 0, 0, 0, [])))))))
noncomputable def abM248 : abM := ((⟨"TallBinsModel", "enter", "(II)I"⟩, prog_14_method_82_code, 4, some .int), 2, 0, 0, 12, abK248)
set_option maxRecDepth 20000 in
noncomputable def abK249 : Lean.RArray abEy := .branch 41 (.branch 20 (.branch 9 (.branch 3 (.branch 1 (.leaf (1, 0, 0, 0, 9223372036854775808, [])) (.branch 2 (.leaf (15, 1, 0, 2, 0, [])) (.leaf (9, 2, 0, 2, 0, [])))) (.branch 4 (.leaf (13, 3, 0, 0, 0, [])) (.branch 7 (.leaf (60, 4, 12, 1, 13, [1344])) (.leaf (2, 7, 0, 0, 9223372036854775815, []))))) (.branch 16 (.branch 10 (.leaf (64, 9, 0, 0, 0, [])) (.branch 13 (.leaf (55, 10, 86, 0, 0, [])) (.leaf (3, 13, 0, 0, 9223372036854775938, [])))) (.branch 18 (.leaf (2, 16, 0, 0, 9223372036854775821, [])) (.branch 19 (.leaf (9, 18, 0, 2, 0, [])) (.leaf (23, 19, 0, 0, 0, [])))))) (.branch 28 (.branch 23 (.branch 21 (.leaf (21, 20, 0, 0, 0, [])) (.branch 22 (.leaf (15, 21, 0, 3, 0, [])) (.leaf (1, 22, 0, 0, 9223372036854775809, [])))) (.branch 25 (.leaf (14, 23, 0, 4, 0, [])) (.branch 26 (.leaf (1, 25, 0, 0, 9223372036854775808, [])) (.leaf (14, 26, 0, 5, 0, []))))) (.branch 34 (.branch 30 (.leaf (8, 28, 0, 5, 0, [])) (.branch 31 (.leaf (13, 30, 0, 0, 0, [])) (.leaf (60, 31, 12, 1, 13, [1344])))) (.branch 36 (.branch 35 (.leaf (9, 34, 0, 3, 0, [])) (.leaf (64, 35, 0, 0, 0, []))) (.branch 39 (.leaf (55, 36, 73, 0, 0, [])) (.leaf (8, 39, 0, 4, 0, []))))))) (.branch 61 (.branch 49 (.branch 46 (.branch 44 (.leaf (46, 41, 64, 0, 0, [])) (.branch 45 (.leaf (13, 44, 0, 0, 0, [])) (.leaf (9, 45, 0, 1, 0, [])))) (.branch 47 (.leaf (9, 46, 0, 3, 0, [])) (.branch 48 (.leaf (1, 47, 0, 0, 9223372036854775809, [])) (.leaf (21, 48, 0, 0, 0, []))))) (.branch 53 (.branch 50 (.leaf (1, 49, 0, 0, 9223372036854775812, [])) (.branch 52 (.leaf (8, 50, 0, 5, 0, [])) (.leaf (23, 52, 0, 0, 0, [])))) (.branch 57 (.branch 54 (.leaf (21, 53, 0, 0, 0, [])) (.leaf (78, 54, 250, 0, 436, [1827, 1829, 77]))) (.branch 60 (.leaf (46, 57, 64, 0, 0, [])) (.leaf (1, 60, 0, 0, 9223372036854775809, [])))))) (.branch 75 (.branch 67 (.branch 64 (.leaf (58, 61, 65, 0, 0, [])) (.branch 65 (.leaf (1, 64, 0, 0, 9223372036854775808, [])) (.leaf (14, 65, 0, 4, 0, [])))) (.branch 70 (.leaf (20, 67, 0, 5, 9223372036854775809, [])) (.branch 73 (.leaf (58, 70, 28, 0, 0, [])) (.leaf (8, 73, 0, 4, 0, []))))) (.branch 80 (.branch 78 (.leaf (46, 75, 80, 0, 0, [])) (.branch 79 (.leaf (9, 78, 0, 2, 0, [])) (.leaf (83, 79, 0, 0, 0, [])))) (.branch 86 (.branch 83 (.leaf (20, 80, 0, 2, 9223372036854775809, [])) (.leaf (58, 83, 2, 0, 0, []))) (.branch 87 (.leaf (1, 86, 0, 0, 9223372036854775807, [])) (.leaf (83, 87, 0, 0, 0, [])))))))
noncomputable def abM249 : abM := ((⟨"TallBinsModel", "barOf", "(I)I"⟩, prog_14_method_81_code, 6, some .int), 1, 0, 0, 12, abK249)
set_option maxRecDepth 20000 in
noncomputable def abK250 : Lean.RArray abEy := .branch 73 (.branch 35 (.branch 14 (.branch 7 (.branch 4 (.branch 1 (.leaf (13, 0, 0, 0, 0, [])) (.leaf (60, 1, 12, 1, 13, [1344]))) (.branch 5 (.leaf (9, 4, 0, 2, 0, [])) (.branch 6 (.leaf (1, 5, 0, 0, 9223372036854775809, [])) (.leaf (21, 6, 0, 0, 0, []))))) (.branch 9 (.branch 8 (.leaf (64, 7, 0, 0, 0, [])) (.leaf (15, 8, 0, 3, 0, []))) (.branch 10 (.leaf (9, 9, 0, 3, 0, [])) (.branch 11 (.leaf (1, 10, 0, 0, 9223372036854775812, [])) (.leaf (53, 11, 22, 0, 0, [])))))) (.branch 23 (.branch 16 (.branch 15 (.leaf (13, 14, 0, 0, 0, [])) (.leaf (9, 15, 0, 1, 0, []))) (.branch 19 (.leaf (78, 16, 212, 0, 344, [1656, 1658, 57])) (.branch 22 (.leaf (58, 19, 114, 0, 0, [])) (.leaf (9, 22, 0, 3, 0, []))))) (.branch 28 (.branch 24 (.leaf (1, 23, 0, 0, 9223372036854775813, [])) (.branch 27 (.leaf (53, 24, 50, 0, 0, [])) (.leaf (13, 27, 0, 0, 0, [])))) (.branch 31 (.leaf (60, 28, 12, 1, 13, [1344])) (.branch 32 (.leaf (9, 31, 0, 1, 0, [])) (.leaf (79, 32, 173, 0, 108, [1337, 1338]))))))) (.branch 55 (.branch 43 (.branch 38 (.branch 37 (.leaf (2, 35, 0, 0, 9223372036854775814, [])) (.leaf (21, 37, 0, 0, 0, []))) (.branch 39 (.leaf (64, 38, 0, 0, 0, [])) (.branch 42 (.leaf (51, 39, 46, 0, 0, [])) (.leaf (1, 42, 0, 0, 9223372036854775809, []))))) (.branch 50 (.branch 46 (.leaf (58, 43, 114, 0, 0, [])) (.branch 47 (.leaf (1, 46, 0, 0, 9223372036854775808, [])) (.leaf (58, 47, 114, 0, 0, [])))) (.branch 51 (.leaf (13, 50, 0, 0, 0, [])) (.branch 54 (.leaf (60, 51, 12, 1, 13, [1344])) (.leaf (9, 54, 0, 2, 0, [])))))) (.branch 63 (.branch 57 (.branch 56 (.leaf (1, 55, 0, 0, 9223372036854775810, [])) (.leaf (21, 56, 0, 0, 0, []))) (.branch 58 (.leaf (64, 57, 0, 0, 0, [])) (.branch 60 (.leaf (2, 58, 0, 0, 9223372036854775868, [])) (.leaf (53, 60, 90, 0, 0, []))))) (.branch 66 (.branch 64 (.leaf (13, 63, 0, 0, 0, [])) (.branch 65 (.leaf (9, 64, 0, 1, 0, [])) (.leaf (9, 65, 0, 3, 0, [])))) (.branch 69 (.leaf (78, 66, 251, 0, 433, [1831, 1833, 78])) (.branch 70 (.leaf (13, 69, 0, 0, 0, [])) (.leaf (60, 70, 12, 1, 13, [1344])))))))) (.branch 104 (.branch 87 (.branch 78 (.branch 75 (.branch 74 (.leaf (9, 73, 0, 2, 0, [])) (.leaf (1, 74, 0, 0, 9223372036854775811, []))) (.branch 76 (.leaf (21, 75, 0, 0, 0, [])) (.branch 77 (.leaf (64, 76, 0, 0, 0, [])) (.leaf (40, 77, 0, 0, 0, []))))) (.branch 82 (.branch 79 (.leaf (43, 78, 0, 0, 0, [])) (.leaf (49, 79, 86, 0, 0, []))) (.branch 83 (.leaf (1, 82, 0, 0, 9223372036854775809, [])) (.branch 86 (.leaf (58, 83, 114, 0, 0, [])) (.leaf (1, 86, 0, 0, 9223372036854775808, [])))))) (.branch 96 (.branch 91 (.branch 90 (.leaf (58, 87, 114, 0, 0, [])) (.leaf (13, 90, 0, 0, 0, []))) (.branch 92 (.leaf (9, 91, 0, 1, 0, [])) (.branch 93 (.leaf (9, 92, 0, 3, 0, [])) (.leaf (78, 93, 251, 0, 433, [1831, 1833, 78]))))) (.branch 101 (.branch 97 (.leaf (13, 96, 0, 0, 0, [])) (.branch 100 (.leaf (60, 97, 12, 1, 13, [1344])) (.leaf (9, 100, 0, 2, 0, [])))) (.branch 102 (.leaf (1, 101, 0, 0, 9223372036854775811, [])) (.branch 103 (.leaf (21, 102, 0, 0, 0, [])) (.leaf (64, 103, 0, 0, 0, []))))))) (.branch 123 (.branch 113 (.branch 106 (.branch 105 (.leaf (40, 104, 0, 0, 0, [])) (.leaf (43, 105, 0, 0, 0, []))) (.branch 109 (.leaf (51, 106, 113, 0, 0, [])) (.branch 110 (.leaf (1, 109, 0, 0, 9223372036854775809, [])) (.leaf (58, 110, 114, 0, 0, []))))) (.branch 118 (.branch 114 (.leaf (1, 113, 0, 0, 9223372036854775808, [])) (.branch 116 (.leaf (14, 114, 0, 4, 0, [])) (.leaf (8, 116, 0, 4, 0, [])))) (.branch 119 (.leaf (13, 118, 0, 0, 0, [])) (.branch 122 (.leaf (60, 119, 12, 1, 13, [1344])) (.leaf (9, 122, 0, 2, 0, [])))))) (.branch 132 (.branch 125 (.branch 124 (.leaf (64, 123, 0, 0, 0, [])) (.leaf (1, 124, 0, 0, 9223372036854775809, []))) (.branch 128 (.leaf (53, 125, 132, 0, 0, [])) (.branch 129 (.leaf (1, 128, 0, 0, 9223372036854775809, [])) (.leaf (58, 129, 133, 0, 0, []))))) (.branch 137 (.branch 133 (.leaf (1, 132, 0, 0, 9223372036854775808, [])) (.branch 136 (.leaf (52, 133, 140, 0, 0, [])) (.leaf (1, 136, 0, 0, 9223372036854775809, [])))) (.branch 140 (.leaf (58, 137, 141, 0, 0, [])) (.branch 141 (.leaf (1, 140, 0, 0, 9223372036854775808, [])) (.leaf (83, 141, 1, 0, 0, []))))))))
noncomputable def abM250 : abM := ((⟨"TallBinsModel", "condHolds", "(II)Z"⟩, prog_14_method_80_code, 5, some .boolean), 2, 0, 0, 12, abK250)
set_option maxRecDepth 20000 in
noncomputable def abK251 : Lean.RArray abEy := .branch 46 (.branch 21 (.branch 10 (.branch 5 (.branch 1 (.leaf (9, 0, 0, 2, 0, [])) (.branch 2 (.leaf (1, 1, 0, 0, 9223372036854775809, [])) (.leaf (57, 2, 25, 0, 0, [])))) (.branch 6 (.leaf (9, 5, 0, 2, 0, [])) (.branch 7 (.leaf (1, 6, 0, 0, 9223372036854775810, [])) (.leaf (53, 7, 19, 0, 0, []))))) (.branch 15 (.branch 11 (.leaf (13, 10, 0, 0, 0, [])) (.branch 12 (.leaf (9, 11, 0, 1, 0, [])) (.leaf (78, 12, 181, 0, 273, [1491, 1493, 34])))) (.branch 19 (.branch 16 (.leaf (40, 15, 0, 0, 0, [])) (.leaf (58, 16, 24, 0, 0, []))) (.branch 20 (.leaf (13, 19, 0, 0, 0, [])) (.leaf (9, 20, 0, 1, 0, [])))))) (.branch 32 (.branch 27 (.branch 24 (.leaf (78, 21, 252, 0, 429, [1835, 1837, 79])) (.branch 25 (.leaf (84, 24, 0, 0, 0, [])) (.leaf (2, 25, 0, 0, 9223372036854775709, [])))) (.branch 29 (.branch 28 (.leaf (15, 27, 0, 3, 0, [])) (.leaf (1, 28, 0, 0, 9223372036854775808, []))) (.branch 31 (.leaf (14, 29, 0, 4, 0, [])) (.leaf (1, 31, 0, 0, 9223372036854775808, []))))) (.branch 38 (.branch 34 (.leaf (14, 32, 0, 5, 0, [])) (.branch 36 (.leaf (8, 34, 0, 5, 0, [])) (.leaf (2, 36, 0, 0, 9223372036854775820, [])))) (.branch 42 (.branch 41 (.leaf (55, 38, 96, 0, 0, [])) (.leaf (13, 41, 0, 0, 0, []))) (.branch 45 (.leaf (60, 42, 12, 1, 13, [1344])) (.leaf (9, 45, 0, 1, 0, []))))))) (.branch 72 (.branch 60 (.branch 52 (.branch 48 (.leaf (8, 46, 0, 5, 0, [])) (.branch 51 (.leaf (79, 48, 182, 0, 126, [1495, 1496])) (.leaf (64, 51, 0, 0, 0, [])))) (.branch 58 (.branch 55 (.leaf (47, 52, 58, 0, 0, [])) (.leaf (58, 55, 90, 0, 0, []))) (.branch 59 (.leaf (13, 58, 0, 0, 0, [])) (.leaf (9, 59, 0, 1, 0, []))))) (.branch 64 (.branch 62 (.leaf (8, 60, 0, 5, 0, [])) (.branch 63 (.leaf (1, 62, 0, 0, 9223372036854775810, [])) (.leaf (9, 63, 0, 2, 0, [])))) (.branch 68 (.branch 65 (.leaf (22, 64, 0, 0, 0, [])) (.leaf (78, 65, 210, 0, 323, [1647, 1649, 56]))) (.branch 70 (.leaf (14, 68, 0, 6, 0, [])) (.leaf (8, 70, 0, 4, 0, [])))))) (.branch 87 (.branch 78 (.branch 75 (.leaf (46, 72, 84, 0, 0, [])) (.branch 76 (.leaf (9, 75, 0, 3, 0, [])) (.leaf (8, 76, 0, 6, 0, [])))) (.branch 84 (.branch 81 (.leaf (79, 78, 271, 0, 303, [1623, 864])) (.leaf (58, 81, 86, 0, 0, []))) (.branch 86 (.leaf (8, 84, 0, 6, 0, [])) (.leaf (15, 86, 0, 3, 0, []))))) (.branch 93 (.branch 88 (.leaf (1, 87, 0, 0, 9223372036854775809, [])) (.branch 90 (.leaf (14, 88, 0, 4, 0, [])) (.leaf (20, 90, 0, 5, 9223372036854775809, [])))) (.branch 97 (.branch 96 (.leaf (58, 93, 34, 0, 0, [])) (.leaf (9, 96, 0, 3, 0, []))) (.branch 98 (.leaf (40, 97, 0, 0, 0, [])) (.leaf (84, 98, 0, 0, 0, [])))))))
noncomputable def abM251 : abM := ((⟨"TallBinsModel", "wordOf", "(II)J"⟩, prog_14_method_79_code, 7, some .long), 2, 0, 0, 12, abK251)
set_option maxRecDepth 20000 in
noncomputable def abK252 : Lean.RArray abEy := .branch 18 (.branch 7 (.branch 2 (.branch 1 (.leaf (6, 0, 0, 0, 9223372036854775808, [])) (.leaf (17, 1, 0, 2, 0, []))) (.branch 3 (.leaf (1, 2, 0, 0, 9223372036854775808, [])) (.branch 5 (.leaf (14, 3, 0, 4, 0, [])) (.leaf (8, 5, 0, 4, 0, []))))) (.branch 13 (.branch 9 (.leaf (2, 7, 0, 0, 9223372036854775820, [])) (.branch 12 (.leaf (55, 9, 35, 0, 0, [])) (.leaf (11, 12, 0, 2, 0, [])))) (.branch 14 (.leaf (13, 13, 0, 0, 0, [])) (.branch 17 (.leaf (60, 14, 12, 1, 13, [1344])) (.leaf (9, 17, 0, 1, 0, [])))))) (.branch 27 (.branch 24 (.branch 20 (.leaf (8, 18, 0, 4, 0, [])) (.branch 23 (.leaf (79, 20, 182, 0, 126, [1495, 1496])) (.leaf (1, 23, 0, 0, 9223372036854775811, [])))) (.branch 25 (.leaf (21, 24, 0, 0, 0, [])) (.branch 26 (.leaf (64, 25, 0, 0, 0, [])) (.leaf (40, 26, 0, 0, 0, []))))) (.branch 32 (.branch 28 (.leaf (32, 27, 0, 0, 0, [])) (.branch 29 (.leaf (17, 28, 0, 2, 0, [])) (.leaf (20, 29, 0, 4, 9223372036854775809, [])))) (.branch 35 (.leaf (58, 32, 5, 0, 0, [])) (.branch 36 (.leaf (11, 35, 0, 2, 0, [])) (.leaf (84, 36, 0, 0, 0, []))))))
noncomputable def abM252 : abM := ((⟨"TallBinsModel", "beetlesOf", "(I)J"⟩, prog_14_method_78_code, 5, some .long), 1, 0, 0, 12, abK252)
set_option maxRecDepth 20000 in
noncomputable def abK253 : Lean.RArray abEy := .branch 30 (.branch 15 (.branch 6 (.branch 2 (.branch 1 (.leaf (9, 0, 0, 1, 0, [])) (.leaf (40, 1, 0, 0, 0, []))) (.branch 3 (.leaf (6, 2, 0, 0, 9223372036854775808, [])) (.leaf (7, 3, 230, 0, 9223372036854775811, [1563])))) (.branch 12 (.branch 9 (.leaf (79, 6, 176, 0, 118, [1472, 1473])) (.leaf (47, 9, 15, 0, 0, []))) (.branch 14 (.leaf (2, 12, 0, 0, 9223372036854775806, [])) (.leaf (83, 14, 0, 0, 0, []))))) (.branch 22 (.branch 19 (.branch 16 (.leaf (13, 15, 0, 0, 0, [])) (.leaf (60, 16, 12, 1, 13, [1344]))) (.branch 21 (.leaf (2, 19, 0, 0, 9223372036854775816, [])) (.leaf (9, 21, 0, 1, 0, [])))) (.branch 24 (.branch 23 (.leaf (21, 22, 0, 0, 0, [])) (.leaf (64, 23, 0, 0, 0, []))) (.branch 25 (.leaf (1, 24, 0, 0, 9223372036854775807, [])) (.branch 28 (.leaf (53, 25, 31, 0, 0, [])) (.leaf (2, 28, 0, 0, 9223372036854775803, []))))))) (.branch 41 (.branch 37 (.branch 32 (.branch 31 (.leaf (83, 30, 0, 0, 0, [])) (.leaf (13, 31, 0, 0, 0, []))) (.branch 35 (.leaf (60, 32, 12, 1, 13, [1344])) (.leaf (2, 35, 0, 0, 9223372036854775816, [])))) (.branch 39 (.branch 38 (.leaf (9, 37, 0, 1, 0, [])) (.leaf (21, 38, 0, 0, 0, []))) (.branch 40 (.leaf (64, 39, 0, 0, 0, [])) (.leaf (15, 40, 0, 2, 0, []))))) (.branch 48 (.branch 45 (.branch 42 (.leaf (13, 41, 0, 0, 0, [])) (.leaf (60, 42, 12, 1, 13, [1344]))) (.branch 47 (.leaf (2, 45, 0, 0, 9223372036854775816, [])) (.leaf (9, 47, 0, 1, 0, [])))) (.branch 50 (.branch 49 (.leaf (21, 48, 0, 0, 0, [])) (.leaf (1, 49, 0, 0, 9223372036854775807, []))) (.branch 51 (.leaf (69, 50, 0, 0, 0, [])) (.branch 52 (.leaf (9, 51, 0, 2, 0, [])) (.leaf (83, 52, 0, 0, 0, [])))))))
noncomputable def abM253 : abM := ((⟨"TallBinsModel", "leave", "(I)I"⟩, prog_14_method_83_code, 3, some .int), 1, 0, 0, 12, abK253)
set_option maxRecDepth 20000 in
noncomputable def abK254 : Lean.RArray abEy := .branch 9 (.branch 2 (.branch 1 (.leaf (13, 0, 0, 0, 0, [])) (.leaf (9, 1, 0, 1, 0, []))) (.branch 5 (.leaf (78, 2, 202, 0, 122, [1606, 1608, 52])) (.branch 8 (.leaf (46, 5, 16, 0, 0, [])) (.leaf (13, 8, 0, 0, 0, []))))) (.branch 13 (.branch 10 (.leaf (9, 9, 0, 1, 0, [])) (.leaf (78, 10, 249, 0, 439, [1823, 1825, 76]))) (.branch 16 (.leaf (58, 13, 18, 0, 0, [])) (.branch 18 (.leaf (2, 16, 0, 0, 9223372036854775806, [])) (.leaf (83, 18, 0, 0, 0, [])))))
noncomputable def abM254 : abM := ((⟨"TallBinsModel", "barred", "(I)I"⟩, prog_14_method_84_code, 2, some .int), 1, 0, 0, 12, abK254)
set_option maxRecDepth 20000 in
noncomputable def abK255 : Lean.RArray abEy := .branch 1 (.leaf (13, 0, 0, 0, 0, [])) (.branch 4 (.leaf (60, 1, 12, 29, 77, [1372])) (.leaf (83, 4, 0, 0, 0, [])))
noncomputable def abM255 : abM := ((⟨"TallBinsModel", "refused", "()I"⟩, prog_14_method_85_code, 1, some .int), 0, 0, 0, 12, abK255)
set_option maxRecDepth 20000 in
noncomputable def abK256 : Lean.RArray abEy := .branch 52 (.branch 27 (.branch 13 (.branch 3 (.branch 1 (.leaf (9, 0, 0, 1, 0, [])) (.branch 2 (.leaf (40, 1, 0, 0, 0, [])) (.leaf (6, 2, 0, 0, 9223372036854775808, [])))) (.branch 9 (.branch 6 (.leaf (7, 3, 230, 0, 9223372036854775811, [1563])) (.leaf (79, 6, 176, 0, 118, [1472, 1473]))) (.branch 12 (.leaf (46, 9, 36, 0, 0, [])) (.leaf (9, 12, 0, 2, 0, []))))) (.branch 21 (.branch 15 (.branch 14 (.leaf (40, 13, 0, 0, 0, [])) (.leaf (6, 14, 0, 0, 9223372036854775809, []))) (.branch 18 (.leaf (7, 15, 451, 0, 9223372036854775828, [1855])) (.leaf (79, 18, 176, 0, 118, [1472, 1473])))) (.branch 25 (.branch 24 (.leaf (46, 21, 36, 0, 0, [])) (.leaf (9, 24, 0, 3, 0, []))) (.branch 26 (.leaf (40, 25, 0, 0, 0, [])) (.leaf (6, 26, 0, 0, 9223372036854775808, [])))))) (.branch 44 (.branch 38 (.branch 33 (.branch 30 (.leaf (7, 27, 289, 0, 9223372036854775848, [1612])) (.leaf (79, 30, 176, 0, 118, [1472, 1473]))) (.branch 36 (.leaf (47, 33, 39, 0, 0, [])) (.leaf (2, 36, 0, 0, 9223372036854775806, [])))) (.branch 40 (.branch 39 (.leaf (83, 38, 0, 0, 0, [])) (.leaf (13, 39, 0, 0, 0, []))) (.branch 41 (.leaf (1, 40, 0, 0, 9223372036854775807, [])) (.leaf (61, 41, 12, 34, 442, [1377]))))) (.branch 48 (.branch 46 (.branch 45 (.leaf (13, 44, 0, 0, 0, [])) (.leaf (1, 45, 0, 0, 9223372036854775808, []))) (.branch 47 (.leaf (9, 46, 0, 1, 0, [])) (.leaf (9, 47, 0, 2, 0, [])))) (.branch 50 (.branch 49 (.leaf (1, 48, 0, 0, 9223372036854775808, [])) (.leaf (9, 49, 0, 3, 0, []))) (.branch 51 (.leaf (9, 50, 0, 2, 0, [])) (.leaf (23, 51, 0, 0, 0, []))))))) (.branch 81 (.branch 65 (.branch 59 (.branch 55 (.leaf (78, 52, 257, 0, 448, [1856, 1858, 80])) (.branch 56 (.leaf (13, 55, 0, 0, 0, [])) (.leaf (60, 56, 12, 34, 442, [1377])))) (.branch 63 (.branch 60 (.leaf (1, 59, 0, 0, 9223372036854775807, [])) (.leaf (53, 60, 65, 0, 0, []))) (.branch 64 (.leaf (1, 63, 0, 0, 9223372036854775807, [])) (.leaf (83, 64, 0, 0, 0, []))))) (.branch 72 (.branch 68 (.branch 66 (.leaf (1, 65, 0, 0, 9223372036854775808, [])) (.leaf (14, 66, 0, 4, 0, []))) (.branch 70 (.leaf (8, 68, 0, 4, 0, [])) (.leaf (2, 70, 0, 0, 9223372036854775814, [])))) (.branch 76 (.branch 75 (.leaf (55, 72, 95, 0, 0, [])) (.leaf (13, 75, 0, 0, 0, []))) (.branch 79 (.leaf (60, 76, 12, 35, 86, [1378])) (.leaf (8, 79, 0, 4, 0, [])))))) (.branch 96 (.branch 88 (.branch 85 (.branch 82 (.leaf (13, 81, 0, 0, 0, [])) (.leaf (60, 82, 12, 30, 80, [1373]))) (.branch 87 (.leaf (8, 85, 0, 4, 0, [])) (.leaf (64, 87, 0, 0, 0, [])))) (.branch 92 (.branch 89 (.leaf (69, 88, 0, 0, 0, [])) (.leaf (20, 89, 0, 4, 9223372036854775809, []))) (.branch 95 (.leaf (58, 92, 68, 0, 0, [])) (.leaf (13, 95, 0, 0, 0, []))))) (.branch 102 (.branch 100 (.branch 97 (.leaf (1, 96, 0, 0, 9223372036854775809, [])) (.leaf (62, 97, 12, 32, 137, [1375]))) (.branch 101 (.leaf (13, 100, 0, 0, 0, [])) (.leaf (1, 101, 0, 0, 9223372036854775809, [])))) (.branch 106 (.branch 105 (.leaf (62, 102, 12, 33, 453, [1376])) (.leaf (13, 105, 0, 0, 0, []))) (.branch 109 (.leaf (60, 106, 12, 34, 442, [1377])) (.leaf (83, 109, 0, 0, 0, [])))))))
noncomputable def abM256 : abM := ((⟨"TallBinsModel", "blend", "(III)I"⟩, prog_14_method_88_code, 5, some .int), 3, 0, 0, 12, abK256)
set_option maxRecDepth 20000 in
noncomputable def abK257 : Lean.RArray abEy := .branch 84 (.branch 44 (.branch 23 (.branch 10 (.branch 3 (.branch 1 (.leaf (9, 0, 0, 1, 0, [])) (.leaf (2, 1, 0, 0, 9223372036854775814, []))) (.branch 6 (.leaf (53, 3, 64, 0, 0, [])) (.branch 7 (.leaf (9, 6, 0, 3, 0, [])) (.leaf (50, 7, 26, 0, 0, []))))) (.branch 17 (.branch 12 (.leaf (8, 10, 0, 4, 0, [])) (.branch 14 (.leaf (8, 12, 0, 5, 0, [])) (.leaf (56, 14, 26, 0, 0, [])))) (.branch 19 (.leaf (8, 17, 0, 4, 0, [])) (.branch 20 (.leaf (13, 19, 0, 0, 0, [])) (.leaf (60, 20, 12, 34, 442, [1377])))))) (.branch 33 (.branch 27 (.branch 26 (.leaf (56, 23, 27, 0, 0, [])) (.leaf (82, 26, 0, 0, 0, []))) (.branch 28 (.leaf (13, 27, 0, 0, 0, [])) (.branch 30 (.leaf (8, 28, 0, 4, 0, [])) (.leaf (61, 30, 12, 34, 442, [1377]))))) (.branch 38 (.branch 34 (.leaf (1, 33, 0, 0, 9223372036854775808, [])) (.branch 36 (.leaf (14, 34, 0, 6, 0, [])) (.leaf (8, 36, 0, 6, 0, [])))) (.branch 40 (.leaf (2, 38, 0, 0, 9223372036854775814, [])) (.branch 43 (.leaf (55, 40, 63, 0, 0, [])) (.leaf (13, 43, 0, 0, 0, []))))))) (.branch 65 (.branch 55 (.branch 49 (.branch 47 (.leaf (60, 44, 12, 30, 80, [1373])) (.leaf (8, 47, 0, 6, 0, []))) (.branch 50 (.leaf (13, 49, 0, 0, 0, [])) (.branch 53 (.leaf (60, 50, 12, 31, 83, [1374])) (.leaf (8, 53, 0, 6, 0, []))))) (.branch 60 (.branch 56 (.leaf (64, 55, 0, 0, 0, [])) (.branch 57 (.leaf (69, 56, 0, 0, 0, [])) (.leaf (20, 57, 0, 6, 9223372036854775809, [])))) (.branch 63 (.leaf (58, 60, 36, 0, 0, [])) (.branch 64 (.leaf (82, 63, 0, 0, 0, [])) (.leaf (13, 64, 0, 0, 0, [])))))) (.branch 76 (.branch 69 (.branch 66 (.leaf (9, 65, 0, 1, 0, [])) (.leaf (78, 66, 202, 0, 122, [1606, 1608, 52]))) (.branch 72 (.leaf (46, 69, 102, 0, 0, [])) (.branch 73 (.leaf (13, 72, 0, 0, 0, [])) (.leaf (60, 73, 12, 1, 13, [1344]))))) (.branch 81 (.branch 77 (.leaf (9, 76, 0, 1, 0, [])) (.branch 80 (.leaf (79, 77, 173, 0, 108, [1337, 1338])) (.leaf (1, 80, 0, 0, 9223372036854775812, [])))) (.branch 82 (.leaf (21, 81, 0, 0, 0, [])) (.branch 83 (.leaf (64, 82, 0, 0, 0, [])) (.leaf (9, 83, 0, 2, 0, [])))))))) (.branch 126 (.branch 105 (.branch 93 (.branch 88 (.branch 87 (.leaf (53, 84, 102, 0, 0, [])) (.leaf (1, 87, 0, 0, 9223372036854775813, []))) (.branch 89 (.leaf (13, 88, 0, 0, 0, [])) (.branch 90 (.leaf (9, 89, 0, 1, 0, [])) (.leaf (78, 90, 181, 0, 273, [1491, 1493, 34]))))) (.branch 99 (.branch 95 (.leaf (2, 93, 0, 0, 9223372036854775908, [])) (.branch 96 (.leaf (24, 95, 0, 0, 0, [])) (.leaf (79, 96, 269, 0, 171, [1515, 598])))) (.branch 102 (.leaf (58, 99, 103, 0, 0, [])) (.branch 103 (.leaf (1, 102, 0, 0, 9223372036854775808, [])) (.leaf (14, 103, 0, 6, 0, [])))))) (.branch 115 (.branch 108 (.branch 106 (.leaf (1, 105, 0, 0, 9223372036854775808, [])) (.leaf (14, 106, 0, 7, 0, []))) (.branch 110 (.leaf (8, 108, 0, 7, 0, [])) (.branch 112 (.leaf (8, 110, 0, 6, 0, [])) (.leaf (56, 112, 160, 0, 0, []))))) (.branch 121 (.branch 117 (.leaf (8, 115, 0, 7, 0, [])) (.branch 118 (.leaf (9, 117, 0, 3, 0, [])) (.leaf (56, 118, 160, 0, 0, [])))) (.branch 122 (.leaf (13, 121, 0, 0, 0, [])) (.branch 125 (.leaf (60, 122, 12, 31, 83, [1374])) (.leaf (9, 125, 0, 1, 0, []))))))) (.branch 140 (.branch 132 (.branch 129 (.branch 128 (.leaf (8, 126, 0, 7, 0, [])) (.leaf (69, 128, 0, 0, 0, []))) (.branch 130 (.leaf (13, 129, 0, 0, 0, [])) (.branch 131 (.leaf (9, 130, 0, 1, 0, [])) (.leaf (1, 131, 0, 0, 9223372036854775809, []))))) (.branch 135 (.branch 133 (.leaf (21, 132, 0, 0, 0, [])) (.branch 134 (.leaf (9, 133, 0, 2, 0, [])) (.leaf (9, 134, 0, 3, 0, [])))) (.branch 137 (.leaf (8, 135, 0, 7, 0, [])) (.branch 138 (.leaf (22, 137, 0, 0, 0, [])) (.leaf (8, 138, 0, 4, 0, [])))))) (.branch 148 (.branch 143 (.branch 142 (.leaf (8, 140, 0, 7, 0, [])) (.leaf (13, 142, 0, 0, 0, []))) (.branch 144 (.leaf (9, 143, 0, 1, 0, [])) (.branch 147 (.leaf (78, 144, 258, 0, 445, [1860, 1862, 81])) (.leaf (23, 147, 0, 0, 0, []))))) (.branch 154 (.branch 149 (.leaf (21, 148, 0, 0, 0, [])) (.branch 151 (.leaf (8, 149, 0, 5, 0, [])) (.leaf (78, 151, 257, 0, 448, [1856, 1858, 80])))) (.branch 157 (.leaf (20, 154, 0, 7, 9223372036854775809, [])) (.branch 160 (.leaf (58, 157, 108, 0, 0, [])) (.leaf (82, 160, 0, 0, 0, []))))))))
noncomputable def abM257 : abM := ((⟨"TallBinsModel", "blends", "(IIIII)V"⟩, prog_14_method_87_code, 8, none), 5, 0, 0, 12, abK257)
set_option maxRecDepth 20000 in
noncomputable def abK258 : Lean.RArray abEy := .branch 27 (.branch 13 (.branch 5 (.branch 2 (.branch 1 (.leaf (6, 0, 0, 0, 9223372036854775808, [])) (.leaf (17, 1, 0, 2, 0, []))) (.branch 3 (.leaf (1, 2, 0, 0, 9223372036854775808, [])) (.leaf (14, 3, 0, 4, 0, [])))) (.branch 9 (.branch 7 (.leaf (8, 5, 0, 4, 0, [])) (.leaf (2, 7, 0, 0, 9223372036854775820, []))) (.branch 12 (.leaf (55, 9, 35, 0, 0, [])) (.leaf (11, 12, 0, 2, 0, []))))) (.branch 20 (.branch 17 (.branch 14 (.leaf (13, 13, 0, 0, 0, [])) (.leaf (60, 14, 12, 1, 13, [1344]))) (.branch 18 (.leaf (9, 17, 0, 1, 0, [])) (.leaf (8, 18, 0, 4, 0, [])))) (.branch 24 (.branch 23 (.leaf (79, 20, 182, 0, 126, [1495, 1496])) (.leaf (1, 23, 0, 0, 9223372036854775809, []))) (.branch 25 (.leaf (21, 24, 0, 0, 0, [])) (.branch 26 (.leaf (64, 25, 0, 0, 0, [])) (.leaf (40, 26, 0, 0, 0, []))))))) (.branch 42 (.branch 35 (.branch 29 (.branch 28 (.leaf (32, 27, 0, 0, 0, [])) (.leaf (17, 28, 0, 2, 0, []))) (.branch 32 (.leaf (20, 29, 0, 4, 9223372036854775809, [])) (.leaf (58, 32, 5, 0, 0, [])))) (.branch 37 (.branch 36 (.leaf (13, 35, 0, 0, 0, [])) (.leaf (9, 36, 0, 1, 0, []))) (.branch 40 (.leaf (78, 37, 181, 0, 273, [1491, 1493, 34])) (.leaf (14, 40, 0, 4, 0, []))))) (.branch 51 (.branch 47 (.branch 44 (.leaf (8, 42, 0, 4, 0, [])) (.leaf (47, 44, 51, 0, 0, []))) (.branch 48 (.leaf (1, 47, 0, 0, 9223372036854775808, [])) (.leaf (58, 48, 57, 0, 0, [])))) (.branch 54 (.branch 52 (.leaf (11, 51, 0, 2, 0, [])) (.leaf (8, 52, 0, 4, 0, []))) (.branch 56 (.leaf (40, 54, 0, 0, 0, [])) (.branch 57 (.leaf (41, 56, 0, 0, 0, [])) (.leaf (83, 57, 0, 0, 0, [])))))))
noncomputable def abM258 : abM := ((⟨"TallBinsModel", "dampOf", "(I)I"⟩, prog_14_method_86_code, 5, some .int), 1, 0, 0, 12, abK258)
set_option maxRecDepth 20000 in
noncomputable def abK259 : Lean.RArray abEy := .branch 15 (.branch 8 (.branch 2 (.branch 1 (.leaf (13, 0, 0, 0, 0, [])) (.leaf (9, 1, 0, 1, 0, []))) (.branch 5 (.leaf (78, 2, 202, 0, 122, [1606, 1608, 52])) (.leaf (47, 5, 11, 0, 0, [])))) (.branch 11 (.branch 10 (.leaf (2, 8, 0, 0, 9223372036854775806, [])) (.leaf (83, 10, 0, 0, 0, []))) (.branch 12 (.leaf (13, 11, 0, 0, 0, [])) (.leaf (60, 12, 12, 33, 453, [1376]))))) (.branch 23 (.branch 19 (.branch 18 (.leaf (46, 15, 27, 0, 0, [])) (.leaf (13, 18, 0, 0, 0, []))) (.branch 22 (.leaf (60, 19, 12, 35, 86, [1378])) (.leaf (9, 22, 0, 1, 0, [])))) (.branch 27 (.branch 24 (.leaf (64, 23, 0, 0, 0, [])) (.leaf (58, 24, 28, 0, 0, []))) (.branch 28 (.leaf (1, 27, 0, 0, 9223372036854775808, [])) (.leaf (83, 28, 0, 0, 0, [])))))
noncomputable def abM259 : abM := ((⟨"TallBinsModel", "blended", "(I)I"⟩, prog_14_method_89_code, 2, some .int), 1, 0, 0, 12, abK259)
set_option maxRecDepth 20000 in
noncomputable def abK260 : Lean.RArray abEy := .branch 85 (.branch 42 (.branch 21 (.branch 10 (.branch 7 (.branch 1 (.leaf (13, 0, 0, 0, 0, [])) (.branch 4 (.leaf (60, 1, 12, 32, 137, [1375])) (.leaf (47, 4, 9, 0, 0, [])))) (.branch 8 (.leaf (1, 7, 0, 0, 9223372036854775807, [])) (.branch 9 (.leaf (83, 8, 0, 0, 0, [])) (.leaf (1, 9, 0, 0, 9223372036854775808, []))))) (.branch 14 (.branch 11 (.leaf (15, 10, 0, 1, 0, [])) (.branch 12 (.leaf (9, 11, 0, 1, 0, [])) (.leaf (2, 12, 0, 0, 9223372036854775820, [])))) (.branch 17 (.leaf (55, 14, 30, 0, 0, [])) (.branch 18 (.leaf (13, 17, 0, 0, 0, [])) (.leaf (60, 18, 12, 36, 89, [1379])))))) (.branch 31 (.branch 24 (.branch 22 (.leaf (9, 21, 0, 1, 0, [])) (.branch 23 (.leaf (1, 22, 0, 0, 9223372036854775808, [])) (.leaf (69, 23, 0, 0, 0, [])))) (.branch 27 (.leaf (20, 24, 0, 1, 9223372036854775809, [])) (.branch 30 (.leaf (58, 27, 11, 0, 0, [])) (.leaf (1, 30, 0, 0, 9223372036854775808, []))))) (.branch 35 (.branch 32 (.leaf (15, 31, 0, 1, 0, [])) (.branch 33 (.leaf (9, 32, 0, 1, 0, [])) (.leaf (2, 33, 0, 0, 9223372036854775814, [])))) (.branch 38 (.leaf (55, 35, 125, 0, 0, [])) (.branch 39 (.leaf (13, 38, 0, 0, 0, [])) (.leaf (60, 39, 12, 35, 86, [1378]))))))) (.branch 64 (.branch 52 (.branch 47 (.branch 43 (.leaf (9, 42, 0, 1, 0, [])) (.branch 44 (.leaf (64, 43, 0, 0, 0, [])) (.leaf (46, 44, 119, 0, 0, [])))) (.branch 48 (.leaf (13, 47, 0, 0, 0, [])) (.branch 49 (.leaf (9, 48, 0, 1, 0, [])) (.leaf (78, 49, 212, 0, 344, [1656, 1658, 57]))))) (.branch 57 (.branch 55 (.leaf (47, 52, 119, 0, 0, [])) (.branch 56 (.leaf (13, 55, 0, 0, 0, [])) (.leaf (9, 56, 0, 1, 0, [])))) (.branch 60 (.leaf (78, 57, 183, 0, 276, [1498, 1500, 35])) (.branch 61 (.leaf (1, 60, 0, 0, 9223372036854775807, [])) (.leaf (53, 61, 119, 0, 0, [])))))) (.branch 76 (.branch 69 (.branch 65 (.leaf (13, 64, 0, 0, 0, [])) (.branch 66 (.leaf (9, 65, 0, 1, 0, [])) (.leaf (78, 66, 208, 0, 327, [1639, 1641, 54])))) (.branch 70 (.leaf (1, 69, 0, 0, 9223372036854775810, [])) (.branch 73 (.leaf (53, 70, 76, 0, 0, [])) (.leaf (58, 73, 119, 0, 0, []))))) (.branch 80 (.branch 77 (.leaf (13, 76, 0, 0, 0, [])) (.branch 78 (.leaf (9, 77, 0, 1, 0, [])) (.leaf (2, 78, 0, 0, 9223372036854775908, [])))) (.branch 81 (.leaf (13, 80, 0, 0, 0, [])) (.branch 84 (.leaf (60, 81, 12, 35, 86, [1378])) (.leaf (9, 84, 0, 1, 0, [])))))))) (.branch 126 (.branch 104 (.branch 93 (.branch 90 (.branch 86 (.leaf (64, 85, 0, 0, 0, [])) (.branch 87 (.leaf (23, 86, 0, 0, 0, [])) (.leaf (78, 87, 213, 0, 347, [1660, 1662, 58])))) (.branch 91 (.leaf (1, 90, 0, 0, 9223372036854775808, [])) (.branch 92 (.leaf (15, 91, 0, 2, 0, [])) (.leaf (9, 92, 0, 2, 0, []))))) (.branch 99 (.branch 95 (.leaf (2, 93, 0, 0, 9223372036854775820, [])) (.branch 98 (.leaf (55, 95, 119, 0, 0, [])) (.leaf (13, 98, 0, 0, 0, [])))) (.branch 102 (.leaf (60, 99, 12, 36, 89, [1379])) (.branch 103 (.leaf (9, 102, 0, 2, 0, [])) (.leaf (45, 103, 0, 0, 0, [])))))) (.branch 112 (.branch 109 (.branch 105 (.leaf (64, 104, 0, 0, 0, [])) (.branch 106 (.leaf (13, 105, 0, 0, 0, [])) (.leaf (60, 106, 12, 18, 46, [1361])))) (.branch 110 (.leaf (9, 109, 0, 2, 0, [])) (.branch 111 (.leaf (64, 110, 0, 0, 0, [])) (.leaf (21, 111, 0, 0, 0, []))))) (.branch 119 (.branch 113 (.leaf (69, 112, 0, 0, 0, [])) (.branch 116 (.leaf (20, 113, 0, 2, 9223372036854775809, [])) (.leaf (58, 116, 92, 0, 0, [])))) (.branch 122 (.leaf (20, 119, 0, 1, 9223372036854775809, [])) (.branch 125 (.leaf (58, 122, 32, 0, 0, [])) (.leaf (13, 125, 0, 0, 0, []))))))) (.branch 147 (.branch 135 (.branch 131 (.branch 127 (.leaf (1, 126, 0, 0, 9223372036854775808, [])) (.branch 130 (.leaf (62, 127, 12, 32, 137, [1375])) (.leaf (1, 130, 0, 0, 9223372036854775808, [])))) (.branch 132 (.leaf (15, 131, 0, 1, 0, [])) (.branch 133 (.leaf (9, 132, 0, 1, 0, [])) (.leaf (2, 133, 0, 0, 9223372036854775820, []))))) (.branch 142 (.branch 138 (.leaf (55, 135, 156, 0, 0, [])) (.branch 139 (.leaf (13, 138, 0, 0, 0, [])) (.leaf (60, 139, 12, 19, 49, [1362])))) (.branch 143 (.leaf (9, 142, 0, 1, 0, [])) (.branch 144 (.leaf (13, 143, 0, 0, 0, [])) (.leaf (60, 144, 12, 36, 89, [1379])))))) (.branch 157 (.branch 150 (.branch 148 (.leaf (9, 147, 0, 1, 0, [])) (.branch 149 (.leaf (64, 148, 0, 0, 0, [])) (.leaf (69, 149, 0, 0, 0, [])))) (.branch 153 (.leaf (20, 150, 0, 1, 9223372036854775809, [])) (.branch 156 (.leaf (58, 153, 132, 0, 0, [])) (.leaf (13, 156, 0, 0, 0, []))))) (.branch 162 (.branch 158 (.leaf (1, 157, 0, 0, 9223372036854775807, [])) (.branch 161 (.leaf (61, 158, 12, 20, 52, [1363])) (.leaf (13, 161, 0, 0, 0, [])))) (.branch 166 (.branch 165 (.leaf (60, 162, 12, 19, 49, [1362])) (.leaf (1, 165, 0, 0, 9223372036854775808, []))) (.branch 167 (.leaf (64, 166, 0, 0, 0, [])) (.leaf (83, 167, 0, 0, 0, []))))))))
noncomputable def abM260 : abM := ((⟨"TallBinsModel", "serve", "()I"⟩, prog_14_method_90_code, 3, some .int), 0, 0, 0, 12, abK260)
set_option maxRecDepth 20000 in
noncomputable def abK261 : Lean.RArray abEy := .branch 61 (.branch 31 (.branch 16 (.branch 6 (.branch 2 (.branch 1 (.leaf (9, 0, 0, 1, 0, [])) (.leaf (40, 1, 0, 0, 0, []))) (.branch 3 (.leaf (6, 2, 0, 0, 9223372036854775808, [])) (.leaf (7, 3, 285, 0, 9223372036854775815, [1610])))) (.branch 12 (.branch 9 (.leaf (79, 6, 176, 0, 118, [1472, 1473])) (.leaf (47, 9, 16, 0, 0, []))) (.branch 15 (.leaf (5, 12, 306, 0, 9223372034854775808, [1624])) (.leaf (83, 15, 0, 0, 0, []))))) (.branch 21 (.branch 18 (.branch 17 (.leaf (1, 16, 0, 0, 9223372036854775808, [])) (.leaf (15, 17, 0, 3, 0, []))) (.branch 19 (.leaf (1, 18, 0, 0, 9223372036854775808, [])) (.leaf (14, 19, 0, 4, 0, [])))) (.branch 24 (.branch 22 (.leaf (1, 21, 0, 0, 9223372036854775808, [])) (.leaf (14, 22, 0, 5, 0, []))) (.branch 26 (.leaf (8, 24, 0, 5, 0, [])) (.branch 28 (.leaf (2, 26, 0, 0, 9223372036854775814, [])) (.leaf (55, 28, 70, 0, 0, []))))))) (.branch 44 (.branch 36 (.branch 33 (.branch 32 (.leaf (9, 31, 0, 3, 0, [])) (.leaf (13, 32, 0, 0, 0, []))) (.branch 35 (.leaf (8, 33, 0, 5, 0, [])) (.leaf (9, 35, 0, 1, 0, [])))) (.branch 40 (.branch 39 (.leaf (78, 36, 262, 0, 456, [1876, 1878, 82])) (.leaf (21, 39, 0, 0, 0, []))) (.branch 41 (.leaf (15, 40, 0, 3, 0, [])) (.branch 43 (.leaf (8, 41, 0, 4, 0, [])) (.leaf (13, 43, 0, 0, 0, [])))))) (.branch 53 (.branch 47 (.branch 46 (.leaf (8, 44, 0, 5, 0, [])) (.leaf (9, 46, 0, 1, 0, []))) (.branch 50 (.leaf (78, 47, 262, 0, 456, [1876, 1878, 82])) (.leaf (51, 50, 60, 0, 0, [])))) (.branch 56 (.branch 54 (.leaf (1, 53, 0, 0, 9223372036854775809, [])) (.leaf (8, 54, 0, 5, 0, []))) (.branch 57 (.leaf (29, 56, 0, 0, 0, [])) (.branch 60 (.leaf (58, 57, 61, 0, 0, [])) (.leaf (1, 60, 0, 0, 9223372036854775808, [])))))))) (.branch 92 (.branch 78 (.branch 70 (.branch 64 (.branch 62 (.leaf (27, 61, 0, 0, 0, [])) (.leaf (14, 62, 0, 4, 0, []))) (.branch 67 (.leaf (20, 64, 0, 5, 9223372036854775809, [])) (.leaf (58, 67, 24, 0, 0, [])))) (.branch 74 (.branch 71 (.leaf (9, 70, 0, 2, 0, [])) (.leaf (47, 71, 86, 0, 0, []))) (.branch 75 (.leaf (13, 74, 0, 0, 0, [])) (.leaf (60, 75, 12, 1, 13, [1344]))))) (.branch 83 (.branch 81 (.branch 80 (.leaf (2, 78, 0, 0, 9223372036854775820, [])) (.leaf (9, 80, 0, 1, 0, []))) (.branch 82 (.leaf (21, 81, 0, 0, 0, [])) (.leaf (64, 82, 0, 0, 0, [])))) (.branch 87 (.branch 86 (.leaf (58, 83, 125, 0, 0, [])) (.leaf (9, 86, 0, 2, 0, []))) (.branch 88 (.leaf (1, 87, 0, 0, 9223372036854775809, [])) (.branch 91 (.leaf (53, 88, 95, 0, 0, [])) (.leaf (9, 91, 0, 3, 0, []))))))) (.branch 108 (.branch 100 (.branch 96 (.branch 95 (.leaf (58, 92, 125, 0, 0, [])) (.leaf (9, 95, 0, 2, 0, []))) (.branch 97 (.leaf (1, 96, 0, 0, 9223372036854775810, [])) (.leaf (53, 97, 112, 0, 0, [])))) (.branch 104 (.branch 101 (.leaf (13, 100, 0, 0, 0, [])) (.leaf (60, 101, 12, 1, 13, [1344]))) (.branch 106 (.leaf (2, 104, 0, 0, 9223372036854775828, [])) (.branch 107 (.leaf (9, 106, 0, 1, 0, [])) (.leaf (21, 107, 0, 0, 0, [])))))) (.branch 114 (.branch 112 (.branch 109 (.leaf (64, 108, 0, 0, 0, [])) (.leaf (58, 109, 125, 0, 0, []))) (.branch 113 (.leaf (9, 112, 0, 2, 0, [])) (.leaf (1, 113, 0, 0, 9223372036854775811, [])))) (.branch 119 (.branch 117 (.leaf (53, 114, 122, 0, 0, [])) (.leaf (8, 117, 0, 4, 0, []))) (.branch 122 (.leaf (58, 119, 125, 0, 0, [])) (.branch 125 (.leaf (5, 122, 306, 0, 9223372034854775808, [1624])) (.leaf (83, 125, 0, 0, 0, []))))))))
noncomputable def abM261 : abM := ((⟨"TallBinsModel", "lot", "(II)I"⟩, prog_14_method_92_code, 6, some .int), 2, 0, 0, 12, abK261)
set_option maxRecDepth 20000 in
noncomputable def abK262 : Lean.RArray abEy := .branch 20 (.branch 9 (.branch 3 (.branch 1 (.leaf (1, 0, 0, 0, 9223372036854775808, [])) (.branch 2 (.leaf (15, 1, 0, 3, 0, [])) (.leaf (1, 2, 0, 0, 9223372036854775808, [])))) (.branch 5 (.leaf (14, 3, 0, 4, 0, [])) (.branch 7 (.leaf (8, 5, 0, 4, 0, [])) (.leaf (2, 7, 0, 0, 9223372036854775820, []))))) (.branch 14 (.branch 12 (.leaf (55, 9, 36, 0, 0, [])) (.branch 13 (.leaf (9, 12, 0, 3, 0, [])) (.leaf (13, 13, 0, 0, 0, [])))) (.branch 17 (.leaf (60, 14, 12, 1, 13, [1344])) (.branch 18 (.leaf (9, 17, 0, 1, 0, [])) (.leaf (8, 18, 0, 4, 0, [])))))) (.branch 28 (.branch 25 (.branch 23 (.leaf (79, 20, 182, 0, 126, [1495, 1496])) (.branch 24 (.leaf (1, 23, 0, 0, 9223372036854775812, [])) (.leaf (21, 24, 0, 0, 0, [])))) (.branch 26 (.leaf (9, 25, 0, 2, 0, [])) (.branch 27 (.leaf (21, 26, 0, 0, 0, [])) (.leaf (64, 27, 0, 0, 0, []))))) (.branch 33 (.branch 29 (.leaf (21, 28, 0, 0, 0, [])) (.branch 30 (.leaf (15, 29, 0, 3, 0, [])) (.leaf (20, 30, 0, 4, 9223372036854775809, [])))) (.branch 36 (.leaf (58, 33, 5, 0, 0, [])) (.branch 37 (.leaf (9, 36, 0, 3, 0, [])) (.leaf (83, 37, 0, 0, 0, []))))))
noncomputable def abM262 : abM := ((⟨"TallBinsModel", "lotIn", "(II)I"⟩, prog_14_method_91_code, 5, some .int), 2, 0, 0, 12, abK262)
set_option maxRecDepth 20000 in
noncomputable def abK263 : Lean.RArray abEy := .branch 91 (.branch 70 (.branch 13 (.branch 5 (.branch 1 (.leaf (13, 0, 0, 0, 0, [])) (.branch 2 (.leaf (9, 1, 0, 1, 0, [])) (.leaf (78, 2, 202, 0, 122, [1606, 1608, 52])))) (.branch 11 (.branch 8 (.leaf (47, 5, 12, 0, 0, [])) (.leaf (5, 8, 306, 0, 9223372034854775808, [1624]))) (.branch 12 (.leaf (83, 11, 0, 0, 0, [])) (.leaf (9, 12, 0, 1, 0, []))))) (.branch 64 (.branch 17 (.branch 16 (.leaf (79, 13, 173, 0, 108, [1337, 1338])) (.leaf (15, 16, 0, 3, 0, []))) (.branch 18 (.leaf (9, 17, 0, 2, 0, [])) (.leaf (59, 18, 130, 0, 9223372036854775808, [64, 71, 77, 86, 95, 101, 111, 117])))) (.branch 68 (.branch 65 (.leaf (13, 64, 0, 0, 0, [])) (.leaf (60, 65, 12, 1, 13, [1344]))) (.branch 69 (.leaf (9, 68, 0, 3, 0, [])) (.leaf (64, 69, 0, 0, 0, [])))))) (.branch 81 (.branch 73 (.branch 71 (.leaf (83, 70, 0, 0, 0, [])) (.branch 72 (.leaf (13, 71, 0, 0, 0, [])) (.leaf (9, 72, 0, 1, 0, [])))) (.branch 77 (.branch 76 (.leaf (78, 73, 181, 0, 273, [1491, 1493, 34])) (.leaf (83, 76, 0, 0, 0, []))) (.branch 78 (.leaf (13, 77, 0, 0, 0, [])) (.leaf (60, 78, 12, 1, 13, [1344]))))) (.branch 85 (.branch 83 (.branch 82 (.leaf (9, 81, 0, 3, 0, [])) (.leaf (1, 82, 0, 0, 9223372036854775812, []))) (.branch 84 (.leaf (21, 83, 0, 0, 0, [])) (.leaf (64, 84, 0, 0, 0, [])))) (.branch 87 (.branch 86 (.leaf (83, 85, 0, 0, 0, [])) (.leaf (13, 86, 0, 0, 0, []))) (.branch 90 (.leaf (60, 87, 12, 1, 13, [1344])) (.leaf (9, 90, 0, 3, 0, []))))))) (.branch 111 (.branch 100 (.branch 94 (.branch 92 (.leaf (1, 91, 0, 0, 9223372036854775813, [])) (.branch 93 (.leaf (21, 92, 0, 0, 0, [])) (.leaf (64, 93, 0, 0, 0, [])))) (.branch 96 (.branch 95 (.leaf (83, 94, 0, 0, 0, [])) (.leaf (13, 95, 0, 0, 0, []))) (.branch 97 (.leaf (9, 96, 0, 1, 0, [])) (.leaf (78, 97, 183, 0, 276, [1498, 1500, 35]))))) (.branch 106 (.branch 102 (.branch 101 (.leaf (83, 100, 0, 0, 0, [])) (.leaf (13, 101, 0, 0, 0, []))) (.branch 105 (.leaf (60, 102, 12, 1, 13, [1344])) (.leaf (9, 105, 0, 3, 0, [])))) (.branch 109 (.branch 108 (.leaf (2, 106, 0, 0, 9223372036854775814, [])) (.leaf (21, 108, 0, 0, 0, []))) (.branch 110 (.leaf (64, 109, 0, 0, 0, [])) (.leaf (83, 110, 0, 0, 0, [])))))) (.branch 120 (.branch 116 (.branch 112 (.leaf (13, 111, 0, 0, 0, [])) (.branch 113 (.leaf (9, 112, 0, 1, 0, [])) (.leaf (78, 113, 258, 0, 445, [1860, 1862, 81])))) (.branch 118 (.branch 117 (.leaf (83, 116, 0, 0, 0, [])) (.leaf (13, 117, 0, 0, 0, []))) (.branch 119 (.leaf (9, 118, 0, 1, 0, [])) (.leaf (1, 119, 0, 0, 9223372036854775810, []))))) (.branch 128 (.branch 124 (.branch 123 (.leaf (78, 120, 209, 0, 320, [1643, 1645, 55])) (.leaf (13, 123, 0, 0, 0, []))) (.branch 125 (.leaf (9, 124, 0, 1, 0, [])) (.leaf (78, 125, 181, 0, 273, [1491, 1493, 34])))) (.branch 130 (.branch 129 (.leaf (23, 128, 0, 0, 0, [])) (.leaf (83, 129, 0, 0, 0, []))) (.branch 133 (.leaf (5, 130, 306, 0, 9223372034854775808, [1624])) (.leaf (83, 133, 0, 0, 0, [])))))))
noncomputable def abM263 : abM := ((⟨"TallBinsModel", "bin", "(II)I"⟩, prog_14_method_93_code, 4, some .int), 2, 0, 0, 12, abK263)
set_option maxRecDepth 20000 in
noncomputable def abK264 : Lean.RArray abEy := .branch 144 (.branch 97 (.branch 77 (.branch 68 (.branch 3 (.branch 1 (.leaf (1, 0, 0, 0, 9223372036854775808, [])) (.branch 2 (.leaf (15, 1, 0, 2, 0, [])) (.leaf (9, 2, 0, 1, 0, [])))) (.branch 64 (.leaf (59, 3, 234, 0, 9223372036854775808, [64, 71, 78, 85, 92, 99, 107, 112, 112, 158, 194, 227])) (.branch 65 (.leaf (13, 64, 0, 0, 0, [])) (.leaf (60, 65, 12, 1, 13, [1344]))))) (.branch 71 (.branch 69 (.leaf (1, 68, 0, 0, 9223372036854775813, [])) (.branch 70 (.leaf (64, 69, 0, 0, 0, [])) (.leaf (83, 70, 0, 0, 0, [])))) (.branch 75 (.branch 72 (.leaf (13, 71, 0, 0, 0, [])) (.leaf (60, 72, 12, 1, 13, [1344]))) (.branch 76 (.leaf (1, 75, 0, 0, 9223372036854775808, [])) (.leaf (64, 76, 0, 0, 0, [])))))) (.branch 86 (.branch 82 (.branch 78 (.leaf (83, 77, 0, 0, 0, [])) (.branch 79 (.leaf (13, 78, 0, 0, 0, [])) (.leaf (60, 79, 12, 1, 13, [1344])))) (.branch 84 (.branch 83 (.leaf (1, 82, 0, 0, 9223372036854775809, [])) (.leaf (64, 83, 0, 0, 0, []))) (.branch 85 (.leaf (83, 84, 0, 0, 0, [])) (.leaf (13, 85, 0, 0, 0, []))))) (.branch 91 (.branch 89 (.leaf (60, 86, 12, 1, 13, [1344])) (.branch 90 (.leaf (1, 89, 0, 0, 9223372036854775810, [])) (.leaf (64, 90, 0, 0, 0, [])))) (.branch 93 (.branch 92 (.leaf (83, 91, 0, 0, 0, [])) (.leaf (13, 92, 0, 0, 0, []))) (.branch 96 (.leaf (60, 93, 12, 1, 13, [1344])) (.leaf (1, 96, 0, 0, 9223372036854775811, []))))))) (.branch 117 (.branch 107 (.branch 100 (.branch 98 (.leaf (64, 97, 0, 0, 0, [])) (.branch 99 (.leaf (83, 98, 0, 0, 0, [])) (.leaf (13, 99, 0, 0, 0, [])))) (.branch 105 (.branch 103 (.leaf (60, 100, 12, 1, 13, [1344])) (.leaf (2, 103, 0, 0, 9223372036854775815, []))) (.branch 106 (.leaf (64, 105, 0, 0, 0, [])) (.leaf (83, 106, 0, 0, 0, []))))) (.branch 112 (.branch 108 (.leaf (13, 107, 0, 0, 0, [])) (.branch 111 (.leaf (60, 108, 12, 5, 141, [1348])) (.leaf (83, 111, 0, 0, 0, [])))) (.branch 114 (.branch 113 (.leaf (1, 112, 0, 0, 9223372036854775808, [])) (.leaf (15, 113, 0, 3, 0, []))) (.branch 115 (.leaf (9, 114, 0, 3, 0, [])) (.leaf (2, 115, 0, 0, 9223372036854775814, [])))))) (.branch 130 (.branch 122 (.branch 120 (.leaf (55, 117, 156, 0, 0, [])) (.branch 121 (.leaf (9, 120, 0, 2, 0, [])) (.leaf (13, 121, 0, 0, 0, [])))) (.branch 126 (.branch 123 (.leaf (9, 122, 0, 3, 0, [])) (.leaf (78, 123, 202, 0, 122, [1606, 1608, 52]))) (.branch 129 (.leaf (46, 126, 147, 0, 0, [])) (.leaf (9, 129, 0, 1, 0, []))))) (.branch 136 (.branch 132 (.leaf (2, 130, 0, 0, 9223372036854775815, [])) (.branch 135 (.leaf (52, 132, 143, 0, 0, [])) (.leaf (13, 135, 0, 0, 0, [])))) (.branch 140 (.branch 137 (.leaf (9, 136, 0, 3, 0, [])) (.leaf (78, 137, 212, 0, 344, [1656, 1658, 57]))) (.branch 143 (.leaf (46, 140, 147, 0, 0, [])) (.leaf (1, 143, 0, 0, 9223372036854775809, [])))))))) (.branch 194 (.branch 167 (.branch 157 (.branch 149 (.branch 147 (.leaf (58, 144, 148, 0, 0, [])) (.branch 148 (.leaf (1, 147, 0, 0, 9223372036854775808, [])) (.leaf (21, 148, 0, 0, 0, [])))) (.branch 153 (.branch 150 (.leaf (15, 149, 0, 2, 0, [])) (.leaf (20, 150, 0, 3, 9223372036854775809, []))) (.branch 156 (.leaf (58, 153, 114, 0, 0, [])) (.leaf (9, 156, 0, 2, 0, []))))) (.branch 160 (.branch 158 (.leaf (83, 157, 0, 0, 0, [])) (.branch 159 (.leaf (6, 158, 0, 0, 9223372036854775808, [])) (.leaf (17, 159, 0, 3, 0, [])))) (.branch 163 (.branch 161 (.leaf (1, 160, 0, 0, 9223372036854775808, [])) (.leaf (14, 161, 0, 5, 0, []))) (.branch 165 (.leaf (8, 163, 0, 5, 0, [])) (.leaf (2, 165, 0, 0, 9223372036854775814, [])))))) (.branch 179 (.branch 172 (.branch 170 (.leaf (55, 167, 185, 0, 0, [])) (.branch 171 (.leaf (11, 170, 0, 3, 0, [])) (.leaf (13, 171, 0, 0, 0, [])))) (.branch 177 (.branch 174 (.leaf (8, 172, 0, 5, 0, [])) (.leaf (78, 174, 252, 0, 429, [1835, 1837, 79]))) (.branch 178 (.leaf (32, 177, 0, 0, 0, [])) (.leaf (17, 178, 0, 3, 0, []))))) (.branch 188 (.branch 182 (.leaf (20, 179, 0, 5, 9223372036854775809, [])) (.branch 185 (.leaf (58, 182, 163, 0, 0, [])) (.leaf (7, 185, 459, 0, 9223372037854775808, [1888])))) (.branch 192 (.branch 189 (.leaf (11, 188, 0, 3, 0, [])) (.leaf (79, 189, 275, 0, 381, [1756, 1757]))) (.branch 193 (.leaf (41, 192, 0, 0, 0, [])) (.leaf (83, 193, 0, 0, 0, []))))))) (.branch 216 (.branch 203 (.branch 197 (.branch 195 (.leaf (1, 194, 0, 0, 9223372036854775808, [])) (.branch 196 (.leaf (15, 195, 0, 3, 0, [])) (.leaf (9, 196, 0, 3, 0, [])))) (.branch 201 (.branch 198 (.leaf (1, 197, 0, 0, 9223372036854775812, [])) (.leaf (55, 198, 225, 0, 0, []))) (.branch 202 (.leaf (9, 201, 0, 2, 0, [])) (.leaf (13, 202, 0, 0, 0, []))))) (.branch 208 (.branch 206 (.leaf (60, 203, 12, 37, 92, [1380])) (.branch 207 (.leaf (9, 206, 0, 3, 0, [])) (.leaf (64, 207, 0, 0, 0, [])))) (.branch 212 (.branch 209 (.leaf (1, 208, 0, 0, 9223372036854775807, [])) (.leaf (53, 209, 216, 0, 0, []))) (.branch 213 (.leaf (1, 212, 0, 0, 9223372036854775808, [])) (.leaf (58, 213, 217, 0, 0, [])))))) (.branch 227 (.branch 219 (.branch 217 (.leaf (1, 216, 0, 0, 9223372036854775809, [])) (.branch 218 (.leaf (21, 217, 0, 0, 0, [])) (.leaf (15, 218, 0, 2, 0, [])))) (.branch 225 (.branch 222 (.leaf (20, 219, 0, 3, 9223372036854775809, [])) (.leaf (58, 222, 196, 0, 0, []))) (.branch 226 (.leaf (9, 225, 0, 2, 0, [])) (.leaf (83, 226, 0, 0, 0, []))))) (.branch 232 (.branch 228 (.leaf (13, 227, 0, 0, 0, [])) (.branch 231 (.leaf (60, 228, 12, 1, 13, [1344])) (.leaf (1, 231, 0, 0, 9223372036854775812, [])))) (.branch 234 (.branch 233 (.leaf (64, 232, 0, 0, 0, [])) (.leaf (83, 233, 0, 0, 0, []))) (.branch 235 (.leaf (1, 234, 0, 0, 9223372036854775807, [])) (.leaf (83, 235, 0, 0, 0, []))))))))
noncomputable def abM264 : abM := ((⟨"TallBinsModel", "count", "(I)I"⟩, prog_14_method_94_code, 6, some .int), 1, 0, 0, 12, abK264)
set_option maxRecDepth 20000 in
noncomputable def abK265 : Lean.RArray abEy := .branch 42 (.branch 22 (.branch 9 (.branch 4 (.branch 1 (.leaf (9, 0, 0, 1, 0, [])) (.leaf (79, 1, 206, 0, 307, [1629, 1630]))) (.branch 7 (.leaf (46, 4, 25, 0, 0, [])) (.branch 8 (.leaf (9, 7, 0, 2, 0, [])) (.leaf (40, 8, 0, 0, 0, []))))) (.branch 16 (.branch 10 (.leaf (6, 9, 0, 0, 9223372036854775808, [])) (.branch 13 (.leaf (7, 10, 230, 0, 9223372036854775811, [1563])) (.leaf (79, 13, 176, 0, 118, [1472, 1473])))) (.branch 19 (.leaf (46, 16, 25, 0, 0, [])) (.branch 20 (.leaf (9, 19, 0, 3, 0, [])) (.leaf (2, 20, 0, 0, 9223372036854775868, [])))))) (.branch 34 (.branch 28 (.branch 25 (.leaf (57, 22, 28, 0, 0, [])) (.branch 27 (.leaf (2, 25, 0, 0, 9223372036854775806, [])) (.leaf (83, 27, 0, 0, 0, [])))) (.branch 29 (.leaf (9, 28, 0, 3, 0, [])) (.branch 32 (.leaf (49, 29, 35, 0, 0, [])) (.leaf (2, 32, 0, 0, 9223372036854775805, []))))) (.branch 39 (.branch 35 (.leaf (83, 34, 0, 0, 0, [])) (.branch 36 (.leaf (13, 35, 0, 0, 0, [])) (.leaf (60, 36, 12, 37, 92, [1380])))) (.branch 40 (.leaf (9, 39, 0, 1, 0, [])) (.branch 41 (.leaf (9, 40, 0, 3, 0, [])) (.leaf (69, 41, 0, 0, 0, []))))))) (.branch 60 (.branch 49 (.branch 46 (.branch 43 (.leaf (13, 42, 0, 0, 0, [])) (.leaf (60, 43, 12, 38, 95, [1381]))) (.branch 47 (.leaf (9, 46, 0, 1, 0, [])) (.branch 48 (.leaf (9, 47, 0, 2, 0, [])) (.leaf (69, 48, 0, 0, 0, []))))) (.branch 54 (.branch 50 (.leaf (1, 49, 0, 0, 9223372036854775808, [])) (.branch 52 (.leaf (14, 50, 0, 4, 0, [])) (.leaf (8, 52, 0, 4, 0, [])))) (.branch 56 (.leaf (2, 54, 0, 0, 9223372036854775868, [])) (.branch 59 (.leaf (55, 56, 78, 0, 0, [])) (.leaf (13, 59, 0, 0, 0, [])))))) (.branch 70 (.branch 66 (.branch 63 (.leaf (60, 60, 12, 39, 98, [1382])) (.branch 65 (.leaf (2, 63, 0, 0, 9223372036854775868, [])) (.leaf (9, 65, 0, 1, 0, [])))) (.branch 67 (.leaf (23, 66, 0, 0, 0, [])) (.branch 69 (.leaf (8, 67, 0, 4, 0, [])) (.leaf (21, 69, 0, 0, 0, []))))) (.branch 75 (.branch 71 (.leaf (6, 70, 0, 0, 9223372036854775808, [])) (.branch 72 (.leaf (71, 71, 0, 0, 0, [])) (.leaf (20, 72, 0, 4, 9223372036854775809, [])))) (.branch 78 (.leaf (58, 75, 52, 0, 0, [])) (.branch 79 (.leaf (1, 78, 0, 0, 9223372036854775808, [])) (.leaf (83, 79, 0, 0, 0, [])))))))
noncomputable def abM265 : abM := ((⟨"TallBinsModel", "row", "(III)I"⟩, prog_14_method_97_code, 5, some .int), 3, 0, 0, 12, abK265)
set_option maxRecDepth 20000 in
noncomputable def abK266 : Lean.RArray abEy := .branch 33 (.branch 17 (.branch 10 (.branch 4 (.branch 1 (.leaf (9, 0, 0, 1, 0, [])) (.leaf (79, 1, 206, 0, 307, [1629, 1630]))) (.branch 7 (.leaf (47, 4, 10, 0, 0, [])) (.branch 9 (.leaf (2, 7, 0, 0, 9223372036854775806, [])) (.leaf (83, 9, 0, 0, 0, []))))) (.branch 14 (.branch 11 (.leaf (13, 10, 0, 0, 0, [])) (.leaf (60, 11, 12, 37, 92, [1380]))) (.branch 15 (.leaf (9, 14, 0, 1, 0, [])) (.branch 16 (.leaf (64, 15, 0, 0, 0, [])) (.leaf (1, 16, 0, 0, 9223372036854775807, [])))))) (.branch 25 (.branch 22 (.branch 20 (.leaf (53, 17, 23, 0, 0, [])) (.leaf (2, 20, 0, 0, 9223372036854775802, []))) (.branch 23 (.leaf (83, 22, 0, 0, 0, [])) (.branch 24 (.leaf (9, 23, 0, 2, 0, [])) (.leaf (40, 24, 0, 0, 0, []))))) (.branch 30 (.branch 26 (.leaf (6, 25, 0, 0, 9223372036854775808, [])) (.branch 27 (.leaf (13, 26, 0, 0, 0, [])) (.leaf (60, 27, 12, 37, 92, [1380])))) (.branch 31 (.leaf (9, 30, 0, 1, 0, [])) (.branch 32 (.leaf (64, 31, 0, 0, 0, [])) (.leaf (1, 32, 0, 0, 9223372036854775809, []))))))) (.branch 52 (.branch 43 (.branch 35 (.branch 34 (.leaf (22, 33, 0, 0, 0, [])) (.leaf (40, 34, 0, 0, 0, []))) (.branch 38 (.leaf (79, 35, 176, 0, 118, [1472, 1473])) (.branch 41 (.leaf (47, 38, 44, 0, 0, [])) (.leaf (2, 41, 0, 0, 9223372036854775801, []))))) (.branch 48 (.branch 44 (.leaf (83, 43, 0, 0, 0, [])) (.branch 45 (.leaf (13, 44, 0, 0, 0, [])) (.leaf (60, 45, 12, 39, 98, [1382])))) (.branch 50 (.leaf (2, 48, 0, 0, 9223372036854775868, [])) (.branch 51 (.leaf (9, 50, 0, 1, 0, [])) (.leaf (23, 51, 0, 0, 0, [])))))) (.branch 59 (.branch 54 (.branch 53 (.leaf (9, 52, 0, 2, 0, [])) (.leaf (21, 53, 0, 0, 0, []))) (.branch 55 (.leaf (11, 54, 0, 3, 0, [])) (.branch 56 (.leaf (13, 55, 0, 0, 0, [])) (.leaf (60, 56, 12, 38, 95, [1381]))))) (.branch 64 (.branch 60 (.leaf (9, 59, 0, 1, 0, [])) (.branch 61 (.leaf (64, 60, 0, 0, 0, [])) (.leaf (79, 61, 267, 0, 461, [1897, 1898])))) (.branch 65 (.leaf (71, 64, 0, 0, 0, [])) (.branch 66 (.leaf (1, 65, 0, 0, 9223372036854775808, [])) (.leaf (83, 66, 0, 0, 0, [])))))))
noncomputable def abM266 : abM := ((⟨"TallBinsModel", "write", "(IIJ)I"⟩, prog_14_method_98_code, 5, some .int), 3, 0, 0, 12, abK266)
set_option maxRecDepth 20000 in
noncomputable def abK267 : Lean.RArray abEy := .branch 8 (.branch 5 (.branch 2 (.leaf (2, 0, 0, 0, 9223372036854775872, [])) (.branch 4 (.leaf (2, 2, 0, 0, 9223372036854775816, [])) (.leaf (9, 4, 0, 2, 0, [])))) (.branch 6 (.leaf (29, 5, 0, 0, 0, [])) (.branch 7 (.leaf (22, 6, 0, 0, 0, [])) (.leaf (15, 7, 0, 3, 0, []))))) (.branch 11 (.branch 9 (.leaf (11, 8, 0, 0, 0, [])) (.branch 10 (.leaf (9, 9, 0, 3, 0, [])) (.leaf (38, 10, 0, 0, 0, [])))) (.branch 12 (.leaf (9, 11, 0, 3, 0, [])) (.branch 13 (.leaf (39, 12, 0, 0, 0, [])) (.leaf (84, 13, 0, 0, 0, [])))))
noncomputable def abM267 : abM := ((⟨"TallBinsModel", "cut", "(JI)J"⟩, prog_14_method_96_code, 4, some .long), 2, 0, 0, 12, abK267)
set_option maxRecDepth 20000 in
noncomputable def abK268 : Lean.RArray abEy := .branch 94 (.branch 47 (.branch 24 (.branch 14 (.branch 7 (.branch 1 (.leaf (9, 0, 0, 1, 0, [])) (.branch 4 (.leaf (79, 1, 206, 0, 307, [1629, 1630])) (.leaf (46, 4, 14, 0, 0, [])))) (.branch 8 (.leaf (9, 7, 0, 3, 0, [])) (.branch 11 (.leaf (79, 8, 206, 0, 307, [1629, 1630])) (.leaf (47, 11, 17, 0, 0, []))))) (.branch 18 (.branch 16 (.leaf (2, 14, 0, 0, 9223372036854775806, [])) (.branch 17 (.leaf (83, 16, 0, 0, 0, [])) (.leaf (13, 17, 0, 0, 0, [])))) (.branch 22 (.branch 21 (.leaf (60, 18, 12, 37, 92, [1380])) (.leaf (9, 21, 0, 1, 0, []))) (.branch 23 (.leaf (64, 22, 0, 0, 0, [])) (.leaf (1, 23, 0, 0, 9223372036854775807, [])))))) (.branch 37 (.branch 31 (.branch 27 (.leaf (52, 24, 37, 0, 0, [])) (.branch 28 (.leaf (13, 27, 0, 0, 0, [])) (.leaf (60, 28, 12, 37, 92, [1380])))) (.branch 33 (.branch 32 (.leaf (9, 31, 0, 3, 0, [])) (.leaf (64, 32, 0, 0, 0, []))) (.branch 34 (.leaf (1, 33, 0, 0, 9223372036854775807, [])) (.leaf (53, 34, 40, 0, 0, []))))) (.branch 41 (.branch 39 (.leaf (2, 37, 0, 0, 9223372036854775802, [])) (.branch 40 (.leaf (83, 39, 0, 0, 0, [])) (.leaf (13, 40, 0, 0, 0, [])))) (.branch 45 (.branch 44 (.leaf (60, 41, 12, 38, 95, [1381])) (.leaf (9, 44, 0, 1, 0, []))) (.branch 46 (.leaf (64, 45, 0, 0, 0, [])) (.leaf (13, 46, 0, 0, 0, []))))))) (.branch 73 (.branch 58 (.branch 52 (.branch 50 (.leaf (60, 47, 12, 38, 95, [1381])) (.branch 51 (.leaf (9, 50, 0, 3, 0, [])) (.leaf (64, 51, 0, 0, 0, [])))) (.branch 55 (.leaf (52, 52, 58, 0, 0, [])) (.branch 57 (.leaf (2, 55, 0, 0, 9223372036854775800, [])) (.leaf (83, 57, 0, 0, 0, []))))) (.branch 64 (.branch 59 (.leaf (9, 58, 0, 2, 0, [])) (.branch 62 (.leaf (48, 59, 107, 0, 0, [])) (.leaf (8, 62, 0, 4, 0, [])))) (.branch 69 (.branch 67 (.leaf (48, 64, 107, 0, 0, [])) (.leaf (8, 67, 0, 5, 0, []))) (.branch 72 (.leaf (48, 69, 107, 0, 0, [])) (.leaf (9, 72, 0, 2, 0, [])))))) (.branch 83 (.branch 77 (.branch 74 (.leaf (40, 73, 0, 0, 0, [])) (.branch 76 (.leaf (8, 74, 0, 5, 0, [])) (.leaf (40, 76, 0, 0, 0, [])))) (.branch 79 (.branch 78 (.leaf (32, 77, 0, 0, 0, [])) (.leaf (13, 78, 0, 0, 0, []))) (.branch 82 (.leaf (60, 79, 12, 37, 92, [1380])) (.leaf (9, 82, 0, 1, 0, []))))) (.branch 86 (.branch 84 (.leaf (64, 83, 0, 0, 0, [])) (.branch 85 (.leaf (40, 84, 0, 0, 0, [])) (.leaf (43, 85, 0, 0, 0, [])))) (.branch 91 (.branch 89 (.leaf (50, 86, 107, 0, 0, [])) (.leaf (8, 89, 0, 4, 0, []))) (.branch 92 (.leaf (40, 91, 0, 0, 0, [])) (.leaf (8, 92, 0, 5, 0, [])))))))) (.branch 138 (.branch 113 (.branch 102 (.branch 97 (.branch 95 (.leaf (40, 94, 0, 0, 0, [])) (.branch 96 (.leaf (32, 95, 0, 0, 0, [])) (.leaf (13, 96, 0, 0, 0, [])))) (.branch 100 (.leaf (60, 97, 12, 37, 92, [1380])) (.branch 101 (.leaf (9, 100, 0, 3, 0, [])) (.leaf (64, 101, 0, 0, 0, []))))) (.branch 107 (.branch 103 (.leaf (40, 102, 0, 0, 0, [])) (.branch 104 (.leaf (43, 103, 0, 0, 0, [])) (.leaf (51, 104, 110, 0, 0, [])))) (.branch 110 (.branch 109 (.leaf (2, 107, 0, 0, 9223372036854775801, [])) (.leaf (83, 109, 0, 0, 0, []))) (.branch 111 (.leaf (1, 110, 0, 0, 9223372036854775808, [])) (.leaf (14, 111, 0, 6, 0, [])))))) (.branch 127 (.branch 120 (.branch 115 (.leaf (8, 113, 0, 6, 0, [])) (.branch 117 (.leaf (8, 115, 0, 5, 0, [])) (.leaf (55, 117, 147, 0, 0, [])))) (.branch 124 (.branch 121 (.leaf (13, 120, 0, 0, 0, [])) (.leaf (60, 121, 12, 40, 101, [1383]))) (.branch 126 (.leaf (8, 124, 0, 6, 0, [])) (.leaf (13, 126, 0, 0, 0, []))))) (.branch 133 (.branch 130 (.leaf (60, 127, 12, 39, 98, [1382])) (.branch 132 (.leaf (2, 130, 0, 0, 9223372036854775868, [])) (.leaf (9, 132, 0, 1, 0, [])))) (.branch 135 (.branch 134 (.leaf (23, 133, 0, 0, 0, [])) (.leaf (9, 134, 0, 2, 0, []))) (.branch 136 (.leaf (21, 135, 0, 0, 0, [])) (.leaf (8, 136, 0, 6, 0, []))))))) (.branch 164 (.branch 150 (.branch 141 (.branch 139 (.leaf (21, 138, 0, 0, 0, [])) (.branch 140 (.leaf (66, 139, 0, 0, 0, [])) (.leaf (71, 140, 0, 0, 0, [])))) (.branch 147 (.branch 144 (.leaf (20, 141, 0, 6, 9223372036854775809, [])) (.leaf (58, 144, 113, 0, 0, []))) (.branch 148 (.leaf (1, 147, 0, 0, 9223372036854775808, [])) (.leaf (14, 148, 0, 6, 0, []))))) (.branch 157 (.branch 152 (.leaf (8, 150, 0, 6, 0, [])) (.branch 154 (.leaf (8, 152, 0, 5, 0, [])) (.leaf (55, 154, 185, 0, 0, [])))) (.branch 161 (.branch 158 (.leaf (13, 157, 0, 0, 0, [])) (.leaf (60, 158, 12, 39, 98, [1382]))) (.branch 163 (.leaf (2, 161, 0, 0, 9223372036854775868, [])) (.leaf (9, 163, 0, 3, 0, [])))))) (.branch 175 (.branch 168 (.branch 165 (.leaf (23, 164, 0, 0, 0, [])) (.branch 167 (.leaf (8, 165, 0, 4, 0, [])) (.leaf (21, 167, 0, 0, 0, [])))) (.branch 171 (.branch 170 (.leaf (8, 168, 0, 6, 0, [])) (.leaf (21, 170, 0, 0, 0, []))) (.branch 172 (.leaf (13, 171, 0, 0, 0, [])) (.leaf (60, 172, 12, 40, 101, [1383]))))) (.branch 179 (.branch 177 (.leaf (8, 175, 0, 6, 0, [])) (.branch 178 (.leaf (66, 177, 0, 0, 0, [])) (.leaf (71, 178, 0, 0, 0, [])))) (.branch 185 (.branch 182 (.leaf (20, 179, 0, 6, 9223372036854775809, [])) (.leaf (58, 182, 150, 0, 0, []))) (.branch 186 (.leaf (1, 185, 0, 0, 9223372036854775808, [])) (.leaf (83, 186, 0, 0, 0, []))))))))
noncomputable def abM268 : abM := ((⟨"TallBinsModel", "paste", "(IIIII)I"⟩, prog_14_method_99_code, 7, some .int), 5, 0, 0, 12, abK268)
set_option maxRecDepth 20000 in
noncomputable def abK269 : Lean.RArray abEy := .branch 5 (.branch 1 (.leaf (9, 0, 0, 0, 0, [])) (.branch 2 (.leaf (9, 1, 0, 1, 0, [])) (.leaf (56, 2, 9, 0, 0, [])))) (.branch 9 (.branch 6 (.leaf (9, 5, 0, 0, 0, [])) (.leaf (58, 6, 10, 0, 0, []))) (.branch 10 (.leaf (9, 9, 0, 1, 0, [])) (.leaf (83, 10, 0, 0, 0, []))))
noncomputable def abM269 : abM := ((⟨"java/lang/Math", "min", "(II)I"⟩, prog_16_method_69_code, 2, some .int), 2, 0, 0, 99, abK269)
set_option maxRecDepth 20000 in
noncomputable def abK270 : Lean.RArray abEy := .branch 11 (.branch 4 (.branch 2 (.branch 1 (.leaf (9, 0, 0, 0, 0, [])) (.leaf (9, 1, 0, 1, 0, []))) (.branch 3 (.leaf (24, 2, 0, 0, 0, [])) (.leaf (15, 3, 0, 2, 0, [])))) (.branch 6 (.branch 5 (.leaf (9, 4, 0, 0, 0, [])) (.leaf (9, 5, 0, 1, 0, []))) (.branch 7 (.leaf (28, 6, 0, 0, 0, [])) (.branch 10 (.leaf (49, 7, 21, 0, 0, [])) (.leaf (9, 10, 0, 2, 0, [])))))) (.branch 18 (.branch 13 (.branch 12 (.leaf (9, 11, 0, 1, 0, [])) (.leaf (23, 12, 0, 0, 0, []))) (.branch 14 (.leaf (9, 13, 0, 0, 0, [])) (.branch 17 (.leaf (52, 14, 21, 0, 0, [])) (.leaf (9, 17, 0, 2, 0, []))))) (.branch 20 (.branch 19 (.leaf (1, 18, 0, 0, 9223372036854775809, [])) (.leaf (22, 19, 0, 0, 0, []))) (.branch 21 (.leaf (83, 20, 0, 0, 0, [])) (.branch 22 (.leaf (9, 21, 0, 2, 0, [])) (.leaf (83, 22, 0, 0, 0, []))))))
noncomputable def abM270 : abM := ((⟨"java/lang/Math", "floorDiv", "(II)I"⟩, prog_16_method_47_code, 3, some .int), 2, 0, 0, 99, abK270)
set_option maxRecDepth 20000 in
noncomputable def abK271 : Lean.RArray abEy := .branch 5 (.branch 1 (.leaf (9, 0, 0, 0, 0, [])) (.branch 2 (.leaf (9, 1, 0, 1, 0, [])) (.leaf (54, 2, 9, 0, 0, [])))) (.branch 9 (.branch 6 (.leaf (9, 5, 0, 0, 0, [])) (.leaf (58, 6, 10, 0, 0, []))) (.branch 10 (.leaf (9, 9, 0, 1, 0, [])) (.leaf (83, 10, 0, 0, 0, []))))
noncomputable def abM271 : abM := ((⟨"java/lang/Math", "max", "(II)I"⟩, prog_16_method_65_code, 2, some .int), 2, 0, 0, 99, abK271)
set_option maxRecDepth 20000 in
noncomputable def abK272 : Lean.RArray abEy := .branch 15 (.branch 7 (.branch 3 (.branch 1 (.leaf (11, 0, 0, 0, 0, [])) (.leaf (11, 1, 0, 2, 0, []))) (.branch 5 (.leaf (16, 3, 0, 4, 0, [])) (.branch 6 (.leaf (11, 5, 0, 0, 0, [])) (.leaf (11, 6, 0, 2, 0, []))))) (.branch 9 (.branch 8 (.leaf (37, 7, 0, 0, 0, [])) (.leaf (6, 8, 0, 0, 9223372036854775808, []))) (.branch 10 (.leaf (43, 9, 0, 0, 0, [])) (.branch 13 (.leaf (49, 10, 27, 0, 0, [])) (.leaf (10, 13, 0, 4, 0, [])))))) (.branch 22 (.branch 17 (.branch 16 (.leaf (11, 15, 0, 2, 0, [])) (.leaf (34, 16, 0, 0, 0, []))) (.branch 18 (.leaf (11, 17, 0, 0, 0, [])) (.branch 19 (.leaf (43, 18, 0, 0, 0, [])) (.leaf (46, 19, 27, 0, 0, []))))) (.branch 26 (.branch 24 (.leaf (10, 22, 0, 4, 0, [])) (.branch 25 (.leaf (6, 24, 0, 0, 9223372036854775809, [])) (.leaf (33, 25, 0, 0, 0, [])))) (.branch 27 (.leaf (84, 26, 0, 0, 0, [])) (.branch 29 (.leaf (10, 27, 0, 4, 0, [])) (.leaf (84, 29, 0, 0, 0, []))))))
noncomputable def abM272 : abM := ((⟨"java/lang/Math", "floorDiv", "(JJ)J"⟩, prog_16_method_49_code, 6, some .long), 2, 0, 0, 99, abK272)
set_option maxRecDepth 20000 in
noncomputable def abK273 : Lean.RArray abEy := .branch 10 (.branch 5 (.branch 1 (.leaf (9, 0, 0, 0, 0, [])) (.branch 2 (.leaf (9, 1, 0, 1, 0, [])) (.leaf (55, 2, 9, 0, 0, [])))) (.branch 6 (.leaf (1, 5, 0, 0, 9223372036854775807, [])) (.branch 9 (.leaf (58, 6, 19, 0, 0, [])) (.leaf (9, 9, 0, 0, 0, []))))) (.branch 15 (.branch 11 (.leaf (9, 10, 0, 1, 0, [])) (.branch 14 (.leaf (53, 11, 18, 0, 0, [])) (.leaf (1, 14, 0, 0, 9223372036854775808, [])))) (.branch 18 (.leaf (58, 15, 19, 0, 0, [])) (.branch 19 (.leaf (1, 18, 0, 0, 9223372036854775809, [])) (.leaf (83, 19, 0, 0, 0, [])))))
noncomputable def abM273 : abM := ((⟨"java/lang/Integer", "compare", "(II)I"⟩, prog_15_method_40_code, 2, some .int), 2, 0, 0, 99, abK273)
set_option maxRecDepth 20000 in
noncomputable def abK274 : Lean.RArray abEy := .branch 5 (.branch 1 (.leaf (9, 0, 0, 0, 0, [])) (.branch 4 (.leaf (49, 1, 9, 0, 0, [])) (.leaf (9, 4, 0, 0, 0, [])))) (.branch 9 (.branch 6 (.leaf (31, 5, 0, 0, 0, [])) (.leaf (58, 6, 10, 0, 0, []))) (.branch 10 (.leaf (9, 9, 0, 0, 0, [])) (.leaf (83, 10, 0, 0, 0, []))))
noncomputable def abM274 : abM := ((⟨"java/lang/Math", "abs", "(I)I"⟩, prog_16_method_59_code, 1, some .int), 1, 0, 0, 99, abK274)
set_option maxRecDepth 20000 in
noncomputable def abK275 : Lean.RArray abEy := .branch 6 (.branch 2 (.branch 1 (.leaf (11, 0, 0, 0, 0, [])) (.leaf (11, 1, 0, 2, 0, []))) (.branch 3 (.leaf (43, 2, 0, 0, 0, [])) (.leaf (50, 3, 10, 0, 0, [])))) (.branch 10 (.branch 7 (.leaf (11, 6, 0, 0, 0, [])) (.leaf (58, 7, 11, 0, 0, []))) (.branch 11 (.leaf (11, 10, 0, 2, 0, [])) (.leaf (84, 11, 0, 0, 0, []))))
noncomputable def abM275 : abM := ((⟨"java/lang/Math", "min", "(JJ)J"⟩, prog_16_method_70_code, 4, some .long), 2, 0, 0, 99, abK275)
set_option maxRecDepth 20000 in
noncomputable def abK276 : Lean.RArray abEy := .branch 11 (.branch 4 (.branch 3 (.leaf (73, 0, 11, 13, 7, [104, 105, 84])) (.leaf (44, 3, 0, 0, 0, []))) (.branch 7 (.leaf (80, 4, 0, 0, 9, [106, 107])) (.branch 8 (.leaf (19, 7, 0, 1, 0, [])) (.leaf (73, 8, 12, 41, 10, [1328, 1329, 96]))))) (.branch 16 (.branch 12 (.leaf (44, 11, 0, 0, 0, [])) (.branch 15 (.leaf (80, 12, 171, 0, 12, [1330, 1331])) (.leaf (19, 15, 0, 2, 0, [])))) (.branch 17 (.leaf (1, 16, 0, 0, 9223372036854775808, [])) (.branch 18 (.leaf (15, 17, 0, 3, 0, [])) (.leaf (85, 18, 0, 0, 0, [])))))
noncomputable def abM276 : abM := ((⟨"TallBinsLaw", "law", "([I)Z"⟩, code, 4, some .boolean), 1, 600000, 7302249, 99, abK276)
set_option maxRecDepth 20000 in
noncomputable def abK277 : Lean.RArray abEy := .branch 735 (.branch 275 (.branch 27 (.branch 21 (.branch 19 (.leaf (9, 18, 0, 3, 0, [])) (.branch 20 (.leaf (13, 19, 0, 0, 0, [])) (.leaf (86, 20, 0, 0, 0, [])))) (.branch 23 (.leaf (2, 21, 0, 0, 9223372036854775815, [])) (.branch 24 (.leaf (22, 23, 0, 0, 0, [])) (.leaf (56, 24, 1661, 0, 0, []))))) (.branch 30 (.branch 28 (.leaf (13, 27, 0, 0, 0, [])) (.branch 29 (.leaf (9, 28, 0, 3, 0, [])) (.leaf (87, 29, 0, 0, 0, [])))) (.branch 33 (.branch 32 (.leaf (2, 30, 0, 0, 9223372036854775871, [])) (.leaf (26, 32, 0, 0, 0, []))) (.branch 212 (.leaf (59, 33, 1655, 0, 9223372036854775808, [212, 275, 298, 311, 334, 409, 442, 465, 498, 521, 554, 577, 610, 633, 676, 735, 794, 843, 886, 929, 972, 1005, 1048, 1091, 1114, 1137, 1170, 1193, 1216, 1229, 1272, 1295, 1308, 1341, 1374, 1407, 1430, 1453, 1476, 1519, 1592])) (.leaf (85, 212, 0, 0, 0, [])))))) (.branch 498 (.branch 334 (.branch 298 (.leaf (85, 275, 0, 0, 0, [])) (.branch 311 (.leaf (85, 298, 0, 0, 0, [])) (.leaf (85, 311, 0, 0, 0, [])))) (.branch 442 (.branch 409 (.leaf (85, 334, 0, 0, 0, [])) (.leaf (85, 409, 0, 0, 0, []))) (.branch 465 (.leaf (85, 442, 0, 0, 0, [])) (.leaf (85, 465, 0, 0, 0, []))))) (.branch 577 (.branch 521 (.leaf (85, 498, 0, 0, 0, [])) (.branch 554 (.leaf (85, 521, 0, 0, 0, [])) (.leaf (85, 554, 0, 0, 0, [])))) (.branch 633 (.branch 610 (.leaf (85, 577, 0, 0, 0, [])) (.leaf (85, 610, 0, 0, 0, []))) (.branch 676 (.leaf (85, 633, 0, 0, 0, [])) (.leaf (85, 676, 0, 0, 0, []))))))) (.branch 1229 (.branch 1048 (.branch 886 (.branch 794 (.leaf (85, 735, 0, 0, 0, [])) (.branch 843 (.leaf (85, 794, 0, 0, 0, [])) (.leaf (85, 843, 0, 0, 0, [])))) (.branch 972 (.branch 929 (.leaf (85, 886, 0, 0, 0, [])) (.leaf (85, 929, 0, 0, 0, []))) (.branch 1005 (.leaf (85, 972, 0, 0, 0, [])) (.leaf (85, 1005, 0, 0, 0, []))))) (.branch 1137 (.branch 1091 (.leaf (85, 1048, 0, 0, 0, [])) (.branch 1114 (.leaf (85, 1091, 0, 0, 0, [])) (.leaf (85, 1114, 0, 0, 0, [])))) (.branch 1193 (.branch 1170 (.leaf (85, 1137, 0, 0, 0, [])) (.leaf (85, 1170, 0, 0, 0, []))) (.branch 1216 (.leaf (85, 1193, 0, 0, 0, [])) (.leaf (85, 1216, 0, 0, 0, [])))))) (.branch 1430 (.branch 1308 (.branch 1272 (.leaf (85, 1229, 0, 0, 0, [])) (.branch 1295 (.leaf (85, 1272, 0, 0, 0, [])) (.leaf (85, 1295, 0, 0, 0, [])))) (.branch 1374 (.branch 1341 (.leaf (85, 1308, 0, 0, 0, [])) (.leaf (85, 1341, 0, 0, 0, []))) (.branch 1407 (.leaf (85, 1374, 0, 0, 0, [])) (.leaf (85, 1407, 0, 0, 0, []))))) (.branch 1519 (.branch 1453 (.leaf (85, 1430, 0, 0, 0, [])) (.branch 1476 (.leaf (85, 1453, 0, 0, 0, [])) (.leaf (85, 1476, 0, 0, 0, [])))) (.branch 1661 (.branch 1592 (.leaf (85, 1519, 0, 0, 0, [])) (.leaf (85, 1592, 0, 0, 0, []))) (.branch 1662 (.leaf (1, 1661, 0, 0, 9223372036854775809, [])) (.leaf (83, 1662, 1, 0, 0, [])))))))
noncomputable def abM277 : abM := ((⟨"TallBinsLaw", "law", "([I)Z"⟩, code, 4, some .boolean), 1, 600000, 7302249, 99, abK277)
set_option maxRecDepth 20000 in
noncomputable def abK278 : Lean.RArray abEy := .branch 921 (.branch 545 (.branch 362 (.branch 266 (.branch 227 (.branch 29 (.branch 17 (.branch 8 (.branch 4 (.branch 3 (.leaf (73, 0, 11, 13, 7, [104, 105, 84])) (.leaf (44, 3, 0, 0, 0, []))) (.branch 7 (.leaf (80, 4, 0, 0, 9, [106, 107])) (.leaf (19, 7, 0, 1, 0, [])))) (.branch 12 (.branch 11 (.leaf (73, 8, 12, 41, 10, [1328, 1329, 96])) (.leaf (44, 11, 0, 0, 0, []))) (.branch 15 (.leaf (80, 12, 171, 0, 12, [1330, 1331])) (.branch 16 (.leaf (19, 15, 0, 2, 0, [])) (.leaf (1, 16, 0, 0, 9223372036854775808, [])))))) (.branch 21 (.branch 19 (.branch 18 (.leaf (15, 17, 0, 3, 0, [])) (.leaf (9, 18, 0, 3, 0, []))) (.branch 20 (.leaf (13, 19, 0, 0, 0, [])) (.leaf (86, 20, 0, 0, 0, [])))) (.branch 24 (.branch 23 (.leaf (2, 21, 0, 0, 9223372036854775815, [])) (.leaf (22, 23, 0, 0, 0, []))) (.branch 27 (.leaf (56, 24, 1661, 0, 0, [])) (.branch 28 (.leaf (13, 27, 0, 0, 0, [])) (.leaf (9, 28, 0, 3, 0, []))))))) (.branch 217 (.branch 212 (.branch 32 (.branch 30 (.leaf (87, 29, 0, 0, 0, [])) (.leaf (2, 30, 0, 0, 9223372036854775871, []))) (.branch 33 (.leaf (26, 32, 0, 0, 0, [])) (.leaf (59, 33, 1655, 0, 9223372036854775808, [212, 275, 298, 311, 334, 409, 442, 465, 498, 521, 554, 577, 610, 633, 676, 735, 794, 843, 886, 929, 972, 1005, 1048, 1091, 1114, 1137, 1170, 1193, 1216, 1229, 1272, 1295, 1308, 1341, 1374, 1407, 1430, 1453, 1476, 1519, 1592])))) (.branch 214 (.branch 213 (.leaf (13, 212, 0, 1, 0, [])) (.leaf (13, 213, 0, 0, 0, []))) (.branch 215 (.leaf (9, 214, 0, 3, 0, [])) (.branch 216 (.leaf (1, 215, 0, 0, 9223372036854775809, [])) (.leaf (21, 216, 0, 0, 0, [])))))) (.branch 222 (.branch 219 (.branch 218 (.leaf (87, 217, 0, 0, 0, [])) (.leaf (13, 218, 0, 0, 0, []))) (.branch 220 (.leaf (9, 219, 0, 3, 0, [])) (.branch 221 (.leaf (1, 220, 0, 0, 9223372036854775810, [])) (.leaf (21, 221, 0, 0, 0, []))))) (.branch 224 (.branch 223 (.leaf (87, 222, 0, 0, 0, [])) (.leaf (13, 223, 0, 0, 0, []))) (.branch 225 (.leaf (9, 224, 0, 3, 0, [])) (.branch 226 (.leaf (1, 225, 0, 0, 9223372036854775811, [])) (.leaf (21, 226, 0, 0, 0, [])))))))) (.branch 247 (.branch 236 (.branch 231 (.branch 229 (.branch 228 (.leaf (87, 227, 0, 0, 0, [])) (.leaf (13, 228, 0, 0, 0, []))) (.branch 230 (.leaf (9, 229, 0, 3, 0, [])) (.leaf (1, 230, 0, 0, 9223372036854775812, [])))) (.branch 233 (.branch 232 (.leaf (21, 231, 0, 0, 0, [])) (.leaf (87, 232, 0, 0, 0, []))) (.branch 234 (.leaf (13, 233, 0, 0, 0, [])) (.branch 235 (.leaf (9, 234, 0, 3, 0, [])) (.leaf (1, 235, 0, 0, 9223372036854775813, [])))))) (.branch 242 (.branch 238 (.branch 237 (.leaf (21, 236, 0, 0, 0, [])) (.leaf (87, 237, 0, 0, 0, []))) (.branch 241 (.leaf (78, 238, 15, 0, 13, [568, 569, 570])) (.leaf (13, 241, 0, 2, 0, [])))) (.branch 244 (.branch 243 (.leaf (13, 242, 0, 0, 0, [])) (.leaf (9, 243, 0, 3, 0, []))) (.branch 245 (.leaf (1, 244, 0, 0, 9223372036854775809, [])) (.branch 246 (.leaf (21, 245, 0, 0, 0, [])) (.leaf (87, 246, 0, 0, 0, []))))))) (.branch 256 (.branch 251 (.branch 249 (.branch 248 (.leaf (13, 247, 0, 0, 0, [])) (.leaf (9, 248, 0, 3, 0, []))) (.branch 250 (.leaf (1, 249, 0, 0, 9223372036854775810, [])) (.leaf (21, 250, 0, 0, 0, [])))) (.branch 253 (.branch 252 (.leaf (87, 251, 0, 0, 0, [])) (.leaf (13, 252, 0, 0, 0, []))) (.branch 254 (.leaf (9, 253, 0, 3, 0, [])) (.branch 255 (.leaf (1, 254, 0, 0, 9223372036854775811, [])) (.leaf (21, 255, 0, 0, 0, [])))))) (.branch 261 (.branch 258 (.branch 257 (.leaf (87, 256, 0, 0, 0, [])) (.leaf (13, 257, 0, 0, 0, []))) (.branch 259 (.leaf (9, 258, 0, 3, 0, [])) (.branch 260 (.leaf (1, 259, 0, 0, 9223372036854775812, [])) (.leaf (21, 260, 0, 0, 0, []))))) (.branch 263 (.branch 262 (.leaf (87, 261, 0, 0, 0, [])) (.leaf (13, 262, 0, 0, 0, []))) (.branch 264 (.leaf (9, 263, 0, 3, 0, [])) (.branch 265 (.leaf (1, 264, 0, 0, 9223372036854775813, [])) (.leaf (21, 265, 0, 0, 0, []))))))))) (.branch 321 (.branch 290 (.branch 279 (.branch 274 (.branch 270 (.branch 267 (.leaf (87, 266, 0, 0, 0, [])) (.leaf (78, 267, 178, 0, 17, [1479, 1480, 1481]))) (.branch 273 (.leaf (52, 270, 1655, 0, 0, [])) (.leaf (1, 273, 0, 0, 9223372036854775808, [])))) (.branch 276 (.branch 275 (.leaf (83, 274, 1, 0, 0, [])) (.leaf (13, 275, 0, 1, 0, []))) (.branch 277 (.leaf (13, 276, 0, 0, 0, [])) (.branch 278 (.leaf (9, 277, 0, 3, 0, [])) (.leaf (1, 278, 0, 0, 9223372036854775809, [])))))) (.branch 285 (.branch 281 (.branch 280 (.leaf (21, 279, 0, 0, 0, [])) (.leaf (87, 280, 0, 0, 0, []))) (.branch 284 (.leaf (78, 281, 17, 0, 18, [576, 577, 578])) (.leaf (13, 284, 0, 2, 0, [])))) (.branch 287 (.branch 286 (.leaf (13, 285, 0, 0, 0, [])) (.leaf (9, 286, 0, 3, 0, []))) (.branch 288 (.leaf (1, 287, 0, 0, 9223372036854775809, [])) (.branch 289 (.leaf (21, 288, 0, 0, 0, [])) (.leaf (87, 289, 0, 0, 0, []))))))) (.branch 309 (.branch 298 (.branch 296 (.branch 293 (.leaf (78, 290, 179, 0, 22, [1483, 1484, 1485])) (.leaf (52, 293, 1655, 0, 0, []))) (.branch 297 (.leaf (1, 296, 0, 0, 9223372036854775808, [])) (.leaf (83, 297, 1, 0, 0, [])))) (.branch 302 (.branch 299 (.leaf (13, 298, 0, 1, 0, [])) (.leaf (78, 299, 18, 0, 23, [580, 581, 582]))) (.branch 303 (.leaf (13, 302, 0, 2, 0, [])) (.branch 306 (.leaf (78, 303, 180, 0, 27, [1487, 1488, 1489])) (.leaf (52, 306, 1655, 0, 0, [])))))) (.branch 314 (.branch 311 (.branch 310 (.leaf (1, 309, 0, 0, 9223372036854775808, [])) (.leaf (83, 310, 1, 0, 0, []))) (.branch 312 (.leaf (13, 311, 0, 1, 0, [])) (.branch 313 (.leaf (13, 312, 0, 0, 0, [])) (.leaf (9, 313, 0, 3, 0, []))))) (.branch 316 (.branch 315 (.leaf (1, 314, 0, 0, 9223372036854775809, [])) (.leaf (21, 315, 0, 0, 0, []))) (.branch 317 (.leaf (87, 316, 0, 0, 0, [])) (.branch 320 (.leaf (78, 317, 45, 0, 28, [765, 766, 767])) (.leaf (13, 320, 0, 2, 0, [])))))))) (.branch 343 (.branch 334 (.branch 325 (.branch 323 (.branch 322 (.leaf (13, 321, 0, 0, 0, [])) (.leaf (9, 322, 0, 3, 0, []))) (.branch 324 (.leaf (1, 323, 0, 0, 9223372036854775809, [])) (.leaf (21, 324, 0, 0, 0, [])))) (.branch 329 (.branch 326 (.leaf (87, 325, 0, 0, 0, [])) (.leaf (78, 326, 199, 0, 31, [1594, 1595, 1596]))) (.branch 332 (.leaf (52, 329, 1655, 0, 0, [])) (.branch 333 (.leaf (1, 332, 0, 0, 9223372036854775808, [])) (.leaf (83, 333, 1, 0, 0, [])))))) (.branch 338 (.branch 336 (.branch 335 (.leaf (13, 334, 0, 1, 0, [])) (.leaf (13, 335, 0, 0, 0, []))) (.branch 337 (.leaf (9, 336, 0, 3, 0, [])) (.leaf (1, 337, 0, 0, 9223372036854775809, [])))) (.branch 340 (.branch 339 (.leaf (21, 338, 0, 0, 0, [])) (.leaf (87, 339, 0, 0, 0, []))) (.branch 341 (.leaf (13, 340, 0, 0, 0, [])) (.branch 342 (.leaf (9, 341, 0, 3, 0, [])) (.leaf (1, 342, 0, 0, 9223372036854775810, []))))))) (.branch 352 (.branch 347 (.branch 345 (.branch 344 (.leaf (21, 343, 0, 0, 0, [])) (.leaf (87, 344, 0, 0, 0, []))) (.branch 346 (.leaf (13, 345, 0, 0, 0, [])) (.leaf (9, 346, 0, 3, 0, [])))) (.branch 349 (.branch 348 (.leaf (1, 347, 0, 0, 9223372036854775811, [])) (.leaf (21, 348, 0, 0, 0, []))) (.branch 350 (.leaf (87, 349, 0, 0, 0, [])) (.branch 351 (.leaf (13, 350, 0, 0, 0, [])) (.leaf (9, 351, 0, 3, 0, [])))))) (.branch 357 (.branch 354 (.branch 353 (.leaf (1, 352, 0, 0, 9223372036854775812, [])) (.leaf (21, 353, 0, 0, 0, []))) (.branch 355 (.leaf (87, 354, 0, 0, 0, [])) (.branch 356 (.leaf (13, 355, 0, 0, 0, [])) (.leaf (9, 356, 0, 3, 0, []))))) (.branch 359 (.branch 358 (.leaf (1, 357, 0, 0, 9223372036854775813, [])) (.leaf (21, 358, 0, 0, 0, []))) (.branch 360 (.leaf (87, 359, 0, 0, 0, [])) (.branch 361 (.leaf (13, 360, 0, 0, 0, [])) (.leaf (9, 361, 0, 3, 0, [])))))))))) (.branch 452 (.branch 407 (.branch 383 (.branch 374 (.branch 369 (.branch 365 (.branch 364 (.leaf (2, 362, 0, 0, 9223372036854775814, [])) (.leaf (21, 364, 0, 0, 0, []))) (.branch 366 (.leaf (87, 365, 0, 0, 0, [])) (.leaf (78, 366, 46, 0, 32, [769, 770, 771])))) (.branch 371 (.branch 370 (.leaf (13, 369, 0, 2, 0, [])) (.leaf (13, 370, 0, 0, 0, []))) (.branch 372 (.leaf (9, 371, 0, 3, 0, [])) (.branch 373 (.leaf (1, 372, 0, 0, 9223372036854775809, [])) (.leaf (21, 373, 0, 0, 0, [])))))) (.branch 378 (.branch 376 (.branch 375 (.leaf (87, 374, 0, 0, 0, [])) (.leaf (13, 375, 0, 0, 0, []))) (.branch 377 (.leaf (9, 376, 0, 3, 0, [])) (.leaf (1, 377, 0, 0, 9223372036854775810, [])))) (.branch 380 (.branch 379 (.leaf (21, 378, 0, 0, 0, [])) (.leaf (87, 379, 0, 0, 0, []))) (.branch 381 (.leaf (13, 380, 0, 0, 0, [])) (.branch 382 (.leaf (9, 381, 0, 3, 0, [])) (.leaf (1, 382, 0, 0, 9223372036854775811, []))))))) (.branch 392 (.branch 387 (.branch 385 (.branch 384 (.leaf (21, 383, 0, 0, 0, [])) (.leaf (87, 384, 0, 0, 0, []))) (.branch 386 (.leaf (13, 385, 0, 0, 0, [])) (.leaf (9, 386, 0, 3, 0, [])))) (.branch 389 (.branch 388 (.leaf (1, 387, 0, 0, 9223372036854775812, [])) (.leaf (21, 388, 0, 0, 0, []))) (.branch 390 (.leaf (87, 389, 0, 0, 0, [])) (.branch 391 (.leaf (13, 390, 0, 0, 0, [])) (.leaf (9, 391, 0, 3, 0, [])))))) (.branch 397 (.branch 394 (.branch 393 (.leaf (1, 392, 0, 0, 9223372036854775813, [])) (.leaf (21, 393, 0, 0, 0, []))) (.branch 395 (.leaf (87, 394, 0, 0, 0, [])) (.branch 396 (.leaf (13, 395, 0, 0, 0, [])) (.leaf (9, 396, 0, 3, 0, []))))) (.branch 400 (.branch 399 (.leaf (2, 397, 0, 0, 9223372036854775814, [])) (.leaf (21, 399, 0, 0, 0, []))) (.branch 401 (.leaf (87, 400, 0, 0, 0, [])) (.branch 404 (.leaf (78, 401, 200, 0, 36, [1598, 1599, 1600])) (.leaf (52, 404, 1655, 0, 0, [])))))))) (.branch 427 (.branch 416 (.branch 411 (.branch 409 (.branch 408 (.leaf (1, 407, 0, 0, 9223372036854775808, [])) (.leaf (83, 408, 1, 0, 0, []))) (.branch 410 (.leaf (13, 409, 0, 1, 0, [])) (.leaf (13, 410, 0, 0, 0, [])))) (.branch 413 (.branch 412 (.leaf (9, 411, 0, 3, 0, [])) (.leaf (1, 412, 0, 0, 9223372036854775809, []))) (.branch 414 (.leaf (21, 413, 0, 0, 0, [])) (.branch 415 (.leaf (87, 414, 0, 0, 0, [])) (.leaf (13, 415, 0, 0, 0, [])))))) (.branch 420 (.branch 418 (.branch 417 (.leaf (9, 416, 0, 3, 0, [])) (.leaf (1, 417, 0, 0, 9223372036854775810, []))) (.branch 419 (.leaf (21, 418, 0, 0, 0, [])) (.leaf (87, 419, 0, 0, 0, [])))) (.branch 424 (.branch 423 (.leaf (78, 420, 57, 0, 37, [820, 821, 822])) (.leaf (13, 423, 0, 2, 0, []))) (.branch 425 (.leaf (13, 424, 0, 0, 0, [])) (.branch 426 (.leaf (9, 425, 0, 3, 0, [])) (.leaf (1, 426, 0, 0, 9223372036854775809, []))))))) (.branch 440 (.branch 431 (.branch 429 (.branch 428 (.leaf (21, 427, 0, 0, 0, [])) (.leaf (87, 428, 0, 0, 0, []))) (.branch 430 (.leaf (13, 429, 0, 0, 0, [])) (.leaf (9, 430, 0, 3, 0, [])))) (.branch 433 (.branch 432 (.leaf (1, 431, 0, 0, 9223372036854775810, [])) (.leaf (21, 432, 0, 0, 0, []))) (.branch 434 (.leaf (87, 433, 0, 0, 0, [])) (.branch 437 (.leaf (78, 434, 205, 0, 41, [1625, 1626, 1627])) (.leaf (52, 437, 1655, 0, 0, [])))))) (.branch 445 (.branch 442 (.branch 441 (.leaf (1, 440, 0, 0, 9223372036854775808, [])) (.leaf (83, 441, 1, 0, 0, []))) (.branch 443 (.leaf (13, 442, 0, 1, 0, [])) (.branch 444 (.leaf (13, 443, 0, 0, 0, [])) (.leaf (9, 444, 0, 3, 0, []))))) (.branch 447 (.branch 446 (.leaf (1, 445, 0, 0, 9223372036854775809, [])) (.leaf (21, 446, 0, 0, 0, []))) (.branch 448 (.leaf (87, 447, 0, 0, 0, [])) (.branch 451 (.leaf (78, 448, 62, 0, 42, [839, 840, 841])) (.leaf (13, 451, 0, 2, 0, []))))))))) (.branch 499 (.branch 474 (.branch 465 (.branch 456 (.branch 454 (.branch 453 (.leaf (13, 452, 0, 0, 0, [])) (.leaf (9, 453, 0, 3, 0, []))) (.branch 455 (.leaf (1, 454, 0, 0, 9223372036854775809, [])) (.leaf (21, 455, 0, 0, 0, [])))) (.branch 460 (.branch 457 (.leaf (87, 456, 0, 0, 0, [])) (.leaf (78, 457, 207, 0, 45, [1635, 1636, 1637]))) (.branch 463 (.leaf (52, 460, 1655, 0, 0, [])) (.branch 464 (.leaf (1, 463, 0, 0, 9223372036854775808, [])) (.leaf (83, 464, 1, 0, 0, [])))))) (.branch 469 (.branch 467 (.branch 466 (.leaf (13, 465, 0, 1, 0, [])) (.leaf (13, 466, 0, 0, 0, []))) (.branch 468 (.leaf (9, 467, 0, 3, 0, [])) (.leaf (1, 468, 0, 0, 9223372036854775809, [])))) (.branch 471 (.branch 470 (.leaf (21, 469, 0, 0, 0, [])) (.leaf (87, 470, 0, 0, 0, []))) (.branch 472 (.leaf (13, 471, 0, 0, 0, [])) (.branch 473 (.leaf (9, 472, 0, 3, 0, [])) (.leaf (1, 473, 0, 0, 9223372036854775810, []))))))) (.branch 485 (.branch 480 (.branch 476 (.branch 475 (.leaf (21, 474, 0, 0, 0, [])) (.leaf (87, 475, 0, 0, 0, []))) (.branch 479 (.leaf (78, 476, 67, 0, 46, [866, 867, 868])) (.leaf (13, 479, 0, 2, 0, [])))) (.branch 482 (.branch 481 (.leaf (13, 480, 0, 0, 0, [])) (.leaf (9, 481, 0, 3, 0, []))) (.branch 483 (.leaf (1, 482, 0, 0, 9223372036854775809, [])) (.branch 484 (.leaf (21, 483, 0, 0, 0, [])) (.leaf (87, 484, 0, 0, 0, [])))))) (.branch 490 (.branch 487 (.branch 486 (.leaf (13, 485, 0, 0, 0, [])) (.leaf (9, 486, 0, 3, 0, []))) (.branch 488 (.leaf (1, 487, 0, 0, 9223372036854775810, [])) (.branch 489 (.leaf (21, 488, 0, 0, 0, [])) (.leaf (87, 489, 0, 0, 0, []))))) (.branch 496 (.branch 493 (.leaf (78, 490, 211, 0, 49, [1652, 1653, 1654])) (.leaf (52, 493, 1655, 0, 0, []))) (.branch 497 (.leaf (1, 496, 0, 0, 9223372036854775808, [])) (.branch 498 (.leaf (83, 497, 1, 0, 0, [])) (.leaf (13, 498, 0, 1, 0, [])))))))) (.branch 524 (.branch 510 (.branch 503 (.branch 501 (.branch 500 (.leaf (13, 499, 0, 0, 0, [])) (.leaf (9, 500, 0, 3, 0, []))) (.branch 502 (.leaf (1, 501, 0, 0, 9223372036854775809, [])) (.leaf (21, 502, 0, 0, 0, [])))) (.branch 507 (.branch 504 (.leaf (87, 503, 0, 0, 0, [])) (.leaf (78, 504, 78, 0, 50, [915, 916, 917]))) (.branch 508 (.leaf (13, 507, 0, 2, 0, [])) (.branch 509 (.leaf (13, 508, 0, 0, 0, [])) (.leaf (9, 509, 0, 3, 0, [])))))) (.branch 519 (.branch 512 (.branch 511 (.leaf (1, 510, 0, 0, 9223372036854775809, [])) (.leaf (21, 511, 0, 0, 0, []))) (.branch 513 (.leaf (87, 512, 0, 0, 0, [])) (.branch 516 (.leaf (78, 513, 218, 0, 53, [1681, 1682, 1683])) (.leaf (52, 516, 1655, 0, 0, []))))) (.branch 521 (.branch 520 (.leaf (1, 519, 0, 0, 9223372036854775808, [])) (.leaf (83, 520, 1, 0, 0, []))) (.branch 522 (.leaf (13, 521, 0, 1, 0, [])) (.branch 523 (.leaf (13, 522, 0, 0, 0, [])) (.leaf (9, 523, 0, 3, 0, []))))))) (.branch 535 (.branch 528 (.branch 526 (.branch 525 (.leaf (1, 524, 0, 0, 9223372036854775809, [])) (.leaf (21, 525, 0, 0, 0, []))) (.branch 527 (.leaf (87, 526, 0, 0, 0, [])) (.leaf (13, 527, 0, 0, 0, [])))) (.branch 530 (.branch 529 (.leaf (9, 528, 0, 3, 0, [])) (.leaf (1, 529, 0, 0, 9223372036854775810, []))) (.branch 531 (.leaf (21, 530, 0, 0, 0, [])) (.branch 532 (.leaf (87, 531, 0, 0, 0, [])) (.leaf (78, 532, 80, 0, 54, [924, 925, 926])))))) (.branch 540 (.branch 537 (.branch 536 (.leaf (13, 535, 0, 2, 0, [])) (.leaf (13, 536, 0, 0, 0, []))) (.branch 538 (.leaf (9, 537, 0, 3, 0, [])) (.branch 539 (.leaf (1, 538, 0, 0, 9223372036854775809, [])) (.leaf (21, 539, 0, 0, 0, []))))) (.branch 542 (.branch 541 (.leaf (87, 540, 0, 0, 0, [])) (.leaf (13, 541, 0, 0, 0, []))) (.branch 543 (.leaf (9, 542, 0, 3, 0, [])) (.branch 544 (.leaf (1, 543, 0, 0, 9223372036854775810, [])) (.leaf (21, 544, 0, 0, 0, []))))))))))) (.branch 736 (.branch 641 (.branch 594 (.branch 569 (.branch 558 (.branch 553 (.branch 549 (.branch 546 (.leaf (87, 545, 0, 0, 0, [])) (.leaf (78, 546, 219, 0, 57, [1685, 1686, 1687]))) (.branch 552 (.leaf (52, 549, 1655, 0, 0, [])) (.leaf (1, 552, 0, 0, 9223372036854775808, [])))) (.branch 555 (.branch 554 (.leaf (83, 553, 1, 0, 0, [])) (.leaf (13, 554, 0, 1, 0, []))) (.branch 556 (.leaf (13, 555, 0, 0, 0, [])) (.branch 557 (.leaf (9, 556, 0, 3, 0, [])) (.leaf (1, 557, 0, 0, 9223372036854775809, [])))))) (.branch 564 (.branch 560 (.branch 559 (.leaf (21, 558, 0, 0, 0, [])) (.leaf (87, 559, 0, 0, 0, []))) (.branch 563 (.leaf (78, 560, 82, 0, 58, [932, 933, 934])) (.leaf (13, 563, 0, 2, 0, [])))) (.branch 566 (.branch 565 (.leaf (13, 564, 0, 0, 0, [])) (.leaf (9, 565, 0, 3, 0, []))) (.branch 567 (.leaf (1, 566, 0, 0, 9223372036854775809, [])) (.branch 568 (.leaf (21, 567, 0, 0, 0, [])) (.leaf (87, 568, 0, 0, 0, []))))))) (.branch 582 (.branch 577 (.branch 575 (.branch 572 (.leaf (78, 569, 237, 0, 61, [1773, 1774, 1775])) (.leaf (52, 572, 1655, 0, 0, []))) (.branch 576 (.leaf (1, 575, 0, 0, 9223372036854775808, [])) (.leaf (83, 576, 1, 0, 0, [])))) (.branch 579 (.branch 578 (.leaf (13, 577, 0, 1, 0, [])) (.leaf (13, 578, 0, 0, 0, []))) (.branch 580 (.leaf (9, 579, 0, 3, 0, [])) (.branch 581 (.leaf (1, 580, 0, 0, 9223372036854775809, [])) (.leaf (21, 581, 0, 0, 0, [])))))) (.branch 587 (.branch 584 (.branch 583 (.leaf (87, 582, 0, 0, 0, [])) (.leaf (13, 583, 0, 0, 0, []))) (.branch 585 (.leaf (9, 584, 0, 3, 0, [])) (.branch 586 (.leaf (1, 585, 0, 0, 9223372036854775810, [])) (.leaf (21, 586, 0, 0, 0, []))))) (.branch 591 (.branch 588 (.leaf (87, 587, 0, 0, 0, [])) (.leaf (78, 588, 90, 0, 62, [966, 967, 968]))) (.branch 592 (.leaf (13, 591, 0, 2, 0, [])) (.branch 593 (.leaf (13, 592, 0, 0, 0, [])) (.leaf (9, 593, 0, 3, 0, [])))))))) (.branch 616 (.branch 605 (.branch 598 (.branch 596 (.branch 595 (.leaf (1, 594, 0, 0, 9223372036854775809, [])) (.leaf (21, 595, 0, 0, 0, []))) (.branch 597 (.leaf (87, 596, 0, 0, 0, [])) (.leaf (13, 597, 0, 0, 0, [])))) (.branch 600 (.branch 599 (.leaf (9, 598, 0, 3, 0, [])) (.leaf (1, 599, 0, 0, 9223372036854775810, []))) (.branch 601 (.leaf (21, 600, 0, 0, 0, [])) (.branch 602 (.leaf (87, 601, 0, 0, 0, [])) (.leaf (78, 602, 240, 0, 65, [1785, 1786, 1787])))))) (.branch 611 (.branch 609 (.branch 608 (.leaf (52, 605, 1655, 0, 0, [])) (.leaf (1, 608, 0, 0, 9223372036854775808, []))) (.branch 610 (.leaf (83, 609, 1, 0, 0, [])) (.leaf (13, 610, 0, 1, 0, [])))) (.branch 613 (.branch 612 (.leaf (13, 611, 0, 0, 0, [])) (.leaf (9, 612, 0, 3, 0, []))) (.branch 614 (.leaf (1, 613, 0, 0, 9223372036854775809, [])) (.branch 615 (.leaf (21, 614, 0, 0, 0, [])) (.leaf (87, 615, 0, 0, 0, []))))))) (.branch 631 (.branch 622 (.branch 620 (.branch 619 (.leaf (78, 616, 91, 0, 66, [970, 971, 972])) (.leaf (13, 619, 0, 2, 0, []))) (.branch 621 (.leaf (13, 620, 0, 0, 0, [])) (.leaf (9, 621, 0, 3, 0, [])))) (.branch 624 (.branch 623 (.leaf (1, 622, 0, 0, 9223372036854775809, [])) (.leaf (21, 623, 0, 0, 0, []))) (.branch 625 (.leaf (87, 624, 0, 0, 0, [])) (.branch 628 (.leaf (78, 625, 220, 0, 69, [1689, 1690, 1691])) (.leaf (52, 628, 1655, 0, 0, [])))))) (.branch 636 (.branch 633 (.branch 632 (.leaf (1, 631, 0, 0, 9223372036854775808, [])) (.leaf (83, 632, 1, 0, 0, []))) (.branch 634 (.leaf (13, 633, 0, 1, 0, [])) (.branch 635 (.leaf (13, 634, 0, 0, 0, [])) (.leaf (9, 635, 0, 3, 0, []))))) (.branch 638 (.branch 637 (.leaf (1, 636, 0, 0, 9223372036854775809, [])) (.leaf (21, 637, 0, 0, 0, []))) (.branch 639 (.leaf (87, 638, 0, 0, 0, [])) (.branch 640 (.leaf (13, 639, 0, 0, 0, [])) (.leaf (9, 640, 0, 3, 0, []))))))))) (.branch 684 (.branch 661 (.branch 652 (.branch 645 (.branch 643 (.branch 642 (.leaf (1, 641, 0, 0, 9223372036854775810, [])) (.leaf (21, 642, 0, 0, 0, []))) (.branch 644 (.leaf (87, 643, 0, 0, 0, [])) (.leaf (13, 644, 0, 0, 0, [])))) (.branch 647 (.branch 646 (.leaf (9, 645, 0, 3, 0, [])) (.leaf (1, 646, 0, 0, 9223372036854775811, []))) (.branch 648 (.leaf (21, 647, 0, 0, 0, [])) (.branch 649 (.leaf (87, 648, 0, 0, 0, [])) (.leaf (78, 649, 93, 0, 70, [980, 981, 982])))))) (.branch 656 (.branch 654 (.branch 653 (.leaf (13, 652, 0, 2, 0, [])) (.leaf (13, 653, 0, 0, 0, []))) (.branch 655 (.leaf (9, 654, 0, 3, 0, [])) (.leaf (1, 655, 0, 0, 9223372036854775809, [])))) (.branch 658 (.branch 657 (.leaf (21, 656, 0, 0, 0, [])) (.leaf (87, 657, 0, 0, 0, []))) (.branch 659 (.leaf (13, 658, 0, 0, 0, [])) (.branch 660 (.leaf (9, 659, 0, 3, 0, [])) (.leaf (1, 660, 0, 0, 9223372036854775810, []))))))) (.branch 674 (.branch 665 (.branch 663 (.branch 662 (.leaf (21, 661, 0, 0, 0, [])) (.leaf (87, 662, 0, 0, 0, []))) (.branch 664 (.leaf (13, 663, 0, 0, 0, [])) (.leaf (9, 664, 0, 3, 0, [])))) (.branch 667 (.branch 666 (.leaf (1, 665, 0, 0, 9223372036854775811, [])) (.leaf (21, 666, 0, 0, 0, []))) (.branch 668 (.leaf (87, 667, 0, 0, 0, [])) (.branch 671 (.leaf (78, 668, 221, 0, 74, [1695, 1696, 1697])) (.leaf (52, 671, 1655, 0, 0, [])))))) (.branch 679 (.branch 676 (.branch 675 (.leaf (1, 674, 0, 0, 9223372036854775808, [])) (.leaf (83, 675, 1, 0, 0, []))) (.branch 677 (.leaf (13, 676, 0, 1, 0, [])) (.branch 678 (.leaf (13, 677, 0, 0, 0, [])) (.leaf (9, 678, 0, 3, 0, []))))) (.branch 681 (.branch 680 (.leaf (1, 679, 0, 0, 9223372036854775809, [])) (.leaf (21, 680, 0, 0, 0, []))) (.branch 682 (.leaf (87, 681, 0, 0, 0, [])) (.branch 683 (.leaf (13, 682, 0, 0, 0, [])) (.leaf (9, 683, 0, 3, 0, [])))))))) (.branch 709 (.branch 695 (.branch 688 (.branch 686 (.branch 685 (.leaf (1, 684, 0, 0, 9223372036854775810, [])) (.leaf (21, 685, 0, 0, 0, []))) (.branch 687 (.leaf (87, 686, 0, 0, 0, [])) (.leaf (13, 687, 0, 0, 0, [])))) (.branch 690 (.branch 689 (.leaf (9, 688, 0, 3, 0, [])) (.leaf (1, 689, 0, 0, 9223372036854775811, []))) (.branch 691 (.leaf (21, 690, 0, 0, 0, [])) (.branch 692 (.leaf (87, 691, 0, 0, 0, [])) (.leaf (46, 692, 699, 0, 0, [])))))) (.branch 704 (.branch 699 (.branch 696 (.leaf (1, 695, 0, 0, 9223372036854775809, [])) (.leaf (58, 696, 700, 0, 0, []))) (.branch 700 (.leaf (1, 699, 0, 0, 9223372036854775808, [])) (.branch 703 (.leaf (78, 700, 95, 0, 75, [988, 989, 990])) (.leaf (13, 703, 0, 2, 0, []))))) (.branch 706 (.branch 705 (.leaf (13, 704, 0, 0, 0, [])) (.leaf (9, 705, 0, 3, 0, []))) (.branch 707 (.leaf (1, 706, 0, 0, 9223372036854775809, [])) (.branch 708 (.leaf (21, 707, 0, 0, 0, [])) (.leaf (87, 708, 0, 0, 0, []))))))) (.branch 718 (.branch 713 (.branch 711 (.branch 710 (.leaf (13, 709, 0, 0, 0, [])) (.leaf (9, 710, 0, 3, 0, []))) (.branch 712 (.leaf (1, 711, 0, 0, 9223372036854775810, [])) (.leaf (21, 712, 0, 0, 0, [])))) (.branch 715 (.branch 714 (.leaf (87, 713, 0, 0, 0, [])) (.leaf (13, 714, 0, 0, 0, []))) (.branch 716 (.leaf (9, 715, 0, 3, 0, [])) (.branch 717 (.leaf (1, 716, 0, 0, 9223372036854775811, [])) (.leaf (21, 717, 0, 0, 0, [])))))) (.branch 727 (.branch 722 (.branch 719 (.leaf (87, 718, 0, 0, 0, [])) (.leaf (46, 719, 726, 0, 0, []))) (.branch 723 (.leaf (1, 722, 0, 0, 9223372036854775809, [])) (.branch 726 (.leaf (58, 723, 727, 0, 0, [])) (.leaf (1, 726, 0, 0, 9223372036854775808, []))))) (.branch 733 (.branch 730 (.leaf (78, 727, 223, 0, 79, [1704, 1705, 1706])) (.leaf (52, 730, 1655, 0, 0, []))) (.branch 734 (.leaf (1, 733, 0, 0, 9223372036854775808, [])) (.branch 735 (.leaf (83, 734, 1, 0, 0, [])) (.leaf (13, 735, 0, 1, 0, [])))))))))) (.branch 834 (.branch 781 (.branch 758 (.branch 745 (.branch 740 (.branch 738 (.branch 737 (.leaf (13, 736, 0, 0, 0, [])) (.leaf (9, 737, 0, 3, 0, []))) (.branch 739 (.leaf (1, 738, 0, 0, 9223372036854775809, [])) (.leaf (21, 739, 0, 0, 0, [])))) (.branch 742 (.branch 741 (.leaf (87, 740, 0, 0, 0, [])) (.leaf (13, 741, 0, 0, 0, []))) (.branch 743 (.leaf (9, 742, 0, 3, 0, [])) (.branch 744 (.leaf (1, 743, 0, 0, 9223372036854775810, [])) (.leaf (21, 744, 0, 0, 0, [])))))) (.branch 749 (.branch 747 (.branch 746 (.leaf (87, 745, 0, 0, 0, [])) (.leaf (13, 746, 0, 0, 0, []))) (.branch 748 (.leaf (9, 747, 0, 3, 0, [])) (.leaf (1, 748, 0, 0, 9223372036854775811, [])))) (.branch 751 (.branch 750 (.leaf (21, 749, 0, 0, 0, [])) (.leaf (87, 750, 0, 0, 0, []))) (.branch 754 (.leaf (46, 751, 758, 0, 0, [])) (.branch 755 (.leaf (1, 754, 0, 0, 9223372036854775809, [])) (.leaf (58, 755, 759, 0, 0, []))))))) (.branch 769 (.branch 764 (.branch 762 (.branch 759 (.leaf (1, 758, 0, 0, 9223372036854775808, [])) (.leaf (78, 759, 100, 0, 80, [1009, 1010, 1011]))) (.branch 763 (.leaf (13, 762, 0, 2, 0, [])) (.leaf (13, 763, 0, 0, 0, [])))) (.branch 766 (.branch 765 (.leaf (9, 764, 0, 3, 0, [])) (.leaf (1, 765, 0, 0, 9223372036854775809, []))) (.branch 767 (.leaf (21, 766, 0, 0, 0, [])) (.branch 768 (.leaf (87, 767, 0, 0, 0, [])) (.leaf (13, 768, 0, 0, 0, [])))))) (.branch 774 (.branch 771 (.branch 770 (.leaf (9, 769, 0, 3, 0, [])) (.leaf (1, 770, 0, 0, 9223372036854775810, []))) (.branch 772 (.leaf (21, 771, 0, 0, 0, [])) (.branch 773 (.leaf (87, 772, 0, 0, 0, [])) (.leaf (13, 773, 0, 0, 0, []))))) (.branch 776 (.branch 775 (.leaf (9, 774, 0, 3, 0, [])) (.leaf (1, 775, 0, 0, 9223372036854775811, []))) (.branch 777 (.leaf (21, 776, 0, 0, 0, [])) (.branch 778 (.leaf (87, 777, 0, 0, 0, [])) (.leaf (46, 778, 785, 0, 0, [])))))))) (.branch 805 (.branch 796 (.branch 789 (.branch 785 (.branch 782 (.leaf (1, 781, 0, 0, 9223372036854775809, [])) (.leaf (58, 782, 786, 0, 0, []))) (.branch 786 (.leaf (1, 785, 0, 0, 9223372036854775808, [])) (.leaf (78, 786, 225, 0, 83, [1712, 1713, 1714])))) (.branch 793 (.branch 792 (.leaf (52, 789, 1655, 0, 0, [])) (.leaf (1, 792, 0, 0, 9223372036854775808, []))) (.branch 794 (.leaf (83, 793, 1, 0, 0, [])) (.branch 795 (.leaf (13, 794, 0, 1, 0, [])) (.leaf (13, 795, 0, 0, 0, [])))))) (.branch 800 (.branch 798 (.branch 797 (.leaf (9, 796, 0, 3, 0, [])) (.leaf (1, 797, 0, 0, 9223372036854775809, []))) (.branch 799 (.leaf (21, 798, 0, 0, 0, [])) (.leaf (87, 799, 0, 0, 0, [])))) (.branch 802 (.branch 801 (.leaf (13, 800, 0, 0, 0, [])) (.leaf (9, 801, 0, 3, 0, []))) (.branch 803 (.leaf (1, 802, 0, 0, 9223372036854775810, [])) (.branch 804 (.leaf (21, 803, 0, 0, 0, [])) (.leaf (87, 804, 0, 0, 0, []))))))) (.branch 820 (.branch 813 (.branch 809 (.branch 808 (.leaf (46, 805, 812, 0, 0, [])) (.leaf (1, 808, 0, 0, 9223372036854775809, []))) (.branch 812 (.leaf (58, 809, 813, 0, 0, [])) (.leaf (1, 812, 0, 0, 9223372036854775808, [])))) (.branch 817 (.branch 816 (.leaf (78, 813, 102, 0, 84, [1019, 1020, 1021])) (.leaf (13, 816, 0, 2, 0, []))) (.branch 818 (.leaf (13, 817, 0, 0, 0, [])) (.branch 819 (.leaf (9, 818, 0, 3, 0, [])) (.leaf (1, 819, 0, 0, 9223372036854775809, [])))))) (.branch 825 (.branch 822 (.branch 821 (.leaf (21, 820, 0, 0, 0, [])) (.leaf (87, 821, 0, 0, 0, []))) (.branch 823 (.leaf (13, 822, 0, 0, 0, [])) (.branch 824 (.leaf (9, 823, 0, 3, 0, [])) (.leaf (1, 824, 0, 0, 9223372036854775810, []))))) (.branch 827 (.branch 826 (.leaf (21, 825, 0, 0, 0, [])) (.leaf (87, 826, 0, 0, 0, []))) (.branch 830 (.leaf (46, 827, 834, 0, 0, [])) (.branch 831 (.leaf (1, 830, 0, 0, 9223372036854775809, [])) (.leaf (58, 831, 835, 0, 0, []))))))))) (.branch 877 (.branch 856 (.branch 847 (.branch 842 (.branch 838 (.branch 835 (.leaf (1, 834, 0, 0, 9223372036854775808, [])) (.leaf (78, 835, 226, 0, 88, [1716, 1717, 1718]))) (.branch 841 (.leaf (52, 838, 1655, 0, 0, [])) (.leaf (1, 841, 0, 0, 9223372036854775808, [])))) (.branch 844 (.branch 843 (.leaf (83, 842, 1, 0, 0, [])) (.leaf (13, 843, 0, 1, 0, []))) (.branch 845 (.leaf (13, 844, 0, 0, 0, [])) (.branch 846 (.leaf (9, 845, 0, 3, 0, [])) (.leaf (1, 846, 0, 0, 9223372036854775809, [])))))) (.branch 851 (.branch 849 (.branch 848 (.leaf (21, 847, 0, 0, 0, [])) (.leaf (87, 848, 0, 0, 0, []))) (.branch 850 (.leaf (13, 849, 0, 0, 0, [])) (.leaf (9, 850, 0, 3, 0, [])))) (.branch 853 (.branch 852 (.leaf (1, 851, 0, 0, 9223372036854775810, [])) (.leaf (21, 852, 0, 0, 0, []))) (.branch 854 (.leaf (87, 853, 0, 0, 0, [])) (.branch 855 (.leaf (13, 854, 0, 0, 0, [])) (.leaf (9, 855, 0, 3, 0, []))))))) (.branch 867 (.branch 862 (.branch 858 (.branch 857 (.leaf (1, 856, 0, 0, 9223372036854775811, [])) (.leaf (21, 857, 0, 0, 0, []))) (.branch 859 (.leaf (87, 858, 0, 0, 0, [])) (.leaf (78, 859, 103, 0, 89, [1023, 1024, 1025])))) (.branch 864 (.branch 863 (.leaf (13, 862, 0, 2, 0, [])) (.leaf (13, 863, 0, 0, 0, []))) (.branch 865 (.leaf (9, 864, 0, 3, 0, [])) (.branch 866 (.leaf (1, 865, 0, 0, 9223372036854775809, [])) (.leaf (21, 866, 0, 0, 0, [])))))) (.branch 872 (.branch 869 (.branch 868 (.leaf (87, 867, 0, 0, 0, [])) (.leaf (13, 868, 0, 0, 0, []))) (.branch 870 (.leaf (9, 869, 0, 3, 0, [])) (.branch 871 (.leaf (1, 870, 0, 0, 9223372036854775810, [])) (.leaf (21, 871, 0, 0, 0, []))))) (.branch 874 (.branch 873 (.leaf (87, 872, 0, 0, 0, [])) (.leaf (13, 873, 0, 0, 0, []))) (.branch 875 (.leaf (9, 874, 0, 3, 0, [])) (.branch 876 (.leaf (1, 875, 0, 0, 9223372036854775811, [])) (.leaf (21, 876, 0, 0, 0, [])))))))) (.branch 900 (.branch 890 (.branch 885 (.branch 881 (.branch 878 (.leaf (87, 877, 0, 0, 0, [])) (.leaf (78, 878, 227, 0, 92, [1720, 1721, 1722]))) (.branch 884 (.leaf (52, 881, 1655, 0, 0, [])) (.leaf (1, 884, 0, 0, 9223372036854775808, [])))) (.branch 887 (.branch 886 (.leaf (83, 885, 1, 0, 0, [])) (.leaf (13, 886, 0, 1, 0, []))) (.branch 888 (.leaf (13, 887, 0, 0, 0, [])) (.branch 889 (.leaf (9, 888, 0, 3, 0, [])) (.leaf (1, 889, 0, 0, 9223372036854775809, [])))))) (.branch 895 (.branch 892 (.branch 891 (.leaf (21, 890, 0, 0, 0, [])) (.leaf (87, 891, 0, 0, 0, []))) (.branch 893 (.leaf (13, 892, 0, 0, 0, [])) (.branch 894 (.leaf (9, 893, 0, 3, 0, [])) (.leaf (1, 894, 0, 0, 9223372036854775810, []))))) (.branch 897 (.branch 896 (.leaf (21, 895, 0, 0, 0, [])) (.leaf (87, 896, 0, 0, 0, []))) (.branch 898 (.leaf (13, 897, 0, 0, 0, [])) (.branch 899 (.leaf (9, 898, 0, 3, 0, [])) (.leaf (1, 899, 0, 0, 9223372036854775811, []))))))) (.branch 911 (.branch 906 (.branch 902 (.branch 901 (.leaf (21, 900, 0, 0, 0, [])) (.leaf (87, 901, 0, 0, 0, []))) (.branch 905 (.leaf (78, 902, 112, 0, 93, [1065, 1066, 1067])) (.leaf (13, 905, 0, 2, 0, [])))) (.branch 908 (.branch 907 (.leaf (13, 906, 0, 0, 0, [])) (.leaf (9, 907, 0, 3, 0, []))) (.branch 909 (.leaf (1, 908, 0, 0, 9223372036854775809, [])) (.branch 910 (.leaf (21, 909, 0, 0, 0, [])) (.leaf (87, 910, 0, 0, 0, [])))))) (.branch 916 (.branch 913 (.branch 912 (.leaf (13, 911, 0, 0, 0, [])) (.leaf (9, 912, 0, 3, 0, []))) (.branch 914 (.leaf (1, 913, 0, 0, 9223372036854775810, [])) (.branch 915 (.leaf (21, 914, 0, 0, 0, [])) (.leaf (87, 915, 0, 0, 0, []))))) (.branch 918 (.branch 917 (.leaf (13, 916, 0, 0, 0, [])) (.leaf (9, 917, 0, 3, 0, []))) (.branch 919 (.leaf (1, 918, 0, 0, 9223372036854775811, [])) (.branch 920 (.leaf (21, 919, 0, 0, 0, [])) (.leaf (87, 920, 0, 0, 0, [])))))))))))) (.branch 1295 (.branch 1100 (.branch 1011 (.branch 964 (.branch 943 (.branch 934 (.branch 929 (.branch 927 (.branch 924 (.leaf (78, 921, 234, 0, 96, [1759, 1760, 1761])) (.leaf (52, 924, 1655, 0, 0, []))) (.branch 928 (.leaf (1, 927, 0, 0, 9223372036854775808, [])) (.leaf (83, 928, 1, 0, 0, [])))) (.branch 931 (.branch 930 (.leaf (13, 929, 0, 1, 0, [])) (.leaf (13, 930, 0, 0, 0, []))) (.branch 932 (.leaf (9, 931, 0, 3, 0, [])) (.branch 933 (.leaf (1, 932, 0, 0, 9223372036854775809, [])) (.leaf (21, 933, 0, 0, 0, [])))))) (.branch 938 (.branch 936 (.branch 935 (.leaf (87, 934, 0, 0, 0, [])) (.leaf (13, 935, 0, 0, 0, []))) (.branch 937 (.leaf (9, 936, 0, 3, 0, [])) (.leaf (1, 937, 0, 0, 9223372036854775810, [])))) (.branch 940 (.branch 939 (.leaf (21, 938, 0, 0, 0, [])) (.leaf (87, 939, 0, 0, 0, []))) (.branch 941 (.leaf (13, 940, 0, 0, 0, [])) (.branch 942 (.leaf (9, 941, 0, 3, 0, [])) (.leaf (1, 942, 0, 0, 9223372036854775811, []))))))) (.branch 954 (.branch 949 (.branch 945 (.branch 944 (.leaf (21, 943, 0, 0, 0, [])) (.leaf (87, 944, 0, 0, 0, []))) (.branch 948 (.leaf (78, 945, 113, 0, 97, [1071, 1072, 1073])) (.leaf (13, 948, 0, 2, 0, [])))) (.branch 951 (.branch 950 (.leaf (13, 949, 0, 0, 0, [])) (.leaf (9, 950, 0, 3, 0, []))) (.branch 952 (.leaf (1, 951, 0, 0, 9223372036854775809, [])) (.branch 953 (.leaf (21, 952, 0, 0, 0, [])) (.leaf (87, 953, 0, 0, 0, [])))))) (.branch 959 (.branch 956 (.branch 955 (.leaf (13, 954, 0, 0, 0, [])) (.leaf (9, 955, 0, 3, 0, []))) (.branch 957 (.leaf (1, 956, 0, 0, 9223372036854775810, [])) (.branch 958 (.leaf (21, 957, 0, 0, 0, [])) (.leaf (87, 958, 0, 0, 0, []))))) (.branch 961 (.branch 960 (.leaf (13, 959, 0, 0, 0, [])) (.leaf (9, 960, 0, 3, 0, []))) (.branch 962 (.leaf (1, 961, 0, 0, 9223372036854775811, [])) (.branch 963 (.leaf (21, 962, 0, 0, 0, [])) (.leaf (87, 963, 0, 0, 0, [])))))))) (.branch 988 (.branch 977 (.branch 972 (.branch 970 (.branch 967 (.leaf (78, 964, 235, 0, 100, [1765, 1766, 1767])) (.leaf (52, 967, 1655, 0, 0, []))) (.branch 971 (.leaf (1, 970, 0, 0, 9223372036854775808, [])) (.leaf (83, 971, 1, 0, 0, [])))) (.branch 974 (.branch 973 (.leaf (13, 972, 0, 1, 0, [])) (.leaf (13, 973, 0, 0, 0, []))) (.branch 975 (.leaf (9, 974, 0, 3, 0, [])) (.branch 976 (.leaf (1, 975, 0, 0, 9223372036854775809, [])) (.leaf (21, 976, 0, 0, 0, [])))))) (.branch 981 (.branch 979 (.branch 978 (.leaf (87, 977, 0, 0, 0, [])) (.leaf (13, 978, 0, 0, 0, []))) (.branch 980 (.leaf (9, 979, 0, 3, 0, [])) (.leaf (1, 980, 0, 0, 9223372036854775810, [])))) (.branch 983 (.branch 982 (.leaf (21, 981, 0, 0, 0, [])) (.leaf (87, 982, 0, 0, 0, []))) (.branch 986 (.leaf (78, 983, 114, 0, 101, [1076, 1077, 1078])) (.branch 987 (.leaf (13, 986, 0, 2, 0, [])) (.leaf (13, 987, 0, 0, 0, []))))))) (.branch 997 (.branch 992 (.branch 990 (.branch 989 (.leaf (9, 988, 0, 3, 0, [])) (.leaf (1, 989, 0, 0, 9223372036854775809, []))) (.branch 991 (.leaf (21, 990, 0, 0, 0, [])) (.leaf (87, 991, 0, 0, 0, [])))) (.branch 994 (.branch 993 (.leaf (13, 992, 0, 0, 0, [])) (.leaf (9, 993, 0, 3, 0, []))) (.branch 995 (.leaf (1, 994, 0, 0, 9223372036854775810, [])) (.branch 996 (.leaf (21, 995, 0, 0, 0, [])) (.leaf (87, 996, 0, 0, 0, [])))))) (.branch 1006 (.branch 1003 (.branch 1000 (.leaf (78, 997, 236, 0, 104, [1769, 1770, 1771])) (.leaf (52, 1000, 1655, 0, 0, []))) (.branch 1004 (.leaf (1, 1003, 0, 0, 9223372036854775808, [])) (.branch 1005 (.leaf (83, 1004, 1, 0, 0, [])) (.leaf (13, 1005, 0, 1, 0, []))))) (.branch 1008 (.branch 1007 (.leaf (13, 1006, 0, 0, 0, [])) (.leaf (9, 1007, 0, 3, 0, []))) (.branch 1009 (.leaf (1, 1008, 0, 0, 9223372036854775809, [])) (.branch 1010 (.leaf (21, 1009, 0, 0, 0, [])) (.leaf (87, 1010, 0, 0, 0, []))))))))) (.branch 1054 (.branch 1031 (.branch 1020 (.branch 1015 (.branch 1013 (.branch 1012 (.leaf (13, 1011, 0, 0, 0, [])) (.leaf (9, 1012, 0, 3, 0, []))) (.branch 1014 (.leaf (1, 1013, 0, 0, 9223372036854775810, [])) (.leaf (21, 1014, 0, 0, 0, [])))) (.branch 1017 (.branch 1016 (.leaf (87, 1015, 0, 0, 0, [])) (.leaf (13, 1016, 0, 0, 0, []))) (.branch 1018 (.leaf (9, 1017, 0, 3, 0, [])) (.branch 1019 (.leaf (1, 1018, 0, 0, 9223372036854775811, [])) (.leaf (21, 1019, 0, 0, 0, [])))))) (.branch 1026 (.branch 1024 (.branch 1021 (.leaf (87, 1020, 0, 0, 0, [])) (.leaf (78, 1021, 118, 0, 105, [1095, 1096, 1097]))) (.branch 1025 (.leaf (13, 1024, 0, 2, 0, [])) (.leaf (13, 1025, 0, 0, 0, [])))) (.branch 1028 (.branch 1027 (.leaf (9, 1026, 0, 3, 0, [])) (.leaf (1, 1027, 0, 0, 9223372036854775809, []))) (.branch 1029 (.leaf (21, 1028, 0, 0, 0, [])) (.branch 1030 (.leaf (87, 1029, 0, 0, 0, [])) (.leaf (13, 1030, 0, 0, 0, []))))))) (.branch 1040 (.branch 1035 (.branch 1033 (.branch 1032 (.leaf (9, 1031, 0, 3, 0, [])) (.leaf (1, 1032, 0, 0, 9223372036854775810, []))) (.branch 1034 (.leaf (21, 1033, 0, 0, 0, [])) (.leaf (87, 1034, 0, 0, 0, [])))) (.branch 1037 (.branch 1036 (.leaf (13, 1035, 0, 0, 0, [])) (.leaf (9, 1036, 0, 3, 0, []))) (.branch 1038 (.leaf (1, 1037, 0, 0, 9223372036854775811, [])) (.branch 1039 (.leaf (21, 1038, 0, 0, 0, [])) (.leaf (87, 1039, 0, 0, 0, [])))))) (.branch 1049 (.branch 1046 (.branch 1043 (.leaf (78, 1040, 241, 0, 108, [1789, 1790, 1791])) (.leaf (52, 1043, 1655, 0, 0, []))) (.branch 1047 (.leaf (1, 1046, 0, 0, 9223372036854775808, [])) (.branch 1048 (.leaf (83, 1047, 1, 0, 0, [])) (.leaf (13, 1048, 0, 1, 0, []))))) (.branch 1051 (.branch 1050 (.leaf (13, 1049, 0, 0, 0, [])) (.leaf (9, 1050, 0, 3, 0, []))) (.branch 1052 (.leaf (1, 1051, 0, 0, 9223372036854775809, [])) (.branch 1053 (.leaf (21, 1052, 0, 0, 0, [])) (.leaf (87, 1053, 0, 0, 0, [])))))))) (.branch 1075 (.branch 1063 (.branch 1058 (.branch 1056 (.branch 1055 (.leaf (13, 1054, 0, 0, 0, [])) (.leaf (9, 1055, 0, 3, 0, []))) (.branch 1057 (.leaf (1, 1056, 0, 0, 9223372036854775810, [])) (.leaf (21, 1057, 0, 0, 0, [])))) (.branch 1060 (.branch 1059 (.leaf (87, 1058, 0, 0, 0, [])) (.leaf (13, 1059, 0, 0, 0, []))) (.branch 1061 (.leaf (9, 1060, 0, 3, 0, [])) (.branch 1062 (.leaf (1, 1061, 0, 0, 9223372036854775811, [])) (.leaf (21, 1062, 0, 0, 0, [])))))) (.branch 1070 (.branch 1067 (.branch 1064 (.leaf (87, 1063, 0, 0, 0, [])) (.leaf (78, 1064, 120, 0, 109, [1103, 1104, 1105]))) (.branch 1068 (.leaf (13, 1067, 0, 2, 0, [])) (.branch 1069 (.leaf (13, 1068, 0, 0, 0, [])) (.leaf (9, 1069, 0, 3, 0, []))))) (.branch 1072 (.branch 1071 (.leaf (1, 1070, 0, 0, 9223372036854775809, [])) (.leaf (21, 1071, 0, 0, 0, []))) (.branch 1073 (.leaf (87, 1072, 0, 0, 0, [])) (.branch 1074 (.leaf (13, 1073, 0, 0, 0, [])) (.leaf (9, 1074, 0, 3, 0, []))))))) (.branch 1086 (.branch 1079 (.branch 1077 (.branch 1076 (.leaf (1, 1075, 0, 0, 9223372036854775810, [])) (.leaf (21, 1076, 0, 0, 0, []))) (.branch 1078 (.leaf (87, 1077, 0, 0, 0, [])) (.leaf (13, 1078, 0, 0, 0, [])))) (.branch 1081 (.branch 1080 (.leaf (9, 1079, 0, 3, 0, [])) (.leaf (1, 1080, 0, 0, 9223372036854775811, []))) (.branch 1082 (.leaf (21, 1081, 0, 0, 0, [])) (.branch 1083 (.leaf (87, 1082, 0, 0, 0, [])) (.leaf (78, 1083, 243, 0, 112, [1798, 1799, 1800])))))) (.branch 1093 (.branch 1090 (.branch 1089 (.leaf (52, 1086, 1655, 0, 0, [])) (.leaf (1, 1089, 0, 0, 9223372036854775808, []))) (.branch 1091 (.leaf (83, 1090, 1, 0, 0, [])) (.branch 1092 (.leaf (13, 1091, 0, 1, 0, [])) (.leaf (13, 1092, 0, 0, 0, []))))) (.branch 1095 (.branch 1094 (.leaf (9, 1093, 0, 3, 0, [])) (.leaf (1, 1094, 0, 0, 9223372036854775809, []))) (.branch 1096 (.leaf (21, 1095, 0, 0, 0, [])) (.branch 1097 (.leaf (87, 1096, 0, 0, 0, [])) (.leaf (78, 1097, 124, 0, 113, [1126, 1127, 1128])))))))))) (.branch 1196 (.branch 1147 (.branch 1124 (.branch 1113 (.branch 1104 (.branch 1102 (.branch 1101 (.leaf (13, 1100, 0, 2, 0, [])) (.leaf (13, 1101, 0, 0, 0, []))) (.branch 1103 (.leaf (9, 1102, 0, 3, 0, [])) (.leaf (1, 1103, 0, 0, 9223372036854775809, [])))) (.branch 1106 (.branch 1105 (.leaf (21, 1104, 0, 0, 0, [])) (.leaf (87, 1105, 0, 0, 0, []))) (.branch 1109 (.leaf (78, 1106, 246, 0, 116, [1811, 1812, 1813])) (.branch 1112 (.leaf (52, 1109, 1655, 0, 0, [])) (.leaf (1, 1112, 0, 0, 9223372036854775808, [])))))) (.branch 1117 (.branch 1115 (.branch 1114 (.leaf (83, 1113, 1, 0, 0, [])) (.leaf (13, 1114, 0, 1, 0, []))) (.branch 1116 (.leaf (13, 1115, 0, 0, 0, [])) (.leaf (9, 1116, 0, 3, 0, [])))) (.branch 1119 (.branch 1118 (.leaf (1, 1117, 0, 0, 9223372036854775809, [])) (.leaf (21, 1118, 0, 0, 0, []))) (.branch 1120 (.leaf (87, 1119, 0, 0, 0, [])) (.branch 1123 (.leaf (78, 1120, 126, 0, 117, [1134, 1135, 1136])) (.leaf (13, 1123, 0, 2, 0, []))))))) (.branch 1137 (.branch 1128 (.branch 1126 (.branch 1125 (.leaf (13, 1124, 0, 0, 0, [])) (.leaf (9, 1125, 0, 3, 0, []))) (.branch 1127 (.leaf (1, 1126, 0, 0, 9223372036854775809, [])) (.leaf (21, 1127, 0, 0, 0, [])))) (.branch 1132 (.branch 1129 (.leaf (87, 1128, 0, 0, 0, [])) (.leaf (78, 1129, 247, 0, 120, [1815, 1816, 1817]))) (.branch 1135 (.leaf (52, 1132, 1655, 0, 0, [])) (.branch 1136 (.leaf (1, 1135, 0, 0, 9223372036854775808, [])) (.leaf (83, 1136, 1, 0, 0, [])))))) (.branch 1142 (.branch 1139 (.branch 1138 (.leaf (13, 1137, 0, 1, 0, [])) (.leaf (13, 1138, 0, 0, 0, []))) (.branch 1140 (.leaf (9, 1139, 0, 3, 0, [])) (.branch 1141 (.leaf (1, 1140, 0, 0, 9223372036854775809, [])) (.leaf (21, 1141, 0, 0, 0, []))))) (.branch 1144 (.branch 1143 (.leaf (87, 1142, 0, 0, 0, [])) (.leaf (13, 1143, 0, 0, 0, []))) (.branch 1145 (.leaf (9, 1144, 0, 3, 0, [])) (.branch 1146 (.leaf (1, 1145, 0, 0, 9223372036854775810, [])) (.leaf (21, 1146, 0, 0, 0, [])))))))) (.branch 1171 (.branch 1158 (.branch 1153 (.branch 1151 (.branch 1148 (.leaf (87, 1147, 0, 0, 0, [])) (.leaf (78, 1148, 128, 0, 121, [1143, 1144, 1145]))) (.branch 1152 (.leaf (13, 1151, 0, 2, 0, [])) (.leaf (13, 1152, 0, 0, 0, [])))) (.branch 1155 (.branch 1154 (.leaf (9, 1153, 0, 3, 0, [])) (.leaf (1, 1154, 0, 0, 9223372036854775809, []))) (.branch 1156 (.leaf (21, 1155, 0, 0, 0, [])) (.branch 1157 (.leaf (87, 1156, 0, 0, 0, [])) (.leaf (13, 1157, 0, 0, 0, [])))))) (.branch 1162 (.branch 1160 (.branch 1159 (.leaf (9, 1158, 0, 3, 0, [])) (.leaf (1, 1159, 0, 0, 9223372036854775810, []))) (.branch 1161 (.leaf (21, 1160, 0, 0, 0, [])) (.leaf (87, 1161, 0, 0, 0, [])))) (.branch 1168 (.branch 1165 (.leaf (78, 1162, 248, 0, 124, [1819, 1820, 1821])) (.leaf (52, 1165, 1655, 0, 0, []))) (.branch 1169 (.leaf (1, 1168, 0, 0, 9223372036854775808, [])) (.branch 1170 (.leaf (83, 1169, 1, 0, 0, [])) (.leaf (13, 1170, 0, 1, 0, []))))))) (.branch 1182 (.branch 1175 (.branch 1173 (.branch 1172 (.leaf (13, 1171, 0, 0, 0, [])) (.leaf (9, 1172, 0, 3, 0, []))) (.branch 1174 (.leaf (1, 1173, 0, 0, 9223372036854775809, [])) (.leaf (21, 1174, 0, 0, 0, [])))) (.branch 1179 (.branch 1176 (.leaf (87, 1175, 0, 0, 0, [])) (.leaf (78, 1176, 137, 0, 125, [1178, 1179, 1180]))) (.branch 1180 (.leaf (13, 1179, 0, 2, 0, [])) (.branch 1181 (.leaf (13, 1180, 0, 0, 0, [])) (.leaf (9, 1181, 0, 3, 0, [])))))) (.branch 1191 (.branch 1184 (.branch 1183 (.leaf (1, 1182, 0, 0, 9223372036854775809, [])) (.leaf (21, 1183, 0, 0, 0, []))) (.branch 1185 (.leaf (87, 1184, 0, 0, 0, [])) (.branch 1188 (.leaf (78, 1185, 253, 0, 128, [1839, 1840, 1841])) (.leaf (52, 1188, 1655, 0, 0, []))))) (.branch 1193 (.branch 1192 (.leaf (1, 1191, 0, 0, 9223372036854775808, [])) (.leaf (83, 1192, 1, 0, 0, []))) (.branch 1194 (.leaf (13, 1193, 0, 1, 0, [])) (.branch 1195 (.leaf (13, 1194, 0, 0, 0, [])) (.leaf (9, 1195, 0, 3, 0, []))))))))) (.branch 1245 (.branch 1224 (.branch 1207 (.branch 1202 (.branch 1198 (.branch 1197 (.leaf (1, 1196, 0, 0, 9223372036854775809, [])) (.leaf (21, 1197, 0, 0, 0, []))) (.branch 1199 (.leaf (87, 1198, 0, 0, 0, [])) (.leaf (78, 1199, 138, 0, 129, [1182, 1183, 1184])))) (.branch 1204 (.branch 1203 (.leaf (13, 1202, 0, 2, 0, [])) (.leaf (13, 1203, 0, 0, 0, []))) (.branch 1205 (.leaf (9, 1204, 0, 3, 0, [])) (.branch 1206 (.leaf (1, 1205, 0, 0, 9223372036854775809, [])) (.leaf (21, 1206, 0, 0, 0, [])))))) (.branch 1215 (.branch 1211 (.branch 1208 (.leaf (87, 1207, 0, 0, 0, [])) (.leaf (78, 1208, 254, 0, 132, [1843, 1844, 1845]))) (.branch 1214 (.leaf (52, 1211, 1655, 0, 0, [])) (.leaf (1, 1214, 0, 0, 9223372036854775808, [])))) (.branch 1217 (.branch 1216 (.leaf (83, 1215, 1, 0, 0, [])) (.leaf (13, 1216, 0, 1, 0, []))) (.branch 1220 (.leaf (78, 1217, 139, 0, 133, [1186, 1187, 1188])) (.branch 1221 (.leaf (13, 1220, 0, 2, 0, [])) (.leaf (78, 1221, 255, 0, 136, [1847, 1848, 1849]))))))) (.branch 1235 (.branch 1230 (.branch 1228 (.branch 1227 (.leaf (52, 1224, 1655, 0, 0, [])) (.leaf (1, 1227, 0, 0, 9223372036854775808, []))) (.branch 1229 (.leaf (83, 1228, 1, 0, 0, [])) (.leaf (13, 1229, 0, 1, 0, [])))) (.branch 1232 (.branch 1231 (.leaf (13, 1230, 0, 0, 0, [])) (.leaf (9, 1231, 0, 3, 0, []))) (.branch 1233 (.leaf (1, 1232, 0, 0, 9223372036854775809, [])) (.branch 1234 (.leaf (21, 1233, 0, 0, 0, [])) (.leaf (87, 1234, 0, 0, 0, [])))))) (.branch 1240 (.branch 1237 (.branch 1236 (.leaf (13, 1235, 0, 0, 0, [])) (.leaf (9, 1236, 0, 3, 0, []))) (.branch 1238 (.leaf (1, 1237, 0, 0, 9223372036854775810, [])) (.branch 1239 (.leaf (21, 1238, 0, 0, 0, [])) (.leaf (87, 1239, 0, 0, 0, []))))) (.branch 1242 (.branch 1241 (.leaf (13, 1240, 0, 0, 0, [])) (.leaf (9, 1241, 0, 3, 0, []))) (.branch 1243 (.leaf (1, 1242, 0, 0, 9223372036854775811, [])) (.branch 1244 (.leaf (21, 1243, 0, 0, 0, [])) (.leaf (87, 1244, 0, 0, 0, [])))))))) (.branch 1270 (.branch 1256 (.branch 1251 (.branch 1249 (.branch 1248 (.leaf (78, 1245, 140, 0, 137, [1190, 1191, 1192])) (.leaf (13, 1248, 0, 2, 0, []))) (.branch 1250 (.leaf (13, 1249, 0, 0, 0, [])) (.leaf (9, 1250, 0, 3, 0, [])))) (.branch 1253 (.branch 1252 (.leaf (1, 1251, 0, 0, 9223372036854775809, [])) (.leaf (21, 1252, 0, 0, 0, []))) (.branch 1254 (.leaf (87, 1253, 0, 0, 0, [])) (.branch 1255 (.leaf (13, 1254, 0, 0, 0, [])) (.leaf (9, 1255, 0, 3, 0, [])))))) (.branch 1261 (.branch 1258 (.branch 1257 (.leaf (1, 1256, 0, 0, 9223372036854775810, [])) (.leaf (21, 1257, 0, 0, 0, []))) (.branch 1259 (.leaf (87, 1258, 0, 0, 0, [])) (.branch 1260 (.leaf (13, 1259, 0, 0, 0, [])) (.leaf (9, 1260, 0, 3, 0, []))))) (.branch 1263 (.branch 1262 (.leaf (1, 1261, 0, 0, 9223372036854775811, [])) (.leaf (21, 1262, 0, 0, 0, []))) (.branch 1264 (.leaf (87, 1263, 0, 0, 0, [])) (.branch 1267 (.leaf (78, 1264, 256, 0, 140, [1851, 1852, 1853])) (.leaf (52, 1267, 1655, 0, 0, []))))))) (.branch 1281 (.branch 1274 (.branch 1272 (.branch 1271 (.leaf (1, 1270, 0, 0, 9223372036854775808, [])) (.leaf (83, 1271, 1, 0, 0, []))) (.branch 1273 (.leaf (13, 1272, 0, 1, 0, [])) (.leaf (13, 1273, 0, 0, 0, [])))) (.branch 1276 (.branch 1275 (.leaf (9, 1274, 0, 3, 0, [])) (.leaf (1, 1275, 0, 0, 9223372036854775809, []))) (.branch 1277 (.leaf (21, 1276, 0, 0, 0, [])) (.branch 1278 (.leaf (87, 1277, 0, 0, 0, [])) (.leaf (78, 1278, 146, 0, 141, [1218, 1219, 1220])))))) (.branch 1286 (.branch 1283 (.branch 1282 (.leaf (13, 1281, 0, 2, 0, [])) (.leaf (13, 1282, 0, 0, 0, []))) (.branch 1284 (.leaf (9, 1283, 0, 3, 0, [])) (.branch 1285 (.leaf (1, 1284, 0, 0, 9223372036854775809, [])) (.leaf (21, 1285, 0, 0, 0, []))))) (.branch 1290 (.branch 1287 (.leaf (87, 1286, 0, 0, 0, [])) (.leaf (78, 1287, 259, 0, 144, [1864, 1865, 1866]))) (.branch 1293 (.leaf (52, 1290, 1655, 0, 0, [])) (.branch 1294 (.leaf (1, 1293, 0, 0, 9223372036854775808, [])) (.leaf (83, 1294, 1, 0, 0, []))))))))))) (.branch 1486 (.branch 1389 (.branch 1344 (.branch 1319 (.branch 1310 (.branch 1303 (.branch 1299 (.branch 1296 (.leaf (13, 1295, 0, 1, 0, [])) (.leaf (78, 1296, 147, 0, 145, [1222, 1223, 1224]))) (.branch 1300 (.leaf (13, 1299, 0, 2, 0, [])) (.leaf (78, 1300, 260, 0, 148, [1868, 1869, 1870])))) (.branch 1307 (.branch 1306 (.leaf (52, 1303, 1655, 0, 0, [])) (.leaf (1, 1306, 0, 0, 9223372036854775808, []))) (.branch 1308 (.leaf (83, 1307, 1, 0, 0, [])) (.branch 1309 (.leaf (13, 1308, 0, 1, 0, [])) (.leaf (13, 1309, 0, 0, 0, [])))))) (.branch 1314 (.branch 1312 (.branch 1311 (.leaf (9, 1310, 0, 3, 0, [])) (.leaf (1, 1311, 0, 0, 9223372036854775809, []))) (.branch 1313 (.leaf (21, 1312, 0, 0, 0, [])) (.leaf (87, 1313, 0, 0, 0, [])))) (.branch 1316 (.branch 1315 (.leaf (13, 1314, 0, 0, 0, [])) (.leaf (9, 1315, 0, 3, 0, []))) (.branch 1317 (.leaf (1, 1316, 0, 0, 9223372036854775810, [])) (.branch 1318 (.leaf (21, 1317, 0, 0, 0, [])) (.leaf (87, 1318, 0, 0, 0, []))))))) (.branch 1330 (.branch 1325 (.branch 1323 (.branch 1322 (.leaf (78, 1319, 148, 0, 149, [1227, 1228, 1229])) (.leaf (13, 1322, 0, 2, 0, []))) (.branch 1324 (.leaf (13, 1323, 0, 0, 0, [])) (.leaf (9, 1324, 0, 3, 0, [])))) (.branch 1327 (.branch 1326 (.leaf (1, 1325, 0, 0, 9223372036854775809, [])) (.leaf (21, 1326, 0, 0, 0, []))) (.branch 1328 (.leaf (87, 1327, 0, 0, 0, [])) (.branch 1329 (.leaf (13, 1328, 0, 0, 0, [])) (.leaf (9, 1329, 0, 3, 0, [])))))) (.branch 1339 (.branch 1332 (.branch 1331 (.leaf (1, 1330, 0, 0, 9223372036854775810, [])) (.leaf (21, 1331, 0, 0, 0, []))) (.branch 1333 (.leaf (87, 1332, 0, 0, 0, [])) (.branch 1336 (.leaf (78, 1333, 204, 0, 152, [1619, 1620, 1621])) (.leaf (52, 1336, 1655, 0, 0, []))))) (.branch 1341 (.branch 1340 (.leaf (1, 1339, 0, 0, 9223372036854775808, [])) (.leaf (83, 1340, 1, 0, 0, []))) (.branch 1342 (.leaf (13, 1341, 0, 1, 0, [])) (.branch 1343 (.leaf (13, 1342, 0, 0, 0, [])) (.leaf (9, 1343, 0, 3, 0, [])))))))) (.branch 1364 (.branch 1355 (.branch 1348 (.branch 1346 (.branch 1345 (.leaf (1, 1344, 0, 0, 9223372036854775809, [])) (.leaf (21, 1345, 0, 0, 0, []))) (.branch 1347 (.leaf (87, 1346, 0, 0, 0, [])) (.leaf (13, 1347, 0, 0, 0, [])))) (.branch 1350 (.branch 1349 (.leaf (9, 1348, 0, 3, 0, [])) (.leaf (1, 1349, 0, 0, 9223372036854775810, []))) (.branch 1351 (.leaf (21, 1350, 0, 0, 0, [])) (.branch 1352 (.leaf (87, 1351, 0, 0, 0, [])) (.leaf (78, 1352, 150, 0, 153, [1236, 1237, 1238])))))) (.branch 1359 (.branch 1357 (.branch 1356 (.leaf (13, 1355, 0, 2, 0, [])) (.leaf (13, 1356, 0, 0, 0, []))) (.branch 1358 (.leaf (9, 1357, 0, 3, 0, [])) (.leaf (1, 1358, 0, 0, 9223372036854775809, [])))) (.branch 1361 (.branch 1360 (.leaf (21, 1359, 0, 0, 0, [])) (.leaf (87, 1360, 0, 0, 0, []))) (.branch 1362 (.leaf (13, 1361, 0, 0, 0, [])) (.branch 1363 (.leaf (9, 1362, 0, 3, 0, [])) (.leaf (1, 1363, 0, 0, 9223372036854775810, []))))))) (.branch 1377 (.branch 1372 (.branch 1366 (.branch 1365 (.leaf (21, 1364, 0, 0, 0, [])) (.leaf (87, 1365, 0, 0, 0, []))) (.branch 1369 (.leaf (78, 1366, 261, 0, 156, [1872, 1873, 1874])) (.leaf (52, 1369, 1655, 0, 0, [])))) (.branch 1374 (.branch 1373 (.leaf (1, 1372, 0, 0, 9223372036854775808, [])) (.leaf (83, 1373, 1, 0, 0, []))) (.branch 1375 (.leaf (13, 1374, 0, 1, 0, [])) (.branch 1376 (.leaf (13, 1375, 0, 0, 0, [])) (.leaf (9, 1376, 0, 3, 0, [])))))) (.branch 1382 (.branch 1379 (.branch 1378 (.leaf (1, 1377, 0, 0, 9223372036854775809, [])) (.leaf (21, 1378, 0, 0, 0, []))) (.branch 1380 (.leaf (87, 1379, 0, 0, 0, [])) (.branch 1381 (.leaf (13, 1380, 0, 0, 0, [])) (.leaf (9, 1381, 0, 3, 0, []))))) (.branch 1384 (.branch 1383 (.leaf (1, 1382, 0, 0, 9223372036854775810, [])) (.leaf (21, 1383, 0, 0, 0, []))) (.branch 1385 (.leaf (87, 1384, 0, 0, 0, [])) (.branch 1388 (.leaf (78, 1385, 154, 0, 157, [1252, 1253, 1254])) (.leaf (13, 1388, 0, 2, 0, []))))))))) (.branch 1436 (.branch 1411 (.branch 1398 (.branch 1393 (.branch 1391 (.branch 1390 (.leaf (13, 1389, 0, 0, 0, [])) (.leaf (9, 1390, 0, 3, 0, []))) (.branch 1392 (.leaf (1, 1391, 0, 0, 9223372036854775809, [])) (.leaf (21, 1392, 0, 0, 0, [])))) (.branch 1395 (.branch 1394 (.leaf (87, 1393, 0, 0, 0, [])) (.leaf (13, 1394, 0, 0, 0, []))) (.branch 1396 (.leaf (9, 1395, 0, 3, 0, [])) (.branch 1397 (.leaf (1, 1396, 0, 0, 9223372036854775810, [])) (.leaf (21, 1397, 0, 0, 0, [])))))) (.branch 1406 (.branch 1402 (.branch 1399 (.leaf (87, 1398, 0, 0, 0, [])) (.leaf (78, 1399, 263, 0, 160, [1880, 1881, 1882]))) (.branch 1405 (.leaf (52, 1402, 1655, 0, 0, [])) (.leaf (1, 1405, 0, 0, 9223372036854775808, [])))) (.branch 1408 (.branch 1407 (.leaf (83, 1406, 1, 0, 0, [])) (.leaf (13, 1407, 0, 1, 0, []))) (.branch 1409 (.leaf (13, 1408, 0, 0, 0, [])) (.branch 1410 (.leaf (9, 1409, 0, 3, 0, [])) (.leaf (1, 1410, 0, 0, 9223372036854775809, []))))))) (.branch 1422 (.branch 1417 (.branch 1413 (.branch 1412 (.leaf (21, 1411, 0, 0, 0, [])) (.leaf (87, 1412, 0, 0, 0, []))) (.branch 1416 (.leaf (78, 1413, 156, 0, 161, [1261, 1262, 1263])) (.leaf (13, 1416, 0, 2, 0, [])))) (.branch 1419 (.branch 1418 (.leaf (13, 1417, 0, 0, 0, [])) (.leaf (9, 1418, 0, 3, 0, []))) (.branch 1420 (.leaf (1, 1419, 0, 0, 9223372036854775809, [])) (.branch 1421 (.leaf (21, 1420, 0, 0, 0, [])) (.leaf (87, 1421, 0, 0, 0, [])))))) (.branch 1431 (.branch 1428 (.branch 1425 (.leaf (78, 1422, 264, 0, 164, [1884, 1885, 1886])) (.leaf (52, 1425, 1655, 0, 0, []))) (.branch 1429 (.leaf (1, 1428, 0, 0, 9223372036854775808, [])) (.branch 1430 (.leaf (83, 1429, 1, 0, 0, [])) (.leaf (13, 1430, 0, 1, 0, []))))) (.branch 1433 (.branch 1432 (.leaf (13, 1431, 0, 0, 0, [])) (.leaf (9, 1432, 0, 3, 0, []))) (.branch 1434 (.leaf (1, 1433, 0, 0, 9223372036854775809, [])) (.branch 1435 (.leaf (21, 1434, 0, 0, 0, [])) (.leaf (87, 1435, 0, 0, 0, [])))))))) (.branch 1463 (.branch 1451 (.branch 1442 (.branch 1440 (.branch 1439 (.leaf (78, 1436, 161, 0, 165, [1284, 1285, 1286])) (.leaf (13, 1439, 0, 2, 0, []))) (.branch 1441 (.leaf (13, 1440, 0, 0, 0, [])) (.leaf (9, 1441, 0, 3, 0, [])))) (.branch 1444 (.branch 1443 (.leaf (1, 1442, 0, 0, 9223372036854775809, [])) (.leaf (21, 1443, 0, 0, 0, []))) (.branch 1445 (.leaf (87, 1444, 0, 0, 0, [])) (.branch 1448 (.leaf (78, 1445, 175, 0, 168, [1467, 1468, 1469])) (.leaf (52, 1448, 1655, 0, 0, [])))))) (.branch 1456 (.branch 1453 (.branch 1452 (.leaf (1, 1451, 0, 0, 9223372036854775808, [])) (.leaf (83, 1452, 1, 0, 0, []))) (.branch 1454 (.leaf (13, 1453, 0, 1, 0, [])) (.branch 1455 (.leaf (13, 1454, 0, 0, 0, [])) (.leaf (9, 1455, 0, 3, 0, []))))) (.branch 1458 (.branch 1457 (.leaf (1, 1456, 0, 0, 9223372036854775809, [])) (.leaf (21, 1457, 0, 0, 0, []))) (.branch 1459 (.leaf (87, 1458, 0, 0, 0, [])) (.branch 1462 (.leaf (78, 1459, 164, 0, 169, [1299, 1300, 1301])) (.leaf (13, 1462, 0, 2, 0, []))))))) (.branch 1476 (.branch 1467 (.branch 1465 (.branch 1464 (.leaf (13, 1463, 0, 0, 0, [])) (.leaf (9, 1464, 0, 3, 0, []))) (.branch 1466 (.leaf (1, 1465, 0, 0, 9223372036854775809, [])) (.leaf (21, 1466, 0, 0, 0, [])))) (.branch 1471 (.branch 1468 (.leaf (87, 1467, 0, 0, 0, [])) (.leaf (78, 1468, 177, 0, 172, [1475, 1476, 1477]))) (.branch 1474 (.leaf (52, 1471, 1655, 0, 0, [])) (.branch 1475 (.leaf (1, 1474, 0, 0, 9223372036854775808, [])) (.leaf (83, 1475, 1, 0, 0, [])))))) (.branch 1481 (.branch 1478 (.branch 1477 (.leaf (13, 1476, 0, 1, 0, [])) (.leaf (13, 1477, 0, 0, 0, []))) (.branch 1479 (.leaf (9, 1478, 0, 3, 0, [])) (.branch 1480 (.leaf (1, 1479, 0, 0, 9223372036854775809, [])) (.leaf (21, 1480, 0, 0, 0, []))))) (.branch 1483 (.branch 1482 (.leaf (87, 1481, 0, 0, 0, [])) (.leaf (13, 1482, 0, 0, 0, []))) (.branch 1484 (.leaf (9, 1483, 0, 3, 0, [])) (.branch 1485 (.leaf (1, 1484, 0, 0, 9223372036854775810, [])) (.leaf (21, 1485, 0, 0, 0, [])))))))))) (.branch 1572 (.branch 1529 (.branch 1506 (.branch 1497 (.branch 1490 (.branch 1488 (.branch 1487 (.leaf (87, 1486, 0, 0, 0, [])) (.leaf (13, 1487, 0, 0, 0, []))) (.branch 1489 (.leaf (9, 1488, 0, 3, 0, [])) (.leaf (1, 1489, 0, 0, 9223372036854775811, [])))) (.branch 1492 (.branch 1491 (.leaf (21, 1490, 0, 0, 0, [])) (.leaf (87, 1491, 0, 0, 0, []))) (.branch 1495 (.leaf (78, 1492, 165, 0, 173, [1303, 1304, 1305])) (.branch 1496 (.leaf (13, 1495, 0, 2, 0, [])) (.leaf (13, 1496, 0, 0, 0, [])))))) (.branch 1501 (.branch 1499 (.branch 1498 (.leaf (9, 1497, 0, 3, 0, [])) (.leaf (1, 1498, 0, 0, 9223372036854775809, []))) (.branch 1500 (.leaf (21, 1499, 0, 0, 0, [])) (.leaf (87, 1500, 0, 0, 0, [])))) (.branch 1503 (.branch 1502 (.leaf (13, 1501, 0, 0, 0, [])) (.leaf (9, 1502, 0, 3, 0, []))) (.branch 1504 (.leaf (1, 1503, 0, 0, 9223372036854775810, [])) (.branch 1505 (.leaf (21, 1504, 0, 0, 0, [])) (.leaf (87, 1505, 0, 0, 0, []))))))) (.branch 1519 (.branch 1510 (.branch 1508 (.branch 1507 (.leaf (13, 1506, 0, 0, 0, [])) (.leaf (9, 1507, 0, 3, 0, []))) (.branch 1509 (.leaf (1, 1508, 0, 0, 9223372036854775811, [])) (.leaf (21, 1509, 0, 0, 0, [])))) (.branch 1514 (.branch 1511 (.leaf (87, 1510, 0, 0, 0, [])) (.leaf (78, 1511, 265, 0, 176, [1889, 1890, 1891]))) (.branch 1517 (.leaf (52, 1514, 1655, 0, 0, [])) (.branch 1518 (.leaf (1, 1517, 0, 0, 9223372036854775808, [])) (.leaf (83, 1518, 1, 0, 0, [])))))) (.branch 1524 (.branch 1521 (.branch 1520 (.leaf (13, 1519, 0, 1, 0, [])) (.leaf (13, 1520, 0, 0, 0, []))) (.branch 1522 (.leaf (9, 1521, 0, 3, 0, [])) (.branch 1523 (.leaf (1, 1522, 0, 0, 9223372036854775809, [])) (.leaf (21, 1523, 0, 0, 0, []))))) (.branch 1526 (.branch 1525 (.leaf (87, 1524, 0, 0, 0, [])) (.leaf (13, 1525, 0, 0, 0, []))) (.branch 1527 (.leaf (9, 1526, 0, 3, 0, [])) (.branch 1528 (.leaf (1, 1527, 0, 0, 9223372036854775810, [])) (.leaf (21, 1528, 0, 0, 0, [])))))))) (.branch 1550 (.branch 1539 (.branch 1533 (.branch 1531 (.branch 1530 (.leaf (87, 1529, 0, 0, 0, [])) (.leaf (13, 1530, 0, 0, 0, []))) (.branch 1532 (.leaf (9, 1531, 0, 3, 0, [])) (.leaf (1, 1532, 0, 0, 9223372036854775811, [])))) (.branch 1535 (.branch 1534 (.leaf (21, 1533, 0, 0, 0, [])) (.leaf (87, 1534, 0, 0, 0, []))) (.branch 1536 (.leaf (40, 1535, 0, 0, 0, [])) (.branch 1538 (.leaf (2, 1536, 0, 0, 9223372036854775840, [])) (.leaf (38, 1538, 0, 0, 0, [])))))) (.branch 1543 (.branch 1541 (.branch 1540 (.leaf (13, 1539, 0, 0, 0, [])) (.leaf (9, 1540, 0, 3, 0, []))) (.branch 1542 (.leaf (1, 1541, 0, 0, 9223372036854775812, [])) (.leaf (21, 1542, 0, 0, 0, [])))) (.branch 1545 (.branch 1544 (.leaf (87, 1543, 0, 0, 0, [])) (.leaf (40, 1544, 0, 0, 0, []))) (.branch 1548 (.leaf (7, 1545, 177, 0, 9223372041149743103, [1904])) (.branch 1549 (.leaf (35, 1548, 0, 0, 0, [])) (.leaf (36, 1549, 0, 0, 0, []))))))) (.branch 1561 (.branch 1556 (.branch 1554 (.branch 1553 (.leaf (78, 1550, 167, 0, 179, [1311, 1312, 1313])) (.leaf (13, 1553, 0, 2, 0, []))) (.branch 1555 (.leaf (13, 1554, 0, 0, 0, [])) (.leaf (9, 1555, 0, 3, 0, [])))) (.branch 1558 (.branch 1557 (.leaf (1, 1556, 0, 0, 9223372036854775809, [])) (.leaf (21, 1557, 0, 0, 0, []))) (.branch 1559 (.leaf (87, 1558, 0, 0, 0, [])) (.branch 1560 (.leaf (13, 1559, 0, 0, 0, [])) (.leaf (9, 1560, 0, 3, 0, [])))))) (.branch 1566 (.branch 1563 (.branch 1562 (.leaf (1, 1561, 0, 0, 9223372036854775810, [])) (.leaf (21, 1562, 0, 0, 0, []))) (.branch 1564 (.leaf (87, 1563, 0, 0, 0, [])) (.branch 1565 (.leaf (13, 1564, 0, 0, 0, [])) (.leaf (9, 1565, 0, 3, 0, []))))) (.branch 1568 (.branch 1567 (.leaf (1, 1566, 0, 0, 9223372036854775811, [])) (.leaf (21, 1567, 0, 0, 0, []))) (.branch 1569 (.leaf (87, 1568, 0, 0, 0, [])) (.branch 1570 (.leaf (40, 1569, 0, 0, 0, [])) (.leaf (2, 1570, 0, 0, 9223372036854775840, []))))))))) (.branch 1615 (.branch 1596 (.branch 1583 (.branch 1576 (.branch 1574 (.branch 1573 (.leaf (38, 1572, 0, 0, 0, [])) (.leaf (13, 1573, 0, 0, 0, []))) (.branch 1575 (.leaf (9, 1574, 0, 3, 0, [])) (.leaf (1, 1575, 0, 0, 9223372036854775812, [])))) (.branch 1578 (.branch 1577 (.leaf (21, 1576, 0, 0, 0, [])) (.leaf (87, 1577, 0, 0, 0, []))) (.branch 1579 (.leaf (40, 1578, 0, 0, 0, [])) (.branch 1582 (.leaf (7, 1579, 177, 0, 9223372041149743103, [1904])) (.leaf (35, 1582, 0, 0, 0, [])))))) (.branch 1591 (.branch 1587 (.branch 1584 (.leaf (36, 1583, 0, 0, 0, [])) (.leaf (78, 1584, 266, 0, 183, [1893, 1894, 1895]))) (.branch 1590 (.leaf (52, 1587, 1655, 0, 0, [])) (.leaf (1, 1590, 0, 0, 9223372036854775808, [])))) (.branch 1593 (.branch 1592 (.leaf (83, 1591, 1, 0, 0, [])) (.leaf (13, 1592, 0, 1, 0, []))) (.branch 1594 (.leaf (13, 1593, 0, 0, 0, [])) (.branch 1595 (.leaf (9, 1594, 0, 3, 0, [])) (.leaf (1, 1595, 0, 0, 9223372036854775809, []))))))) (.branch 1605 (.branch 1600 (.branch 1598 (.branch 1597 (.leaf (21, 1596, 0, 0, 0, [])) (.leaf (87, 1597, 0, 0, 0, []))) (.branch 1599 (.leaf (13, 1598, 0, 0, 0, [])) (.leaf (9, 1599, 0, 3, 0, [])))) (.branch 1602 (.branch 1601 (.leaf (1, 1600, 0, 0, 9223372036854775810, [])) (.leaf (21, 1601, 0, 0, 0, []))) (.branch 1603 (.leaf (87, 1602, 0, 0, 0, [])) (.branch 1604 (.leaf (13, 1603, 0, 0, 0, [])) (.leaf (9, 1604, 0, 3, 0, [])))))) (.branch 1610 (.branch 1607 (.branch 1606 (.leaf (1, 1605, 0, 0, 9223372036854775811, [])) (.leaf (21, 1606, 0, 0, 0, []))) (.branch 1608 (.leaf (87, 1607, 0, 0, 0, [])) (.branch 1609 (.leaf (13, 1608, 0, 0, 0, [])) (.leaf (9, 1609, 0, 3, 0, []))))) (.branch 1612 (.branch 1611 (.leaf (1, 1610, 0, 0, 9223372036854775812, [])) (.leaf (21, 1611, 0, 0, 0, []))) (.branch 1613 (.leaf (87, 1612, 0, 0, 0, [])) (.branch 1614 (.leaf (13, 1613, 0, 0, 0, [])) (.leaf (9, 1614, 0, 3, 0, [])))))))) (.branch 1636 (.branch 1626 (.branch 1621 (.branch 1617 (.branch 1616 (.leaf (1, 1615, 0, 0, 9223372036854775813, [])) (.leaf (21, 1616, 0, 0, 0, []))) (.branch 1618 (.leaf (87, 1617, 0, 0, 0, [])) (.leaf (78, 1618, 169, 0, 184, [1319, 1320, 1321])))) (.branch 1623 (.branch 1622 (.leaf (13, 1621, 0, 2, 0, [])) (.leaf (13, 1622, 0, 0, 0, []))) (.branch 1624 (.leaf (9, 1623, 0, 3, 0, [])) (.branch 1625 (.leaf (1, 1624, 0, 0, 9223372036854775809, [])) (.leaf (21, 1625, 0, 0, 0, [])))))) (.branch 1631 (.branch 1628 (.branch 1627 (.leaf (87, 1626, 0, 0, 0, [])) (.leaf (13, 1627, 0, 0, 0, []))) (.branch 1629 (.leaf (9, 1628, 0, 3, 0, [])) (.branch 1630 (.leaf (1, 1629, 0, 0, 9223372036854775810, [])) (.leaf (21, 1630, 0, 0, 0, []))))) (.branch 1633 (.branch 1632 (.leaf (87, 1631, 0, 0, 0, [])) (.leaf (13, 1632, 0, 0, 0, []))) (.branch 1634 (.leaf (9, 1633, 0, 3, 0, [])) (.branch 1635 (.leaf (1, 1634, 0, 0, 9223372036854775811, [])) (.leaf (21, 1635, 0, 0, 0, []))))))) (.branch 1645 (.branch 1640 (.branch 1638 (.branch 1637 (.leaf (87, 1636, 0, 0, 0, [])) (.leaf (13, 1637, 0, 0, 0, []))) (.branch 1639 (.leaf (9, 1638, 0, 3, 0, [])) (.leaf (1, 1639, 0, 0, 9223372036854775812, [])))) (.branch 1642 (.branch 1641 (.leaf (21, 1640, 0, 0, 0, [])) (.leaf (87, 1641, 0, 0, 0, []))) (.branch 1643 (.leaf (13, 1642, 0, 0, 0, [])) (.branch 1644 (.leaf (9, 1643, 0, 3, 0, [])) (.leaf (1, 1644, 0, 0, 9223372036854775813, [])))))) (.branch 1654 (.branch 1647 (.branch 1646 (.leaf (21, 1645, 0, 0, 0, [])) (.leaf (87, 1646, 0, 0, 0, []))) (.branch 1650 (.leaf (78, 1647, 268, 0, 187, [1900, 1901, 1902])) (.branch 1653 (.leaf (52, 1650, 1655, 0, 0, [])) (.leaf (1, 1653, 0, 0, 9223372036854775808, []))))) (.branch 1658 (.branch 1655 (.leaf (83, 1654, 1, 0, 0, [])) (.leaf (20, 1655, 0, 3, 9223372036854775815, []))) (.branch 1661 (.leaf (58, 1658, 18, 0, 0, [])) (.branch 1662 (.leaf (1, 1661, 0, 0, 9223372036854775809, [])) (.leaf (83, 1662, 1, 0, 0, []))))))))))))
noncomputable def abM278 : abM := ((⟨"TallBinsLaw", "law", "([I)Z"⟩, code, 4, some .boolean), 1, 600000, 7302249, 99, abK278)
noncomputable def abMt : Lean.RArray abM := .branch 139 (.branch 69 (.branch 34 (.branch 17 (.branch 8 (.branch 4 (.branch 2 (.branch 1 (.leaf abM0) (.leaf abM1)) (.branch 3 (.leaf abM2) (.leaf abM3))) (.branch 6 (.branch 5 (.leaf abM4) (.leaf abM5)) (.branch 7 (.leaf abM6) (.leaf abM7)))) (.branch 12 (.branch 10 (.branch 9 (.leaf abM8) (.leaf abM9)) (.branch 11 (.leaf abM10) (.leaf abM11))) (.branch 14 (.branch 13 (.leaf abM12) (.leaf abM13)) (.branch 15 (.leaf abM14) (.branch 16 (.leaf abM15) (.leaf abM16)))))) (.branch 25 (.branch 21 (.branch 19 (.branch 18 (.leaf abM17) (.leaf abM18)) (.branch 20 (.leaf abM19) (.leaf abM20))) (.branch 23 (.branch 22 (.leaf abM21) (.leaf abM22)) (.branch 24 (.leaf abM23) (.leaf abM24)))) (.branch 29 (.branch 27 (.branch 26 (.leaf abM25) (.leaf abM26)) (.branch 28 (.leaf abM27) (.leaf abM28))) (.branch 31 (.branch 30 (.leaf abM29) (.leaf abM30)) (.branch 32 (.leaf abM31) (.branch 33 (.leaf abM32) (.leaf abM33))))))) (.branch 51 (.branch 42 (.branch 38 (.branch 36 (.branch 35 (.leaf abM34) (.leaf abM35)) (.branch 37 (.leaf abM36) (.leaf abM37))) (.branch 40 (.branch 39 (.leaf abM38) (.leaf abM39)) (.branch 41 (.leaf abM40) (.leaf abM41)))) (.branch 46 (.branch 44 (.branch 43 (.leaf abM42) (.leaf abM43)) (.branch 45 (.leaf abM44) (.leaf abM45))) (.branch 48 (.branch 47 (.leaf abM46) (.leaf abM47)) (.branch 49 (.leaf abM48) (.branch 50 (.leaf abM49) (.leaf abM50)))))) (.branch 60 (.branch 55 (.branch 53 (.branch 52 (.leaf abM51) (.leaf abM52)) (.branch 54 (.leaf abM53) (.leaf abM54))) (.branch 57 (.branch 56 (.leaf abM55) (.leaf abM56)) (.branch 58 (.leaf abM57) (.branch 59 (.leaf abM58) (.leaf abM59))))) (.branch 64 (.branch 62 (.branch 61 (.leaf abM60) (.leaf abM61)) (.branch 63 (.leaf abM62) (.leaf abM63))) (.branch 66 (.branch 65 (.leaf abM64) (.leaf abM65)) (.branch 67 (.leaf abM66) (.branch 68 (.leaf abM67) (.leaf abM68)))))))) (.branch 104 (.branch 86 (.branch 77 (.branch 73 (.branch 71 (.branch 70 (.leaf abM69) (.leaf abM70)) (.branch 72 (.leaf abM71) (.leaf abM72))) (.branch 75 (.branch 74 (.leaf abM73) (.leaf abM74)) (.branch 76 (.leaf abM75) (.leaf abM76)))) (.branch 81 (.branch 79 (.branch 78 (.leaf abM77) (.leaf abM78)) (.branch 80 (.leaf abM79) (.leaf abM80))) (.branch 83 (.branch 82 (.leaf abM81) (.leaf abM82)) (.branch 84 (.leaf abM83) (.branch 85 (.leaf abM84) (.leaf abM85)))))) (.branch 95 (.branch 90 (.branch 88 (.branch 87 (.leaf abM86) (.leaf abM87)) (.branch 89 (.leaf abM88) (.leaf abM89))) (.branch 92 (.branch 91 (.leaf abM90) (.leaf abM91)) (.branch 93 (.leaf abM92) (.branch 94 (.leaf abM93) (.leaf abM94))))) (.branch 99 (.branch 97 (.branch 96 (.leaf abM95) (.leaf abM96)) (.branch 98 (.leaf abM97) (.leaf abM98))) (.branch 101 (.branch 100 (.leaf abM99) (.leaf abM100)) (.branch 102 (.leaf abM101) (.branch 103 (.leaf abM102) (.leaf abM103))))))) (.branch 121 (.branch 112 (.branch 108 (.branch 106 (.branch 105 (.leaf abM104) (.leaf abM105)) (.branch 107 (.leaf abM106) (.leaf abM107))) (.branch 110 (.branch 109 (.leaf abM108) (.leaf abM109)) (.branch 111 (.leaf abM110) (.leaf abM111)))) (.branch 116 (.branch 114 (.branch 113 (.leaf abM112) (.leaf abM113)) (.branch 115 (.leaf abM114) (.leaf abM115))) (.branch 118 (.branch 117 (.leaf abM116) (.leaf abM117)) (.branch 119 (.leaf abM118) (.branch 120 (.leaf abM119) (.leaf abM120)))))) (.branch 130 (.branch 125 (.branch 123 (.branch 122 (.leaf abM121) (.leaf abM122)) (.branch 124 (.leaf abM123) (.leaf abM124))) (.branch 127 (.branch 126 (.leaf abM125) (.leaf abM126)) (.branch 128 (.leaf abM127) (.branch 129 (.leaf abM128) (.leaf abM129))))) (.branch 134 (.branch 132 (.branch 131 (.leaf abM130) (.leaf abM131)) (.branch 133 (.leaf abM132) (.leaf abM133))) (.branch 136 (.branch 135 (.leaf abM134) (.leaf abM135)) (.branch 137 (.leaf abM136) (.branch 138 (.leaf abM137) (.leaf abM138))))))))) (.branch 209 (.branch 174 (.branch 156 (.branch 147 (.branch 143 (.branch 141 (.branch 140 (.leaf abM139) (.leaf abM140)) (.branch 142 (.leaf abM141) (.leaf abM142))) (.branch 145 (.branch 144 (.leaf abM143) (.leaf abM144)) (.branch 146 (.leaf abM145) (.leaf abM146)))) (.branch 151 (.branch 149 (.branch 148 (.leaf abM147) (.leaf abM148)) (.branch 150 (.leaf abM149) (.leaf abM150))) (.branch 153 (.branch 152 (.leaf abM151) (.leaf abM152)) (.branch 154 (.leaf abM153) (.branch 155 (.leaf abM154) (.leaf abM155)))))) (.branch 165 (.branch 160 (.branch 158 (.branch 157 (.leaf abM156) (.leaf abM157)) (.branch 159 (.leaf abM158) (.leaf abM159))) (.branch 162 (.branch 161 (.leaf abM160) (.leaf abM161)) (.branch 163 (.leaf abM162) (.branch 164 (.leaf abM163) (.leaf abM164))))) (.branch 169 (.branch 167 (.branch 166 (.leaf abM165) (.leaf abM166)) (.branch 168 (.leaf abM167) (.leaf abM168))) (.branch 171 (.branch 170 (.leaf abM169) (.leaf abM170)) (.branch 172 (.leaf abM171) (.branch 173 (.leaf abM172) (.leaf abM173))))))) (.branch 191 (.branch 182 (.branch 178 (.branch 176 (.branch 175 (.leaf abM174) (.leaf abM175)) (.branch 177 (.leaf abM176) (.leaf abM177))) (.branch 180 (.branch 179 (.leaf abM178) (.leaf abM179)) (.branch 181 (.leaf abM180) (.leaf abM181)))) (.branch 186 (.branch 184 (.branch 183 (.leaf abM182) (.leaf abM183)) (.branch 185 (.leaf abM184) (.leaf abM185))) (.branch 188 (.branch 187 (.leaf abM186) (.leaf abM187)) (.branch 189 (.leaf abM188) (.branch 190 (.leaf abM189) (.leaf abM190)))))) (.branch 200 (.branch 195 (.branch 193 (.branch 192 (.leaf abM191) (.leaf abM192)) (.branch 194 (.leaf abM193) (.leaf abM194))) (.branch 197 (.branch 196 (.leaf abM195) (.leaf abM196)) (.branch 198 (.leaf abM197) (.branch 199 (.leaf abM198) (.leaf abM199))))) (.branch 204 (.branch 202 (.branch 201 (.leaf abM200) (.leaf abM201)) (.branch 203 (.leaf abM202) (.leaf abM203))) (.branch 206 (.branch 205 (.leaf abM204) (.leaf abM205)) (.branch 207 (.leaf abM206) (.branch 208 (.leaf abM207) (.leaf abM208)))))))) (.branch 244 (.branch 226 (.branch 217 (.branch 213 (.branch 211 (.branch 210 (.leaf abM209) (.leaf abM210)) (.branch 212 (.leaf abM211) (.leaf abM212))) (.branch 215 (.branch 214 (.leaf abM213) (.leaf abM214)) (.branch 216 (.leaf abM215) (.leaf abM216)))) (.branch 221 (.branch 219 (.branch 218 (.leaf abM217) (.leaf abM218)) (.branch 220 (.leaf abM219) (.leaf abM220))) (.branch 223 (.branch 222 (.leaf abM221) (.leaf abM222)) (.branch 224 (.leaf abM223) (.branch 225 (.leaf abM224) (.leaf abM225)))))) (.branch 235 (.branch 230 (.branch 228 (.branch 227 (.leaf abM226) (.leaf abM227)) (.branch 229 (.leaf abM228) (.leaf abM229))) (.branch 232 (.branch 231 (.leaf abM230) (.leaf abM231)) (.branch 233 (.leaf abM232) (.branch 234 (.leaf abM233) (.leaf abM234))))) (.branch 239 (.branch 237 (.branch 236 (.leaf abM235) (.leaf abM236)) (.branch 238 (.leaf abM237) (.leaf abM238))) (.branch 241 (.branch 240 (.leaf abM239) (.leaf abM240)) (.branch 242 (.leaf abM241) (.branch 243 (.leaf abM242) (.leaf abM243))))))) (.branch 261 (.branch 252 (.branch 248 (.branch 246 (.branch 245 (.leaf abM244) (.leaf abM245)) (.branch 247 (.leaf abM246) (.leaf abM247))) (.branch 250 (.branch 249 (.leaf abM248) (.leaf abM249)) (.branch 251 (.leaf abM250) (.leaf abM251)))) (.branch 256 (.branch 254 (.branch 253 (.leaf abM252) (.leaf abM253)) (.branch 255 (.leaf abM254) (.leaf abM255))) (.branch 258 (.branch 257 (.leaf abM256) (.leaf abM257)) (.branch 259 (.leaf abM258) (.branch 260 (.leaf abM259) (.leaf abM260)))))) (.branch 270 (.branch 265 (.branch 263 (.branch 262 (.leaf abM261) (.leaf abM262)) (.branch 264 (.leaf abM263) (.leaf abM264))) (.branch 267 (.branch 266 (.leaf abM265) (.leaf abM266)) (.branch 268 (.leaf abM267) (.branch 269 (.leaf abM268) (.leaf abM269))))) (.branch 274 (.branch 272 (.branch 271 (.leaf abM270) (.leaf abM271)) (.branch 273 (.leaf abM272) (.leaf abM273))) (.branch 276 (.branch 275 (.leaf abM274) (.leaf abM275)) (.branch 277 (.leaf abM276) (.branch 278 (.leaf abM277) (.leaf abM278)))))))))
def abNM : Nat := 276
end
section
/-! THE ENGINE: each instruction a function over one frame's values and the world; nx: what follows in this frame -/
abbrev abCel : Type := Nat × Nat × Lean.RArray abV
abbrev abH : Type := Lean.RArray abCel
/-- the world, how many cells, the arguments' bounds, cells and slots made in this frame -/
abbrev abSt : Type := abH × Nat × abE × Nat × Nat
abbrev abF : Type := Nat × List abV × List abV × abSt
abbrev abR : Type := Option (List abF)
abbrev abNx : Type := Nat → List abV → List abV → abSt → abR
abbrev abPo : Type := abNx → Nat → abEy → Nat → List abV → List abV → abSt → abR
noncomputable def abHd (st : List abV) (f : abV → List abV → abR) : abR := List.rec none (fun v r _ => f v r) st
noncomputable def ab2 (st : List abV) (f : abV → abV → List abV → abR) : abR := abHd st fun w r => abHd r fun v r => f w v r
def abSe (g : abSt) (e : abE) : abSt := (g.1, g.2.1, e, g.2.2.2)
def abSh (g : abSt) (h : abH) : abSt := (h, g.2)
noncomputable def abFail : abPo := fun _ _ _ _ _ _ _ => none
noncomputable def abOc (c len : Nat) : abPo := fun nx _ e pc ls st g => nx (pc + len) ls ((c, e.2.2.2.2.1, e.2.2.2.2.1) :: st) g
noncomputable def abOl (c len : Nat) : abPo := fun nx _ e pc ls st g => abIf (Nat.beq ((abNth ls e.2.2.2.1).1 / 2) c) (nx (pc + len) ls (abNth ls e.2.2.2.1 :: st) g) none
noncomputable def abOs (c len : Nat) : abPo := fun nx _ e pc ls st g => abHd st fun v r => abIf (Nat.beq (v.1 / 2) c) (nx (pc + len) (abSt1 ls e.2.2.2.1 v) r g) none
noncomputable def abOs2 (len : Nat) : abPo := fun nx _ e pc ls st g => abHd st fun v r => abIf (Nat.beq (v.1 / 2) 1) (nx (pc + len) (abSt2 ls e.2.2.2.1 v) r g) none
noncomputable def abOinc : abPo := fun nx _ e pc ls st g => abWi 0 g.2.2.1 (abNth ls e.2.2.2.1) fun a b =>
  nx (pc + 3) (abSt1 ls e.2.2.2.1 (abBI (a + e.2.2.2.2.1 - 9223372036854775808) (b + e.2.2.2.2.1 - 9223372036854775808))) st g
/-! int operations: the bounds of both, and what to do with the result -/
abbrev abOp : Type := abV → abV → Nat → Nat → Nat → Nat → (abV → abR) → abR
noncomputable def abOi (F : abOp) : abPo := fun nx _ _ pc ls st g => ab2 st fun w v r => abWi 0 g.2.2.1 v fun a b => abWi 0 g.2.2.1 w fun c d => F v w a b c d fun u => nx (pc + 1) ls (u :: r) g
def abKi (y : Int32) : abV := (0, (y.toInt + 9223372036854775808).toNat, (y.toInt + 9223372036854775808).toNat)
def abOf (n : Nat) : Int32 := Int32.ofInt ((n : Int) - 9223372036854775808)
noncomputable def abFadd : abOp := fun _ _ a b c d K => K (abBI (a + c - 9223372036854775808) (b + d - 9223372036854775808))
noncomputable def abFsub : abOp := fun v w a b c d K => abIf (Nat.beq (abTag v) 0) (K (abBI (a + 9223372036854775808 - d) (b + 9223372036854775808 - c)))
  (abIf (Nat.beq (abTag v) (abTag w)) (K (0, 9223372036854775808, 9223372036854775808)) (K (abBI (a + 9223372036854775808 - d) (b + 9223372036854775808 - c))))
noncomputable def abFmul : abOp := fun _ _ a b c d K => K (abIf (Nat.ble 9223372036854775808 a) (abIf (Nat.ble 9223372036854775808 c)
  (abBI ((a - 9223372036854775808) * (c - 9223372036854775808) + 9223372036854775808) ((b - 9223372036854775808) * (d - 9223372036854775808) + 9223372036854775808)) abTI) abTI)
/-- known of known numbers alone -/
noncomputable def abFk (f : Int32 → Int32 → Int32) : abOp := fun _ _ a b c d K => K (abIf (Nat.beq a b) (abIf (Nat.beq c d) (abKi (f (abOf a) (abOf c))) abTI) abTI)
/-- a divisor above 0 -/
noncomputable def abFd (f : Int32 → Int32 → Int32) : abOp := fun v w a b c d K => abIf (Nat.ble 9223372036854775809 c) (abFk f v w a b c d K) none
noncomputable def abFand : abOp := fun v w a b c d K => abIf (Nat.beq a b) (abFk (fun x y => x &&& y) v w a b c d K)
  (abIf (Nat.ble 9223372036854775808 c) (K (0, 9223372036854775808, d)) (K abTI))
noncomputable def abOi2 (F : abOp) : abPo := fun nx _ _ pc ls st g => ab2 st fun w v r => abWi 0 g.2.2.1 v fun a b => abWi 0 g.2.2.1 w fun c d =>
  abIf (Nat.beq (abTag v) 0) (abIf (Nat.beq (abTag w) 0) (F v w a b c d fun u => nx (pc + 1) ls (u :: r) g)
    (abIf (Nat.beq c d) (F v w a b c d fun u => nx (pc + 1) ls (u :: r) g)
      (abIf (Nat.ble (d - c) 12) (abSpl 12 (abTag w) g.2.2.1 c d fun e => nx pc ls st (abSe g e)) (F v w a b c d fun u => nx (pc + 1) ls (u :: r) g))))
    (abIf (Nat.beq a b) (F v w a b c d fun u => nx (pc + 1) ls (u :: r) g)
      (abIf (Nat.ble (b - a) 12) (abSpl 12 (abTag v) g.2.2.1 a b fun e => nx pc ls st (abSe g e)) (F v w a b c d fun u => nx (pc + 1) ls (u :: r) g)))
noncomputable def abOneg : abPo := fun nx _ _ pc ls st g => abHd st fun v r => abWi 0 g.2.2.1 v fun a b => nx (pc + 1) ls (abBI (18446744073709551616 - b) (18446744073709551616 - a) :: r) g
/-! long operations -/
noncomputable def abOj (F : Nat → Nat → Nat → Nat → abV) : abPo := fun nx _ _ pc ls st g => ab2 st fun w v r => abWi 2 g.2.2.1 v fun a b => abWi 2 g.2.2.1 w fun c d => nx (pc + 1) ls (F a b c d :: r) g
noncomputable def abGadd : Nat → Nat → Nat → Nat → abV := fun a b c d => abIf (Nat.ble 9223372036854775808 (a + c)) (abBL (a + c - 9223372036854775808) (b + d - 9223372036854775808)) abTL
noncomputable def abGsub : Nat → Nat → Nat → Nat → abV := fun a b c d => abIf (Nat.ble d (a + 9223372036854775808)) (abBL (a + 9223372036854775808 - d) (b + 9223372036854775808 - c)) abTL
noncomputable def abGtop : Nat → Nat → Nat → Nat → abV := fun _ _ _ _ => abTL
noncomputable def abOjs : abPo := fun nx _ _ pc ls st g => ab2 st fun w v r => abWi 0 g.2.2.1 w fun _ _ => abWi 2 g.2.2.1 v fun _ _ => nx (pc + 1) ls (abTL :: r) g
noncomputable def abOi2l : abPo := fun nx _ _ pc ls st g => abHd st fun v r => abIf (Nat.ble v.1 1) (nx (pc + 1) ls ((v.1 + 2, v.2) :: r) g) none
noncomputable def abOl2i : abPo := fun nx _ _ pc ls st g => abHd st fun v r => abWi 2 g.2.2.1 v fun a b => nx (pc + 1) ls (abBI a b :: r) g
noncomputable def abOi2b : abPo := fun nx _ _ pc ls st g => abHd st fun v r => abWi 0 g.2.2.1 v fun _ _ => nx (pc + 1) ls ((0, 9223372036854775680, 9223372036854775935) :: r) g
noncomputable def abOcmp : abPo := fun nx _ _ pc ls st g => ab2 st fun w v r => abWi 2 g.2.2.1 v fun a b => abWi 2 g.2.2.1 w fun c d =>
  abIf (Nat.ble c b) (abIf (Nat.ble a d)
    (abIf (Nat.beq c d) (abIf (Nat.beq a b) (nx (pc + 1) ls ((0, 9223372036854775808, 9223372036854775808) :: r) g)
      (abIf (Nat.beq v.1 3) (nx (pc + 1) ls ((7, v.2.1, c) :: r) g) (nx (pc + 1) ls ((0, 9223372036854775807, 9223372036854775809) :: r) g)))
      (nx (pc + 1) ls ((0, 9223372036854775807, 9223372036854775809) :: r) g))
    (nx (pc + 1) ls ((0, 9223372036854775809, 9223372036854775809) :: r) g))
    (nx (pc + 1) ls ((0, 9223372036854775807, 9223372036854775807) :: r) g)
/-- a value of one slot -/
noncomputable def abOne (v : abV) (k : abR) : abR := abIf (Nat.beq (v.1 / 2) 1) none (abIf (Nat.ble v.1 7) k none)
noncomputable def abOdup : abPo := fun nx _ _ pc ls st g => abHd st fun v r => abOne v (nx (pc + 1) ls (v :: v :: r) g)
noncomputable def abOdup2 : abPo := fun nx _ _ pc ls st g => abHd st fun v r => abIf (Nat.beq (v.1 / 2) 1) (nx (pc + 1) ls (v :: v :: r) g)
  (abHd r fun w r' => abOne v (abOne w (nx (pc + 1) ls (v :: w :: v :: w :: r') g)))
noncomputable def abOif (BR : abBt abF) : abPo := fun nx _ e pc ls st g => abHd st fun v r =>
  abIf (Nat.beq v.1 7) (abWe (fun a b => BR g.2.2.1 (v.2.1 + 1) a b 0 v.2.2 v.2.2 (fun x => nx e.2.2.1 ls r (abSe g x)) (fun x => nx (pc + 3) ls r (abSe g x)) (fun x => nx pc ls st (abSe g x))) g.2.2.1 v.2.1)
    (abWi 0 g.2.2.1 v fun a b => BR g.2.2.1 (abTag v) a b 0 9223372036854775808 9223372036854775808 (fun x => nx e.2.2.1 ls r (abSe g x)) (fun x => nx (pc + 3) ls r (abSe g x)) (fun x => nx pc ls st (abSe g x)))
noncomputable def abOic (BR : abBt abF) : abPo := fun nx _ e pc ls st g => ab2 st fun w v r =>
  abWi 0 g.2.2.1 v fun a b => abWi 0 g.2.2.1 w fun c d => BR g.2.2.1 (abTag v) a b (abTag w) c d (fun x => nx e.2.2.1 ls r (abSe g x)) (fun x => nx (pc + 3) ls r (abSe g x)) (fun x => nx pc ls st (abSe g x))
noncomputable def abOgo : abPo := fun nx _ e _ ls st g => nx e.2.2.1 ls st g
/-! switches: the targets stand in the entry -/
noncomputable def abPk (l : List Nat) (df : Nat) : Nat → Nat := List.rec (motive := fun _ => Nat → Nat) (fun _ => df) (fun h _ ih i => Nat.rec h (fun n _ => ih n) i) l
noncomputable def abTs (f : Nat → abR) (ps : List Nat) : Nat → abR := List.rec (motive := fun _ => Nat → abR) (fun _ => some []) (fun _ _ ih i => abJn (f i) (ih (i + 1))) ps
noncomputable def abTa (f : Nat → abR) (ps : List Nat) : abR := List.rec (some []) (fun h _ ih => abJn (f h) ih) ps
noncomputable def abOsw : abPo := fun nx _ e pc ls st g => abHd st fun v r => abWi 0 g.2.2.1 v fun a b =>
  abIf (Nat.beq a b) (nx (abIf (Nat.ble e.2.2.2.2.1 a) (abPk e.2.2.2.2.2 e.2.2.1 (a - e.2.2.2.2.1)) e.2.2.1) ls r g)
    (abIf (Nat.ble (b + 1) e.2.2.2.2.1) (nx e.2.2.1 ls r g) (abIf (Nat.ble (e.2.2.2.2.1 + e.2.2.2.2.2.length) a) (nx e.2.2.1 ls r g)
      (abIf (Nat.beq (abTag v) 0) (abJn (nx e.2.2.1 ls r g) (abTa (fun t => nx t ls r g) e.2.2.2.2.2))
        (abJn (abCut g.2.2.1 (abTag v) a b a (e.2.2.2.2.1 - 1) fun x => nx pc ls st (abSe g x))
          (abJn (abCut g.2.2.1 (abTag v) a b (e.2.2.2.2.1 + e.2.2.2.2.2.length) b fun x => nx pc ls st (abSe g x))
            (abTs (fun i => abCut g.2.2.1 (abTag v) a b i i fun x => nx pc ls st (abSe g x)) e.2.2.2.2.2 e.2.2.2.2.1))))))
/-! fields -/
noncomputable def abOgf : abPo := fun nx _ e pc ls st g => abHd st fun v r => abWr v fun j => abIf (Nat.beq (g.1.get j).1 e.2.2.1) (nx (pc + 3) ls ((g.1.get j).2.2.get e.2.2.2.1 :: r) g) none
/-- a cell with a new value at a place -/
noncomputable def abPut (g : abSt) (j i : Nat) (u : abV) : abSt := abSh g (abSet j ((g.1.get j).1, (g.1.get j).2.1, abSet i u (g.1.get j).2.2 (abD (g.1.get j).2.1) 0) g.1 12 0)
abbrev abFt : Type := abE → abV → abR → abR
noncomputable def abFti : abFt := fun _ v k => abIf (Nat.ble v.1 1) k none
noncomputable def abFtz : abFt := fun env v k => abWi 0 env v fun a b => abIf (Nat.ble 9223372036854775808 a) (abIf (Nat.ble b 9223372036854775809) k none) none
noncomputable def abFtb : abFt := fun env v k => abWi 0 env v fun a b => abIf (Nat.ble 9223372036854775680 a) (abIf (Nat.ble b 9223372036854775935) k none) none
noncomputable def abFtr : abFt := fun _ v k => abIf (Nat.beq v.1 4) k (abIf (Nat.beq v.1 6) k none)
noncomputable def abFtl : abFt := fun _ v k => abIf (Nat.beq (v.1 / 2) 1) k none
noncomputable def abOpf (F : abFt) : abPo := fun nx _ e pc ls st g => ab2 st fun v w r => abWr w fun j => abIf (Nat.beq (g.1.get j).1 e.2.2.1) (F g.2.2.1 v (nx (pc + 3) ls r (abPut g j e.2.2.2.1 v))) none
/-! rows -/
noncomputable def abHu (env : abE) (t : Lean.RArray abV) (K : abV → abR) (n : Nat) : Nat → Nat → Nat → abR :=
  Nat.rec (motive := fun _ => Nat → Nat → Nat → abR) (fun _ lo hi => K (0, lo, hi)) (fun _ ih i lo hi => abWi 0 env (t.get i) fun a b => ih (i + 1) (abIf (Nat.ble a lo) a lo) (abIf (Nat.ble hi b) b hi)) n
/-- the contents between two indices: one place, or what several places of ints hold -/
noncomputable def abAt (env : abE) (c : abCel) (a b : Nat) (K : abV → abR) : abR :=
  abIf (Nat.ble 9223372036854775808 a) (abIf (Nat.ble (b + 1) (9223372036854775808 + c.2.1))
    (abIf (Nat.beq a b) (K (c.2.2.get (a - 9223372036854775808)))
      (abIf (Nat.ble (b - a) 63) (abWi 0 env (c.2.2.get (a - 9223372036854775808)) fun lo hi => abHu env c.2.2 K (b - a) (a + 1 - 9223372036854775808) lo hi) none)) none) none
/-- one place -/
noncomputable def abA1 (c : abCel) (a : Nat) (k : Nat → abR) : abR := abIf (Nat.ble 9223372036854775808 a) (abIf (Nat.ble (a + 1) (9223372036854775808 + c.2.1)) (k (a - 9223372036854775808)) none) none
noncomputable def abOial : abPo := fun nx _ _ pc ls st g => ab2 st fun w v r => abWi 0 g.2.2.1 w fun a b => abWr v fun j =>
  abIf (Nat.beq (g.1.get j).1 100) (abAt g.2.2.1 (g.1.get j) a b fun u => nx (pc + 1) ls (u :: r) g) none
noncomputable def abObal : abPo := fun nx _ _ pc ls st g => ab2 st fun w v r => abWi 0 g.2.2.1 w fun a b => abWr v fun j =>
  abIf (Nat.beq ((g.1.get j).1 / 2) 51) (abAt g.2.2.1 (g.1.get j) a b fun u => nx (pc + 1) ls (u :: r) g) none
noncomputable def abOlal : abPo := fun nx _ _ pc ls st g => ab2 st fun w v r => abWi 0 g.2.2.1 w fun a b => abWr v fun j =>
  abIf (Nat.beq (g.1.get j).1 101) (abIf (Nat.beq a b) (abA1 (g.1.get j) a fun i => nx (pc + 1) ls ((g.1.get j).2.2.get i :: r) g) none) none
noncomputable def abOaal : abPo := fun nx _ _ pc ls st g => ab2 st fun w v r => abWi 0 g.2.2.1 w fun a b =>
  abIf (Nat.beq a b) (abWr v fun j => abIf (Nat.ble 200 (g.1.get j).1) (abA1 (g.1.get j) a fun i => nx (pc + 1) ls ((g.1.get j).2.2.get i :: r) g) none)
    (abSpl 63 (abTag w) g.2.2.1 a b fun e => nx pc ls st (abSe g e))
/-- writing: by the row's code -/
noncomputable def abOst (ok : abSt → Nat → abV → abR → abR) : abPo := fun nx _ _ pc ls st g => abHd st fun u s1 => ab2 s1 fun w v r => abWi 0 g.2.2.1 w fun a b =>
  abIf (Nat.beq a b) (abWr v fun j => abA1 (g.1.get j) a fun i => ok g (g.1.get j).1 u (nx (pc + 1) ls r (abPut g j i u)))
    (abSpl 63 (abTag w) g.2.2.1 a b fun e => nx pc ls st (abSe g e))
noncomputable def abKia : abSt → Nat → abV → abR → abR := fun g c u k => abIf (Nat.beq c 100) (abFti g.2.2.1 u k) none
noncomputable def abKba : abSt → Nat → abV → abR → abR := fun g c u k => abIf (Nat.beq c 102) (abFtb g.2.2.1 u k) (abIf (Nat.beq c 103) (abFtz g.2.2.1 u k) none)
noncomputable def abKla : abSt → Nat → abV → abR → abR := fun g c u k => abIf (Nat.beq c 101) (abFtl g.2.2.1 u k) none
noncomputable def abKaa : abSt → Nat → abV → abR → abR := fun g c u k => abWr u fun q => abIf (Nat.ble (g.1.get q).1 90) (abIf (Nat.beq ((g.1.get q).1 + 200) c) k none) none
noncomputable def abOlen : abPo := fun nx _ _ pc ls st g => abHd st fun v r => abWr v fun j =>
  abIf (Nat.ble 100 (g.1.get j).1) (abIf (Nat.ble (g.1.get j).1 103) (nx (pc + 1) ls ((0, 9223372036854775808 + (g.1.get j).2.1, 9223372036854775808 + (g.1.get j).2.1) :: r) g) none) none
/-! the script, in the law alone -/
noncomputable def abOsl : abPo := fun nx _ _ pc ls st g => abHd st fun v r => abIf (Nat.beq v.1 5) (nx (pc + 1) ls ((0, 9223372036854775808 + v.2.1, 9223372036854775808 + v.2.1) :: r) g) none
noncomputable def abOsd : abPo := fun nx _ _ pc ls st g => ab2 st fun w v r => abIf (Nat.beq v.1 5) (abWi 0 g.2.2.1 w fun a b => abIf (Nat.beq a b)
  (abIf (Nat.ble 9223372036854775808 a) (abIf (Nat.ble (a + 1) (9223372036854775808 + v.2.1)) (nx (pc + 1) ls ((1, a - 9223372036854775808, 0) :: r) g) none) none) none) none
/-! making -/
noncomputable def abMe (k : Nat) : abM := abMt.get k
noncomputable def abMk (g : abSt) (c : abCel) : abSt := (abSet g.2.1 c g.1 12 0, g.2.1 + 1, g.2.2.1, g.2.2.2.1 + 1, g.2.2.2.2 + c.2.1)
/-- room for one cell more of n slots -/
noncomputable def abRm (k : Nat) (g : abSt) (n : Nat) (r : abR) : abR :=
  abIf (Nat.ble (g.2.1 + 1) 4096) (abIf (Nat.ble (g.2.2.2.1 + 1) (abMe k).2.2.1) (abIf (Nat.ble (g.2.2.2.2 + n) (abMe k).2.2.2.1) r none) none) none
noncomputable def abOnew : abPo := fun nx k e pc ls st g => abRm k g e.2.2.2.1 (nx (pc + 3) ls ((4, g.2.1, 0) :: st) (abMk g (e.2.2.1, e.2.2.2.1, abDfl.get e.2.2.1)))
noncomputable def abLg (v : abV) (g : abSt) (f : Nat → abR) : abR := abWi 0 g.2.2.1 v fun a b => abIf (Nat.beq a b) (abIf (Nat.ble 9223372036854775808 a) (abIf (Nat.ble a 9223372036854841344) (f (a - 9223372036854775808)) none) none) none
noncomputable def abOna : abPo := fun nx k e pc ls st g => abHd st fun v r => abLg v g fun n => abRm k g n (nx (pc + 2) ls ((4, g.2.1, 0) :: r) (abMk g (e.2.2.1, n, .leaf (abIf (Nat.beq e.2.2.1 101) (2, 9223372036854775808, 9223372036854775808) (0, 9223372036854775808, 9223372036854775808)))))
noncomputable def abOnr : abPo := fun nx k e pc ls st g => abHd st fun v r => abLg v g fun n => abRm k g n (nx (pc + 3) ls ((4, g.2.1, 0) :: r) (abMk g (200 + e.2.2.1, n, .leaf (6, 0, 0))))
/-! calls -/
/-- the room that a stack takes -/
noncomputable def abSm (st : List abV) : Nat := List.rec 0 (fun v _ ih => abIf (Nat.beq (v.1 / 2) 1) (ih + 2) (abIf (Nat.ble v.1 7) (ih + 1) (ih + 2))) st
noncomputable def abOoi : abPo := fun nx _ _ pc ls st g => abHd st fun v r => abWr v fun _ => abIf (Nat.ble (abSm r) 8) (nx (pc + 3) ls r g) none
/-- arraycopy of nothing, or of a whole row of ints -/
noncomputable def abCp1 (nx : abNx) (pc : Nat) (ls r : List abV) (g : abSt) (n dp sp jd js : Nat) : abR :=
  abIf (Nat.ble (abSm r) 8) (abIf (Nat.beq dp 0) (abIf (Nat.beq sp 0) (abIf (Nat.beq (g.1.get jd).1 (g.1.get js).1)
    (abIf (Nat.beq n 0) (abIf (Nat.beq (g.1.get jd).1 100) (nx (pc + 3) ls r g) (abIf (Nat.beq ((g.1.get jd).1 / 2) 51) (nx (pc + 3) ls r g) none))
      (abIf (Nat.beq (g.1.get jd).1 100) (abIf (Nat.beq n (g.1.get jd).2.1) (abIf (Nat.beq n (g.1.get js).2.1) (nx (pc + 3) ls r (abSh g (abSet jd ((g.1.get jd).1, (g.1.get jd).2.1, (g.1.get js).2.2) g.1 12 0))) none) none) none)) none) none) none) none
noncomputable def abCp2 (nx : abNx) (pc : Nat) (ls : List abV) (g : abSt) (n dp rd sp rs : abV) (r : List abV) : abR :=
  abLg n g fun n => abLg dp g fun dp => abLg sp g fun sp => abWr rd fun jd => abWr rs fun js => abCp1 nx pc ls r g n dp sp jd js
noncomputable def abOcp : abPo := fun nx _ _ pc ls st g => abHd st fun n s1 => ab2 s1 fun dp rd s2 => ab2 s2 fun sp rs r => abCp2 nx pc ls g n dp rd sp rs r
noncomputable def abTk (K : List abV → List abV → abR) (n : Nat) : List abV → List abV → abR :=
  Nat.rec (motive := fun _ => List abV → List abV → abR) (fun acc st => K acc st) (fun _ ih acc st => abHd st fun v r => abIf (Nat.ble v.1 7) (ih (v :: acc) r) none) n
noncomputable def abJs (n : Nat) : List abV := Nat.rec [] (fun _ ih => abJ :: ih) n
noncomputable def abEn (as : List abV) : Nat → List abV :=
  List.rec (motive := fun _ => Nat → List abV) (fun n => abJs n) (fun v _ ih n => abIf (Nat.beq (v.1 / 2) 1) (v :: abJ :: ih (n - 2)) (v :: ih (n - 1))) as
noncomputable def abBd (r : abR) (f : abF → abR) : abR := match r with
  | none => none
  | some xs => List.rec (some []) (fun x _ ih => abJn (f x) ih) xs
abbrev abIh : Type := Nat → Nat → Lean.RArray abEy → Nat → List abV → List abV → abSt → abR
/-- behind a call that came to x -/
noncomputable def abAf (ih : abIh) (d k : Nat) (t : Lean.RArray abEy) (q pc : Nat) (ls r : List abV) (g : abSt) (x : abF) : abR :=
  abIf (Nat.ble x.2.2.2.2.2.2.1 (abMe q).2.2.1) (abIf (Nat.ble x.2.2.2.2.2.2.2 (abMe q).2.2.2.1)
    (ih d k t (pc + 3) ls (x.2.2.1 ++ r) (x.2.2.2.1, x.2.2.2.2.1, x.2.2.2.2.2.1, g.2.2.2.1 + (abMe q).2.2.1, g.2.2.2.2 + (abMe q).2.2.2.1)) none) none
/-- a call of method q with the arguments as; r stays on the stack -/
noncomputable def abGo (ih : abIh) (d k : Nat) (t : Lean.RArray abEy) (q pc : Nat) (ls as r : List abV) (g : abSt) : abR :=
  abIf (Nat.ble (abSm r) 8) (abIf (Nat.ble (g.2.2.2.1 + (abMe q).2.2.1) (abMe k).2.2.1) (abIf (Nat.ble (g.2.2.2.2 + (abMe q).2.2.2.1) (abMe k).2.2.2.1) (abIf (Nat.ble (abSm as) (abMe q).1.2.2.1)
    (Nat.rec none (fun d' _ => abBd (ih d' q (abMe q).2.2.2.2.2 0 (abEn as (abMe q).1.2.2.1) [] (g.1, g.2.1, g.2.2.1, 0, 0)) (abAf ih d k t q pc ls r g)) d) none) none) none) none
noncomputable def abCl (ih : abIh) (d k : Nat) (t : Lean.RArray abEy) (e : abEy) (pc : Nat) (ls st : List abV) (g : abSt) : abR :=
  abTk (fun as r => abIf (Nat.beq e.1 79) (abGo ih d k t e.2.2.1 pc ls as r g)
    (abHd r fun v r => abWr v fun j => abIf (Nat.beq e.1 78) (abIf (Nat.beq (g.1.get j).1 (abMe e.2.2.1).2.2.2.2.1) (abGo ih d k t e.2.2.1 pc ls (v :: as) r g) none)
      (abGo ih d k t e.2.2.1 pc ls (v :: as) r g))) (abMe e.2.2.1).2.1 [] st
/-- an end of the frame -/
noncomputable def abRt (e : abEy) (pc : Nat) (ls st : List abV) (g : abSt) : abR :=
  abIf (Nat.beq e.1 85) (some [(pc, ls, st, g)]) (abIf (Nat.beq e.1 82) (List.rec (some [(pc, ls, st, g)]) (fun _ _ _ => none) st)
    (abHd st fun v r => List.rec (abIf (Nat.beq e.1 84) (abFtl g.2.2.1 v (some [(pc, ls, st, g)])) (abIf (Nat.beq e.2.2.1 1) (abFtz g.2.2.1 v (some [(pc, ls, st, g)])) (abFti g.2.2.1 v (some [(pc, ls, st, g)])))) (fun _ _ _ => none) r))
noncomputable def abOps : Lean.RArray abPo := .branch 44 (.branch 22 (.branch 11 (.branch 5 (.branch 2 (.branch 1 (.leaf abFail) (.leaf (abOc 0 1))) (.branch 3 (.leaf (abOc 0 2)) (.branch 4 (.leaf (abOc 0 3)) (.leaf (abOc 0 2))))) (.branch 8 (.branch 6 (.leaf (abOc 0 3)) (.branch 7 (.leaf (abOc 2 1)) (.leaf (abOc 2 3)))) (.branch 9 (.leaf (abOl 0 2)) (.branch 10 (.leaf (abOl 0 1)) (.leaf (abOl 1 2)))))) (.branch 16 (.branch 13 (.branch 12 (.leaf (abOl 1 1)) (.leaf (abOl 2 2))) (.branch 14 (.leaf (abOl 2 1)) (.branch 15 (.leaf (abOs 0 2)) (.leaf (abOs 0 1))))) (.branch 19 (.branch 17 (.leaf (abOs2 2)) (.branch 18 (.leaf (abOs2 1)) (.leaf (abOs 2 2)))) (.branch 20 (.leaf (abOs 2 1)) (.branch 21 (.leaf abOinc) (.leaf (abOi abFadd))))))) (.branch 33 (.branch 27 (.branch 24 (.branch 23 (.leaf (abOi abFsub)) (.leaf (abOi2 abFmul))) (.branch 25 (.leaf (abOi (abFd fun x y => x / y))) (.branch 26 (.leaf (abOi (abFd fun x y => x - x / y * y))) (.leaf (abOi abFand))))) (.branch 30 (.branch 28 (.leaf (abOi (abFk fun x y => x ||| y))) (.branch 29 (.leaf (abOi (abFk fun x y => x ^^^ y))) (.leaf (abOi (abFk fun x y => x <<< (y &&& 31)))))) (.branch 31 (.leaf (abOi (abFk fun x y => x >>> (y &&& 31)))) (.branch 32 (.leaf abOneg) (.leaf (abOj abGadd)))))) (.branch 38 (.branch 35 (.branch 34 (.leaf (abOj abGsub)) (.leaf (abOj abGtop))) (.branch 36 (.leaf (abOj abGtop)) (.branch 37 (.leaf (abOj abGtop)) (.leaf (abOj abGtop))))) (.branch 41 (.branch 39 (.leaf abOjs) (.branch 40 (.leaf abOjs) (.leaf abOi2l))) (.branch 42 (.leaf abOl2i) (.branch 43 (.leaf abOi2b) (.leaf abOcmp))))))) (.branch 66 (.branch 55 (.branch 49 (.branch 46 (.branch 45 (.leaf abOdup) (.leaf abOdup2)) (.branch 47 (.leaf (abOif abEq)) (.branch 48 (.leaf (abOif (abSw abEq))) (.leaf (abOif abLt))))) (.branch 52 (.branch 50 (.leaf (abOif (abSw abLt))) (.branch 51 (.leaf (abOif abGt)) (.leaf (abOif (abSw abGt))))) (.branch 53 (.leaf (abOic abEq)) (.branch 54 (.leaf (abOic (abSw abEq))) (.leaf (abOic abLt)))))) (.branch 60 (.branch 57 (.branch 56 (.leaf (abOic (abSw abLt))) (.leaf (abOic abGt))) (.branch 58 (.leaf (abOic (abSw abGt))) (.branch 59 (.leaf abOgo) (.leaf abOsw)))) (.branch 63 (.branch 61 (.leaf abOgf) (.branch 62 (.leaf (abOpf abFti)) (.leaf (abOpf abFtz)))) (.branch 64 (.leaf (abOpf abFtr)) (.branch 65 (.leaf abOial) (.leaf abObal)))))) (.branch 77 (.branch 71 (.branch 68 (.branch 67 (.leaf abOlal) (.leaf abOaal)) (.branch 69 (.leaf abOlen) (.branch 70 (.leaf (abOst abKia)) (.leaf (abOst abKba))))) (.branch 74 (.branch 72 (.leaf (abOst abKla)) (.branch 73 (.leaf (abOst abKaa)) (.leaf abOnew))) (.branch 75 (.leaf abOna) (.branch 76 (.leaf abOnr) (.leaf abOoi))))) (.branch 82 (.branch 79 (.branch 78 (.leaf abOcp) (.leaf abFail)) (.branch 80 (.leaf abFail) (.branch 81 (.leaf abFail) (.leaf abFail)))) (.branch 85 (.branch 83 (.leaf abFail) (.branch 84 (.leaf abFail) (.leaf abFail))) (.branch 86 (.leaf abFail) (.branch 87 (.leaf abOsl) (.leaf abOsd)))))))
/-- THE RUN: all ends to which it may come -/
noncomputable def abRun (n : Nat) : abIh := Nat.rec (motive := fun _ => abIh) (fun _ _ _ _ _ _ _ => none) (fun _ ih d k t pc ls st g =>
  abIf (Nat.beq (t.get pc).2.1 pc) (abIf (Nat.ble 78 (t.get pc).1) (abIf (Nat.ble (t.get pc).1 81) (abCl ih d k t (t.get pc) pc ls st g) (abIf (Nat.ble (t.get pc).1 85) (abRt (t.get pc) pc ls st g) ((abOps.get (t.get pc).1) (ih d k t) k (t.get pc) pc ls st g)))
    ((abOps.get (t.get pc).1) (ih d k t) k (t.get pc) pc ls st g)) none) n
end
section
/-! the words that a contract may carry, and the links of nest mates beside them -/
def abNl : List (String × Nat × MethodName) := [("TallBins", 43, ⟨"TallBins$Row", "<init>", "()V"⟩), ("TallBins", 46, ⟨"TallBins$Heap", "<init>", "()V"⟩), ("TallBins", 57, ⟨"TallBins$Planner", "<init>", "()V"⟩), ("TallBins", 64, ⟨"TallBins$Blender", "<init>", "()V"⟩), ("TallBins$Rules", 44, ⟨"TallBins$Bars", "<init>", "()V"⟩), ("TallBins$House", 26, ⟨"TallBins$Ledger", "<init>", "()V"⟩), ("TallBins$Bin", 35, ⟨"TallBins$Heap", "<init>", "()V"⟩)]
noncomputable def abNw : List Jvm.Cond := abNl.map fun q => Jvm.Cond.methodLinkNest q.1 q.2.1 q.2.2 "TallBins"
noncomputable def abTb : List Jvm.Cond := lw_tbl.filter goodWord
noncomputable def abTw : List Jvm.Cond := abTb ++ abNw
theorem abTaL {w : Jvm.Cond} (h : w ∈ abTb) : w ∈ abTw := List.mem_append.mpr (Or.inl h)
theorem abTaT {w : Jvm.Cond} (h : w ∈ lw_tbl) (g : goodWord w = true) : w ∈ abTw := abTaL (List.mem_filter.mpr ⟨h, g⟩)
theorem abTb_good : ∀ w ∈ abTb, goodWord w = true := fun _ h => (List.mem_filter.mp h).2
theorem abTa_hts {args : Array Value} {s : State} (h1 : ∀ w ∈ abTb, w.before args s = true) (h2 : ∀ q ∈ abNl, va_Nw (.methodLinkNest q.1 q.2.1 q.2.2 "TallBins") s) : ∀ w ∈ abTw, w.before args s = true := fun w hw => by
  rcases List.mem_append.mp hw with h | h
  · exact h1 w h
  · obtain ⟨q, hq, rfl⟩ := List.mem_map.mp h
    exact va_Nw.use rfl (h2 q hq)
theorem abTa_nest {args : Array Value} {s : State} (h : ∀ w ∈ abTw, w.before args s = true) : ∀ q ∈ abNl, va_Nw (.methodLinkNest q.1 q.2.1 q.2.2 "TallBins") s := fun q hq => va_Nw.of rfl (h _ (List.mem_append.mpr (Or.inr (List.mem_map.mpr ⟨q, hq, rfl⟩))))
/-! SOUNDNESS, 1: what the tables must say, what a state of the engine means -/
noncomputable def abNm (k : Nat) : MethodName := (abMe k).1.1
noncomputable def abBy (k : Nat) : ByteArray := (abMe k).1.2.1
noncomputable def abRtT (k : Nat) : Option FieldType := (abMe k).1.2.2.2
noncomputable def abOwn (k : Nat) : String := (abNm k).cls
def abFn (n : Nat) : Option (Fin 4) := if h : n < 4 then some ⟨n, h⟩ else none
def abIn1 (f : Fin 4 → Jvm.ClassFile.Instr) (n : Nat) : Option (Jvm.ClassFile.Instr × Nat) := match abFn n with
  | some i => some (f i, 1)
  | none => none
def abAty (n : Nat) : Option Jvm.ClassFile.ArrayType := match n with
  | 100 => some .int
  | 101 => some .long
  | 102 => some .byte
  | 103 => some .boolean
  | _ => none
/-- the instruction that an entry stands for -/
def abIns (e : abEy) : Option (Jvm.ClassFile.Instr × Nat) :=
  let pc := e.2.1; let a1 := e.2.2.1; let a2 := e.2.2.2.1; let x := e.2.2.2.2.1; let ps := e.2.2.2.2.2
  match e.1 with
  | 1 => some (.iconst ((x : Int) - abB), 1)
  | 2 => some (.bipush ((x : Int) - abB), 2)
  | 3 => some (.sipush ((x : Int) - abB), 3)
  | 4 => some (.ldc a1, 2)
  | 5 => some (.ldc_w a1, 3)
  | 6 => if x = 9223372036854775808 then some (.lconst 0, 1) else some (.lconst 1, 1)
  | 7 => some (.ldc2_w a1, 3)
  | 8 => some (.iload a2, 2)
  | 9 => abIn1 .iload_n a2
  | 10 => some (.lload a2, 2)
  | 11 => abIn1 .lload_n a2
  | 12 => some (.aload a2, 2)
  | 13 => abIn1 .aload_n a2
  | 14 => some (.istore a2, 2)
  | 15 => abIn1 .istore_n a2
  | 16 => some (.lstore a2, 2)
  | 17 => abIn1 .lstore_n a2
  | 18 => some (.astore a2, 2)
  | 19 => abIn1 .astore_n a2
  | 20 => some (.iinc a2 ((x : Int) - abB), 3)
  | 21 => some (.iadd, 1)
  | 22 => some (.isub, 1)
  | 23 => some (.imul, 1)
  | 24 => some (.idiv, 1)
  | 25 => some (.irem, 1)
  | 26 => some (.iand, 1)
  | 27 => some (.ior, 1)
  | 28 => some (.ixor, 1)
  | 29 => some (.ishl, 1)
  | 30 => some (.ishr, 1)
  | 31 => some (.ineg, 1)
  | 32 => some (.ladd, 1)
  | 33 => some (.lsub, 1)
  | 34 => some (.lmul, 1)
  | 35 => some (.land, 1)
  | 36 => some (.lor, 1)
  | 37 => some (.lxor, 1)
  | 38 => some (.lshl, 1)
  | 39 => some (.lshr, 1)
  | 40 => some (.i2l, 1)
  | 41 => some (.l2i, 1)
  | 42 => some (.i2b, 1)
  | 43 => some (.lcmp, 1)
  | 44 => some (.dup, 1)
  | 45 => some (.dup2, 1)
  | 46 => some (.ifCond .eq ((a1 : Int) - pc), 3)
  | 47 => some (.ifCond .ne ((a1 : Int) - pc), 3)
  | 48 => some (.ifCond .lt ((a1 : Int) - pc), 3)
  | 49 => some (.ifCond .ge ((a1 : Int) - pc), 3)
  | 50 => some (.ifCond .gt ((a1 : Int) - pc), 3)
  | 51 => some (.ifCond .le ((a1 : Int) - pc), 3)
  | 52 => some (.if_icmp .eq ((a1 : Int) - pc), 3)
  | 53 => some (.if_icmp .ne ((a1 : Int) - pc), 3)
  | 54 => some (.if_icmp .lt ((a1 : Int) - pc), 3)
  | 55 => some (.if_icmp .ge ((a1 : Int) - pc), 3)
  | 56 => some (.if_icmp .gt ((a1 : Int) - pc), 3)
  | 57 => some (.if_icmp .le ((a1 : Int) - pc), 3)
  | 58 => some (.goto ((a1 : Int) - pc), 3)
  | 59 => some (.tableswitch ((a1 : Int) - pc) ((x : Int) - abB) ((x : Int) - abB + ps.length - 1) (ps.map fun (t : Nat) => (t : Int) - pc).toArray, (pc + 4) / 4 * 4 + 12 + 4 * ps.length - pc)
  | 60 => some (.getfield x, 3)
  | 61 => some (.putfield x, 3)
  | 62 => some (.putfield x, 3)
  | 63 => some (.putfield x, 3)
  | 64 => some (.iaload, 1)
  | 65 => some (.baload, 1)
  | 66 => some (.laload, 1)
  | 67 => some (.aaload, 1)
  | 68 => some (.arraylength, 1)
  | 69 => some (.iastore, 1)
  | 70 => some (.bastore, 1)
  | 71 => some (.lastore, 1)
  | 72 => some (.aastore, 1)
  | 73 => some (.new x, 3)
  | 74 => match abAty a1 with
    | some t => some (.newarray t, 2)
    | none => none
  | 75 => some (.anewarray x, 3)
  | 76 => some (.invokespecial x, 3)
  | 77 => some (.invokestatic x, 3)
  | 78 => some (.invokevirtual x, 3)
  | 79 => some (.invokestatic x, 3)
  | 80 => some (.invokespecial x, 3)
  | 81 => some (.invokespecial x, 3)
  | 82 => some (.return_, 1)
  | 83 => some (.ireturn, 1)
  | 84 => some (.lreturn, 1)
  | 86 => some (.arraylength, 1)
  | 87 => some (.iaload, 1)
  | _ => none
/-- the words of the tables that an entry rests on -/
noncomputable def abWds (k : Nat) (e : abEy) : List Jvm.Cond :=
  let a1 := e.2.2.1; let a2 := e.2.2.2.1; let x := e.2.2.2.2.1
  match e.1 with
  | 4 => [.constant (abOwn k) a1 (abOf x)]
  | 5 => [.constant (abOwn k) a1 (abOf x)]
  | 7 => [.constantLong (abOwn k) a1 (Int64.ofInt ((x : Int) - abB))]
  | 60 => match abCls[a1]? with | some q => [.fieldLink (abOwn k) x q.1 (q.2.1 a2).2.1 (q.2.1 a2).2.2.1] | none => []
  | 61 => match abCls[a1]? with | some q => [.fieldLink (abOwn k) x q.1 (q.2.1 a2).2.1 (q.2.1 a2).2.2.1] | none => []
  | 62 => match abCls[a1]? with | some q => [.fieldLink (abOwn k) x q.1 (q.2.1 a2).2.1 (q.2.1 a2).2.2.1] | none => []
  | 63 => match abCls[a1]? with | some q => [.fieldLink (abOwn k) x q.1 (q.2.1 a2).2.1 (q.2.1 a2).2.2.1] | none => []
  | 73 => match abCls[a1]? with | some q => [.classLink (abOwn k) x q.1, .instantiable q.1 q.2.2, .initialized q.1] | none => []
  | 74 => match abAty a1 with | some t => [.arrayClass (newarray.typeOf t)] | none => []
  | 75 => match abCls[a1]? with | some q => [.classLink (abOwn k) x q.1, .arrayOver (.object q.1)] | none => []
  | 76 => [.methodLink (abOwn k) x objectInit, .instanceMethod objectInit, .code objectInit ⟨#[0xb1]⟩ 1 none]
  | 77 => [.methodLink (abOwn k) x arraycopyName, .native arraycopyName, .static arraycopyName, .initialized "java/lang/System"]
  | 78 => [.methodLink (abOwn k) x (abNm a1), .instanceMethod (abNm a1), .selects (abOwn a1) (abNm a1) (abNm a1)]
  | 79 => [.methodLink (abOwn k) x (abNm a1), .static (abNm a1)]
  | 80 => [.methodLink (abOwn k) x (abNm a1), .instanceMethod (abNm a1)]
  | 81 => [.methodLinkNest (abOwn k) x (abNm a1) "TallBins", .instanceMethod (abNm a1)]
  | _ => []
/-- further things of an entry -/
noncomputable def abSmk (k : Nat) (e : abEy) : Bool :=
  let a1 := e.2.2.1; let a2 := e.2.2.2.1; let x := e.2.2.2.2.1; let nl := (abMe k).1.2.2.1
  match e.1 with
  | 1 => decide ((Int32.ofInt ((x : Int) - abB)).toInt + abB = x)
  | 2 => decide ((Int8.ofInt ((x : Int) - abB)).toInt32.toInt + abB = x)
  | 3 => decide ((Int16.ofInt ((x : Int) - abB)).toInt32.toInt + abB = x)
  | 4 => decide ((abOf x).toInt + abB = x)
  | 5 => decide ((abOf x).toInt + abB = x)
  | 6 => decide (x = 9223372036854775808 ∨ x = 9223372036854775809)
  | 7 => decide ((Int64.ofInt ((x : Int) - abB)).toInt + abB = x)
  | 14 => decide (a2 < nl)
  | 15 => decide (a2 < nl)
  | 16 => decide (a2 + 1 < nl)
  | 17 => decide (a2 + 1 < nl)
  | 18 => decide (a2 < nl)
  | 19 => decide (a2 < nl)
  | 20 => decide (a2 < nl) && decide ((Int32.ofInt ((x : Int) - abB)).toInt + abB = x)
  | 59 => decide (0 < e.2.2.2.2.2.length)
  | 60 => match abCls[a1]? with | some q => decide (a2 < q.2.2) && decide (a1 < 90) | none => false
  | 61 => match abCls[a1]? with | some q => decide (a2 < q.2.2) && decide (a1 < 90) && decide (abTyp a1 a2 = .int) && (!(q.2.1 a2).2.2.2 || (decide ((abNm k).name = "<init>") && decide (abOwn k = q.1))) | none => false
  | 62 => match abCls[a1]? with | some q => decide (a2 < q.2.2) && decide (a1 < 90) && decide (abTyp a1 a2 = .boolean) && (!(q.2.1 a2).2.2.2 || (decide ((abNm k).name = "<init>") && decide (abOwn k = q.1))) | none => false
  | 63 => match abCls[a1]? with | some q => decide (a2 < q.2.2) && decide (a1 < 90) && (match abTyp a1 a2 with | .object _ => true | .array _ => true | _ => false) && (!(q.2.1 a2).2.2.2 || (decide ((abNm k).name = "<init>") && decide (abOwn k = q.1))) | none => false
  | 73 => match abCls[a1]? with | some q => decide (a2 = q.2.2) && decide (a1 < 90) | none => false
  | 74 => (abAty a1).isSome
  | 75 => match abCls[a1]? with | some _ => decide (a1 < 90) | none => false
  | 78 => decide (a1 < abNM) && decide ((abMe a1).2.2.2.2.1 < 90) && (match abCls[(abMe a1).2.2.2.2.1]? with | some q => decide (q.1 = abOwn a1) | none => false)
  | 79 => decide (a1 < abNM)
  | 80 => decide (a1 < abNM) && decide ((abNm a1).name = "<init>") && decide (abRtT a1 = none)
  | 81 => decide (a1 < abNM) && decide ((abNm a1).name = "<init>") && decide (abRtT a1 = none)
  | 82 => decide (abRtT k = none)
  | 83 => if a1 = 1 then decide (abRtT k = some .boolean) else decide (abRtT k = some .int)
  | 84 => decide (abRtT k = some .long)
  | 85 => decide (abNM ≤ k)
  | 86 => decide (abNM ≤ k)
  | 87 => decide (abNM ≤ k)
  | _ => true
/-- an entry is right -/
def abEtOk (k : Nat) (e : abEy) : Prop := (e.1 = 85 ∨ ∃ i, abIns e = some i ∧ decode (abBy k) e.2.1 = .ok i) ∧ (∀ w ∈ abWds k e, w ∈ abTw) ∧ abSmk k e = true
theorem abEt_dec {k : Nat} {e : abEy} {i : Jvm.ClassFile.Instr × Nat} (h : abEtOk k e) (h85 : ¬ e.1 = 85) (hi : abIns e = some i) : decode (abBy k) e.2.1 = .ok i := by
  rcases h.1 with q | ⟨j, q1, q2⟩
  · exact absurd q h85
  · rw [hi] at q1
    cases q1
    exact q2
/-! the meaning of a state -/
def abTyA (n : Nat) : Option FieldType := match n with
  | 100 => some .int
  | 102 => some .byte
  | 103 => some .boolean
  | _ => none
def abCs (tys : List (ClassId × FieldType)) (ws : va_W) (sb sl : Nat) (rh : Nat → Int) (q : Option (Nat × va_E)) (c : abCel) : Prop :=
  abWf (abD c.2.1) 0 c.2.2 ∧
  (c.1 ≤ 90 → ∃ (a : Nat) (fs : List Value) (y : vw_C), q = some (a, .inr (c.1, fs)) ∧ fs.length = c.2.1 ∧ abCls[c.1]? = some y ∧ y.2.2 = c.2.1 ∧ ∀ (k : Nat) (x : Value), fs[k]? = some x → abG ws sb sl rh (c.2.2.get k) x) ∧
  (∀ ty : FieldType, abTyA c.1 = some ty → ∃ (a : Nat) (cA : ClassId) (f : Nat → Int32) (t0 : Nat), q = some (a, .inl (cA, c.2.1, .inl f)) ∧ tys[t0]? = some (cA, ty) ∧ c.2.1 ≤ 65536 ∧ ∀ k : Nat, k < c.2.1 → abG ws sb sl rh (c.2.2.get k) (.int (f k))) ∧
  (c.1 = 101 → ∃ (a : Nat) (cA : ClassId) (f : Nat → Int64) (t0 : Nat), q = some (a, .inl (cA, c.2.1, .inr (.inl f))) ∧ tys[t0]? = some (cA, .long) ∧ c.2.1 ≤ 65536 ∧ ∀ k : Nat, k < c.2.1 → abG ws sb sl rh (c.2.2.get k) (.long (f k))) ∧
  (200 ≤ c.1 → ∃ (a : Nat) (cA : ClassId) (f : Nat → Option Nat) (t0 : Nat) (y : vw_C), q = some (a, .inl (cA, c.2.1, .inr (.inr (.inr (.inr f))))) ∧ abCls[c.1 - 200]? = some y ∧ tys[t0]? = some (cA, .object y.1) ∧ c.2.1 ≤ 65536 ∧ ∀ k : Nat, k < c.2.1 → abG ws sb sl rh (c.2.2.get k) (va_rf (f k)))
def abHok (D : va_G) (z sb sl : Nat) (rh : Nat → Int) (s : State) (ws : va_W) (H : Heap) (locs : List Loc) (g : abSt) : Prop :=
  (∃ tys : List (ClassId × FieldType), va_K D abCls tys s ∧ ∀ j : Nat, j < 4096 → abCs tys ws sb sl rh ws[j]? (g.1.get j)) ∧ va_P D abCls ws H ∧ va_D (fun q : Nat => z ≤ q) ws ∧ va_S (fun q : Nat => z ≤ q) s.heap H locs ∧ ws.length = g.2.1 ∧ g.2.1 ≤ 4096 ∧ abWf 12 0 g.1 ∧ abEok rh g.2.2.1
def abLok (ws : va_W) (sb sl : Nat) (rh : Nat → Int) (ls : List abV) (n : Nat) (A : Array Slot) : Prop :=
  ls.length = n ∧ ∃ lv : List (Nat × Value), lv_has A n lv ∧ ∀ (i : Nat) (v : abV), ls[i]? = some v → v.1 ≤ 7 → ∃ x : Value, (i, x) ∈ lv ∧ abG ws sb sl rh v x
def abSok (ws : va_W) (sb sl : Nat) (rh : Nat → Int) : List abV → List Value → Prop
  | [], xs => xs = []
  | v :: r, xs => ∃ (x : Value) (xr : List Value), xs = x :: xr ∧ abG ws sb sl rh v x ∧ abSok ws sb sl rh r xr
theorem abLok.mono {w0 w1 : va_W} {sb sl : Nat} {rh : Nat → Int} {ls : List abV} {n : Nat} {A : Array Slot} (hx : abX w0 w1) (h : abLok w0 sb sl rh ls n A) : abLok w1 sb sl rh ls n A := by
  obtain ⟨h1, lv, h2, h3⟩ := h
  refine ⟨h1, lv, h2, fun i v hi hv => ?_⟩
  obtain ⟨x, q1, q2⟩ := h3 i v hi hv
  exact ⟨x, q1, q2.mono hx⟩
theorem abSok.mono {w0 w1 : va_W} {sb sl : Nat} {rh : Nat → Int} (hx : abX w0 w1) : ∀ {st : List abV} {xs : List Value}, abSok w0 sb sl rh st xs → abSok w1 sb sl rh st xs
  | [], _, h => h
  | _ :: _, _, h => by
    obtain ⟨x, xr, h1, h2, h3⟩ := h
    exact ⟨x, xr, h1, h2.mono hx, h3.mono hx⟩
theorem abCs.mono {tys tys' : List (ClassId × FieldType)} {w0 w1 : va_W} {sb sl : Nat} {rh : Nat → Int} {q : Option (Nat × va_E)} {c : abCel} (hx : abX w0 w1) (ht : ∀ (t0 : Nat) (y : ClassId × FieldType), tys[t0]? = some y → tys'[t0]? = some y) (h : abCs tys w0 sb sl rh q c) : abCs tys' w1 sb sl rh q c := by
  obtain ⟨h0, h1, h2, h3, h4⟩ := h
  refine ⟨h0, fun hc => ?_, fun ty hc => ?_, fun hc => ?_, fun hc => ?_⟩
  · obtain ⟨a, fs, y, e1, e2, e3, e4, e5⟩ := h1 hc
    exact ⟨a, fs, y, e1, e2, e3, e4, fun k x hk => (e5 k x hk).mono hx⟩
  · obtain ⟨a, cA, f, t0, e1, e2, e3, e4⟩ := h2 ty hc
    exact ⟨a, cA, f, t0, e1, ht _ _ e2, e3, fun k hk => (e4 k hk).mono hx⟩
  · obtain ⟨a, cA, f, t0, e1, e2, e3, e4⟩ := h3 hc
    exact ⟨a, cA, f, t0, e1, ht _ _ e2, e3, fun k hk => (e4 k hk).mono hx⟩
  · obtain ⟨a, cA, f, t0, y, e1, e2, e3, e4, e5⟩ := h4 hc
    exact ⟨a, cA, f, t0, y, e1, e2, ht _ _ e3, e4, fun k hk => (e5 k hk).mono hx⟩
/-- what a frame of method k stands on; d: how deep it may still call -/
def abFr (z sb sl : Nat) (rh : Nat → Int) (xs0 : Nat → Int32) (k d : Nat) (p : Program) (R : Room) (s : State) (m : MethodId) (args : Array Value) (meth : Method) (c : Code) : Prop :=
  p.tables.exec = Jvm.exec ∧ c.code = abBy k ∧ c.maxLocals = (abMe k).1.2.2.1 ∧ s.vm.findClass (abOwn k) = some m.cls ∧ (∀ w ∈ abTw, w.before args s = true) ∧ meth.name = (abNm k).name ∧ z ≤ s.heap.size ∧
  (abMe k).2.2.1 ≤ R.cells ∧ (abMe k).2.2.2.1 ≤ R.slots ∧ d + 1 ≤ R.frames ∧ 60 * (d + 1) ≤ R.locals ∧ (abNM ≤ k → va_X sb sl xs0 s s.heap ∧ sb < z ∧ sl ≤ 65536 ∧ ∀ j, rh j = (xs0 j).toInt)
def abW (D : va_G) (z sb sl : Nat) (rh : Nat → Int) (w0 : va_W) (p : Program) (l : Launch) (ev : Env) (R : Room) (s : State) (m : MethodId) (args : Array Value) (below : List Frame) (meth : Method) (c : Code) (Q : State → Prop) (pc : Nat) (ls st : List abV) (g : abSt) : Prop :=
  ∀ (H : Heap) (locs : List Loc) (ws : va_W) (A : Array Slot) (xs : List Value), abHok D z sb sl rh s ws H locs g → abX w0 ws → abLok ws sb sl rh ls c.maxLocals A → abSok ws sb sl rh st xs → W p l ev R s m args below meth c H locs g.2.2.2.1 g.2.2.2.2 Q (F0 m pc A xs)
/-- what follows is sound where its ends are among r -/
def abNs (D : va_G) (z sb sl : Nat) (rh : Nat → Int) (w0 : va_W) (p : Program) (l : Launch) (ev : Env) (R : Room) (s : State) (m : MethodId) (args : Array Value) (below : List Frame) (meth : Method) (c : Code) (Q : State → Prop) (r : List abF) (nx : abNx) : Prop :=
  ∀ (pc : Nat) (ls st : List abV) (g : abSt) (r' : List abF), nx pc ls st g = some r' → (∀ x ∈ r', x ∈ r) → abW D z sb sl rh w0 p l ev R s m args below meth c Q pc ls st g
theorem abHd_some {st : List abV} {f : abV → List abV → abR} {r : List abF} (h : abHd st f = some r) : ∃ v s', st = v :: s' ∧ f v s' = some r := by
  cases st with
  | nil => cases h
  | cons v s' => exact ⟨v, s', rfl, h⟩
theorem ab2_some {st : List abV} {f : abV → abV → List abV → abR} {r : List abF} (h : ab2 st f = some r) : ∃ w v s', st = w :: v :: s' ∧ f w v s' = some r := by
  obtain ⟨w, s1, rfl, h1⟩ := abHd_some h
  obtain ⟨v, s2, rfl, h2⟩ := abHd_some h1
  exact ⟨w, v, s2, rfl, h2⟩
theorem abHok.env {D : va_G} {z sb sl : Nat} {rh : Nat → Int} {s : State} {ws : va_W} {H : Heap} {locs : List Loc} {g : abSt} {e : abE} (h : abHok D z sb sl rh s ws H locs g) (he : abEok rh e) : abHok D z sb sl rh s ws H locs (abSe g e) := by
  obtain ⟨h1, h2, h3, h4, h5, h6, h7, -⟩ := h
  exact ⟨h1, h2, h3, h4, h5, h6, h7, he⟩
end
section
/-! the classes: what the tables say of them -/
set_option maxRecDepth 20000 in
theorem abCw0 : ∀ w ∈ u_ws RX0 TX0 7, w ∈ abTw := fun w hw => abTaT ((by decide +kernel : ∀ w ∈ u_ws RX0 TX0 7, w ∈ lw_tbl) w hw) ((by decide +kernel : ∀ w ∈ u_ws RX0 TX0 7, goodWord w = true) w hw)
theorem abCd0 : ∀ k, k < 7 → (TX0 k).1 = RX0 := by decide +kernel
set_option maxRecDepth 20000 in
theorem abCw1 : ∀ w ∈ u_ws RX1 TX1 11, w ∈ abTw := fun w hw => abTaT ((by decide +kernel : ∀ w ∈ u_ws RX1 TX1 11, w ∈ lw_tbl) w hw) ((by decide +kernel : ∀ w ∈ u_ws RX1 TX1 11, goodWord w = true) w hw)
theorem abCd1 : ∀ k, k < 11 → (TX1 k).1 = RX1 := by decide +kernel
set_option maxRecDepth 20000 in
theorem abCw2 : ∀ w ∈ u_ws RX2 TX2 8, w ∈ abTw := fun w hw => abTaT ((by decide +kernel : ∀ w ∈ u_ws RX2 TX2 8, w ∈ lw_tbl) w hw) ((by decide +kernel : ∀ w ∈ u_ws RX2 TX2 8, goodWord w = true) w hw)
theorem abCd2 : ∀ k, k < 8 → (TX2 k).1 = RX2 := by decide +kernel
set_option maxRecDepth 20000 in
theorem abCw3 : ∀ w ∈ u_ws RX3 TX3 5, w ∈ abTw := fun w hw => abTaT ((by decide +kernel : ∀ w ∈ u_ws RX3 TX3 5, w ∈ lw_tbl) w hw) ((by decide +kernel : ∀ w ∈ u_ws RX3 TX3 5, goodWord w = true) w hw)
theorem abCd3 : ∀ k, k < 5 → (TX3 k).1 = RX3 := by decide +kernel
set_option maxRecDepth 20000 in
theorem abCw4 : ∀ w ∈ u_ws RX4 TX4 9, w ∈ abTw := fun w hw => abTaT ((by decide +kernel : ∀ w ∈ u_ws RX4 TX4 9, w ∈ lw_tbl) w hw) ((by decide +kernel : ∀ w ∈ u_ws RX4 TX4 9, goodWord w = true) w hw)
theorem abCd4 : ∀ k, k < 9 → (TX4 k).1 = RX4 := by decide +kernel
set_option maxRecDepth 20000 in
theorem abCw5 : ∀ w ∈ u_ws RX5 TX5 3, w ∈ abTw := fun w hw => abTaT ((by decide +kernel : ∀ w ∈ u_ws RX5 TX5 3, w ∈ lw_tbl) w hw) ((by decide +kernel : ∀ w ∈ u_ws RX5 TX5 3, goodWord w = true) w hw)
theorem abCd5 : ∀ k, k < 3 → (TX5 k).1 = RX5 := by decide +kernel
set_option maxRecDepth 20000 in
theorem abCw6 : ∀ w ∈ u_ws RX6 TX6 9, w ∈ abTw := fun w hw => abTaT ((by decide +kernel : ∀ w ∈ u_ws RX6 TX6 9, w ∈ lw_tbl) w hw) ((by decide +kernel : ∀ w ∈ u_ws RX6 TX6 9, goodWord w = true) w hw)
theorem abCd6 : ∀ k, k < 9 → (TX6 k).1 = RX6 := by decide +kernel
set_option maxRecDepth 20000 in
theorem abCw7 : ∀ w ∈ u_ws RX7 TX7 9, w ∈ abTw := fun w hw => abTaT ((by decide +kernel : ∀ w ∈ u_ws RX7 TX7 9, w ∈ lw_tbl) w hw) ((by decide +kernel : ∀ w ∈ u_ws RX7 TX7 9, goodWord w = true) w hw)
theorem abCd7 : ∀ k, k < 9 → (TX7 k).1 = RX7 := by decide +kernel
set_option maxRecDepth 20000 in
theorem abCw8 : ∀ w ∈ u_ws RX8 TX8 1, w ∈ abTw := fun w hw => abTaT ((by decide +kernel : ∀ w ∈ u_ws RX8 TX8 1, w ∈ lw_tbl) w hw) ((by decide +kernel : ∀ w ∈ u_ws RX8 TX8 1, goodWord w = true) w hw)
theorem abCd8 : ∀ k, k < 1 → (TX8 k).1 = RX8 := by decide +kernel
set_option maxRecDepth 20000 in
theorem abCw9 : ∀ w ∈ u_ws RX9 TX9 3, w ∈ abTw := fun w hw => abTaT ((by decide +kernel : ∀ w ∈ u_ws RX9 TX9 3, w ∈ lw_tbl) w hw) ((by decide +kernel : ∀ w ∈ u_ws RX9 TX9 3, goodWord w = true) w hw)
theorem abCd9 : ∀ k, k < 3 → (TX9 k).1 = RX9 := by decide +kernel
set_option maxRecDepth 20000 in
theorem abCw10 : ∀ w ∈ u_ws RX10 TX10 15, w ∈ abTw := fun w hw => abTaT ((by decide +kernel : ∀ w ∈ u_ws RX10 TX10 15, w ∈ lw_tbl) w hw) ((by decide +kernel : ∀ w ∈ u_ws RX10 TX10 15, goodWord w = true) w hw)
theorem abCd10 : ∀ k, k < 15 → (TX10 k).1 = RX10 := by decide +kernel
set_option maxRecDepth 20000 in
theorem abCw11 : ∀ w ∈ u_ws RX11 TX11 13, w ∈ abTw := fun w hw => abTaT ((by decide +kernel : ∀ w ∈ u_ws RX11 TX11 13, w ∈ lw_tbl) w hw) ((by decide +kernel : ∀ w ∈ u_ws RX11 TX11 13, goodWord w = true) w hw)
theorem abCd11 : ∀ k, k < 13 → (TX11 k).1 = RX11 := by decide +kernel
set_option maxRecDepth 20000 in
theorem abCw12 : ∀ w ∈ u_ws RX12 TX12 41, w ∈ abTw := fun w hw => abTaT ((by decide +kernel : ∀ w ∈ u_ws RX12 TX12 41, w ∈ lw_tbl) w hw) ((by decide +kernel : ∀ w ∈ u_ws RX12 TX12 41, goodWord w = true) w hw)
theorem abCd12 : ∀ k, k < 41 → (TX12 k).1 = RX12 := by decide +kernel
theorem abCls_ok : ∀ (ci : Nat) (q : vw_C), abCls[ci]? = some q → (∀ w ∈ u_ws q.1 q.2.1 q.2.2, w ∈ abTw) ∧ (∀ k, k < q.2.2 → parseFieldDescriptor (q.2.1 k).2.2.1 = some (abTyp ci k)) ∧ (∀ a, a < q.2.2 → ∀ b, b < q.2.2 → a ≠ b → (q.2.1 a).2.1 ≠ (q.2.1 b).2.1) ∧ (∀ k, k < q.2.2 → (q.2.1 k).1 = q.1) := by
  intro ci q h
  match ci, h with
  | 0, h =>
    cases h
    exact ⟨abCw0, tyX0_ok, nmX0, abCd0⟩
  | 1, h =>
    cases h
    exact ⟨abCw1, tyX1_ok, nmX1, abCd1⟩
  | 2, h =>
    cases h
    exact ⟨abCw2, tyX2_ok, nmX2, abCd2⟩
  | 3, h =>
    cases h
    exact ⟨abCw3, tyX3_ok, nmX3, abCd3⟩
  | 4, h =>
    cases h
    exact ⟨abCw4, tyX4_ok, nmX4, abCd4⟩
  | 5, h =>
    cases h
    exact ⟨abCw5, tyX5_ok, nmX5, abCd5⟩
  | 6, h =>
    cases h
    exact ⟨abCw6, tyX6_ok, nmX6, abCd6⟩
  | 7, h =>
    cases h
    exact ⟨abCw7, tyX7_ok, nmX7, abCd7⟩
  | 8, h =>
    cases h
    exact ⟨abCw8, tyX8_ok, nmX8, abCd8⟩
  | 9, h =>
    cases h
    exact ⟨abCw9, tyX9_ok, nmX9, abCd9⟩
  | 10, h =>
    cases h
    exact ⟨abCw10, tyX10_ok, nmX10, abCd10⟩
  | 11, h =>
    cases h
    exact ⟨abCw11, tyX11_ok, nmX11, abCd11⟩
  | 12, h =>
    cases h
    exact ⟨abCw12, tyX12_ok, nmX12, abCd12⟩
  | _ + 13, h => exact absurd h (by simp [abCls])
end
section
/-! SOUNDNESS, 2: the instructions -/
def abOk (op : Nat) (F : abPo) : Prop := ∀ (D : va_G) (z sb sl : Nat) (rh : Nat → Int) (xs0 : Nat → Int32) (w0 : va_W) (p : Program) (l : Launch) (ev : Env) (R : Room) (s : State) (m : MethodId) (args : Array Value) (below : List Frame) (meth : Method) (c : Code) (Q : State → Prop) (k d : Nat) (nx : abNx) (e : abEy) (pc : Nat) (ls st : List abV) (g : abSt) (r : List abF), abFr z sb sl rh xs0 k d p R s m args meth c → abEtOk k e → e.1 = op → e.2.1 = pc → abNs D z sb sl rh w0 p l ev R s m args below meth c Q r nx → F nx k e pc ls st g = some r → abW D z sb sl rh w0 p l ev R s m args below meth c Q pc ls st g
theorem abSelfI {ws : va_W} {sb sl : Nat} {rh : Nat → Int} {x : Nat} {y : Int32} (h : y.toInt + abB = (x : Int)) : abG ws sb sl rh (0, x, x) (.int y) := ⟨y, rfl, by show (x : Int) ≤ _; omega, by show _ ≤ (x : Int); omega⟩
theorem abSelfL {ws : va_W} {sb sl : Nat} {rh : Nat → Int} {x : Nat} {y : Int64} (h : y.toInt + abB = (x : Int)) : abG ws sb sl rh (2, x, x) (.long y) := ⟨y, rfl, by show (x : Int) ≤ _; omega, by show _ ≤ (x : Int); omega⟩
theorem abS1 : abOk 1 (abOc 0 1) := by
  intro D z sb sl rh xs0 w0 p l ev R s m args below meth c Q k d nx e pc ls st g r hF hE hop hpc hnx h
  obtain ⟨hx, hb, -⟩ := hF
  obtain ⟨o, pc', a1, a2, x, ps⟩ := e
  have ho : o = 1 := hop
  have hp : pc' = pc := hpc
  subst ho; subst hp
  have hd := abEt_dec hE (show ¬ (1 : Nat) = 85 by decide) rfl
  have hs := of_decide_eq_true (show decide ((Int32.ofInt ((x : Int) - abB)).toInt + abB = x) = true from hE.2.2)
  intro H locs ws A xs hH hX hL hS
  refine lv_iconst hx hb hd rfl ?_
  exact hnx _ _ _ _ r h (fun _ q => q) H locs ws A _ hH hX hL ⟨_, _, rfl, abSelfI hs, hS⟩
theorem abS2 : abOk 2 (abOc 0 2) := by
  intro D z sb sl rh xs0 w0 p l ev R s m args below meth c Q k d nx e pc ls st g r hF hE hop hpc hnx h
  obtain ⟨hx, hb, -⟩ := hF
  obtain ⟨o, pc', a1, a2, x, ps⟩ := e
  have ho : o = 2 := hop
  have hp : pc' = pc := hpc
  subst ho; subst hp
  have hd := abEt_dec hE (show ¬ (2 : Nat) = 85 by decide) rfl
  have hs := of_decide_eq_true (show decide ((Int8.ofInt ((x : Int) - abB)).toInt32.toInt + abB = x) = true from hE.2.2)
  intro H locs ws A xs hH hX hL hS
  refine lv_bipush hx hb hd rfl ?_
  exact hnx _ _ _ _ r h (fun _ q => q) H locs ws A _ hH hX hL ⟨_, _, rfl, abSelfI hs, hS⟩
theorem abS3 : abOk 3 (abOc 0 3) := by
  intro D z sb sl rh xs0 w0 p l ev R s m args below meth c Q k d nx e pc ls st g r hF hE hop hpc hnx h
  obtain ⟨hx, hb, -⟩ := hF
  obtain ⟨o, pc', a1, a2, x, ps⟩ := e
  have ho : o = 3 := hop
  have hp : pc' = pc := hpc
  subst ho; subst hp
  have hd := abEt_dec hE (show ¬ (3 : Nat) = 85 by decide) rfl
  have hs := of_decide_eq_true (show decide ((Int16.ofInt ((x : Int) - abB)).toInt32.toInt + abB = x) = true from hE.2.2)
  intro H locs ws A xs hH hX hL hS
  refine lv_sipush hx hb hd rfl ?_
  exact hnx _ _ _ _ r h (fun _ q => q) H locs ws A _ hH hX hL ⟨_, _, rfl, abSelfI hs, hS⟩
theorem abS4 : abOk 4 (abOc 0 2) := by
  intro D z sb sl rh xs0 w0 p l ev R s m args below meth c Q k d nx e pc ls st g r hF hE hop hpc hnx h
  obtain ⟨hx, hb, hml, hown, hts, -⟩ := hF
  obtain ⟨o, pc', a1, a2, x, ps⟩ := e
  have ho : o = 4 := hop
  have hp : pc' = pc := hpc
  subst ho; subst hp
  have hd := abEt_dec hE (show ¬ (4 : Nat) = 85 by decide) rfl
  have hs := of_decide_eq_true (show decide ((abOf x).toInt + abB = x) = true from hE.2.2)
  have hw := hts _ (hE.2.1 (.constant (abOwn k) a1 (abOf x)) List.mem_cons_self)
  intro H locs ws A xs hH hX hL hS
  refine lv_ldc hx hb hown hw hd ?_
  exact hnx _ _ _ _ r h (fun _ q => q) H locs ws A _ hH hX hL ⟨_, _, rfl, abSelfI hs, hS⟩
theorem abS5 : abOk 5 (abOc 0 3) := by
  intro D z sb sl rh xs0 w0 p l ev R s m args below meth c Q k d nx e pc ls st g r hF hE hop hpc hnx h
  obtain ⟨hx, hb, hml, hown, hts, -⟩ := hF
  obtain ⟨o, pc', a1, a2, x, ps⟩ := e
  have ho : o = 5 := hop
  have hp : pc' = pc := hpc
  subst ho; subst hp
  have hd := abEt_dec hE (show ¬ (5 : Nat) = 85 by decide) rfl
  have hs := of_decide_eq_true (show decide ((abOf x).toInt + abB = x) = true from hE.2.2)
  have hw := hts _ (hE.2.1 (.constant (abOwn k) a1 (abOf x)) List.mem_cons_self)
  intro H locs ws A xs hH hX hL hS
  refine lv_ldcw hx hb hown hw hd ?_
  exact hnx _ _ _ _ r h (fun _ q => q) H locs ws A _ hH hX hL ⟨_, _, rfl, abSelfI hs, hS⟩
theorem abS7 : abOk 7 (abOc 2 3) := by
  intro D z sb sl rh xs0 w0 p l ev R s m args below meth c Q k d nx e pc ls st g r hF hE hop hpc hnx h
  obtain ⟨hx, hb, hml, hown, hts, -⟩ := hF
  obtain ⟨o, pc', a1, a2, x, ps⟩ := e
  have ho : o = 7 := hop
  have hp : pc' = pc := hpc
  subst ho; subst hp
  have hd := abEt_dec hE (show ¬ (7 : Nat) = 85 by decide) rfl
  have hs := of_decide_eq_true (show decide ((Int64.ofInt ((x : Int) - abB)).toInt + abB = x) = true from hE.2.2)
  have hw := hts _ (hE.2.1 (.constantLong (abOwn k) a1 (Int64.ofInt ((x : Int) - abB))) List.mem_cons_self)
  intro H locs ws A xs hH hX hL hS
  refine lv_ldc2 hx hb hown hw hd ?_
  exact hnx _ _ _ _ r h (fun _ q => q) H locs ws A _ hH hX hL ⟨_, _, rfl, abSelfL hs, hS⟩
theorem abS6 : abOk 6 (abOc 2 1) := by
  intro D z sb sl rh xs0 w0 p l ev R s m args below meth c Q k d nx e pc ls st g r hF hE hop hpc hnx h
  obtain ⟨hx, hb, -⟩ := hF
  obtain ⟨o, pc', a1, a2, x, ps⟩ := e
  have ho : o = 6 := hop
  have hp : pc' = pc := hpc
  subst ho; subst hp
  have hs := of_decide_eq_true (show decide (x = 9223372036854775808 ∨ x = 9223372036854775809) = true from hE.2.2)
  intro H locs ws A xs hH hX hL hS
  rcases hs with rfl | rfl
  · have hd := abEt_dec hE (show ¬ (6 : Nat) = 85 by decide) rfl
    refine lv_lconst (v := 0) hx hb hd rfl ?_
    exact hnx _ _ _ _ r h (fun _ q => q) H locs ws A _ hH hX hL ⟨_, _, rfl, abSelfL rfl, hS⟩
  · have hd := abEt_dec hE (show ¬ (6 : Nat) = 85 by decide) rfl
    refine lv_lconst (v := 1) hx hb hd rfl ?_
    exact hnx _ _ _ _ r h (fun _ q => q) H locs ws A _ hH hX hL ⟨_, _, rfl, abSelfL rfl, hS⟩
/-! loads -/
theorem abLok.at {ws : va_W} {sb sl : Nat} {rh : Nat → Int} {ls : List abV} {n : Nat} {A : Array Slot} (h : abLok ws sb sl rh ls n A) (i : Nat) (hv : (abNth ls i).1 ≤ 7) : ∃ x : Value, A[i]? = some (.val x) ∧ abG ws sb sl rh (abNth ls i) x := by
  obtain ⟨h1, lv, h2, h3⟩ := h
  rw [abNth_get] at hv ⊢
  cases hi : ls[i]? with
  | none => rw [hi] at hv; exact absurd hv (by decide)
  | some v =>
    rw [hi] at hv
    obtain ⟨x, q1, q2⟩ := h3 i v hi hv
    exact ⟨x, h2.2.2 _ q1, q2⟩
theorem abDiv {n c : Nat} (h : Nat.beq (n / 2) c = true) : n = 2 * c ∨ n = 2 * c + 1 := by
  have := abBeq h
  omega
theorem abG_i {ws : va_W} {sb sl : Nat} {rh : Nat → Int} {v : abV} {x : Value} (g : abG ws sb sl rh v x) (h : v.1 = 0 ∨ v.1 = 1) : ∃ y : Int32, x = .int y := by
  obtain ⟨t, a, b⟩ := v
  rcases h with q | q
  · have q' : t = 0 := q
    subst q'
    obtain ⟨y, hy, -⟩ := g
    exact ⟨y, hy⟩
  · have q' : t = 1 := q
    subst q'
    obtain ⟨y, hy, -⟩ := g
    exact ⟨y, hy⟩
theorem abG_l {ws : va_W} {sb sl : Nat} {rh : Nat → Int} {v : abV} {x : Value} (g : abG ws sb sl rh v x) (h : v.1 = 2 ∨ v.1 = 3) : ∃ y : Int64, x = .long y := by
  obtain ⟨t, a, b⟩ := v
  rcases h with q | q
  · have q' : t = 2 := q
    subst q'
    obtain ⟨y, hy, -⟩ := g
    exact ⟨y, hy⟩
  · have q' : t = 3 := q
    subst q'
    obtain ⟨y, hy, -⟩ := g
    exact ⟨y, hy⟩
theorem abG_a {ws : va_W} {sb sl : Nat} {rh : Nat → Int} {v : abV} {x : Value} (g : abG ws sb sl rh v x) (h : v.1 = 4 ∨ v.1 = 5) : ∃ y : Nat, x = .ref y := by
  obtain ⟨t, a, b⟩ := v
  rcases h with q | q
  · have q' : t = 4 := q
    subst q'
    obtain ⟨y, e, -, hy⟩ := g
    exact ⟨y, hy⟩
  · have q' : t = 5 := q
    subst q'
    exact ⟨sb, g.1⟩
theorem abIn1_some {f : Fin 4 → Jvm.ClassFile.Instr} {n : Nat} {i : Jvm.ClassFile.Instr × Nat} (h : abIn1 f n = some i) : ∃ (q : n < 4), i = (f ⟨n, q⟩, 1) := by
  unfold abIn1 abFn at h
  by_cases q : n < 4
  · rw [dif_pos q] at h
    cases h
    exact ⟨q, rfl⟩
  · rw [dif_neg q] at h
    cases h
theorem abEt_dec1 {k : Nat} {e : abEy} {f : Fin 4 → Jvm.ClassFile.Instr} {n : Nat} (h : abEtOk k e) (h85 : ¬ e.1 = 85) (hi : abIns e = abIn1 f n) : ∃ (q : n < 4), decode (abBy k) e.2.1 = .ok (f ⟨n, q⟩, 1) := by
  rcases h.1 with q | ⟨j, q1, q2⟩
  · exact absurd q h85
  · rw [hi] at q1
    obtain ⟨q, rfl⟩ := abIn1_some q1
    exact ⟨q, q2⟩
theorem abS8 : abOk 8 (abOl 0 2) := by
  intro D z sb sl rh xs0 w0 p l ev R s m args below meth c Q k d nx e pc ls st g r hF hE hop hpc hnx h
  obtain ⟨hx, hb, hml, hown, hts, hnm, hz, hR1, hR2, hR3, hR4, hlaw⟩ := hF
  obtain ⟨o, pc', a1, a2, x, ps⟩ := e
  have ho : o = 8 := hop
  have hp : pc' = pc := hpc
  subst ho; subst hp
  have hd := abEt_dec hE (show ¬ (8 : Nat) = 85 by decide) rfl
  obtain ⟨h1, h2⟩ := abIf_some h
  have h3 : (abNth ls a2).1 = 2 * 0 ∨ (abNth ls a2).1 = 2 * 0 + 1 := abDiv h1
  intro H locs ws A xs hH hX hL hS
  obtain ⟨v, hv, gv⟩ := hL.at a2 (by omega)
  obtain ⟨y, rfl⟩ := abG_i gv (by omega)
  refine lv_iload hx hb hd hv ?_
  exact hnx _ _ _ _ r h2 (fun _ q => q) H locs ws A _ hH hX hL ⟨_, _, rfl, gv, hS⟩
theorem abS9 : abOk 9 (abOl 0 1) := by
  intro D z sb sl rh xs0 w0 p l ev R s m args below meth c Q k d nx e pc ls st g r hF hE hop hpc hnx h
  obtain ⟨hx, hb, hml, hown, hts, hnm, hz, hR1, hR2, hR3, hR4, hlaw⟩ := hF
  obtain ⟨o, pc', a1, a2, x, ps⟩ := e
  have ho : o = 9 := hop
  have hp : pc' = pc := hpc
  subst ho; subst hp
  obtain ⟨h4, hd⟩ := abEt_dec1 hE (show ¬ (9 : Nat) = 85 by decide) rfl
  obtain ⟨h1, h2⟩ := abIf_some h
  have h3 : (abNth ls a2).1 = 2 * 0 ∨ (abNth ls a2).1 = 2 * 0 + 1 := abDiv h1
  intro H locs ws A xs hH hX hL hS
  obtain ⟨v, hv, gv⟩ := hL.at a2 (by omega)
  obtain ⟨y, rfl⟩ := abG_i gv (by omega)
  refine lv_iload_n hx hb hd rfl hv ?_
  exact hnx _ _ _ _ r h2 (fun _ q => q) H locs ws A _ hH hX hL ⟨_, _, rfl, gv, hS⟩
theorem abS10 : abOk 10 (abOl 1 2) := by
  intro D z sb sl rh xs0 w0 p l ev R s m args below meth c Q k d nx e pc ls st g r hF hE hop hpc hnx h
  obtain ⟨hx, hb, hml, hown, hts, hnm, hz, hR1, hR2, hR3, hR4, hlaw⟩ := hF
  obtain ⟨o, pc', a1, a2, x, ps⟩ := e
  have ho : o = 10 := hop
  have hp : pc' = pc := hpc
  subst ho; subst hp
  have hd := abEt_dec hE (show ¬ (10 : Nat) = 85 by decide) rfl
  obtain ⟨h1, h2⟩ := abIf_some h
  have h3 : (abNth ls a2).1 = 2 * 1 ∨ (abNth ls a2).1 = 2 * 1 + 1 := abDiv h1
  intro H locs ws A xs hH hX hL hS
  obtain ⟨v, hv, gv⟩ := hL.at a2 (by omega)
  obtain ⟨y, rfl⟩ := abG_l gv (by omega)
  refine lv_lload hx hb hd hv ?_
  exact hnx _ _ _ _ r h2 (fun _ q => q) H locs ws A _ hH hX hL ⟨_, _, rfl, gv, hS⟩
theorem abS11 : abOk 11 (abOl 1 1) := by
  intro D z sb sl rh xs0 w0 p l ev R s m args below meth c Q k d nx e pc ls st g r hF hE hop hpc hnx h
  obtain ⟨hx, hb, hml, hown, hts, hnm, hz, hR1, hR2, hR3, hR4, hlaw⟩ := hF
  obtain ⟨o, pc', a1, a2, x, ps⟩ := e
  have ho : o = 11 := hop
  have hp : pc' = pc := hpc
  subst ho; subst hp
  obtain ⟨h4, hd⟩ := abEt_dec1 hE (show ¬ (11 : Nat) = 85 by decide) rfl
  obtain ⟨h1, h2⟩ := abIf_some h
  have h3 : (abNth ls a2).1 = 2 * 1 ∨ (abNth ls a2).1 = 2 * 1 + 1 := abDiv h1
  intro H locs ws A xs hH hX hL hS
  obtain ⟨v, hv, gv⟩ := hL.at a2 (by omega)
  obtain ⟨y, rfl⟩ := abG_l gv (by omega)
  refine lv_lload_n hx hb hd rfl hv ?_
  exact hnx _ _ _ _ r h2 (fun _ q => q) H locs ws A _ hH hX hL ⟨_, _, rfl, gv, hS⟩
theorem abS12 : abOk 12 (abOl 2 2) := by
  intro D z sb sl rh xs0 w0 p l ev R s m args below meth c Q k d nx e pc ls st g r hF hE hop hpc hnx h
  obtain ⟨hx, hb, hml, hown, hts, hnm, hz, hR1, hR2, hR3, hR4, hlaw⟩ := hF
  obtain ⟨o, pc', a1, a2, x, ps⟩ := e
  have ho : o = 12 := hop
  have hp : pc' = pc := hpc
  subst ho; subst hp
  have hd := abEt_dec hE (show ¬ (12 : Nat) = 85 by decide) rfl
  obtain ⟨h1, h2⟩ := abIf_some h
  have h3 : (abNth ls a2).1 = 2 * 2 ∨ (abNth ls a2).1 = 2 * 2 + 1 := abDiv h1
  intro H locs ws A xs hH hX hL hS
  obtain ⟨v, hv, gv⟩ := hL.at a2 (by omega)
  obtain ⟨y, rfl⟩ := abG_a gv (by omega)
  refine lv_aload hx hb hd hv ?_
  exact hnx _ _ _ _ r h2 (fun _ q => q) H locs ws A _ hH hX hL ⟨_, _, rfl, gv, hS⟩
theorem abS13 : abOk 13 (abOl 2 1) := by
  intro D z sb sl rh xs0 w0 p l ev R s m args below meth c Q k d nx e pc ls st g r hF hE hop hpc hnx h
  obtain ⟨hx, hb, hml, hown, hts, hnm, hz, hR1, hR2, hR3, hR4, hlaw⟩ := hF
  obtain ⟨o, pc', a1, a2, x, ps⟩ := e
  have ho : o = 13 := hop
  have hp : pc' = pc := hpc
  subst ho; subst hp
  obtain ⟨h4, hd⟩ := abEt_dec1 hE (show ¬ (13 : Nat) = 85 by decide) rfl
  obtain ⟨h1, h2⟩ := abIf_some h
  have h3 : (abNth ls a2).1 = 2 * 2 ∨ (abNth ls a2).1 = 2 * 2 + 1 := abDiv h1
  intro H locs ws A xs hH hX hL hS
  obtain ⟨v, hv, gv⟩ := hL.at a2 (by omega)
  obtain ⟨y, rfl⟩ := abG_a gv (by omega)
  refine lv_aload_n hx hb hd rfl hv ?_
  exact hnx _ _ _ _ r h2 (fun _ q => q) H locs ws A _ hH hX hL ⟨_, _, rfl, gv, hS⟩
end
section
/-! stores -/
theorem abCat1 {w : abV} (h1 : w.1 ≤ 7) (h2 : ¬ w.1 / 2 = 1) : abCat w = 0 + 1 := by
  obtain ⟨t, a, b⟩ := w
  have h1' : t ≤ 7 := h1
  have h2' : ¬ t / 2 = 1 := h2
  rcases (show t = 0 ∨ t = 1 ∨ t = 4 ∨ t = 5 ∨ t = 6 ∨ t = 7 by omega) with rfl | rfl | rfl | rfl | rfl | rfl <;> rfl
theorem abSt1_get {ls : List abV} {i j : Nat} {v w : abV} (hj : j ≠ i) (h : (abSt1 ls i v)[j]? = some w) (hw : w.1 ≤ 7) : ls[j]? = some w ∧ ¬ (j + 1 = i ∧ w.1 / 2 = 1) := by
  unfold abSt1 at h
  cases hc : Nat.beq ((abNth ls (i - 1)).1 / 2) 1 with
  | true =>
    rw [abIf_t hc, abUpd_set, abUpd_set, List.getElem?_set_ne (Ne.symm hj)] at h
    by_cases hq : i - 1 = j
    · subst hq
      by_cases hl : i - 1 < ls.length
      · rw [List.getElem?_set_self hl] at h
        cases h
        exact absurd hw (by decide)
      · rw [List.getElem?_eq_none (by simp; omega)] at h
        cases h
    · rw [List.getElem?_set_ne hq] at h
      exact ⟨h, fun q => hq (by omega)⟩
  | false =>
    rw [abIf_f hc, abUpd_set, List.getElem?_set_ne (Ne.symm hj)] at h
    refine ⟨h, fun q => ?_⟩
    have e : i - 1 = j := by omega
    rw [e, abNth_get, h] at hc
    exact abBeq_f hc q.2
theorem abSt1_len (ls : List abV) (i : Nat) (v : abV) : (abSt1 ls i v).length = ls.length := by
  unfold abSt1
  cases hc : Nat.beq ((abNth ls (i - 1)).1 / 2) 1 with
  | true => rw [abIf_t rfl, abUpd_set, abUpd_set, List.length_set, List.length_set]
  | false => rw [abIf_f rfl, abUpd_set, List.length_set]
theorem abSt1_self {ls : List abV} {i : Nat} {v w : abV} (h : (abSt1 ls i v)[i]? = some w) : w = v := by
  unfold abSt1 at h
  have key : ∀ l : List abV, (l.set i v)[i]? = some w → w = v := by
    intro l hl
    by_cases hi : i < l.length
    · rw [List.getElem?_set_self hi] at hl
      cases hl
      rfl
    · rw [List.getElem?_eq_none (by simp; omega)] at hl
      cases hl
  cases hc : Nat.beq ((abNth ls (i - 1)).1 / 2) 1 with
  | true => rw [abIf_t hc, abUpd_set] at h; exact key _ h
  | false => rw [abIf_f hc, abUpd_set] at h; exact key _ h
theorem abLok.st1 {ws : va_W} {sb sl : Nat} {rh : Nat → Int} {ls : List abV} {n i : Nat} {A A' : Array Slot} {v : abV} {x : Value} {lv : List (Nat × Value)} (h1 : ls.length = n) (h3 : ∀ (i : Nat) (v : abV), ls[i]? = some v → v.1 ≤ 7 → ∃ x : Value, (i, x) ∈ lv ∧ abG ws sb sl rh v x) (gv : abG ws sb sl rh v x) (h : lv_has A' n ((i, x) :: lv.filter (fun q => !(q.1 == i) && !(q.1 + 1 == i && q.2.category == 2)))) : abLok ws sb sl rh (abSt1 ls i v) n A' := by
  refine ⟨by rw [abSt1_len]; exact h1, _, h, fun j w hj hw => ?_⟩
  by_cases e : j = i
  · subst e
    rw [abSt1_self hj]
    exact ⟨x, List.mem_cons_self, gv⟩
  · obtain ⟨q1, q2⟩ := abSt1_get e hj hw
    obtain ⟨y, q3, q4⟩ := h3 j w q1 hw
    refine ⟨y, List.mem_cons_of_mem _ (List.mem_filter.mpr ⟨q3, ?_⟩), q4⟩
    by_cases hi : j + 1 = i
    · have hc := abCat_ok (abCat1 hw (fun z => q2 ⟨hi, z⟩)) q4
      simp [e, hc]
    · simp [e, hi]
theorem abLok.st2 {ws : va_W} {sb sl : Nat} {rh : Nat → Int} {ls : List abV} {n i : Nat} {A A' : Array Slot} {v : abV} {x : Value} {lv : List (Nat × Value)} (h1 : ls.length = n) (h3 : ∀ (i : Nat) (v : abV), ls[i]? = some v → v.1 ≤ 7 → ∃ x : Value, (i, x) ∈ lv ∧ abG ws sb sl rh v x) (gv : abG ws sb sl rh v x) (h : lv_has A' n ((i, x) :: lv.filter (fun q => !(q.1 == i) && (!(q.1 == i + 1) && !(q.1 + 1 == i && q.2.category == 2))))) : abLok ws sb sl rh (abSt2 ls i v) n A' := by
  refine ⟨by unfold abSt2; rw [abUpd_set, List.length_set, abSt1_len]; exact h1, _, h, fun j w hj hw => ?_⟩
  unfold abSt2 at hj
  rw [abUpd_set] at hj
  by_cases e2 : j = i + 1
  · subst e2
    by_cases hl : i + 1 < (abSt1 ls i v).length
    · rw [List.getElem?_set_self hl] at hj
      cases hj
      exact absurd hw (by decide)
    · rw [List.getElem?_eq_none (by simp; omega)] at hj
      cases hj
  · rw [List.getElem?_set_ne (Ne.symm e2)] at hj
    by_cases e : j = i
    · subst e
      rw [abSt1_self hj]
      exact ⟨x, List.mem_cons_self, gv⟩
    · obtain ⟨q1, q2⟩ := abSt1_get e hj hw
      obtain ⟨y, q3, q4⟩ := h3 j w q1 hw
      refine ⟨y, List.mem_cons_of_mem _ (List.mem_filter.mpr ⟨q3, ?_⟩), q4⟩
      by_cases hi : j + 1 = i
      · have hc := abCat_ok (abCat1 hw (fun z => q2 ⟨hi, z⟩)) q4
        simp [e, e2, hc]
      · simp [e, e2, hi]
theorem abS14 : abOk 14 (abOs 0 2) := by
  intro D z sb sl rh xs0 w0 p l ev R s m args below meth c Q k d nx e pc ls st g r hF hE hop hpc hnx h
  obtain ⟨hx, hb, hml, hown, hts, hnm, hz, hR1, hR2, hR3, hR4, hlaw⟩ := hF
  obtain ⟨o, pc', a1, a2, x, ps⟩ := e
  have ho : o = 14 := hop
  have hp : pc' = pc := hpc
  subst ho; subst hp
  have hd := abEt_dec hE (show ¬ (14 : Nat) = 85 by decide) rfl
  have hi := of_decide_eq_true (show decide (a2 < (abMe k).1.2.2.1) = true from hE.2.2)
  rw [← hml] at hi
  obtain ⟨v, rr, rfl, h0⟩ := abHd_some h
  obtain ⟨h1, h2⟩ := abIf_some h0
  have h3 := abDiv h1
  intro H locs ws A xs hH hX hL hS
  obtain ⟨y0, xr, rfl, gv, hS'⟩ := hS
  obtain ⟨y, rfl⟩ := abG_i gv (by omega)
  obtain ⟨l1, lv, l2, l3⟩ := hL
  refine lv_istore hx hb hd l2 hi rfl (fun ls' hls' => ?_)
  exact hnx _ _ _ _ r h2 (fun _ q => q) H locs ws ls' _ hH hX (abLok.st1 (A := A) l1 l3 gv hls') hS'
theorem abS15 : abOk 15 (abOs 0 1) := by
  intro D z sb sl rh xs0 w0 p l ev R s m args below meth c Q k d nx e pc ls st g r hF hE hop hpc hnx h
  obtain ⟨hx, hb, hml, hown, hts, hnm, hz, hR1, hR2, hR3, hR4, hlaw⟩ := hF
  obtain ⟨o, pc', a1, a2, x, ps⟩ := e
  have ho : o = 15 := hop
  have hp : pc' = pc := hpc
  subst ho; subst hp
  obtain ⟨h4, hd⟩ := abEt_dec1 hE (show ¬ (15 : Nat) = 85 by decide) rfl
  have hi := of_decide_eq_true (show decide (a2 < (abMe k).1.2.2.1) = true from hE.2.2)
  rw [← hml] at hi
  obtain ⟨v, rr, rfl, h0⟩ := abHd_some h
  obtain ⟨h1, h2⟩ := abIf_some h0
  have h3 := abDiv h1
  intro H locs ws A xs hH hX hL hS
  obtain ⟨y0, xr, rfl, gv, hS'⟩ := hS
  obtain ⟨y, rfl⟩ := abG_i gv (by omega)
  obtain ⟨l1, lv, l2, l3⟩ := hL
  refine lv_istore_n hx hb hd rfl l2 hi rfl (fun ls' hls' => ?_)
  exact hnx _ _ _ _ r h2 (fun _ q => q) H locs ws ls' _ hH hX (abLok.st1 (A := A) l1 l3 gv hls') hS'
theorem abS18 : abOk 18 (abOs 2 2) := by
  intro D z sb sl rh xs0 w0 p l ev R s m args below meth c Q k d nx e pc ls st g r hF hE hop hpc hnx h
  obtain ⟨hx, hb, hml, hown, hts, hnm, hz, hR1, hR2, hR3, hR4, hlaw⟩ := hF
  obtain ⟨o, pc', a1, a2, x, ps⟩ := e
  have ho : o = 18 := hop
  have hp : pc' = pc := hpc
  subst ho; subst hp
  have hd := abEt_dec hE (show ¬ (18 : Nat) = 85 by decide) rfl
  have hi := of_decide_eq_true (show decide (a2 < (abMe k).1.2.2.1) = true from hE.2.2)
  rw [← hml] at hi
  obtain ⟨v, rr, rfl, h0⟩ := abHd_some h
  obtain ⟨h1, h2⟩ := abIf_some h0
  have h3 := abDiv h1
  intro H locs ws A xs hH hX hL hS
  obtain ⟨y0, xr, rfl, gv, hS'⟩ := hS
  obtain ⟨y, rfl⟩ := abG_a gv (by omega)
  obtain ⟨l1, lv, l2, l3⟩ := hL
  refine lv_astore hx hb hd l2 hi rfl (fun ls' hls' => ?_)
  exact hnx _ _ _ _ r h2 (fun _ q => q) H locs ws ls' _ hH hX (abLok.st1 (A := A) l1 l3 gv hls') hS'
theorem abS19 : abOk 19 (abOs 2 1) := by
  intro D z sb sl rh xs0 w0 p l ev R s m args below meth c Q k d nx e pc ls st g r hF hE hop hpc hnx h
  obtain ⟨hx, hb, hml, hown, hts, hnm, hz, hR1, hR2, hR3, hR4, hlaw⟩ := hF
  obtain ⟨o, pc', a1, a2, x, ps⟩ := e
  have ho : o = 19 := hop
  have hp : pc' = pc := hpc
  subst ho; subst hp
  obtain ⟨h4, hd⟩ := abEt_dec1 hE (show ¬ (19 : Nat) = 85 by decide) rfl
  have hi := of_decide_eq_true (show decide (a2 < (abMe k).1.2.2.1) = true from hE.2.2)
  rw [← hml] at hi
  obtain ⟨v, rr, rfl, h0⟩ := abHd_some h
  obtain ⟨h1, h2⟩ := abIf_some h0
  have h3 := abDiv h1
  intro H locs ws A xs hH hX hL hS
  obtain ⟨y0, xr, rfl, gv, hS'⟩ := hS
  obtain ⟨y, rfl⟩ := abG_a gv (by omega)
  obtain ⟨l1, lv, l2, l3⟩ := hL
  refine lv_astore_n hx hb hd rfl l2 hi rfl (fun ls' hls' => ?_)
  exact hnx _ _ _ _ r h2 (fun _ q => q) H locs ws ls' _ hH hX (abLok.st1 (A := A) l1 l3 gv hls') hS'
theorem abS16 : abOk 16 (abOs2 2) := by
  intro D z sb sl rh xs0 w0 p l ev R s m args below meth c Q k d nx e pc ls st g r hF hE hop hpc hnx h
  obtain ⟨hx, hb, hml, hown, hts, hnm, hz, hR1, hR2, hR3, hR4, hlaw⟩ := hF
  obtain ⟨o, pc', a1, a2, x, ps⟩ := e
  have ho : o = 16 := hop
  have hp : pc' = pc := hpc
  subst ho; subst hp
  have hd := abEt_dec hE (show ¬ (16 : Nat) = 85 by decide) rfl
  have hi := of_decide_eq_true (show decide (a2 + 1 < (abMe k).1.2.2.1) = true from hE.2.2)
  rw [← hml] at hi
  obtain ⟨v, rr, rfl, h0⟩ := abHd_some h
  obtain ⟨h1, h2⟩ := abIf_some h0
  have h3 := abDiv h1
  intro H locs ws A xs hH hX hL hS
  obtain ⟨y0, xr, rfl, gv, hS'⟩ := hS
  obtain ⟨y, rfl⟩ := abG_l gv (by omega)
  obtain ⟨l1, lv, l2, l3⟩ := hL
  refine lv_lstore hx hb hd l2 hi rfl (fun ls' hls' => ?_)
  exact hnx _ _ _ _ r h2 (fun _ q => q) H locs ws ls' _ hH hX (abLok.st2 (A := A) l1 l3 gv hls') hS'
theorem abS17 : abOk 17 (abOs2 1) := by
  intro D z sb sl rh xs0 w0 p l ev R s m args below meth c Q k d nx e pc ls st g r hF hE hop hpc hnx h
  obtain ⟨hx, hb, hml, hown, hts, hnm, hz, hR1, hR2, hR3, hR4, hlaw⟩ := hF
  obtain ⟨o, pc', a1, a2, x, ps⟩ := e
  have ho : o = 17 := hop
  have hp : pc' = pc := hpc
  subst ho; subst hp
  obtain ⟨h4, hd⟩ := abEt_dec1 hE (show ¬ (17 : Nat) = 85 by decide) rfl
  have hi := of_decide_eq_true (show decide (a2 + 1 < (abMe k).1.2.2.1) = true from hE.2.2)
  rw [← hml] at hi
  obtain ⟨v, rr, rfl, h0⟩ := abHd_some h
  obtain ⟨h1, h2⟩ := abIf_some h0
  have h3 := abDiv h1
  intro H locs ws A xs hH hX hL hS
  obtain ⟨y0, xr, rfl, gv, hS'⟩ := hS
  obtain ⟨y, rfl⟩ := abG_l gv (by omega)
  obtain ⟨l1, lv, l2, l3⟩ := hL
  refine lv_lstore_n hx hb hd rfl l2 hi rfl (fun ls' hls' => ?_)
  exact hnx _ _ _ _ r h2 (fun _ q => q) H locs ws ls' _ hH hX (abLok.st2 (A := A) l1 l3 gv hls') hS'
theorem abS20 : abOk 20 abOinc := by
  intro D z sb sl rh xs0 w0 p l ev R s m args below meth c Q k d nx e pc ls st g r hF hE hop hpc hnx h
  obtain ⟨hx, hb, hml, hown, hts, hnm, hz, hR1, hR2, hR3, hR4, hlaw⟩ := hF
  obtain ⟨o, pc', a1, a2, x, ps⟩ := e
  have ho : o = 20 := hop
  have hp : pc' = pc := hpc
  subst ho; subst hp
  have hd := abEt_dec hE (show ¬ (20 : Nat) = 85 by decide) rfl
  have hq := Bool.and_eq_true_iff.mp (show (decide (a2 < (abMe k).1.2.2.1) && decide ((Int32.ofInt ((x : Int) - abB)).toInt + abB = x)) = true from hE.2.2)
  have hi := of_decide_eq_true hq.1
  have hc := of_decide_eq_true hq.2
  rw [← hml] at hi
  intro H locs ws A xs hH hX hL hS
  obtain ⟨l1, lv, l2, l3⟩ := id hL
  have hcase : (abNth ls a2).1 ≤ 7 := by
    rcases Nat.lt_or_ge 7 (abNth ls a2).1 with q | q
    · exfalso
      have h' : abWi 0 g.2.2.1 (abNth ls a2) _ = some r := h
      unfold abWi at h'
      rw [abIf_f (by cases z : Nat.beq (abNth ls a2).1 0 with | false => rfl | true => have := abBeq z; omega), abIf_f (by cases z : Nat.beq (abNth ls a2).1 (0 + 1) with | false => rfl | true => have := abBeq z; omega)] at h'
      cases h'
    · exact q
  have hn : ls[a2]? = some (abNth ls a2) := by
    rw [abNth_get] at hcase ⊢
    cases z : ls[a2]? with
    | none => rw [z] at hcase; exact absurd hcase (by decide)
    | some v => rfl
  obtain ⟨y0, m0, gv⟩ := l3 a2 _ hn hcase
  obtain ⟨a, b, y, h1, rfl, p1, p2, -, -⟩ := abWi0 h hH.2.2.2.2.2.2.2 gv
  dsimp only at h1
  obtain ⟨kk, hkk⟩ := List.getElem?_of_mem m0
  obtain ⟨n0, hn0⟩ : ∃ n0 : Int32, n0 = Int32.ofInt ((x : Int) - abB) := ⟨_, rfl⟩
  rw [← hn0] at hc
  obtain ⟨lo, hlo⟩ : ∃ lo : Nat, lo = a + x - 9223372036854775808 := ⟨_, rfl⟩
  obtain ⟨hi2, hhi⟩ : ∃ hi2 : Nat, hi2 = b + x - 9223372036854775808 := ⟨_, rfl⟩
  rw [← hlo, ← hhi] at h1
  have hy := abI32 y
  have hz2 := abI32 n0
  have hs := Int32.toInt_add y n0
  have key : abG ws sb sl rh (abBI lo hi2) (.int (y + n0)) := abBI_ok hs (by simp only [abB] at *; omega) (by simp only [abB] at *; omega)
  refine lv_iinc (v := y + n0) hx hb hd l2 (k := kk) hkk (by rw [hn0]) hi rfl (fun ls' hls' => ?_)
  exact hnx _ _ _ _ r h1 (fun _ q => q) H locs ws ls' _ hH hX (abLok.st1 (A := A) l1 l3 key hls') hS
end
section
/-! int operations -/
def abRow2 (ins : Jvm.ClassFile.Instr) (f : Int32 → Int32 → Int32) (P : Int32 → Prop) : Prop := ∀ {p : Program} {l : Launch} {ev : Env} {R : Room} {s : State} {m : MethodId} {args : Array Value} {below : List Frame} {meth : Method} {c : Code} {H : Heap} {locs : List Loc} {cells slots : Nat} {Q : State → Prop} {cc : ByteArray} {pc : Nat} {A : Array Slot} {rest : List Value} {x y : Int32}, p.tables.exec = Jvm.exec → c.code = cc → decode cc pc = .ok (ins, 1) → P y → W p l ev R s m args below meth c H locs cells slots Q (F0 m (pc + 1) A (.int (f x y) :: rest)) → W p l ev R s m args below meth c H locs cells slots Q (F0 m pc A (.int y :: .int x :: rest))
def abOpk (f : Int32 → Int32 → Int32) (P : Int32 → Prop) (F : abOp) : Prop := ∀ (ws : va_W) (sb sl : Nat) (rh : Nat → Int) (v w : abV) (a b c d : Nat) (K : abV → abR) (r : List abF) (x y : Int32), F v w a b c d K = some r → abG ws sb sl rh v (.int x) → abG ws sb sl rh w (.int y) → (a : Int) ≤ x.toInt + abB → x.toInt + abB ≤ (b : Int) → (c : Int) ≤ y.toInt + abB → y.toInt + abB ≤ (d : Int) → ∃ u : abV, K u = some r ∧ P y ∧ abG ws sb sl rh u (.int (f x y))
theorem abBin {op : Nat} {ins : Jvm.ClassFile.Instr} {f : Int32 → Int32 → Int32} {P : Int32 → Prop} {F : abOp} (h85 : ¬ op = 85) (hins : ∀ pc a1 a2 x ps, abIns (op, pc, a1, a2, x, ps) = some (ins, 1)) (row : abRow2 ins f P) (hop : abOpk f P F) : abOk op (abOi F) := by
  intro D z sb sl rh xs0 w0 p l ev R s m args below meth c Q k d nx e pc ls st g r hF hE ho hpc hnx h
  obtain ⟨hx, hb, -⟩ := hF
  obtain ⟨o, pc', a1, a2, x, ps⟩ := e
  have ho : o = op := ho
  have hp : pc' = pc := hpc
  subst ho; subst hp
  have hd := abEt_dec hE h85 (hins _ _ _ _ _)
  obtain ⟨w, v, rr, rfl, h0⟩ := ab2_some h
  intro H locs ws A xs hH hX hL hS
  obtain ⟨y0, xr, rfl, gw, x0, xr', rfl, gv, hS'⟩ := hS
  obtain ⟨a, b, y, h1, rfl, p1, p2, -, -⟩ := abWi0 h0 hH.2.2.2.2.2.2.2 gv
  obtain ⟨c0, d0, y', h2, rfl, p3, p4, -, -⟩ := abWi0 h1 hH.2.2.2.2.2.2.2 gw
  obtain ⟨u, h3, hP, gu⟩ := hop ws sb sl rh v w a b c0 d0 _ r y y' h2 gv gw p1 p2 p3 p4
  refine row hx hb hd hP ?_
  exact hnx _ _ _ _ r h3 (fun _ q => q) H locs ws A _ hH hX hL ⟨_, _, rfl, gu, hS'⟩
theorem abNoP : ∀ y : Int32, (fun _ : Int32 => True) y := fun _ => trivial
theorem abFadd_ok : abOpk (fun x y => x + y) (fun _ => True) abFadd := by
  intro ws sb sl rh v w a b c d K r x y h gv gw a1 a2 c1 c2
  have hx := abI32 x
  have hy := abI32 y
  have h' : K (abBI (a + c - 9223372036854775808) (b + d - 9223372036854775808)) = some r := h
  obtain ⟨lo, hlo⟩ : ∃ lo : Nat, lo = a + c - 9223372036854775808 := ⟨_, rfl⟩
  obtain ⟨hi, hhi⟩ : ∃ hi : Nat, hi = b + d - 9223372036854775808 := ⟨_, rfl⟩
  rw [← hlo, ← hhi] at h'
  have hs := Int32.toInt_add x y
  exact ⟨_, h', trivial, abBI_ok hs (by simp only [abB] at *; omega) (by simp only [abB] at *; omega)⟩
theorem abFsub_ok : abOpk (fun x y => x - y) (fun _ => True) abFsub := by
  intro ws sb sl rh v w a b c d K r x y h gv gw a1 a2 c1 c2
  have hx := abI32 x
  have hy := abI32 y
  obtain ⟨lo, hlo⟩ : ∃ lo : Nat, lo = a + 9223372036854775808 - d := ⟨_, rfl⟩
  obtain ⟨hi, hhi⟩ : ∃ hi : Nat, hi = b + 9223372036854775808 - c := ⟨_, rfl⟩
  have hs := Int32.toInt_sub x y
  have gen : abG ws sb sl rh (abBI lo hi) (.int (x - y)) := abBI_ok hs (by simp only [abB] at *; omega) (by simp only [abB] at *; omega)
  unfold abFsub at h
  rw [← hlo, ← hhi] at h
  cases q1 : Nat.beq (abTag v) 0 with
  | true =>
    rw [abIf_t q1] at h
    exact ⟨_, h, trivial, gen⟩
  | false =>
    rw [abIf_f q1] at h
    cases q2 : Nat.beq (abTag v) (abTag w) with
    | false =>
      rw [abIf_f q2] at h
      exact ⟨_, h, trivial, gen⟩
    | true =>
      rw [abIf_t q2] at h
      have e1 := abBeq q2
      have e2 := abBeq_f q1
      obtain ⟨t, ht⟩ : ∃ t, abTag v = t + 1 := ⟨abTag v - 1, by omega⟩
      have r1 := abTag_i gv t ht
      have r2 := abTag_i gw t (by rw [← e1]; exact ht)
      have e : x = y := Int32.toInt_inj.mp (r1.trans r2.symm)
      subst e
      refine ⟨_, h, trivial, ⟨x - x, rfl, ?_, ?_⟩⟩ <;> rw [Int32.sub_self] <;> decide
theorem abOf_eq {x : Int32} {a b : Nat} (a1 : (a : Int) ≤ x.toInt + abB) (a2 : x.toInt + abB ≤ (b : Int)) (h : a = b) : abOf a = x := by
  subst h
  have e : (a : Int) - 9223372036854775808 = x.toInt := by simp only [abB] at *; omega
  unfold abOf
  rw [e, Int32.ofInt_toInt]
theorem abKi_ok {ws : va_W} {sb sl : Nat} {rh : Nat → Int} (y : Int32) : abG ws sb sl rh (abKi y) (.int y) := by
  have hy := abI32 y
  refine ⟨y, rfl, ?_, ?_⟩
  · show (((y.toInt + 9223372036854775808).toNat : Nat) : Int) ≤ _
    simp only [abB]
    omega
  · show _ ≤ (((y.toInt + 9223372036854775808).toNat : Nat) : Int)
    simp only [abB]
    omega
theorem abFk_ok (f : Int32 → Int32 → Int32) : abOpk f (fun _ => True) (abFk f) := by
  intro ws sb sl rh v w a b c d K r x y h gv gw a1 a2 c1 c2
  refine ⟨_, h, trivial, ?_⟩
  cases q1 : Nat.beq a b with
  | false => rw [abIf_f rfl]; exact abTI_ok _
  | true =>
    rw [abIf_t rfl]
    cases q2 : Nat.beq c d with
    | false => rw [abIf_f rfl]; exact abTI_ok _
    | true =>
      rw [abIf_t rfl, abOf_eq a1 a2 (abBeq q1), abOf_eq c1 c2 (abBeq q2)]
      exact abKi_ok _
theorem abFd_ok (f : Int32 → Int32 → Int32) : abOpk f (fun y => ¬ y = 0) (abFd f) := by
  intro ws sb sl rh v w a b c d K r x y h gv gw a1 a2 c1 c2
  obtain ⟨h1, h2⟩ := abIf_some h
  obtain ⟨u, q1, -, q2⟩ := abFk_ok f ws sb sl rh v w a b c d K r x y h2 gv gw a1 a2 c1 c2
  refine ⟨u, q1, ?_, q2⟩
  rintro rfl
  have := abBle h1
  simp only [abB] at c1 c2
  have e0 : (0 : Int32).toInt = 0 := rfl
  omega
theorem abAnd_lo (x y : Int32) (h : 0 ≤ y.toInt) : 0 ≤ (x &&& y).toInt ∧ (x &&& y).toInt ≤ y.toInt := by
  have hy : y.toBitVec.toNat < 2 ^ 31 := by
    have := BitVec.toInt_eq_toNat_cond y.toBitVec
    have h2 : 0 ≤ y.toBitVec.toInt := h
    have h3 := y.toBitVec.isLt
    by_cases hc : 2 * y.toBitVec.toNat < 2 ^ 32
    · omega
    · rw [if_neg hc] at this
      omega
  have e2 : y.toInt = (y.toBitVec.toNat : Int) := by
    show y.toBitVec.toInt = _
    rw [BitVec.toInt_eq_toNat_cond, if_pos (by omega)]
  have hle : (x &&& y).toBitVec.toNat ≤ y.toBitVec.toNat := by
    show (x.toBitVec &&& y.toBitVec).toNat ≤ _
    rw [BitVec.toNat_and]
    exact Nat.and_le_right
  have e1 : (x &&& y).toInt = ((x &&& y).toBitVec.toNat : Int) := by
    show (x &&& y).toBitVec.toInt = _
    rw [BitVec.toInt_eq_toNat_cond, if_pos (by omega)]
  rw [e1, e2]
  omega
theorem abFand_ok : abOpk (fun x y => x &&& y) (fun _ => True) abFand := by
  intro ws sb sl rh v w a b c d K r x y h gv gw a1 a2 c1 c2
  unfold abFand at h
  cases q1 : Nat.beq a b with
  | true =>
    rw [abIf_t q1] at h
    exact abFk_ok _ ws sb sl rh v w a b c d K r x y h gv gw a1 a2 c1 c2
  | false =>
    rw [abIf_f q1] at h
    cases q2 : Nat.ble 9223372036854775808 c with
    | false =>
      rw [abIf_f q2] at h
      exact ⟨_, h, trivial, abTI_ok _⟩
    | true =>
      rw [abIf_t q2] at h
      have := abBle q2
      simp only [abB] at c1 c2
      have hh := abAnd_lo x y (by omega)
      refine ⟨_, h, trivial, ⟨_, rfl, ?_, ?_⟩⟩
      · show ((9223372036854775808 : Nat) : Int) ≤ _
        simp only [abB]
        omega
      · show _ ≤ ((d : Nat) : Int)
        simp only [abB]
        omega
theorem abFmul_ok : abOpk (fun x y => x * y) (fun _ => True) abFmul := by
  intro ws sb sl rh v w a b c d K r x y h gv gw a1 a2 c1 c2
  refine ⟨_, h, trivial, ?_⟩
  cases q1 : Nat.ble 9223372036854775808 a with
  | false => rw [abIf_f rfl]; exact abTI_ok _
  | true =>
    rw [abIf_t rfl]
    cases q2 : Nat.ble 9223372036854775808 c with
    | false => rw [abIf_f rfl]; exact abTI_ok _
    | true =>
      rw [abIf_t rfl]
      have e1 := abBle q1
      have e2 := abBle q2
      simp only [abB] at a1 a2 c1 c2
      have hs := Int32.toInt_mul x y
      clear h q1 q2
      generalize hB : (9223372036854775808 : Nat) = B at *
      have hxn : x.toInt = ((x.toInt.toNat : Nat) : Int) := by omega
      have hyn : y.toInt = ((y.toInt.toNat : Nat) : Int) := by omega
      generalize x.toInt.toNat = xn at hxn
      generalize y.toInt.toNat = yn at hyn
      have m1 : (a - B) * (c - B) ≤ xn * yn := Nat.mul_le_mul (by omega) (by omega)
      have m2 : xn * yn ≤ (b - B) * (d - B) := Nat.mul_le_mul (by omega) (by omega)
      have e : x.toInt * y.toInt = ((xn * yn : Nat) : Int) := by rw [hxn, hyn, Int.natCast_mul]
      have hBB : (B : Int) = abB := by rw [← hB]; rfl
      generalize (a - B) * (c - B) = lo at *
      generalize (b - B) * (d - B) = hi at *
      exact abBI_ok hs (by rw [e]; omega) (by rw [e]; omega)
theorem abS21 : abOk 21 (abOi abFadd) := abBin (by decide) (fun _ _ _ _ _ => rfl) (fun hx hb hd _ k => lv_iadd hx hb hd k) abFadd_ok
theorem abS22 : abOk 22 (abOi abFsub) := abBin (by decide) (fun _ _ _ _ _ => rfl) (fun hx hb hd _ k => lv_isub hx hb hd k) abFsub_ok
theorem abS24 : abOk 24 (abOi (abFd fun x y => x / y)) := abBin (by decide) (fun _ _ _ _ _ => rfl) (fun hx hb hd hp k => lv_idiv hx hb hd hp k) (abFd_ok _)
theorem abS25 : abOk 25 (abOi (abFd fun x y => x - x / y * y)) := abBin (by decide) (fun _ _ _ _ _ => rfl) (fun hx hb hd hp k => lv_irem hx hb hd hp k) (abFd_ok _)
theorem abS26 : abOk 26 (abOi abFand) := abBin (by decide) (fun _ _ _ _ _ => rfl) (fun hx hb hd _ k => lv_iand hx hb hd k) abFand_ok
theorem abS27 : abOk 27 (abOi (abFk fun x y => x ||| y)) := abBin (by decide) (fun _ _ _ _ _ => rfl) (fun hx hb hd _ k => lv_ior hx hb hd k) (abFk_ok _)
theorem abS28 : abOk 28 (abOi (abFk fun x y => x ^^^ y)) := abBin (by decide) (fun _ _ _ _ _ => rfl) (fun hx hb hd _ k => lv_ixor hx hb hd k) (abFk_ok _)
theorem abS29 : abOk 29 (abOi (abFk fun x y => x <<< (y &&& 31))) := abBin (by decide) (fun _ _ _ _ _ => rfl) (fun hx hb hd _ k => lv_ishl hx hb hd k) (abFk_ok _)
theorem abS30 : abOk 30 (abOi (abFk fun x y => x >>> (y &&& 31))) := abBin (by decide) (fun _ _ _ _ _ => rfl) (fun hx hb hd _ k => lv_ishr hx hb hd k) (abFk_ok _)
theorem abHas_run {D : va_G} {z sb sl : Nat} {rh : Nat → Int} {w0 : va_W} {p : Program} {l : Launch} {ev : Env} {R : Room} {s : State} {m : MethodId} {args : Array Value} {below : List Frame} {meth : Method} {c : Code} {Q : State → Prop} {r : List abF} {nx : abNx} (hnx : abNs D z sb sl rh w0 p l ev R s m args below meth c Q r nx) {pc : Nat} {ls st : List abV} {g : abSt} (h : abHas rh (fun e => nx pc ls st (abSe g e)) r) {H : Heap} {locs : List Loc} {ws : va_W} {A : Array Slot} {xs : List Value} (hH : abHok D z sb sl rh s ws H locs g) (hX : abX w0 ws) (hL : abLok ws sb sl rh ls c.maxLocals A) (hS : abSok ws sb sl rh st xs) : W p l ev R s m args below meth c H locs g.2.2.2.1 g.2.2.2.2 Q (F0 m pc A xs) := by
  obtain ⟨e, r', h1, h2, h3⟩ := h
  exact hnx pc ls st (abSe g e) r' h1 h2 H locs ws A xs (hH.env h3) hX hL hS
theorem abS23 : abOk 23 (abOi2 abFmul) := by
  intro D z sb sl rh xs0 w0 p l ev R s m args below meth c Q k d nx e pc ls st g r hF hE ho hpc hnx h
  obtain ⟨hx, hb, -⟩ := hF
  obtain ⟨o, pc', a1, a2, x, ps⟩ := e
  have ho : o = 23 := ho
  have hp : pc' = pc := hpc
  subst ho; subst hp
  have hd := abEt_dec hE (show ¬ (23 : Nat) = 85 by decide) rfl
  obtain ⟨w, v, rr, rfl, h0⟩ := ab2_some h
  intro H locs ws A xs hH hX hL hS
  have hS0 := hS
  obtain ⟨y0, xr, rfl, gw, x0, xr', rfl, gv, hS'⟩ := hS
  obtain ⟨a, b, y, h1, rfl, p1, p2, -, -⟩ := abWi0 h0 hH.2.2.2.2.2.2.2 gv
  obtain ⟨c0, d0, y', h2, rfl, p3, p4, -, -⟩ := abWi0 h1 hH.2.2.2.2.2.2.2 gw
  have go : abFmul v w a b c0 d0 (fun u => nx (pc' + 1) ls (u :: rr) g) = some r → W p l ev R s m args below meth c H locs g.2.2.2.1 g.2.2.2.2 Q (F0 m pc' A (.int y' :: .int y :: xr')) := by
    intro h3
    obtain ⟨u, h4, hP, gu⟩ := abFmul_ok ws sb sl rh v w a b c0 d0 _ r y y' h3 gv gw p1 p2 p3 p4
    refine lv_imul hx hb hd ?_
    exact hnx _ _ _ _ r h4 (fun _ q => q) H locs ws A _ hH hX hL ⟨_, _, rfl, gu, hS'⟩
  cases q1 : Nat.beq (abTag v) 0 with
  | true =>
    rw [abIf_t q1] at h2
    cases q2 : Nat.beq (abTag w) 0 with
    | true => rw [abIf_t q2] at h2; exact go h2
    | false =>
      rw [abIf_f q2] at h2
      cases q3 : Nat.beq c0 d0 with
      | true => rw [abIf_t q3] at h2; exact go h2
      | false =>
        rw [abIf_f q3] at h2
        cases q4 : Nat.ble (d0 - c0) 12 with
        | false => rw [abIf_f q4] at h2; exact go h2
        | true =>
          rw [abIf_t q4] at h2
          exact abHas_run hnx (abSpl_ok h2 hH.2.2.2.2.2.2.2 (abTag_i gw) p3 p4) hH hX hL hS0
  | false =>
    rw [abIf_f q1] at h2
    cases q3 : Nat.beq a b with
    | true => rw [abIf_t q3] at h2; exact go h2
    | false =>
      rw [abIf_f q3] at h2
      cases q4 : Nat.ble (b - a) 12 with
      | false => rw [abIf_f q4] at h2; exact go h2
      | true =>
        rw [abIf_t q4] at h2
        exact abHas_run hnx (abSpl_ok h2 hH.2.2.2.2.2.2.2 (abTag_i gv) p1 p2) hH hX hL hS0
end
section
/-! longs, conversions, the stack -/
theorem abCon {w : abV} {ws : va_W} {sb sl : Nat} {rh : Nat → Int} {x : Value} {k : abR} {r : List abF} (h : abOne w k = some r) (g : abG ws sb sl rh w x) : k = some r ∧ x.category = 1 := by
  unfold abOne at h
  cases q1 : Nat.beq (w.1 / 2) 1 with
  | true => rw [abIf_t q1] at h; cases h
  | false =>
    rw [abIf_f q1] at h
    obtain ⟨h1, h2⟩ := abIf_some h
    exact ⟨h2, abCat_ok (abCat1 (abBle h1) (abBeq_f q1)) g⟩
theorem abNeg_ok {ws : va_W} {sb sl : Nat} {rh : Nat → Int} {a b : Nat} {y : Int32} (p1 : (a : Int) ≤ y.toInt + abB) (p2 : y.toInt + abB ≤ (b : Int)) : abG ws sb sl rh (abBI (18446744073709551616 - b) (18446744073709551616 - a)) (.int (-y)) := by
  have hy := abI32 y
  obtain ⟨lo, hlo⟩ : ∃ lo : Nat, lo = 18446744073709551616 - b := ⟨_, rfl⟩
  obtain ⟨hi, hhi⟩ : ∃ hi : Nat, hi = 18446744073709551616 - a := ⟨_, rfl⟩
  have hs := Int32.toInt_neg y
  rw [← hlo, ← hhi]
  exact abBI_ok hs (by simp only [abB] at *; omega) (by simp only [abB] at *; omega)
theorem abGadd_ok {ws : va_W} {sb sl : Nat} {rh : Nat → Int} {a b c d : Nat} {x y : Int64} (a1 : (a : Int) ≤ x.toInt + abB) (a2 : x.toInt + abB ≤ (b : Int)) (c1 : (c : Int) ≤ y.toInt + abB) (c2 : y.toInt + abB ≤ (d : Int)) : abG ws sb sl rh (abGadd a b c d) (.long (x + y)) := by
  unfold abGadd
  have hs := Int64.toInt_add x y
  simp only [abB] at a1 a2 c1 c2
  generalize hB : (9223372036854775808 : Nat) = B at *
  have hBB : (B : Int) = abB := by rw [← hB]; rfl
  cases q : Nat.ble B (a + c) with
  | false => rw [abIf_f rfl]; exact abTL_ok _
  | true =>
    rw [abIf_t rfl]
    have := abBle q
    generalize hlo : a + c - B = lo at *
    generalize hhi : b + d - B = hi at *
    exact abBL_ok hs (by simp only [abB] at *; omega) (by simp only [abB] at *; omega) (by simp only [abB] at *; omega)
theorem abGsub_ok {ws : va_W} {sb sl : Nat} {rh : Nat → Int} {a b c d : Nat} {x y : Int64} (a1 : (a : Int) ≤ x.toInt + abB) (a2 : x.toInt + abB ≤ (b : Int)) (c1 : (c : Int) ≤ y.toInt + abB) (c2 : y.toInt + abB ≤ (d : Int)) : abG ws sb sl rh (abGsub a b c d) (.long (x - y)) := by
  unfold abGsub
  cases q : Nat.ble d (a + 9223372036854775808) with
  | false => rw [abIf_f rfl]; exact abTL_ok _
  | true =>
    rw [abIf_t rfl]
    have := abBle q
    obtain ⟨lo, hlo⟩ : ∃ lo : Nat, lo = a + 9223372036854775808 - d := ⟨_, rfl⟩
    obtain ⟨hi, hhi⟩ : ∃ hi : Nat, hi = b + 9223372036854775808 - c := ⟨_, rfl⟩
    have hs := Int64.toInt_sub x y
    rw [← hlo, ← hhi]
    exact abBL_ok hs (by simp only [abB] at *; omega) (by simp only [abB] at *; omega) (by simp only [abB] at *; omega)
theorem abSg_cmp (x y : Int64) : (lg_cmp x y).toInt = abSg x.toInt y.toInt := by
  unfold lg_cmp abSg
  by_cases h1 : x > y
  · have h1' := Int64.lt_iff_toInt_lt.mp h1
    rw [if_pos h1, if_neg (by omega), if_neg (by omega)]
    rfl
  · rw [if_neg h1]
    have h1' : ¬ y.toInt < x.toInt := fun q => h1 (Int64.lt_iff_toInt_lt.mpr q)
    by_cases h2 : x = y
    · rw [if_pos h2, h2, if_neg (by omega), if_pos rfl]
      rfl
    · have h2' : ¬ x.toInt = y.toInt := fun q => h2 (Int64.toInt_inj.mp q)
      rw [if_neg h2, if_pos (by omega)]
      rfl
theorem abS32 : abOk 32 (abOj abGadd) := by
  intro D z sb sl rh xs0 w0 p l ev R s m args below meth c Q k d nx e pc ls st g r hF hE hop hpc hnx h
  obtain ⟨hx, hb, hml, hown, hts, hnm, hz, hR1, hR2, hR3, hR4, hlaw⟩ := hF
  obtain ⟨o, pc', a1, a2, x, ps⟩ := e
  have ho : o = 32 := hop
  have hp : pc' = pc := hpc
  subst ho; subst hp
  have hd := abEt_dec hE (show ¬ (32 : Nat) = 85 by decide) rfl
  obtain ⟨w, v, rr, rfl, h0⟩ := ab2_some h
  intro H locs ws A xs hH hX hL hS
  obtain ⟨y0, xr, rfl, gw, x0, xr', rfl, gv, hS'⟩ := hS
  obtain ⟨a, b, y, h1, rfl, p1, p2, -, -⟩ := abWi2 h0 hH.2.2.2.2.2.2.2 gv
  obtain ⟨c0, d0, y', h2, rfl, p3, p4, -, -⟩ := abWi2 h1 hH.2.2.2.2.2.2.2 gw
  refine lv_ladd hx hb hd ?_
  exact hnx _ _ _ _ r h2 (fun _ q => q) H locs ws A _ hH hX hL ⟨_, _, rfl, abGadd_ok p1 p2 p3 p4, hS'⟩
theorem abS33 : abOk 33 (abOj abGsub) := by
  intro D z sb sl rh xs0 w0 p l ev R s m args below meth c Q k d nx e pc ls st g r hF hE hop hpc hnx h
  obtain ⟨hx, hb, hml, hown, hts, hnm, hz, hR1, hR2, hR3, hR4, hlaw⟩ := hF
  obtain ⟨o, pc', a1, a2, x, ps⟩ := e
  have ho : o = 33 := hop
  have hp : pc' = pc := hpc
  subst ho; subst hp
  have hd := abEt_dec hE (show ¬ (33 : Nat) = 85 by decide) rfl
  obtain ⟨w, v, rr, rfl, h0⟩ := ab2_some h
  intro H locs ws A xs hH hX hL hS
  obtain ⟨y0, xr, rfl, gw, x0, xr', rfl, gv, hS'⟩ := hS
  obtain ⟨a, b, y, h1, rfl, p1, p2, -, -⟩ := abWi2 h0 hH.2.2.2.2.2.2.2 gv
  obtain ⟨c0, d0, y', h2, rfl, p3, p4, -, -⟩ := abWi2 h1 hH.2.2.2.2.2.2.2 gw
  refine lv_lsub hx hb hd ?_
  exact hnx _ _ _ _ r h2 (fun _ q => q) H locs ws A _ hH hX hL ⟨_, _, rfl, abGsub_ok p1 p2 p3 p4, hS'⟩
theorem abS34 : abOk 34 (abOj abGtop) := by
  intro D z sb sl rh xs0 w0 p l ev R s m args below meth c Q k d nx e pc ls st g r hF hE hop hpc hnx h
  obtain ⟨hx, hb, hml, hown, hts, hnm, hz, hR1, hR2, hR3, hR4, hlaw⟩ := hF
  obtain ⟨o, pc', a1, a2, x, ps⟩ := e
  have ho : o = 34 := hop
  have hp : pc' = pc := hpc
  subst ho; subst hp
  have hd := abEt_dec hE (show ¬ (34 : Nat) = 85 by decide) rfl
  obtain ⟨w, v, rr, rfl, h0⟩ := ab2_some h
  intro H locs ws A xs hH hX hL hS
  obtain ⟨y0, xr, rfl, gw, x0, xr', rfl, gv, hS'⟩ := hS
  obtain ⟨a, b, y, h1, rfl, p1, p2, -, -⟩ := abWi2 h0 hH.2.2.2.2.2.2.2 gv
  obtain ⟨c0, d0, y', h2, rfl, p3, p4, -, -⟩ := abWi2 h1 hH.2.2.2.2.2.2.2 gw
  refine lv_lmul hx hb hd ?_
  exact hnx _ _ _ _ r h2 (fun _ q => q) H locs ws A _ hH hX hL ⟨_, _, rfl, abTL_ok _, hS'⟩
theorem abS35 : abOk 35 (abOj abGtop) := by
  intro D z sb sl rh xs0 w0 p l ev R s m args below meth c Q k d nx e pc ls st g r hF hE hop hpc hnx h
  obtain ⟨hx, hb, hml, hown, hts, hnm, hz, hR1, hR2, hR3, hR4, hlaw⟩ := hF
  obtain ⟨o, pc', a1, a2, x, ps⟩ := e
  have ho : o = 35 := hop
  have hp : pc' = pc := hpc
  subst ho; subst hp
  have hd := abEt_dec hE (show ¬ (35 : Nat) = 85 by decide) rfl
  obtain ⟨w, v, rr, rfl, h0⟩ := ab2_some h
  intro H locs ws A xs hH hX hL hS
  obtain ⟨y0, xr, rfl, gw, x0, xr', rfl, gv, hS'⟩ := hS
  obtain ⟨a, b, y, h1, rfl, p1, p2, -, -⟩ := abWi2 h0 hH.2.2.2.2.2.2.2 gv
  obtain ⟨c0, d0, y', h2, rfl, p3, p4, -, -⟩ := abWi2 h1 hH.2.2.2.2.2.2.2 gw
  refine lv_land hx hb hd ?_
  exact hnx _ _ _ _ r h2 (fun _ q => q) H locs ws A _ hH hX hL ⟨_, _, rfl, abTL_ok _, hS'⟩
theorem abS36 : abOk 36 (abOj abGtop) := by
  intro D z sb sl rh xs0 w0 p l ev R s m args below meth c Q k d nx e pc ls st g r hF hE hop hpc hnx h
  obtain ⟨hx, hb, hml, hown, hts, hnm, hz, hR1, hR2, hR3, hR4, hlaw⟩ := hF
  obtain ⟨o, pc', a1, a2, x, ps⟩ := e
  have ho : o = 36 := hop
  have hp : pc' = pc := hpc
  subst ho; subst hp
  have hd := abEt_dec hE (show ¬ (36 : Nat) = 85 by decide) rfl
  obtain ⟨w, v, rr, rfl, h0⟩ := ab2_some h
  intro H locs ws A xs hH hX hL hS
  obtain ⟨y0, xr, rfl, gw, x0, xr', rfl, gv, hS'⟩ := hS
  obtain ⟨a, b, y, h1, rfl, p1, p2, -, -⟩ := abWi2 h0 hH.2.2.2.2.2.2.2 gv
  obtain ⟨c0, d0, y', h2, rfl, p3, p4, -, -⟩ := abWi2 h1 hH.2.2.2.2.2.2.2 gw
  refine lv_lor hx hb hd ?_
  exact hnx _ _ _ _ r h2 (fun _ q => q) H locs ws A _ hH hX hL ⟨_, _, rfl, abTL_ok _, hS'⟩
theorem abS37 : abOk 37 (abOj abGtop) := by
  intro D z sb sl rh xs0 w0 p l ev R s m args below meth c Q k d nx e pc ls st g r hF hE hop hpc hnx h
  obtain ⟨hx, hb, hml, hown, hts, hnm, hz, hR1, hR2, hR3, hR4, hlaw⟩ := hF
  obtain ⟨o, pc', a1, a2, x, ps⟩ := e
  have ho : o = 37 := hop
  have hp : pc' = pc := hpc
  subst ho; subst hp
  have hd := abEt_dec hE (show ¬ (37 : Nat) = 85 by decide) rfl
  obtain ⟨w, v, rr, rfl, h0⟩ := ab2_some h
  intro H locs ws A xs hH hX hL hS
  obtain ⟨y0, xr, rfl, gw, x0, xr', rfl, gv, hS'⟩ := hS
  obtain ⟨a, b, y, h1, rfl, p1, p2, -, -⟩ := abWi2 h0 hH.2.2.2.2.2.2.2 gv
  obtain ⟨c0, d0, y', h2, rfl, p3, p4, -, -⟩ := abWi2 h1 hH.2.2.2.2.2.2.2 gw
  refine lv_lxor hx hb hd ?_
  exact hnx _ _ _ _ r h2 (fun _ q => q) H locs ws A _ hH hX hL ⟨_, _, rfl, abTL_ok _, hS'⟩
theorem abS38 : abOk 38 abOjs := by
  intro D z sb sl rh xs0 w0 p l ev R s m args below meth c Q k d nx e pc ls st g r hF hE hop hpc hnx h
  obtain ⟨hx, hb, hml, hown, hts, hnm, hz, hR1, hR2, hR3, hR4, hlaw⟩ := hF
  obtain ⟨o, pc', a1, a2, x, ps⟩ := e
  have ho : o = 38 := hop
  have hp : pc' = pc := hpc
  subst ho; subst hp
  have hd := abEt_dec hE (show ¬ (38 : Nat) = 85 by decide) rfl
  obtain ⟨w, v, rr, rfl, h0⟩ := ab2_some h
  intro H locs ws A xs hH hX hL hS
  obtain ⟨y0, xr, rfl, gw, x0, xr', rfl, gv, hS'⟩ := hS
  obtain ⟨a, b, y, h1, rfl, p1, p2, -, -⟩ := abWi0 h0 hH.2.2.2.2.2.2.2 gw
  obtain ⟨c0, d0, y', h2, rfl, p3, p4, -, -⟩ := abWi2 h1 hH.2.2.2.2.2.2.2 gv
  refine lv_lshl hx hb hd rfl ?_
  exact hnx _ _ _ _ r h2 (fun _ q => q) H locs ws A _ hH hX hL ⟨_, _, rfl, abTL_ok _, hS'⟩
theorem abS39 : abOk 39 abOjs := by
  intro D z sb sl rh xs0 w0 p l ev R s m args below meth c Q k d nx e pc ls st g r hF hE hop hpc hnx h
  obtain ⟨hx, hb, hml, hown, hts, hnm, hz, hR1, hR2, hR3, hR4, hlaw⟩ := hF
  obtain ⟨o, pc', a1, a2, x, ps⟩ := e
  have ho : o = 39 := hop
  have hp : pc' = pc := hpc
  subst ho; subst hp
  have hd := abEt_dec hE (show ¬ (39 : Nat) = 85 by decide) rfl
  obtain ⟨w, v, rr, rfl, h0⟩ := ab2_some h
  intro H locs ws A xs hH hX hL hS
  obtain ⟨y0, xr, rfl, gw, x0, xr', rfl, gv, hS'⟩ := hS
  obtain ⟨a, b, y, h1, rfl, p1, p2, -, -⟩ := abWi0 h0 hH.2.2.2.2.2.2.2 gw
  obtain ⟨c0, d0, y', h2, rfl, p3, p4, -, -⟩ := abWi2 h1 hH.2.2.2.2.2.2.2 gv
  refine lv_lshr hx hb hd rfl ?_
  exact hnx _ _ _ _ r h2 (fun _ q => q) H locs ws A _ hH hX hL ⟨_, _, rfl, abTL_ok _, hS'⟩
theorem abS31 : abOk 31 abOneg := by
  intro D z sb sl rh xs0 w0 p l ev R s m args below meth c Q k d nx e pc ls st g r hF hE hop hpc hnx h
  obtain ⟨hx, hb, hml, hown, hts, hnm, hz, hR1, hR2, hR3, hR4, hlaw⟩ := hF
  obtain ⟨o, pc', a1, a2, x, ps⟩ := e
  have ho : o = 31 := hop
  have hp : pc' = pc := hpc
  subst ho; subst hp
  have hd := abEt_dec hE (show ¬ (31 : Nat) = 85 by decide) rfl
  obtain ⟨v, rr, rfl, h0⟩ := abHd_some h
  intro H locs ws A xs hH hX hL hS
  obtain ⟨y0, xr, rfl, gv, hS'⟩ := hS
  obtain ⟨a, b, y, h1, rfl, p1, p2, -, -⟩ := abWi0 h0 hH.2.2.2.2.2.2.2 gv
  refine lv_ineg hx hb hd ?_
  exact hnx _ _ _ _ r h1 (fun _ q => q) H locs ws A _ hH hX hL ⟨_, _, rfl, abNeg_ok p1 p2, hS'⟩
theorem abS40 : abOk 40 abOi2l := by
  intro D z sb sl rh xs0 w0 p l ev R s m args below meth c Q k d nx e pc ls st g r hF hE hop hpc hnx h
  obtain ⟨hx, hb, hml, hown, hts, hnm, hz, hR1, hR2, hR3, hR4, hlaw⟩ := hF
  obtain ⟨o, pc', a1, a2, x, ps⟩ := e
  have ho : o = 40 := hop
  have hp : pc' = pc := hpc
  subst ho; subst hp
  have hd := abEt_dec hE (show ¬ (40 : Nat) = 85 by decide) rfl
  obtain ⟨v, rr, rfl, h0⟩ := abHd_some h
  obtain ⟨h1, h2⟩ := abIf_some h0
  have h3 := abBle h1
  intro H locs ws A xs hH hX hL hS
  obtain ⟨y0, xr, rfl, gv, hS'⟩ := hS
  obtain ⟨y, rfl⟩ := abG_i gv (by omega)
  refine lv_i2l hx hb hd rfl ?_
  refine hnx _ _ _ _ r h2 (fun _ q => q) H locs ws A _ hH hX hL ⟨_, _, rfl, ?_, hS'⟩
  obtain ⟨t, i, j⟩ := v
  rcases (show t = 0 ∨ t = 1 by have : t ≤ 1 := h3; omega) with rfl | rfl
  · obtain ⟨z1, hz1, q1, q2⟩ := gv
    cases hz1
    exact ⟨_, rfl, by rw [Int32.toInt_toInt64]; exact q1, by rw [Int32.toInt_toInt64]; exact q2⟩
  · obtain ⟨z1, hz1, q1⟩ := gv
    cases hz1
    exact ⟨_, rfl, by rw [Int32.toInt_toInt64]; exact q1⟩
theorem abS41 : abOk 41 abOl2i := by
  intro D z sb sl rh xs0 w0 p l ev R s m args below meth c Q k d nx e pc ls st g r hF hE hop hpc hnx h
  obtain ⟨hx, hb, hml, hown, hts, hnm, hz, hR1, hR2, hR3, hR4, hlaw⟩ := hF
  obtain ⟨o, pc', a1, a2, x, ps⟩ := e
  have ho : o = 41 := hop
  have hp : pc' = pc := hpc
  subst ho; subst hp
  have hd := abEt_dec hE (show ¬ (41 : Nat) = 85 by decide) rfl
  obtain ⟨v, rr, rfl, h0⟩ := abHd_some h
  intro H locs ws A xs hH hX hL hS
  obtain ⟨y0, xr, rfl, gv, hS'⟩ := hS
  obtain ⟨a, b, y, h1, rfl, p1, p2, -, -⟩ := abWi2 h0 hH.2.2.2.2.2.2.2 gv
  refine lv_l2i hx hb hd rfl ?_
  exact hnx _ _ _ _ r h1 (fun _ q => q) H locs ws A _ hH hX hL ⟨_, _, rfl, abBI_ok (Int64.toInt_toInt32 y) p1 p2, hS'⟩
theorem abS42 : abOk 42 abOi2b := by
  intro D z sb sl rh xs0 w0 p l ev R s m args below meth c Q k d nx e pc ls st g r hF hE hop hpc hnx h
  obtain ⟨hx, hb, hml, hown, hts, hnm, hz, hR1, hR2, hR3, hR4, hlaw⟩ := hF
  obtain ⟨o, pc', a1, a2, x, ps⟩ := e
  have ho : o = 42 := hop
  have hp : pc' = pc := hpc
  subst ho; subst hp
  have hd := abEt_dec hE (show ¬ (42 : Nat) = 85 by decide) rfl
  obtain ⟨v, rr, rfl, h0⟩ := abHd_some h
  intro H locs ws A xs hH hX hL hS
  obtain ⟨y0, xr, rfl, gv, hS'⟩ := hS
  obtain ⟨a, b, y, h1, rfl, p1, p2, -, -⟩ := abWi0 h0 hH.2.2.2.2.2.2.2 gv
  refine lv_i2b hx hb hd rfl ?_
  refine hnx _ _ _ _ r h1 (fun _ q => q) H locs ws A _ hH hX hL ⟨_, _, rfl, ⟨_, rfl, ?_, ?_⟩, hS'⟩
  · have := Int8.le_toInt y.toInt8
    rw [Int8.toInt_toInt32]
    show ((9223372036854775680 : Nat) : Int) ≤ _
    simp only [abB]
    omega
  · have := Int8.toInt_lt y.toInt8
    rw [Int8.toInt_toInt32]
    show _ ≤ ((9223372036854775935 : Nat) : Int)
    simp only [abB]
    omega
theorem abS43 : abOk 43 abOcmp := by
  intro D z sb sl rh xs0 w0 p l ev R s m args below meth c Q k d nx e pc ls st g r hF hE hop hpc hnx h
  obtain ⟨hx, hb, hml, hown, hts, hnm, hz, hR1, hR2, hR3, hR4, hlaw⟩ := hF
  obtain ⟨o, pc', a1, a2, x, ps⟩ := e
  have ho : o = 43 := hop
  have hp : pc' = pc := hpc
  subst ho; subst hp
  have hd := abEt_dec hE (show ¬ (43 : Nat) = 85 by decide) rfl
  obtain ⟨w, v, rr, rfl, h0⟩ := ab2_some h
  intro H locs ws A xs hH hX hL hS
  obtain ⟨y0, xr, rfl, gw, x0, xr', rfl, gv, hS'⟩ := hS
  obtain ⟨a, b, y, h1, rfl, p1, p2, pt, -⟩ := abWi2 h0 hH.2.2.2.2.2.2.2 gv
  obtain ⟨c0, d0, y', h2, rfl, p3, p4, -, -⟩ := abWi2 h1 hH.2.2.2.2.2.2.2 gw
  refine W.lcmp hx hb hd ?_
  have hc := abSg_cmp y y'
  have fin : ∀ u : abV, nx (pc' + 1) ls (u :: rr) g = some r → abG ws sb sl rh u (.int (lg_cmp y y')) → W p l ev R s m args below meth c H locs g.2.2.2.1 g.2.2.2.2 Q (F0 m (pc' + 1) A (.int (lg_cmp y y') :: xr')) := fun u hu gu => hnx _ _ _ _ r hu (fun _ q => q) H locs ws A _ hH hX hL ⟨_, _, rfl, gu, hS'⟩
  have any : abG ws sb sl rh (0, 9223372036854775807, 9223372036854775809) (.int (lg_cmp y y')) := by
    refine ⟨_, rfl, ?_, ?_⟩
    · show ((9223372036854775807 : Nat) : Int) ≤ _
      rw [hc]
      unfold abSg
      simp only [abB]
      split
      · omega
      · split <;> omega
    · show _ ≤ ((9223372036854775809 : Nat) : Int)
      rw [hc]
      unfold abSg
      simp only [abB]
      split
      · omega
      · split <;> omega
  cases q1 : Nat.ble c0 b with
  | false =>
    rw [abIf_f q1] at h2
    have e := abBle_f q1
    refine fin _ h2 (abSelfI ?_)
    rw [hc]
    unfold abSg
    rw [if_pos (by omega)]
    rfl
  | true =>
    rw [abIf_t q1] at h2
    cases q2 : Nat.ble a d0 with
    | false =>
      rw [abIf_f q2] at h2
      have e := abBle_f q2
      refine fin _ h2 (abSelfI ?_)
      rw [hc]
      unfold abSg
      rw [if_neg (by omega), if_neg (by omega)]
      rfl
    | true =>
      rw [abIf_t q2] at h2
      cases q3 : Nat.beq c0 d0 with
      | false => rw [abIf_f q3] at h2; exact fin _ h2 any
      | true =>
        rw [abIf_t q3] at h2
        have e3 := abBeq q3
        cases q4 : Nat.beq a b with
        | true =>
          rw [abIf_t q4] at h2
          have e4 := abBeq q4
          have e1 := abBle q1
          have e2 := abBle q2
          refine fin _ h2 (abSelfI ?_)
          rw [hc]
          unfold abSg
          rw [if_neg (by omega), if_pos (by omega)]
          rfl
        | false =>
          rw [abIf_f q4] at h2
          cases q5 : Nat.beq v.1 3 with
          | false => rw [abIf_f q5] at h2; exact fin _ h2 any
          | true =>
            rw [abIf_t q5] at h2
            refine fin _ h2 ⟨_, rfl, ?_⟩
            have e5 := (pt (abBeq q5)).1
            show (lg_cmp y y').toInt = abSg (rh v.2.1 + abB) (c0 : Int)
            rw [hc, ← e5]
            unfold abSg
            have e6 : y'.toInt + abB = (c0 : Int) := by omega
            by_cases z1 : y.toInt < y'.toInt
            · rw [if_pos z1, if_pos (show y.toInt + abB < (c0 : Int) by omega)]
            · rw [if_neg z1, if_neg (show ¬ y.toInt + abB < (c0 : Int) by omega)]
              by_cases z2 : y.toInt = y'.toInt
              · rw [if_pos z2, if_pos (show y.toInt + abB = (c0 : Int) by omega)]
              · rw [if_neg z2, if_neg (show ¬ y.toInt + abB = (c0 : Int) by omega)]
theorem abS44 : abOk 44 abOdup := by
  intro D z sb sl rh xs0 w0 p l ev R s m args below meth c Q k d nx e pc ls st g r hF hE hop hpc hnx h
  obtain ⟨hx, hb, hml, hown, hts, hnm, hz, hR1, hR2, hR3, hR4, hlaw⟩ := hF
  obtain ⟨o, pc', a1, a2, x, ps⟩ := e
  have ho : o = 44 := hop
  have hp : pc' = pc := hpc
  subst ho; subst hp
  have hd := abEt_dec hE (show ¬ (44 : Nat) = 85 by decide) rfl
  obtain ⟨v, rr, rfl, h0⟩ := abHd_some h
  intro H locs ws A xs hH hX hL hS
  obtain ⟨y0, xr, rfl, gv, hS'⟩ := hS
  obtain ⟨h1, hc⟩ := abCon h0 gv
  refine lv_dup hx hb hd hc ?_
  exact hnx _ _ _ _ r h1 (fun _ q => q) H locs ws A _ hH hX hL ⟨_, _, rfl, gv, _, _, rfl, gv, hS'⟩
theorem abS45 : abOk 45 abOdup2 := by
  intro D z sb sl rh xs0 w0 p l ev R s m args below meth c Q k d nx e pc ls st g r hF hE hop hpc hnx h
  obtain ⟨hx, hb, hml, hown, hts, hnm, hz, hR1, hR2, hR3, hR4, hlaw⟩ := hF
  obtain ⟨o, pc', a1, a2, x, ps⟩ := e
  have ho : o = 45 := hop
  have hp : pc' = pc := hpc
  subst ho; subst hp
  have hd := abEt_dec hE (show ¬ (45 : Nat) = 85 by decide) rfl
  obtain ⟨v, rr, rfl, h0⟩ := abHd_some h
  intro H locs ws A xs hH hX hL hS
  obtain ⟨y0, xr, rfl, gv, hS'⟩ := hS
  cases q1 : Nat.beq (v.1 / 2) 1 with
  | true =>
    rw [abIf_t q1] at h0
    have h3 := abDiv q1
    obtain ⟨y, rfl⟩ := abG_l gv (by omega)
    refine lv_dup2_2 hx hb hd rfl ?_
    exact hnx _ _ _ _ r h0 (fun _ q => q) H locs ws A _ hH hX hL ⟨_, _, rfl, gv, _, _, rfl, gv, hS'⟩
  | false =>
    rw [abIf_f q1] at h0
    obtain ⟨w, r2, rfl, h1⟩ := abHd_some h0
    obtain ⟨y1, xr1, rfl, gw, hS2⟩ := hS'
    obtain ⟨h2, hc1⟩ := abCon h1 gv
    obtain ⟨h3, hc2⟩ := abCon h2 gw
    refine lv_dup2_11 hx hb hd hc1 hc2 ?_
    exact hnx _ _ _ _ r h3 (fun _ q => q) H locs ws A _ hH hX hL ⟨_, _, rfl, gv, _, _, rfl, gw, _, _, rfl, gv, _, _, rfl, gw, hS2⟩
theorem abCe (x y : Int32) : x = y ↔ x.toInt = y.toInt := Int32.toInt_inj.symm
theorem abCl0 (x y : Int32) : x < y ↔ x.toInt < y.toInt := Int32.lt_iff_toInt_lt
theorem abCle (x y : Int32) : x ≤ y ↔ x.toInt ≤ y.toInt := Int32.le_iff_toInt_le
theorem abSg7 {n c : Int} : (abSg n c = 0 ↔ n = c) ∧ (abSg n c < 0 ↔ n < c) ∧ (0 < abSg n c ↔ c < n) := by
  unfold abSg
  by_cases h1 : n < c
  · rw [if_pos h1]
    refine ⟨⟨fun q => by omega, fun q => by omega⟩, ⟨fun _ => h1, fun _ => by omega⟩, ⟨fun q => by omega, fun q => by omega⟩⟩
  · rw [if_neg h1]
    by_cases h2 : n = c
    · rw [if_pos h2]
      refine ⟨⟨fun _ => h2, fun _ => rfl⟩, ⟨fun q => by omega, fun q => by omega⟩, ⟨fun q => by omega, fun q => by omega⟩⟩
    · rw [if_neg h2]
      refine ⟨⟨fun q => by omega, fun q => by omega⟩, ⟨fun q => by omega, fun q => by omega⟩, ⟨fun _ => by omega, fun _ => by omega⟩⟩
def abRowB2 (cd : Jvm.ClassFile.Cond) (P : Int → Int → Prop) : Prop := ∀ {p : Program} {l : Launch} {ev : Env} {R : Room} {s : State} {m : MethodId} {args : Array Value} {below : List Frame} {meth : Method} {c : Code} {H : Heap} {locs : List Loc} {cells slots : Nat} {Q : State → Prop} {cc : ByteArray} {pc tgt : Nat} {off : Int} {A : Array Slot} {rest : List Value} {x y : Int32}, p.tables.exec = Jvm.exec → c.code = cc → decode cc pc = .ok (.if_icmp cd off, 3) → (pc : Int) + off = (tgt : Int) → (P x.toInt y.toInt → W p l ev R s m args below meth c H locs cells slots Q (F0 m tgt A rest)) → (¬ P x.toInt y.toInt → W p l ev R s m args below meth c H locs cells slots Q (F0 m (pc + 3) A rest)) → W p l ev R s m args below meth c H locs cells slots Q (F0 m pc A (.int y :: .int x :: rest))
def abRowB1 (cd : Jvm.ClassFile.Cond) (P : Int → Int → Prop) : Prop := ∀ {p : Program} {l : Launch} {ev : Env} {R : Room} {s : State} {m : MethodId} {args : Array Value} {below : List Frame} {meth : Method} {c : Code} {H : Heap} {locs : List Loc} {cells slots : Nat} {Q : State → Prop} {cc : ByteArray} {pc tgt : Nat} {off : Int} {A : Array Slot} {rest : List Value} {x : Int32}, p.tables.exec = Jvm.exec → c.code = cc → decode cc pc = .ok (.ifCond cd off, 3) → (pc : Int) + off = (tgt : Int) → (P x.toInt 0 → W p l ev R s m args below meth c H locs cells slots Q (F0 m tgt A rest)) → (¬ P x.toInt 0 → W p l ev R s m args below meth c H locs cells slots Q (F0 m (pc + 3) A rest)) → W p l ev R s m args below meth c H locs cells slots Q (F0 m pc A (.int x :: rest))
theorem abIcmp {op : Nat} {cd : Jvm.ClassFile.Cond} {P : Int → Int → Prop} {BR : abBt abF} (h85 : ¬ op = 85) (hins : ∀ (pc a1 a2 x : Nat) (ps : List Nat), abIns (op, pc, a1, a2, x, ps) = some (.if_icmp cd ((a1 : Int) - pc), 3)) (row : abRowB2 cd P) (hB : abBrk P BR) : abOk op (abOic BR) := by
  intro D z sb sl rh xs0 w0 p l ev R s m args below meth c Q k d nx e pc ls st g r hF hE ho hpc hnx h
  obtain ⟨hx, hb, -⟩ := hF
  obtain ⟨o, pc', a1, a2, x, ps⟩ := e
  have ho : o = op := ho
  have hp : pc' = pc := hpc
  subst ho; subst hp
  have hd := abEt_dec hE h85 (hins _ _ _ _ _)
  obtain ⟨w, v, rr, rfl, h0⟩ := ab2_some h
  intro H locs ws A xs hH hX hL hS
  have hS0 := hS
  obtain ⟨y0, xr, rfl, gw, x0, xr', rfl, gv, hS'⟩ := hS
  obtain ⟨a, b, y, h1, rfl, p1, p2, -, -⟩ := abWi0 h0 hH.2.2.2.2.2.2.2 gv
  obtain ⟨c0, d0, y', h2, rfl, p3, p4, -, -⟩ := abWi0 h1 hH.2.2.2.2.2.2.2 gw
  rcases hB rh _ _ _ _ _ _ _ _ _ _ r y.toInt y'.toInt h2 hH.2.2.2.2.2.2.2 (abTag_i gv) (abTag_i gw) p1 p2 p3 p4 with q | ⟨q1, q2⟩
  · exact abHas_run hnx q hH hX hL hS0
  · exact row hx hb hd (show ((pc' : Nat) : Int) + ((a1 : Int) - pc') = ((a1 : Nat) : Int) by omega) (fun hp => abHas_run hnx (q1 hp) hH hX hL hS') (fun hp => abHas_run hnx (q2 hp) hH hX hL hS')
theorem abIf1 {op : Nat} {cd : Jvm.ClassFile.Cond} {P : Int → Int → Prop} {BR : abBt abF} (h85 : ¬ op = 85) (hins : ∀ (pc a1 a2 x : Nat) (ps : List Nat), abIns (op, pc, a1, a2, x, ps) = some (.ifCond cd ((a1 : Int) - pc), 3)) (row : abRowB1 cd P) (hB : abBrk P BR) (h7 : ∀ n c : Int, P (abSg n c) 0 ↔ P (n - abB) (c - abB)) : abOk op (abOif BR) := by
  intro D z sb sl rh xs0 w0 p l ev R s m args below meth c Q k d nx e pc ls st g r hF hE ho hpc hnx h
  obtain ⟨hx, hb, -⟩ := hF
  obtain ⟨o, pc', a1, a2, x, ps⟩ := e
  have ho : o = op := ho
  have hp : pc' = pc := hpc
  subst ho; subst hp
  have hd := abEt_dec hE h85 (hins _ _ _ _ _)
  obtain ⟨v, rr, rfl, h0⟩ := abHd_some h
  intro H locs ws A xs hH hX hL hS
  have hS0 := hS
  obtain ⟨x0, xr', rfl, gv, hS'⟩ := hS
  cases q7 : Nat.beq v.1 7 with
  | true =>
    rw [abIf_t q7] at h0
    obtain ⟨q, e1, h2⟩ := abWe_ok h0
    have hq := hH.2.2.2.2.2.2.2 _ _ e1
    obtain ⟨t, i, j⟩ := v
    have ht : t = 7 := abBeq q7
    subst ht
    obtain ⟨y, rfl, hy⟩ := gv
    have hy' : y.toInt = abSg (rh i + abB) (j : Int) := hy
    have hpq : P y.toInt 0 ↔ P (rh i) ((j : Int) - abB) := by
      rw [hy', h7, show rh i + abB - abB = rh i by omega]
    rcases hB rh _ _ _ _ _ _ _ _ _ _ r (rh i) ((j : Int) - abB) h2 hH.2.2.2.2.2.2.2 (fun k hk => by cases hk; rfl) (fun k hk => by cases hk) hq.1 hq.2 (by show (j : Int) ≤ _; omega) (by show _ ≤ (j : Int); omega) with q | ⟨q1, q2⟩
    · exact abHas_run hnx q hH hX hL hS0
    · exact row hx hb hd (show ((pc' : Nat) : Int) + ((a1 : Int) - pc') = ((a1 : Nat) : Int) by omega) (fun hp => abHas_run hnx (q1 (hpq.mp hp)) hH hX hL hS') (fun hp => abHas_run hnx (q2 (fun z => hp (hpq.mpr z))) hH hX hL hS')
  | false =>
    rw [abIf_f q7] at h0
    obtain ⟨a, b, y, h1, rfl, p1, p2, -, -⟩ := abWi0 h0 hH.2.2.2.2.2.2.2 gv
    rcases hB rh _ _ _ _ _ _ _ _ _ _ r y.toInt 0 h1 hH.2.2.2.2.2.2.2 (abTag_i gv) (fun k hk => by cases hk) p1 p2 (by show ((9223372036854775808 : Nat) : Int) ≤ _; simp only [abB]; omega) (by show _ ≤ ((9223372036854775808 : Nat) : Int); simp only [abB]; omega) with q | ⟨q1, q2⟩
    · exact abHas_run hnx q hH hX hL hS0
    · exact row hx hb hd (show ((pc' : Nat) : Int) + ((a1 : Int) - pc') = ((a1 : Nat) : Int) by omega) (fun hp => abHas_run hnx (q1 hp) hH hX hL hS') (fun hp => abHas_run hnx (q2 hp) hH hX hL hS')
theorem abR2eq : abRowB2 .eq (fun m n => m = n) := fun hx hb hd ht kt kf => lv_icmp_eq hx hb hd ht (fun q => kt (congrArg Int32.toInt q)) (fun q => kf (fun w => q (Int32.toInt_inj.mp w)))
theorem abR2ne : abRowB2 .ne (fun m n => ¬ m = n) := fun hx hb hd ht kt kf => lv_icmp_ne hx hb hd ht (fun q => kt (fun w => q (Int32.toInt_inj.mp w))) (fun q => kf (fun w => w (congrArg Int32.toInt q)))
theorem abR2lt : abRowB2 .lt (fun m n => m < n) := fun hx hb hd ht kt kf => lv_icmp_lt hx hb hd ht (fun q => kt (Int32.lt_iff_toInt_lt.mp q)) (fun q => kf (fun w => q (Int32.lt_iff_toInt_lt.mpr w)))
theorem abR2ge : abRowB2 .ge (fun m n => ¬ m < n) := fun hx hb hd ht kt kf => lv_icmp_ge hx hb hd ht (fun q => kt (Int.not_lt.mpr (Int32.le_iff_toInt_le.mp q))) (fun q => kf (fun w => q (Int32.le_iff_toInt_le.mpr (Int.not_lt.mp w))))
theorem abR2gt : abRowB2 .gt (fun m n => n < m) := fun hx hb hd ht kt kf => lv_icmp_gt hx hb hd ht (fun q => kt (Int32.lt_iff_toInt_lt.mp q)) (fun q => kf (fun w => q (Int32.lt_iff_toInt_lt.mpr w)))
theorem abR2le : abRowB2 .le (fun m n => ¬ n < m) := fun hx hb hd ht kt kf => lv_icmp_le hx hb hd ht (fun q => kt (Int.not_lt.mpr (Int32.le_iff_toInt_le.mp q))) (fun q => kf (fun w => q (Int32.le_iff_toInt_le.mpr (Int.not_lt.mp w))))
theorem abR1eq : abRowB1 .eq (fun m n => m = n) := fun hx hb hd ht kt kf => lv_if_eq hx hb hd ht (fun q => kt (congrArg Int32.toInt q)) (fun q => kf (fun w => q (Int32.toInt_inj.mp w)))
theorem abR1ne : abRowB1 .ne (fun m n => ¬ m = n) := fun hx hb hd ht kt kf => lv_if_ne hx hb hd ht (fun q => kt (fun w => q (Int32.toInt_inj.mp w))) (fun q => kf (fun w => w (congrArg Int32.toInt q)))
theorem abR1lt : abRowB1 .lt (fun m n => m < n) := fun hx hb hd ht kt kf => lv_if_lt hx hb hd ht (fun q => kt (Int32.lt_iff_toInt_lt.mp q)) (fun q => kf (fun w => q (Int32.lt_iff_toInt_lt.mpr w)))
theorem abR1ge : abRowB1 .ge (fun m n => ¬ m < n) := fun hx hb hd ht kt kf => lv_if_ge hx hb hd ht (fun q => kt (Int.not_lt.mpr (Int32.le_iff_toInt_le.mp q))) (fun q => kf (fun w => q (Int32.le_iff_toInt_le.mpr (Int.not_lt.mp w))))
theorem abR1gt : abRowB1 .gt (fun m n => n < m) := fun hx hb hd ht kt kf => lv_if_gt hx hb hd ht (fun q => kt (Int32.lt_iff_toInt_lt.mp q)) (fun q => kf (fun w => q (Int32.lt_iff_toInt_lt.mpr w)))
theorem abR1le : abRowB1 .le (fun m n => ¬ n < m) := fun hx hb hd ht kt kf => lv_if_le hx hb hd ht (fun q => kt (Int.not_lt.mpr (Int32.le_iff_toInt_le.mp q))) (fun q => kf (fun w => q (Int32.le_iff_toInt_le.mpr (Int.not_lt.mp w))))
theorem abS46 : abOk 46 (abOif abEq) := abIf1 (by decide) (fun _ _ _ _ _ => rfl) abR1eq abEq_ok (fun n c => by have := abSg7 (n := n) (c := c); constructor <;> intro q <;> omega)
theorem abS47 : abOk 47 (abOif (abSw abEq)) := abIf1 (by decide) (fun _ _ _ _ _ => rfl) abR1ne (abSw_ok abEq_ok) (fun n c => by have := abSg7 (n := n) (c := c); constructor <;> intro q <;> omega)
theorem abS48 : abOk 48 (abOif abLt) := abIf1 (by decide) (fun _ _ _ _ _ => rfl) abR1lt abLt_ok (fun n c => by have := abSg7 (n := n) (c := c); constructor <;> intro q <;> omega)
theorem abS49 : abOk 49 (abOif (abSw abLt)) := abIf1 (by decide) (fun _ _ _ _ _ => rfl) abR1ge (abSw_ok abLt_ok) (fun n c => by have := abSg7 (n := n) (c := c); constructor <;> intro q <;> omega)
theorem abS50 : abOk 50 (abOif abGt) := abIf1 (by decide) (fun _ _ _ _ _ => rfl) abR1gt abGt_ok (fun n c => by have := abSg7 (n := n) (c := c); constructor <;> intro q <;> omega)
theorem abS51 : abOk 51 (abOif (abSw abGt)) := abIf1 (by decide) (fun _ _ _ _ _ => rfl) abR1le (abSw_ok abGt_ok) (fun n c => by have := abSg7 (n := n) (c := c); constructor <;> intro q <;> omega)
theorem abS52 : abOk 52 (abOic abEq) := abIcmp (by decide) (fun _ _ _ _ _ => rfl) abR2eq abEq_ok
theorem abS53 : abOk 53 (abOic (abSw abEq)) := abIcmp (by decide) (fun _ _ _ _ _ => rfl) abR2ne (abSw_ok abEq_ok)
theorem abS54 : abOk 54 (abOic abLt) := abIcmp (by decide) (fun _ _ _ _ _ => rfl) abR2lt abLt_ok
theorem abS55 : abOk 55 (abOic (abSw abLt)) := abIcmp (by decide) (fun _ _ _ _ _ => rfl) abR2ge (abSw_ok abLt_ok)
theorem abS56 : abOk 56 (abOic abGt) := abIcmp (by decide) (fun _ _ _ _ _ => rfl) abR2gt abGt_ok
theorem abS57 : abOk 57 (abOic (abSw abGt)) := abIcmp (by decide) (fun _ _ _ _ _ => rfl) abR2le (abSw_ok abGt_ok)
end
section
/-! jumps, switches -/
theorem abS58 : abOk 58 abOgo := by
  intro D z sb sl rh xs0 w0 p l ev R s m args below meth c Q k d nx e pc ls st g r hF hE hop hpc hnx h
  obtain ⟨hx, hb, hml, hown, hts, hnm, hz, hR1, hR2, hR3, hR4, hlaw⟩ := hF
  obtain ⟨o, pc', a1, a2, x, ps⟩ := e
  have ho : o = 58 := hop
  have hp : pc' = pc := hpc
  subst ho; subst hp
  have hd := abEt_dec hE (show ¬ (58 : Nat) = 85 by decide) rfl
  intro H locs ws A xs hH hX hL hS
  refine lv_goto hx hb hd (show ((pc' : Nat) : Int) + ((a1 : Int) - pc') = ((a1 : Nat) : Int) by omega) ?_
  exact hnx _ _ _ _ r h (fun _ q => q) H locs ws A _ hH hX hL hS
theorem abPk_get (df : Nat) : ∀ (l : List Nat) (i : Nat), abPk l df i = (l[i]?).getD df
  | [], _ => rfl
  | _ :: _, 0 => rfl
  | _ :: l, i + 1 => by
    rw [List.getElem?_cons_succ]
    exact abPk_get df l i
theorem abTa_ok {f : Nat → abR} : ∀ {ps : List Nat} {r : List abF} {i t : Nat}, abTa f ps = some r → ps[i]? = some t → ∃ r', f t = some r' ∧ ∀ x ∈ r', x ∈ r
  | [], _, _, _, _, h => by cases h
  | p :: ps, r, 0, t, h, hi => by
    cases hi
    obtain ⟨x, y, hx, hy, rfl⟩ := abJn_some (show abJn (f p) (abTa f ps) = some r from h)
    exact ⟨x, hx, fun _ q => List.mem_append_left _ q⟩
  | p :: ps, r, i + 1, t, h, hi => by
    obtain ⟨x, y, hx, hy, rfl⟩ := abJn_some (show abJn (f p) (abTa f ps) = some r from h)
    obtain ⟨r', h1, h2⟩ := abTa_ok hy hi
    exact ⟨r', h1, fun z q => List.mem_append_right _ (h2 z q)⟩
theorem abTs_ok {f : Nat → abR} : ∀ {ps : List Nat} {r : List abF} {i i0 : Nat}, abTs f ps i0 = some r → i < ps.length → ∃ r', f (i0 + i) = some r' ∧ ∀ x ∈ r', x ∈ r
  | [], _, _, _, _, h => absurd h (Nat.not_lt_zero _)
  | p :: ps, r, 0, i0, h, _ => by
    obtain ⟨x, y, hx, hy, rfl⟩ := abJn_some (show abJn (f i0) (abTs f ps (i0 + 1)) = some r from h)
    exact ⟨x, hx, fun _ q => List.mem_append_left _ q⟩
  | p :: ps, r, i + 1, i0, h, hi => by
    obtain ⟨x, y, hx, hy, rfl⟩ := abJn_some (show abJn (f i0) (abTs f ps (i0 + 1)) = some r from h)
    obtain ⟨r', h1, h2⟩ := abTs_ok (i := i) hy (by simpa using hi)
    exact ⟨r', by rw [← h1]; congr 1; omega, fun z q => List.mem_append_right _ (h2 z q)⟩
theorem abS59 : abOk 59 abOsw := by
  intro D z sb sl rh xs0 w0 p l ev R s m args below meth c Q k d nx e pc ls st g r hF hE hop hpc hnx h
  obtain ⟨hx, hb, hml, hown, hts, hnm, hz, hR1, hR2, hR3, hR4, hlaw⟩ := hF
  obtain ⟨o, pc', a1, a2, x, ps⟩ := e
  have ho : o = 59 := hop
  have hp : pc' = pc := hpc
  subst ho; subst hp
  have hd := abEt_dec hE (show ¬ (59 : Nat) = 85 by decide) rfl
  have hlen := of_decide_eq_true (show decide (0 < ps.length) = true from hE.2.2)
  obtain ⟨v, rr, rfl, h0⟩ := abHd_some h
  intro H locs ws A xs hH hX hL hS
  have hS0 := hS
  obtain ⟨x0, xr, rfl, gv, hS'⟩ := hS
  obtain ⟨a, b, y, h1, rfl, p1, p2, -, -⟩ := abWi0 h0 hH.2.2.2.2.2.2.2 gv
  dsimp only at h1 hd
  have he := hH.2.2.2.2.2.2.2
  have out : (y.toInt + abB < (x : Int) ∨ (x : Int) + ps.length ≤ y.toInt + abB) → ∀ r', nx a1 ls rr g = some r' → (∀ z ∈ r', z ∈ r) → W p l ev R s m args below meth c H locs g.2.2.2.1 g.2.2.2.2 Q (F0 m pc' A (.int y :: xr)) := by
    intro ho r' hr hs
    have ho2 : y.toInt < (x : Int) - abB ∨ (x : Int) - abB + ps.length - 1 < y.toInt := by
      rcases ho with q | q
      · exact Or.inl (by omega)
      · exact Or.inr (by omega)
    exact lv_tableOut hx hb hd ho2 (show ((pc' : Nat) : Int) + ((a1 : Int) - pc') = ((a1 : Nat) : Int) by omega) (hnx _ _ _ _ r' hr hs H locs ws A _ hH hX hL hS')
  have inn : ∀ i t : Nat, ps[i]? = some t → y.toInt + abB = (x : Int) + i → ∀ r', nx t ls rr g = some r' → (∀ z ∈ r', z ∈ r) → W p l ev R s m args below meth c H locs g.2.2.2.1 g.2.2.2.2 Q (F0 m pc' A (.int y :: xr)) := by
    intro i t hi hy r' hr hs
    have hil := (List.getElem?_eq_some_iff.mp hi).1
    refine lv_tableIn (off := (t : Int) - pc') hx hb hd (by omega) (by omega) ?_ (show ((pc' : Nat) : Int) + ((t : Int) - pc') = ((t : Nat) : Int) by omega) (hnx _ _ _ _ r' hr hs H locs ws A _ hH hX hL hS')
    rw [show (y.toInt - ((x : Int) - abB)).toNat = i by omega, List.getElem?_toArray, List.getElem?_map, hi]
    rfl
  cases q1 : Nat.beq a b with
  | true =>
    rw [abIf_t q1] at h1
    have e1 := abBeq q1
    cases q2 : Nat.ble x a with
    | false =>
      rw [abIf_f q2] at h1
      have e2 := abBle_f q2
      exact out (Or.inl (by omega)) r h1 (fun _ q => q)
    | true =>
      rw [abIf_t q2, abPk_get] at h1
      have e2 := abBle q2
      cases q3 : ps[a - x]? with
      | some t =>
        rw [q3] at h1
        exact inn (a - x) t q3 (by omega) r h1 (fun _ q => q)
      | none =>
        rw [q3] at h1
        have e3 := List.getElem?_eq_none_iff.mp q3
        exact out (Or.inr (by omega)) r h1 (fun _ q => q)
  | false =>
    rw [abIf_f q1] at h1
    cases q2 : Nat.ble (b + 1) x with
    | true =>
      rw [abIf_t q2] at h1
      have e2 := abBle q2
      exact out (Or.inl (by omega)) r h1 (fun _ q => q)
    | false =>
      rw [abIf_f q2] at h1
      cases q3 : Nat.ble (x + ps.length) a with
      | true =>
        rw [abIf_t q3] at h1
        have e3 := abBle q3
        exact out (Or.inr (by omega)) r h1 (fun _ q => q)
      | false =>
        rw [abIf_f q3] at h1
        cases q4 : Nat.beq (abTag v) 0 with
        | true =>
          rw [abIf_t q4] at h1
          obtain ⟨x1, y1, hx1, hy1, rfl⟩ := abJn_some h1
          by_cases z1 : y.toInt + abB < (x : Int) ∨ (x : Int) + ps.length ≤ y.toInt + abB
          · exact out z1 x1 hx1 (fun _ q => List.mem_append_left _ q)
          · obtain ⟨t, ht⟩ : ∃ t, ps[(y.toInt + abB - x).toNat]? = some t := ⟨_, List.getElem?_eq_getElem (by omega)⟩
            obtain ⟨r', h2, h3⟩ := abTa_ok hy1 ht
            exact inn _ t ht (by omega) r' h2 (fun z q => List.mem_append_right _ (h3 z q))
        | false =>
          rw [abIf_f q4] at h1
          obtain ⟨x1, y1, hx1, hy1, rfl⟩ := abJn_some h1
          obtain ⟨x2, y2, hx2, hy2, rfl⟩ := abJn_some hy1
          by_cases z1 : y.toInt + abB < (x : Int)
          · exact abHas_run hnx (abHas_l (fun w q => List.mem_append_left _ q) (abCut_ok hx1 he (abTag_i gv) p1 p2 p1 (by omega))) hH hX hL hS0
          · by_cases z2 : (x : Int) + ps.length ≤ y.toInt + abB
            · exact abHas_run hnx (abHas_l (fun w q => List.mem_append_right _ (List.mem_append_left _ q)) (abCut_ok hx2 he (abTag_i gv) p1 p2 (by omega) p2)) hH hX hL hS0
            · obtain ⟨r', h2, h3⟩ := abTs_ok (i := (y.toInt + abB - x).toNat) hy2 (by omega)
              exact abHas_run hnx (abHas_l (fun w q => List.mem_append_right _ (List.mem_append_right _ (h3 w q))) (abCut_ok h2 he (abTag_i gv) p1 p2 (by omega) (by omega))) hH hX hL hS0
end
section
/-! fields and rows -/
theorem abHok.lt {D : va_G} {z sb sl : Nat} {rh : Nat → Int} {s : State} {ws : va_W} {H : Heap} {locs : List Loc} {g : abSt} (h : abHok D z sb sl rh s ws H locs g) {j : Nat} {q : Nat × va_E} (hj : ws[j]? = some q) : j < 4096 := by
  have h1 := (List.getElem?_eq_some_iff.mp hj).1
  have h2 := h.2.2.2.2.1
  have h3 := h.2.2.2.2.2.1
  omega
theorem abHok.put {D : va_G} {z sb sl : Nat} {rh : Nat → Int} {s : State} {ws : va_W} {H H1 : Heap} {locs locs1 : List Loc} {g : abSt} {tys : List (ClassId × FieldType)} (h : abHok D z sb sl rh s ws H locs g) (hK : va_K D abCls tys s) (hC : ∀ j : Nat, j < 4096 → abCs tys ws sb sl rh ws[j]? (g.1.get j)) {j a : Nat} {e0 e1 : va_E} {c1 : abCel} (hj : ws[j]? = some (a, e0)) (hP1 : va_P D abCls (ws.set j (a, e1)) H1) (hD1 : va_D (fun q : Nat => z ≤ q) (ws.set j (a, e1))) (hS1 : va_S (fun q : Nat => z ≤ q) s.heap H1 locs1) (hc : abCs tys (ws.set j (a, e1)) sb sl rh (some (a, e1)) c1) : abHok D z sb sl rh s (ws.set j (a, e1)) H1 locs1 (abSh g (abSet j c1 g.1 12 0)) := by
  have hlt := h.lt hj
  obtain ⟨-, -, -, -, hn, h4, hw, he⟩ := h
  refine ⟨⟨tys, hK, fun i hi => ?_⟩, hP1, hD1, hS1, by rw [List.length_set]; exact hn, h4, abSet_wf _ _ _ _ _ hw, he⟩
  show abCs tys _ sb sl rh _ ((abSet j c1 g.1 12 0).get i)
  rw [abSet_get j c1 g.1 12 0 i hw (Nat.zero_le _) (by omega) (Nat.zero_le _) (by omega)]
  by_cases e : j = i
  · rw [if_pos e, ← e, List.getElem?_set_self (List.getElem?_eq_some_iff.mp hj).1]
    exact hc
  · rw [if_neg e, List.getElem?_set_ne e]
    exact (hC i hi).mono (abX.set hj) (fun _ _ q => q)
theorem abHok.push {D : va_G} {z sb sl : Nat} {rh : Nat → Int} {s : State} {ws : va_W} {H H1 : Heap} {locs locs1 : List Loc} {g : abSt} {tys tys' : List (ClassId × FieldType)} (h : abHok D z sb sl rh s ws H locs g) (hC : ∀ j : Nat, j < 4096 → abCs tys ws sb sl rh ws[j]? (g.1.get j)) (ht : ∀ (t0 : Nat) (y : ClassId × FieldType), tys[t0]? = some y → tys'[t0]? = some y) (hK : va_K D abCls tys' s) {a : Nat} {e1 : va_E} {c1 : abCel} (hn1 : g.2.1 + 1 ≤ 4096) (hP1 : va_P D abCls (ws ++ [(a, e1)]) H1) (hD1 : va_D (fun q : Nat => z ≤ q) (ws ++ [(a, e1)])) (hS1 : va_S (fun q : Nat => z ≤ q) s.heap H1 locs1) (hc : abCs tys' (ws ++ [(a, e1)]) sb sl rh (some (a, e1)) c1) : abHok D z sb sl rh s (ws ++ [(a, e1)]) H1 locs1 (abMk g c1) := by
  obtain ⟨-, -, -, -, hn, h4, hw, he⟩ := h
  refine ⟨⟨tys', hK, fun i hi => ?_⟩, hP1, hD1, hS1, by rw [List.length_append]; show ws.length + 1 = g.2.1 + 1; rw [hn], hn1, abSet_wf _ _ _ _ _ hw, he⟩
  show abCs tys' _ sb sl rh _ ((abSet g.2.1 c1 g.1 12 0).get i)
  rw [abSet_get g.2.1 c1 g.1 12 0 i hw (Nat.zero_le _) (by omega) (Nat.zero_le _) (by omega)]
  by_cases e : g.2.1 = i
  · rw [if_pos e, List.getElem?_append_right (by omega), show i - ws.length = 0 by omega]
    exact hc
  · rw [if_neg e]
    have hm := (hC i hi).mono (abX.app ws [(a, e1)]) ht
    by_cases hl : i < ws.length
    · rw [List.getElem?_append_left hl]
      exact hm
    · rw [List.getElem?_eq_none (by simp; omega)]
      rw [List.getElem?_eq_none (by omega)] at hm
      exact hm
theorem abG.last {ws : va_W} {sb sl : Nat} {rh : Nat → Int} {a n : Nat} {e : va_E} (hn : ws.length = n) : abG (ws ++ [(a, e)]) sb sl rh (4, n, 0) (.ref a) := ⟨a, e, by show (ws ++ [(a, e)])[n]? = _; rw [List.getElem?_append_right (by omega), hn, Nat.sub_self]; rfl, rfl⟩
theorem abS60 : abOk 60 abOgf := by
  intro D z sb sl rh xs0 w0 p l ev R s m args below meth c Q k d nx e pc ls st g r hF hE hop hpc hnx h
  obtain ⟨hx, hb, hml, hown, hts, hnm, hz, hR1, hR2, hR3, hR4, hlaw⟩ := hF
  obtain ⟨o, pc', a1, a2, x, ps⟩ := e
  have ho : o = 60 := hop
  have hp : pc' = pc := hpc
  subst ho; subst hp
  have hd := abEt_dec hE (show ¬ (60 : Nat) = 85 by decide) rfl
  have hsm : (match abCls[a1]? with | some q => decide (a2 < q.2.2) && decide (a1 < 90) | none => false) = true := hE.2.2
  have hwd : ∀ w ∈ (match abCls[a1]? with | some q => [Jvm.Cond.fieldLink (abOwn k) x q.1 (q.2.1 a2).2.1 (q.2.1 a2).2.2.1] | none => []), w ∈ abTw := hE.2.1
  obtain ⟨v, rr, rfl, h0⟩ := abHd_some h
  intro H locs ws A xs hH hX hL hS
  obtain ⟨x0, xr, rfl, gv, hS'⟩ := hS
  obtain ⟨a, en, h1, hj, rfl⟩ := abWr_ok h0 gv
  obtain ⟨h2, h3⟩ := abIf_some h1
  have ec : (g.1.get v.2.1).1 = a1 := abBeq h2
  cases hq : abCls[a1]? with
  | none => rw [hq] at hsm; cases hsm
  | some q =>
    rw [hq] at hsm hwd
    obtain ⟨q1, q2⟩ := Bool.and_eq_true_iff.mp hsm
    have q1 := of_decide_eq_true q1
    have q2 := of_decide_eq_true q2
    have hw := hts _ (hwd _ List.mem_cons_self)
    obtain ⟨c1, c2, c3, c4⟩ := abCls_ok a1 q hq
    obtain ⟨⟨tys, hK, hC⟩, hP, hD, hSS, hn, h4, hwf, he⟩ := id hH
    have hcell := hC v.2.1 (hH.lt hj)
    obtain ⟨a', fs, y, e1, e2, e3, e4, e5⟩ := hcell.2.1 (by omega)
    rw [hj] at e1
    cases e1
    rw [ec] at e3 hj
    rw [hq] at e3
    cases e3
    obtain ⟨xv, hxv⟩ : ∃ xv, fs[a2]? = some xv := ⟨_, List.getElem?_eq_getElem (by omega)⟩
    refine va_get (D := D) (cl := abCls) (tys := tys) (ws := ws) (ci := a1) (v := xv) (C := q.1) (T := q.2.1) (N := q.2.2) (ref := q.1) hx hb hts c1 hown hK hP v.2.1 hj hq a2 q1 hw (by rw [c4 a2 q1]; exact fun _ h9 => h9) hxv hd ?_
    exact hnx _ _ _ _ r h3 (fun _ q => q) H locs ws A _ hH hX hL ⟨_, _, rfl, e5 a2 xv hxv, hS'⟩
/-- what the store of a field asks of its value -/
def abFtk (T : FieldType → Prop) (F : abFt) : Prop := ∀ (ws : va_W) (sb sl : Nat) (rh : Nat → Int) (env : abE) (v : abV) (kk : abR) (r : List abF) (x : Value) (ty : FieldType), F env v kk = some r → abEok rh env → abG ws sb sl rh v x → T ty → kk = some r ∧ narrow ty x = x ∧ fits ty x = true
theorem ab01 {y : Int32} (h1 : 0 ≤ y.toInt) (h2 : y.toInt ≤ 1) : y = 0 ∨ y = 1 := by
  rcases (show y.toInt = 0 ∨ y.toInt = 1 by omega) with q | q
  · exact Or.inl (Int32.toInt_inj.mp (by rw [q]; rfl))
  · exact Or.inr (Int32.toInt_inj.mp (by rw [q]; rfl))
theorem abFti_ok : abFtk (fun ty => ty = .int) abFti := by
  intro ws sb sl rh env v kk r x ty h he g ht
  subst ht
  obtain ⟨h1, h2⟩ := abIf_some h
  have := abBle h1
  obtain ⟨y, rfl⟩ := abG_i g (by omega)
  exact ⟨h2, rfl, rfl⟩
theorem abFtz_ok : abFtk (fun ty => ty = .boolean) abFtz := by
  intro ws sb sl rh env v kk r x ty h he g ht
  subst ht
  obtain ⟨a, b, y, h1, rfl, p1, p2, -, -⟩ := abWi0 h he g
  obtain ⟨h2, h3⟩ := abIf_some h1
  obtain ⟨h4, h5⟩ := abIf_some h3
  have e1 := abBle h2
  have e2 := abBle h4
  simp only [abB] at p1 p2
  rcases ab01 (y := y) (by omega) (by omega) with rfl | rfl
  · exact ⟨h5, rfl, rfl⟩
  · exact ⟨h5, rfl, rfl⟩
theorem abFtr_ok : abFtk (fun ty => (∃ n, ty = .object n) ∨ ∃ t, ty = .array t) abFtr := by
  intro ws sb sl rh env v kk r x ty h he g ht
  have key : kk = some r ∧ (x = .null ∨ ∃ a, x = .ref a) := by
    unfold abFtr at h
    cases q1 : Nat.beq v.1 4 with
    | true =>
      rw [abIf_t q1] at h
      exact ⟨h, Or.inr (abG_a g (Or.inl (abBeq q1)))⟩
    | false =>
      rw [abIf_f q1] at h
      obtain ⟨h1, h2⟩ := abIf_some h
      obtain ⟨t, i, j⟩ := v
      have e : t = 6 := abBeq h1
      subst e
      exact ⟨h2, Or.inl g⟩
  rcases ht with ⟨n, rfl⟩ | ⟨t, rfl⟩ <;> rcases key.2 with rfl | ⟨a, rfl⟩ <;> exact ⟨key.1, rfl, rfl⟩
theorem abPf {op : Nat} {T : FieldType → Prop} {F : abFt} (h85 : ¬ op = 85) (hins : ∀ (pc a1 a2 x : Nat) (ps : List Nat), abIns (op, pc, a1, a2, x, ps) = some (.putfield x, 3)) (hwd : ∀ (k pc a1 a2 x : Nat) (ps : List Nat), abWds k (op, pc, a1, a2, x, ps) = match abCls[a1]? with | some q => [.fieldLink (abOwn k) x q.1 (q.2.1 a2).2.1 (q.2.1 a2).2.2.1] | none => []) (hsm : ∀ (k pc a1 a2 x : Nat) (ps : List Nat), abSmk k (op, pc, a1, a2, x, ps) = true → ∃ q, abCls[a1]? = some q ∧ a2 < q.2.2 ∧ a1 < 90 ∧ T (abTyp a1 a2) ∧ ((q.2.1 a2).2.2.2 = true → (abNm k).name = "<init>" ∧ abOwn k = q.1)) (hFt : abFtk T F) : abOk op (abOpf F) := by
  intro D z sb sl rh xs0 w0 p l ev R s m args below meth c Q k d nx e pc ls st g r hF hE hop hpc hnx h
  obtain ⟨hx, hb, hml, hown, hts, hnm, hz, hR1, hR2, hR3, hR4, hlaw⟩ := hF
  obtain ⟨o, pc', a1, a2, x, ps⟩ := e
  have ho : o = op := hop
  have hp : pc' = pc := hpc
  subst ho; subst hp
  have hd := abEt_dec hE h85 (hins _ _ _ _ _)
  obtain ⟨q, hq, q1, q2, q3, q4⟩ := hsm _ _ _ _ _ _ hE.2.2
  have hwd1 := hE.2.1
  rw [hwd, hq] at hwd1
  have hw := hts _ (hwd1 _ List.mem_cons_self)
  obtain ⟨c1, c2, c3, c4⟩ := abCls_ok a1 q hq
  obtain ⟨v, w, rr, rfl, h0⟩ := ab2_some h
  intro H locs ws A xs hH hX hL hS
  obtain ⟨x0, xr, rfl, gv, x1, xr', rfl, gw, hS'⟩ := hS
  obtain ⟨a, en, h1, hj, rfl⟩ := abWr_ok h0 gw
  obtain ⟨h2, h3⟩ := abIf_some h1
  have ec : (g.1.get w.2.1).1 = a1 := abBeq h2
  obtain ⟨h4, n1, n2⟩ := hFt ws sb sl rh _ v _ r x0 _ h3 hH.2.2.2.2.2.2.2 gv q3
  obtain ⟨⟨tys, hK, hC⟩, hP, hD, hSS, hn, h4096, hwf, he⟩ := id hH
  have hcell := hC w.2.1 (hH.lt hj)
  obtain ⟨a', fs, y, e1, e2, e3, e4, e5⟩ := hcell.2.1 (by omega)
  have hj0 := hj
  rw [hj] at e1
  cases e1
  rw [ec] at e3 hj
  rw [hq] at e3
  cases e3
  have fin : ∀ (H1 : Heap) (locs1 : List Loc), va_P D abCls (ws.set w.2.1 (a, .inr (a1, fs.set a2 x0))) H1 → va_D (fun q : Nat => z ≤ q) (ws.set w.2.1 (a, .inr (a1, fs.set a2 x0))) → va_S (fun q : Nat => z ≤ q) s.heap H1 locs1 → W p l ev R s m args below meth c H1 locs1 g.2.2.2.1 g.2.2.2.2 Q (F0 m (pc' + 3) A xr') := by
    intro H1 locs1 hP1 hD1 hS1
    have hX1 : abX ws (ws.set w.2.1 (a, .inr (a1, fs.set a2 x0))) := abX.set hj
    refine hnx _ _ _ _ r h4 (fun _ q => q) H1 locs1 (ws.set w.2.1 (a, .inr (a1, fs.set a2 x0))) A _ ?_ (hX.tr hX1) (hL.mono hX1) (hS'.mono hX1)
    refine hH.put hK hC hj hP1 hD1 hS1 ⟨abSet_wf _ _ _ _ _ hcell.1, fun _ => ⟨a, fs.set a2 x0, q, by rw [ec], by rw [List.length_set]; exact e2, by rw [ec]; exact hq, e4, fun kx xx hkx => ?_⟩, fun ty ht => ?_, fun hc => ?_, fun hc => ?_⟩
    · have hkl : kx < (fs.set a2 x0).length := (List.getElem?_eq_some_iff.mp hkx).1
      rw [List.length_set] at hkl
      show abG _ sb sl rh ((abSet a2 v (g.1.get w.2.1).2.2 (abD (g.1.get w.2.1).2.1) 0).get kx) xx
      rw [abSet_get _ _ _ _ _ _ hcell.1 (Nat.zero_le _) (abD_lt (by omega)) (Nat.zero_le _) (abD_lt (by omega))]
      by_cases e : a2 = kx
      · subst e
        rw [if_pos rfl]
        rw [List.getElem?_set_self hkl] at hkx
        cases hkx
        exact gv.mono hX1
      · rw [if_neg e]
        rw [List.getElem?_set_ne e] at hkx
        exact (e5 kx xx hkx).mono hX1
    · have : abTyA (g.1.get w.2.1).1 = some ty := ht
      rw [ec] at this
      unfold abTyA at this
      split at this <;> first | omega | cases this
    · have : (g.1.get w.2.1).1 = 101 := hc
      omega
    · have : 200 ≤ (g.1.get w.2.1).1 := hc
      omega
  by_cases hf : (q.2.1 a2).2.2.2 = true
  · obtain ⟨f1, f2⟩ := q4 hf
    exact va_putF (D := D) (cl := abCls) (tys := tys) (ws := ws) (ci := a1) (v := x0) (ty := abTyp a1 a2) (C := q.1) (T := q.2.1) (N := q.2.2) (ref := q.1) hx hb hts c1 (abTyp a1) c2 c3 hown hK hP hD hSS w.2.1 hj hq a2 q1 hw (by rw [c4 a2 q1]; exact fun _ h9 => h9) hf (by rw [hnm]; exact f1) (by rw [c4 a2 q1]; exact f2.symm) (c2 a2 q1) n1 n2 (by omega) hd fin
  · exact va_put (D := D) (cl := abCls) (tys := tys) (ws := ws) (ci := a1) (v := x0) (ty := abTyp a1 a2) (C := q.1) (T := q.2.1) (N := q.2.2) (ref := q.1) hx hb hts c1 (abTyp a1) c2 c3 hown hK hP hD hSS w.2.1 hj hq a2 q1 hw (by rw [c4 a2 q1]; exact fun _ h9 => h9) (by simpa using hf) (c2 a2 q1) n1 n2 (by omega) hd fin
theorem abS61 : abOk 61 (abOpf abFti) := by
  refine abPf (T := fun ty => ty = .int) (by decide) (fun _ _ _ _ _ => rfl) (fun _ _ _ _ _ _ => rfl) (fun k pc a1 a2 x ps h => ?_) abFti_ok
  have h' : (match abCls[a1]? with | some q => decide (a2 < q.2.2) && decide (a1 < 90) && decide (abTyp a1 a2 = .int) && (!(q.2.1 a2).2.2.2 || (decide ((abNm k).name = "<init>") && decide (abOwn k = q.1))) | none => false) = true := h
  cases hq : abCls[a1]? with
  | none => rw [hq] at h'; cases h'
  | some q =>
    rw [hq] at h'
    obtain ⟨h1, g4⟩ := Bool.and_eq_true_iff.mp h'
    obtain ⟨h2, g3⟩ := Bool.and_eq_true_iff.mp h1
    obtain ⟨g1, g2⟩ := Bool.and_eq_true_iff.mp h2
    refine ⟨q, rfl, of_decide_eq_true g1, of_decide_eq_true g2, ?_, fun hf => ?_⟩
    · exact of_decide_eq_true g3
    · rw [hf] at g4
      obtain ⟨g5, g6⟩ := Bool.and_eq_true_iff.mp (show (decide ((abNm k).name = "<init>") && decide (abOwn k = q.1)) = true from g4)
      exact ⟨of_decide_eq_true g5, of_decide_eq_true g6⟩
theorem abS62 : abOk 62 (abOpf abFtz) := by
  refine abPf (T := fun ty => ty = .boolean) (by decide) (fun _ _ _ _ _ => rfl) (fun _ _ _ _ _ _ => rfl) (fun k pc a1 a2 x ps h => ?_) abFtz_ok
  have h' : (match abCls[a1]? with | some q => decide (a2 < q.2.2) && decide (a1 < 90) && decide (abTyp a1 a2 = .boolean) && (!(q.2.1 a2).2.2.2 || (decide ((abNm k).name = "<init>") && decide (abOwn k = q.1))) | none => false) = true := h
  cases hq : abCls[a1]? with
  | none => rw [hq] at h'; cases h'
  | some q =>
    rw [hq] at h'
    obtain ⟨h1, g4⟩ := Bool.and_eq_true_iff.mp h'
    obtain ⟨h2, g3⟩ := Bool.and_eq_true_iff.mp h1
    obtain ⟨g1, g2⟩ := Bool.and_eq_true_iff.mp h2
    refine ⟨q, rfl, of_decide_eq_true g1, of_decide_eq_true g2, ?_, fun hf => ?_⟩
    · exact of_decide_eq_true g3
    · rw [hf] at g4
      obtain ⟨g5, g6⟩ := Bool.and_eq_true_iff.mp (show (decide ((abNm k).name = "<init>") && decide (abOwn k = q.1)) = true from g4)
      exact ⟨of_decide_eq_true g5, of_decide_eq_true g6⟩
theorem abS63 : abOk 63 (abOpf abFtr) := by
  refine abPf (T := fun ty => (∃ n, ty = .object n) ∨ ∃ t, ty = .array t) (by decide) (fun _ _ _ _ _ => rfl) (fun _ _ _ _ _ _ => rfl) (fun k pc a1 a2 x ps h => ?_) abFtr_ok
  have h' : (match abCls[a1]? with | some q => decide (a2 < q.2.2) && decide (a1 < 90) && (match abTyp a1 a2 with | .object _ => true | .array _ => true | _ => false) && (!(q.2.1 a2).2.2.2 || (decide ((abNm k).name = "<init>") && decide (abOwn k = q.1))) | none => false) = true := h
  cases hq : abCls[a1]? with
  | none => rw [hq] at h'; cases h'
  | some q =>
    rw [hq] at h'
    obtain ⟨h1, g4⟩ := Bool.and_eq_true_iff.mp h'
    obtain ⟨h2, g3⟩ := Bool.and_eq_true_iff.mp h1
    obtain ⟨g1, g2⟩ := Bool.and_eq_true_iff.mp h2
    refine ⟨q, rfl, of_decide_eq_true g1, of_decide_eq_true g2, ?_, fun hf => ?_⟩
    · cases ht : abTyp a1 a2 with
        | object n => exact Or.inl ⟨n, rfl⟩
        | array t => exact Or.inr ⟨t, rfl⟩
        | _ => rw [ht] at g3; cases g3
    · rw [hf] at g4
      obtain ⟨g5, g6⟩ := Bool.and_eq_true_iff.mp (show (decide ((abNm k).name = "<init>") && decide (abOwn k = q.1)) = true from g4)
      exact ⟨of_decide_eq_true g5, of_decide_eq_true g6⟩
end
section
/-! reading and writing rows -/
theorem abTyA_c {n : Nat} {ty : FieldType} (h : abTyA n = some ty) : (n = 100 ∧ ty = .int) ∨ (n = 102 ∧ ty = .byte) ∨ (n = 103 ∧ ty = .boolean) := by
  unfold abTyA at h
  split at h <;> cases h
  · exact Or.inl ⟨rfl, rfl⟩
  · exact Or.inr (Or.inl ⟨rfl, rfl⟩)
  · exact Or.inr (Or.inr ⟨rfl, rfl⟩)
theorem abHu_ok {ws : va_W} {sb sl : Nat} {rh : Nat → Int} {env : abE} {t : Lean.RArray abV} {K : abV → abR} {r : List abF} {f : Nat → Int32} {len : Nat} (he : abEok rh env) (hg : ∀ k : Nat, k < len → abG ws sb sl rh (t.get k) (.int (f k))) : ∀ (n i lo hi : Nat), abHu env t K n i lo hi = some r → i + n ≤ len → ∃ lo' hi' : Nat, K (0, lo', hi') = some r ∧ lo' ≤ lo ∧ hi ≤ hi' ∧ ∀ j, i ≤ j → j < i + n → (lo' : Int) ≤ (f j).toInt + abB ∧ (f j).toInt + abB ≤ (hi' : Int)
  | 0, i, lo, hi, h, _ => ⟨lo, hi, h, Nat.le_refl _, Nat.le_refl _, fun j h1 h2 => absurd h2 (by omega)⟩
  | n + 1, i, lo, hi, h, hl => by
    have h' : abWi 0 env (t.get i) (fun a b => abHu env t K n (i + 1) (abIf (Nat.ble a lo) a lo) (abIf (Nat.ble hi b) b hi)) = some r := h
    obtain ⟨a, b, y, h1, hy, p1, p2, -, -⟩ := abWi0 h' he (hg i (by omega))
    cases hy
    obtain ⟨lo', hi', q1, q2, q3, q4⟩ := abHu_ok he hg n (i + 1) _ _ h1 (by omega)
    have m1 : (abIf (Nat.ble a lo) a lo) ≤ lo ∧ (abIf (Nat.ble a lo) a lo) ≤ a := by
      cases z : Nat.ble a lo with
      | true => rw [abIf_t rfl]; exact ⟨abBle z, Nat.le_refl _⟩
      | false => rw [abIf_f rfl]; have := abBle_f z; exact ⟨Nat.le_refl _, by omega⟩
    have m2 : hi ≤ (abIf (Nat.ble hi b) b hi) ∧ b ≤ (abIf (Nat.ble hi b) b hi) := by
      cases z : Nat.ble hi b with
      | true => rw [abIf_t rfl]; exact ⟨abBle z, Nat.le_refl _⟩
      | false => rw [abIf_f rfl]; have := abBle_f z; exact ⟨Nat.le_refl _, by omega⟩
    refine ⟨lo', hi', q1, by omega, by omega, fun j j1 j2 => ?_⟩
    by_cases e : j = i
    · subst e
      exact ⟨by omega, by omega⟩
    · exact q4 j (by omega) (by omega)
theorem abClamp {y : Int32} : y.toNatClampNeg = y.toInt.toNat := rfl
theorem abAt_ok {ws : va_W} {sb sl : Nat} {rh : Nat → Int} {env : abE} {c : abCel} {K : abV → abR} {r : List abF} {f : Nat → Int32} {a b : Nat} {y : Int32} (h : abAt env c a b K = some r) (he : abEok rh env) (hg : ∀ k : Nat, k < c.2.1 → abG ws sb sl rh (c.2.2.get k) (.int (f k))) (p1 : (a : Int) ≤ y.toInt + abB) (p2 : y.toInt + abB ≤ (b : Int)) : vp_in y c.2.1 ∧ ∃ u : abV, K u = some r ∧ abG ws sb sl rh u (.int (f y.toNatClampNeg)) := by
  unfold abAt at h
  have hbB : (9223372036854775808 : Nat) = abB := rfl
  generalize (9223372036854775808 : Nat) = B at h hbB
  obtain ⟨h1, h2⟩ := abIf_some h
  obtain ⟨h3, h4⟩ := abIf_some h2
  have e1 := abBle h1
  have e3 := abBle h3
  have hi0 : 0 ≤ y.toInt ∧ y.toInt < (c.2.1 : Int) := ⟨by omega, by omega⟩
  refine ⟨vp_in_iff.mpr hi0, ?_⟩
  have hcl : (y.toNatClampNeg : Int) = y.toInt := by rw [abClamp]; omega
  cases q : Nat.beq a b with
  | true =>
    rw [abIf_t q] at h4
    have e := abBeq q
    have ei : a - B = y.toNatClampNeg := by omega
    rw [ei] at h4
    exact ⟨_, h4, hg _ (by omega)⟩
  | false =>
    rw [abIf_f q] at h4
    obtain ⟨h5, h6⟩ := abIf_some h4
    obtain ⟨lo, hi, y0, h7, hy0, p3, p4, -, -⟩ := abWi0 h6 he (hg (a - B) (by omega))
    cases hy0
    obtain ⟨lo', hi', q1, q2, q3, q4⟩ := abHu_ok he hg _ _ _ _ h7 (by omega)
    refine ⟨_, q1, ⟨_, rfl, ?_, ?_⟩⟩
    · show (lo' : Int) ≤ _
      by_cases e : y.toNatClampNeg = a - B
      · rw [e]; omega
      · exact (q4 _ (by omega) (by omega)).1
    · show _ ≤ (hi' : Int)
      by_cases e : y.toNatClampNeg = a - B
      · rw [e]; omega
      · exact (q4 _ (by omega) (by omega)).2
theorem abA1_ok {c : abCel} {a : Nat} {kk : Nat → abR} {r : List abF} {y : Int32} (h : abA1 c a kk = some r) (p : y.toInt + abB = (a : Int)) : vp_in y c.2.1 ∧ kk y.toNatClampNeg = some r := by
  unfold abA1 at h
  have hbB : (9223372036854775808 : Nat) = abB := rfl
  generalize (9223372036854775808 : Nat) = B at h hbB
  obtain ⟨h1, h2⟩ := abIf_some h
  obtain ⟨h3, h4⟩ := abIf_some h2
  have e1 := abBle h1
  have e3 := abBle h3
  refine ⟨vp_in_iff.mpr ⟨by omega, by omega⟩, ?_⟩
  have ei : a - B = y.toNatClampNeg := by rw [abClamp]; omega
  rw [ei] at h4
  exact h4
theorem abCs.putI {tys : List (ClassId × FieldType)} {ws ws' : va_W} {sb sl : Nat} {rh : Nat → Int} {c : abCel} {ty : FieldType} {a i : Nat} {cA : ClassId} {f : Nat → Int32} {t0 : Nat} {u : abV} {x : Int32} (hx : abX ws ws') (hwf : abWf (abD c.2.1) 0 c.2.2) (hty : abTyA c.1 = some ty) (ht : tys[t0]? = some (cA, ty)) (hl : c.2.1 ≤ 65536) (hg : ∀ k : Nat, k < c.2.1 → abG ws sb sl rh (c.2.2.get k) (.int (f k))) (hi : i < c.2.1) (gu : abG ws' sb sl rh u (.int x)) : abCs tys ws' sb sl rh (some (a, .inl (cA, c.2.1, .inl (upd f i x)))) (c.1, c.2.1, abSet i u c.2.2 (abD c.2.1) 0) := by
  have hc := abTyA_c hty
  refine ⟨abSet_wf _ _ _ _ _ hwf, fun h => ?_, fun ty' h => ?_, fun h => ?_, fun h => ?_⟩
  · have : c.1 ≤ 90 := h
    omega
  · have h' : abTyA c.1 = some ty' := h
    rw [hty] at h'
    cases h'
    refine ⟨a, cA, upd f i x, t0, rfl, ht, hl, fun k hk => ?_⟩
    show abG _ sb sl rh ((abSet i u c.2.2 (abD c.2.1) 0).get k) _
    have hk' : k < c.2.1 := hk
    rw [abSet_get _ _ _ _ _ _ hwf (Nat.zero_le _) (abD_lt hi) (Nat.zero_le _) (abD_lt hk')]
    by_cases e : i = k
    · subst e
      rw [if_pos rfl, pk_us]
      exact gu
    · rw [if_neg e, pk_un (Ne.symm e)]
      exact (hg k hk').mono hx
  · have : c.1 = 101 := h
    omega
  · have : 200 ≤ c.1 := h
    omega
theorem abCs.putL {tys : List (ClassId × FieldType)} {ws ws' : va_W} {sb sl : Nat} {rh : Nat → Int} {c : abCel} {a i : Nat} {cA : ClassId} {f : Nat → Int64} {t0 : Nat} {u : abV} {x : Int64} (hx : abX ws ws') (hwf : abWf (abD c.2.1) 0 c.2.2) (hty : c.1 = 101) (ht : tys[t0]? = some (cA, .long)) (hl : c.2.1 ≤ 65536) (hg : ∀ k : Nat, k < c.2.1 → abG ws sb sl rh (c.2.2.get k) (.long (f k))) (hi : i < c.2.1) (gu : abG ws' sb sl rh u (.long x)) : abCs tys ws' sb sl rh (some (a, .inl (cA, c.2.1, .inr (.inl (vp_updL f i x))))) (c.1, c.2.1, abSet i u c.2.2 (abD c.2.1) 0) := by
  refine ⟨abSet_wf _ _ _ _ _ hwf, fun h => ?_, fun ty' h => ?_, fun h => ?_, fun h => ?_⟩
  · have : c.1 ≤ 90 := h
    omega
  · have hc := abTyA_c (show abTyA c.1 = some ty' from h)
    omega
  · refine ⟨a, cA, vp_updL f i x, t0, rfl, ht, hl, fun k hk => ?_⟩
    show abG _ sb sl rh ((abSet i u c.2.2 (abD c.2.1) 0).get k) _
    have hk' : k < c.2.1 := hk
    rw [abSet_get _ _ _ _ _ _ hwf (Nat.zero_le _) (abD_lt hi) (Nat.zero_le _) (abD_lt hk')]
    by_cases e : i = k
    · subst e
      rw [if_pos rfl, pk_uLs]
      exact gu
    · rw [if_neg e, pk_uLn (Ne.symm e)]
      exact (hg k hk').mono hx
  · have : 200 ≤ c.1 := h
    omega
theorem abCs.putQ {tys : List (ClassId × FieldType)} {ws ws' : va_W} {sb sl : Nat} {rh : Nat → Int} {c : abCel} {a i : Nat} {cA : ClassId} {f : Nat → Option Nat} {t0 : Nat} {y : vw_C} {u : abV} {x : Nat} (hx : abX ws ws') (hwf : abWf (abD c.2.1) 0 c.2.2) (hty : 200 ≤ c.1) (hy : abCls[c.1 - 200]? = some y) (ht : tys[t0]? = some (cA, .object y.1)) (hl : c.2.1 ≤ 65536) (hg : ∀ k : Nat, k < c.2.1 → abG ws sb sl rh (c.2.2.get k) (va_rf (f k))) (hi : i < c.2.1) (gu : abG ws' sb sl rh u (.ref x)) : abCs tys ws' sb sl rh (some (a, .inl (cA, c.2.1, .inr (.inr (.inr (.inr (va_up f i (some x)))))))) (c.1, c.2.1, abSet i u c.2.2 (abD c.2.1) 0) := by
  refine ⟨abSet_wf _ _ _ _ _ hwf, fun h => ?_, fun ty' h => ?_, fun h => ?_, fun h => ?_⟩
  · have : c.1 ≤ 90 := h
    omega
  · have hc := abTyA_c (show abTyA c.1 = some ty' from h)
    omega
  · have : c.1 = 101 := h
    omega
  · refine ⟨a, cA, va_up f i (some x), t0, y, rfl, hy, ht, hl, fun k hk => ?_⟩
    show abG _ sb sl rh ((abSet i u c.2.2 (abD c.2.1) 0).get k) _
    have hk' : k < c.2.1 := hk
    rw [abSet_get _ _ _ _ _ _ hwf (Nat.zero_le _) (abD_lt hi) (Nat.zero_le _) (abD_lt hk')]
    by_cases e : i = k
    · subst e
      rw [if_pos rfl, va_up_self]
      exact gu
    · rw [if_neg e, va_up_ne _ _ (Ne.symm e)]
      exact (hg k hk').mono hx
theorem abNarB {y : Int32} (h1 : -128 ≤ y.toInt) (h2 : y.toInt ≤ 127) : vp_nar .byte y = y := by
  rw [vp_nar_byte]
  refine Int32.toInt_inj.mp ?_
  rw [Int8.toInt_toInt32, Int32.toInt_toInt8]
  exact Int.bmod_eq_of_le (by omega) (by omega)
theorem abNarZ {y : Int32} (h1 : 0 ≤ y.toInt) (h2 : y.toInt ≤ 1) : vp_nar .boolean y = y := by
  rcases ab01 h1 h2 with rfl | rfl <;> rfl
theorem abS64 : abOk 64 abOial := by
  intro D z sb sl rh xs0 w0 p l ev R s m args below meth c Q k d nx e pc ls st g r hF hE hop hpc hnx h
  obtain ⟨hx, hb, hml, hown, hts, hnm, hz, hR1, hR2, hR3, hR4, hlaw⟩ := hF
  obtain ⟨o, pc', a1, a2, x, ps⟩ := e
  have ho : o = 64 := hop
  have hp : pc' = pc := hpc
  subst ho; subst hp
  have hd := abEt_dec hE (show ¬ (64 : Nat) = 85 by decide) rfl
  obtain ⟨w, v, rr, rfl, h0⟩ := ab2_some h
  intro H locs ws A xs hH hX hL hS
  have hS0 := hS
  obtain ⟨x0, xr, rfl, gw, x1, xr', rfl, gv, hS'⟩ := hS
  obtain ⟨⟨tys, hK, hC⟩, hP, hD, hSS, hn, h4096, hwf, he⟩ := id hH
  obtain ⟨ia, ib, y, h1, rfl, p1, p2, -, -⟩ := abWi0 h0 he gw
  obtain ⟨a, en, h2, hj, rfl⟩ := abWr_ok h1 gv
  obtain ⟨h3, h4⟩ := abIf_some h2
  have hcell := hC v.2.1 (hH.lt hj)
  have ec := abBeq h3
  obtain ⟨a', cA, f, t0, e1, e2, e3, e4⟩ := hcell.2.2.1 .int (by rw [ec]; rfl)
  rw [hj] at e1
  cases e1
  obtain ⟨hin, u, h5, gu⟩ := abAt_ok h4 he e4 p1 p2
  refine va_iald hx hb hK hP v.2.1 t0 hj e2 hin hd ?_
  exact hnx _ _ _ _ r h5 (fun _ q => q) H locs ws A _ hH hX hL ⟨_, _, rfl, gu, hS'⟩
theorem abS65 : abOk 65 abObal := by
  intro D z sb sl rh xs0 w0 p l ev R s m args below meth c Q k d nx e pc ls st g r hF hE hop hpc hnx h
  obtain ⟨hx, hb, hml, hown, hts, hnm, hz, hR1, hR2, hR3, hR4, hlaw⟩ := hF
  obtain ⟨o, pc', a1, a2, x, ps⟩ := e
  have ho : o = 65 := hop
  have hp : pc' = pc := hpc
  subst ho; subst hp
  have hd := abEt_dec hE (show ¬ (65 : Nat) = 85 by decide) rfl
  obtain ⟨w, v, rr, rfl, h0⟩ := ab2_some h
  intro H locs ws A xs hH hX hL hS
  have hS0 := hS
  obtain ⟨x0, xr, rfl, gw, x1, xr', rfl, gv, hS'⟩ := hS
  obtain ⟨⟨tys, hK, hC⟩, hP, hD, hSS, hn, h4096, hwf, he⟩ := id hH
  obtain ⟨ia, ib, y, h1, rfl, p1, p2, -, -⟩ := abWi0 h0 he gw
  obtain ⟨a, en, h2, hj, rfl⟩ := abWr_ok h1 gv
  obtain ⟨h3, h4⟩ := abIf_some h2
  have hcell := hC v.2.1 (hH.lt hj)
  have ec := abDiv h3
  rcases ec with ec | ec
  · obtain ⟨a', cA, f, t0, e1, e2, e3, e4⟩ := hcell.2.2.1 .byte (by rw [ec]; rfl)
    rw [hj] at e1
    cases e1
    obtain ⟨hin, u, h5, gu⟩ := abAt_ok h4 he e4 p1 p2
    refine va_bald hx hb hK hP v.2.1 t0 hj e2 hin hd ?_
    exact hnx _ _ _ _ r h5 (fun _ q => q) H locs ws A _ hH hX hL ⟨_, _, rfl, gu, hS'⟩
  · obtain ⟨a', cA, f, t0, e1, e2, e3, e4⟩ := hcell.2.2.1 .boolean (by rw [ec]; rfl)
    rw [hj] at e1
    cases e1
    obtain ⟨hin, u, h5, gu⟩ := abAt_ok h4 he e4 p1 p2
    refine va_zald hx hb hK hP v.2.1 t0 hj e2 hin hd ?_
    exact hnx _ _ _ _ r h5 (fun _ q => q) H locs ws A _ hH hX hL ⟨_, _, rfl, gu, hS'⟩
theorem abS66 : abOk 66 abOlal := by
  intro D z sb sl rh xs0 w0 p l ev R s m args below meth c Q k d nx e pc ls st g r hF hE hop hpc hnx h
  obtain ⟨hx, hb, hml, hown, hts, hnm, hz, hR1, hR2, hR3, hR4, hlaw⟩ := hF
  obtain ⟨o, pc', a1, a2, x, ps⟩ := e
  have ho : o = 66 := hop
  have hp : pc' = pc := hpc
  subst ho; subst hp
  have hd := abEt_dec hE (show ¬ (66 : Nat) = 85 by decide) rfl
  obtain ⟨w, v, rr, rfl, h0⟩ := ab2_some h
  intro H locs ws A xs hH hX hL hS
  have hS0 := hS
  obtain ⟨x0, xr, rfl, gw, x1, xr', rfl, gv, hS'⟩ := hS
  obtain ⟨⟨tys, hK, hC⟩, hP, hD, hSS, hn, h4096, hwf, he⟩ := id hH
  obtain ⟨ia, ib, y, h1, rfl, p1, p2, -, -⟩ := abWi0 h0 he gw
  obtain ⟨a, en, h2, hj, rfl⟩ := abWr_ok h1 gv
  obtain ⟨h3, h4⟩ := abIf_some h2
  have hcell := hC v.2.1 (hH.lt hj)
  have ec := abBeq h3
  obtain ⟨h5, h6⟩ := abIf_some h4
  have eab := abBeq h5
  obtain ⟨a', cA, f, t0, e1, e2, e3, e4⟩ := hcell.2.2.2.1 ec
  rw [hj] at e1
  cases e1
  obtain ⟨hin, h7⟩ := abA1_ok (y := y) h6 (by omega)
  refine va_lald hx hb hK hP v.2.1 t0 hj e2 hin hd ?_
  exact hnx _ _ _ _ r h7 (fun _ q => q) H locs ws A _ hH hX hL ⟨_, _, rfl, e4 _ (Nat.not_le.mp fun q => hin (Or.inr q)), hS'⟩
theorem abS67 : abOk 67 abOaal := by
  intro D z sb sl rh xs0 w0 p l ev R s m args below meth c Q k d nx e pc ls st g r hF hE hop hpc hnx h
  obtain ⟨hx, hb, hml, hown, hts, hnm, hz, hR1, hR2, hR3, hR4, hlaw⟩ := hF
  obtain ⟨o, pc', a1, a2, x, ps⟩ := e
  have ho : o = 67 := hop
  have hp : pc' = pc := hpc
  subst ho; subst hp
  have hd := abEt_dec hE (show ¬ (67 : Nat) = 85 by decide) rfl
  obtain ⟨w, v, rr, rfl, h0⟩ := ab2_some h
  intro H locs ws A xs hH hX hL hS
  have hS0 := hS
  obtain ⟨x0, xr, rfl, gw, x1, xr', rfl, gv, hS'⟩ := hS
  obtain ⟨⟨tys, hK, hC⟩, hP, hD, hSS, hn, h4096, hwf, he⟩ := id hH
  obtain ⟨ia, ib, y, h1, rfl, p1, p2, -, -⟩ := abWi0 h0 he gw
  cases qab : Nat.beq ia ib with
  | false =>
    rw [abIf_f qab] at h1
    exact abHas_run hnx (abSpl_ok h1 he (abTag_i gw) p1 p2) hH hX hL hS0
  | true =>
    rw [abIf_t qab] at h1
    have eab := abBeq qab
    obtain ⟨a, en, h2, hj, rfl⟩ := abWr_ok h1 gv
    obtain ⟨h3, h4⟩ := abIf_some h2
    have hcell := hC v.2.1 (hH.lt hj)
    have ec := abBle h3
    obtain ⟨a', cA, f, t0, yc, e1, e0, e2, e3, e4⟩ := hcell.2.2.2.2 ec
    rw [hj] at e1
    cases e1
    obtain ⟨hin, h7⟩ := abA1_ok (y := y) h4 (by omega)
    refine va_aldq hx hb hK hP v.2.1 t0 hj e2 hin hd ?_
    exact hnx _ _ _ _ r h7 (fun _ q => q) H locs ws A _ hH hX hL ⟨_, _, rfl, e4 _ (Nat.not_le.mp fun q => hin (Or.inr q)), hS'⟩
theorem abLenI {n : Nat} (h : n ≤ 65536) : (Int32.ofNat n).toInt = (n : Int) := nI_toInt (by omega)
theorem abLenG {ws : va_W} {sb sl : Nat} {rh : Nat → Int} {n : Nat} (h : n ≤ 65536) : abG ws sb sl rh (0, 9223372036854775808 + n, 9223372036854775808 + n) (.int (Int32.ofNat n)) := by
  have e := abLenI h
  obtain ⟨m, hm⟩ : ∃ m : Nat, m = 9223372036854775808 + n := ⟨_, rfl⟩
  rw [← hm]
  refine abSelfI ?_
  rw [e, hm]
  simp only [abB]
  omega
theorem abS68 : abOk 68 abOlen := by
  intro D z sb sl rh xs0 w0 p l ev R s m args below meth c Q k d nx e pc ls st g r hF hE hop hpc hnx h
  obtain ⟨hx, hb, hml, hown, hts, hnm, hz, hR1, hR2, hR3, hR4, hlaw⟩ := hF
  obtain ⟨o, pc', a1, a2, x, ps⟩ := e
  have ho : o = 68 := hop
  have hp : pc' = pc := hpc
  subst ho; subst hp
  have hd := abEt_dec hE (show ¬ (68 : Nat) = 85 by decide) rfl
  obtain ⟨v, rr, rfl, h0⟩ := abHd_some h
  intro H locs ws A xs hH hX hL hS
  obtain ⟨x1, xr', rfl, gv, hS'⟩ := hS
  obtain ⟨⟨tys, hK, hC⟩, hP, hD, hSS, hn, h4096, hwf, he⟩ := id hH
  obtain ⟨a, en, h2, hj, rfl⟩ := abWr_ok h0 gv
  obtain ⟨h3, h3b⟩ := abIf_some h2
  obtain ⟨h3c, h4⟩ := abIf_some h3b
  have hcell := hC v.2.1 (hH.lt hj)
  have ec := abBle h3
  have ec2 := abBle h3c
  have fin : ∀ (t0 : Nat) (cA : ClassId) (xx : vp_A) (ty : FieldType), ws[v.2.1]? = some (a, .inl (cA, xx)) → tys[t0]? = some (cA, ty) → xx.1 = (g.1.get v.2.1).2.1 → (g.1.get v.2.1).2.1 ≤ 65536 → W p l ev R s m args below meth c H locs g.2.2.2.1 g.2.2.2.2 Q (F0 m pc' A (.ref a :: xr')) := by
    intro t0 cA xx ty g1 g2 g3 g4
    refine va_alen hx hb hK hP v.2.1 t0 g1 g2 rfl hd ?_
    exact hnx _ _ _ _ r h4 (fun _ q => q) H locs ws A _ hH hX hL ⟨_, _, rfl, by rw [g3]; exact abLenG g4, hS'⟩
  rcases (show (g.1.get v.2.1).1 = 100 ∨ (g.1.get v.2.1).1 = 101 ∨ (g.1.get v.2.1).1 = 102 ∨ (g.1.get v.2.1).1 = 103 by omega) with q | q | q | q
  · obtain ⟨a', cA, f, t0, e1, e2, e3, e4⟩ := hcell.2.2.1 .int (by rw [q]; rfl)
    rw [hj] at e1
    cases e1
    exact fin t0 cA _ _ hj e2 rfl e3
  · obtain ⟨a', cA, f, t0, e1, e2, e3, e4⟩ := hcell.2.2.2.1 q
    rw [hj] at e1
    cases e1
    exact fin t0 cA _ _ hj e2 rfl e3
  · obtain ⟨a', cA, f, t0, e1, e2, e3, e4⟩ := hcell.2.2.1 .byte (by rw [q]; rfl)
    rw [hj] at e1
    cases e1
    exact fin t0 cA _ _ hj e2 rfl e3
  · obtain ⟨a', cA, f, t0, e1, e2, e3, e4⟩ := hcell.2.2.1 .boolean (by rw [q]; rfl)
    rw [hj] at e1
    cases e1
    exact fin t0 cA _ _ hj e2 rfl e3
end
section
/-! writing rows, making, copying -/
theorem abX.via {w : va_W} {D : va_G} {cl : List vw_C} {H1 : Heap} {q0 a : Nat} {e0 e1 : va_E} (h : w[q0]? = some (a, e0)) (_ : va_P D cl (w.set q0 (a, e1)) H1) : abX w (w.set q0 (a, e1)) := abX.set h
theorem abS69 : abOk 69 (abOst abKia) := by
  intro D z sb sl rh xs0 w0 p l ev R s m args below meth c Q k d nx e pc ls st g r hF hE hop hpc hnx h
  obtain ⟨hx, hb, hml, hown, hts, hnm, hz, hR1, hR2, hR3, hR4, hlaw⟩ := hF
  obtain ⟨o, pc', a1, a2, x, ps⟩ := e
  have ho : o = 69 := hop
  have hp : pc' = pc := hpc
  subst ho; subst hp
  have hd := abEt_dec hE (show ¬ (69 : Nat) = 85 by decide) rfl
  obtain ⟨u, s1, rfl, h0⟩ := abHd_some h
  obtain ⟨w, v, rr, rfl, h0⟩ := ab2_some h0
  intro H locs ws A xs hH hX hL hS
  have hS0 := hS
  obtain ⟨x2, xr2, rfl, gu, x0, xr, rfl, gw, x1, xr', rfl, gv, hS'⟩ := hS
  obtain ⟨⟨tys, hK, hC⟩, hP, hD, hSS, hn, h4096, hwf, he⟩ := id hH
  obtain ⟨ia, ib, y, h1, rfl, p1, p2, -, -⟩ := abWi0 h0 he gw
  cases qab : Nat.beq ia ib with
  | false =>
    rw [abIf_f qab] at h1
    exact abHas_run hnx (abSpl_ok h1 he (abTag_i gw) p1 p2) hH hX hL hS0
  | true =>
    rw [abIf_t qab] at h1
    have eab := abBeq qab
    obtain ⟨a, en, h2, hj, rfl⟩ := abWr_ok h1 gv
    have hcell := hC v.2.1 (hH.lt hj)
    obtain ⟨hin, h3⟩ := abA1_ok (y := y) h2 (by omega)
    have hlt : y.toNatClampNeg < (g.1.get v.2.1).2.1 := Nat.not_le.mp fun q => hin (Or.inr q)
    obtain ⟨h4, h5⟩ := abIf_some h3
    have ec := abBeq h4
    obtain ⟨h6, h7⟩ := abIf_some h5
    have e7 := abBle h6
    obtain ⟨yv, rfl⟩ := abG_i gu (by omega)
    obtain ⟨a', cA, f, t0, e1, e2, e3, e4⟩ := hcell.2.2.1 .int (by rw [ec]; rfl)
    rw [hj] at e1
    cases e1
    refine va_iast hx hb hK hP hD hSS v.2.1 t0 hj e2 hin hd (fun H1 locs1 hP1 hD1 hS1 => ?_)
    have hX1 := abX.via hj hP1
    exact hnx _ _ _ _ r h7 (fun _ q => q) H1 locs1 _ A _ (hH.put hK hC hj hP1 hD1 hS1 (abCs.putI hX1 hcell.1 (by rw [ec]; rfl) e2 e3 e4 hlt (gu.mono hX1))) (hX.tr hX1) (hL.mono hX1) (hS'.mono hX1)
theorem abS71 : abOk 71 (abOst abKla) := by
  intro D z sb sl rh xs0 w0 p l ev R s m args below meth c Q k d nx e pc ls st g r hF hE hop hpc hnx h
  obtain ⟨hx, hb, hml, hown, hts, hnm, hz, hR1, hR2, hR3, hR4, hlaw⟩ := hF
  obtain ⟨o, pc', a1, a2, x, ps⟩ := e
  have ho : o = 71 := hop
  have hp : pc' = pc := hpc
  subst ho; subst hp
  have hd := abEt_dec hE (show ¬ (71 : Nat) = 85 by decide) rfl
  obtain ⟨u, s1, rfl, h0⟩ := abHd_some h
  obtain ⟨w, v, rr, rfl, h0⟩ := ab2_some h0
  intro H locs ws A xs hH hX hL hS
  have hS0 := hS
  obtain ⟨x2, xr2, rfl, gu, x0, xr, rfl, gw, x1, xr', rfl, gv, hS'⟩ := hS
  obtain ⟨⟨tys, hK, hC⟩, hP, hD, hSS, hn, h4096, hwf, he⟩ := id hH
  obtain ⟨ia, ib, y, h1, rfl, p1, p2, -, -⟩ := abWi0 h0 he gw
  cases qab : Nat.beq ia ib with
  | false =>
    rw [abIf_f qab] at h1
    exact abHas_run hnx (abSpl_ok h1 he (abTag_i gw) p1 p2) hH hX hL hS0
  | true =>
    rw [abIf_t qab] at h1
    have eab := abBeq qab
    obtain ⟨a, en, h2, hj, rfl⟩ := abWr_ok h1 gv
    have hcell := hC v.2.1 (hH.lt hj)
    obtain ⟨hin, h3⟩ := abA1_ok (y := y) h2 (by omega)
    have hlt : y.toNatClampNeg < (g.1.get v.2.1).2.1 := Nat.not_le.mp fun q => hin (Or.inr q)
    obtain ⟨h4, h5⟩ := abIf_some h3
    have ec := abBeq h4
    obtain ⟨h6, h7⟩ := abIf_some h5
    have e7 := abDiv h6
    obtain ⟨yv, rfl⟩ := abG_l gu (by omega)
    obtain ⟨a', cA, f, t0, e1, e2, e3, e4⟩ := hcell.2.2.2.1 ec
    rw [hj] at e1
    cases e1
    refine va_last hx hb hK hP hD hSS v.2.1 t0 hj e2 hin hd (fun H1 locs1 hP1 hD1 hS1 => ?_)
    have hX1 := abX.via hj hP1
    exact hnx _ _ _ _ r h7 (fun _ q => q) H1 locs1 _ A _ (hH.put hK hC hj hP1 hD1 hS1 (abCs.putL hX1 hcell.1 ec e2 e3 e4 hlt (gu.mono hX1))) (hX.tr hX1) (hL.mono hX1) (hS'.mono hX1)
theorem abS70 : abOk 70 (abOst abKba) := by
  intro D z sb sl rh xs0 w0 p l ev R s m args below meth c Q k d nx e pc ls st g r hF hE hop hpc hnx h
  obtain ⟨hx, hb, hml, hown, hts, hnm, hz, hR1, hR2, hR3, hR4, hlaw⟩ := hF
  obtain ⟨o, pc', a1, a2, x, ps⟩ := e
  have ho : o = 70 := hop
  have hp : pc' = pc := hpc
  subst ho; subst hp
  have hd := abEt_dec hE (show ¬ (70 : Nat) = 85 by decide) rfl
  obtain ⟨u, s1, rfl, h0⟩ := abHd_some h
  obtain ⟨w, v, rr, rfl, h0⟩ := ab2_some h0
  intro H locs ws A xs hH hX hL hS
  have hS0 := hS
  obtain ⟨x2, xr2, rfl, gu, x0, xr, rfl, gw, x1, xr', rfl, gv, hS'⟩ := hS
  obtain ⟨⟨tys, hK, hC⟩, hP, hD, hSS, hn, h4096, hwf, he⟩ := id hH
  obtain ⟨ia, ib, y, h1, rfl, p1, p2, -, -⟩ := abWi0 h0 he gw
  cases qab : Nat.beq ia ib with
  | false =>
    rw [abIf_f qab] at h1
    exact abHas_run hnx (abSpl_ok h1 he (abTag_i gw) p1 p2) hH hX hL hS0
  | true =>
    rw [abIf_t qab] at h1
    have eab := abBeq qab
    obtain ⟨a, en, h2, hj, rfl⟩ := abWr_ok h1 gv
    have hcell := hC v.2.1 (hH.lt hj)
    obtain ⟨hin, h3⟩ := abA1_ok (y := y) h2 (by omega)
    have hlt : y.toNatClampNeg < (g.1.get v.2.1).2.1 := Nat.not_le.mp fun q => hin (Or.inr q)
    cases q2 : Nat.beq (g.1.get v.2.1).1 102 with
    | true =>
      have h3' : abIf (Nat.beq (g.1.get v.2.1).1 102) _ _ = some r := h3
      rw [abIf_t q2] at h3'
      have ec := abBeq q2
      obtain ⟨va, vb, yv, h4, rfl, s1, s2, -, -⟩ := abWi0 h3' he gu
      obtain ⟨h5, h6⟩ := abIf_some h4
      obtain ⟨h7, h8⟩ := abIf_some h6
      have b1 := abBle h5
      have b2 := abBle h7
      have hnar : vp_nar .byte yv = yv := abNarB (by simp only [abB] at s1; omega) (by simp only [abB] at s2; omega)
      obtain ⟨a', cA, f, t0, e1, e2, e3, e4⟩ := hcell.2.2.1 .byte (by rw [ec]; rfl)
      rw [hj] at e1
      cases e1
      refine va_bast hx hb hK hP hD hSS v.2.1 t0 hj e2 hin hd (fun H1 locs1 hP1 hD1 hS1 => ?_)
      rw [hnar] at hP1 hD1
      have hX1 := abX.via hj hP1
      exact hnx _ _ _ _ r h8 (fun _ q => q) H1 locs1 _ A _ (hH.put hK hC hj hP1 hD1 hS1 (abCs.putI hX1 hcell.1 (by rw [ec]; rfl) e2 e3 e4 hlt (gu.mono hX1))) (hX.tr hX1) (hL.mono hX1) (hS'.mono hX1)
    | false =>
      have h3' : abIf (Nat.beq (g.1.get v.2.1).1 102) _ _ = some r := h3
      rw [abIf_f q2] at h3'
      obtain ⟨q3, h3''⟩ := abIf_some h3'
      have ec := abBeq q3
      obtain ⟨va, vb, yv, h4, rfl, s1, s2, -, -⟩ := abWi0 h3'' he gu
      obtain ⟨h5, h6⟩ := abIf_some h4
      obtain ⟨h7, h8⟩ := abIf_some h6
      have b1 := abBle h5
      have b2 := abBle h7
      have hnar : vp_nar .boolean yv = yv := abNarZ (by simp only [abB] at s1; omega) (by simp only [abB] at s2; omega)
      obtain ⟨a', cA, f, t0, e1, e2, e3, e4⟩ := hcell.2.2.1 .boolean (by rw [ec]; rfl)
      rw [hj] at e1
      cases e1
      refine va_zast hx hb hK hP hD hSS v.2.1 t0 hj e2 hin hd (fun H1 locs1 hP1 hD1 hS1 => ?_)
      rw [hnar] at hP1 hD1
      have hX1 := abX.via hj hP1
      exact hnx _ _ _ _ r h8 (fun _ q => q) H1 locs1 _ A _ (hH.put hK hC hj hP1 hD1 hS1 (abCs.putI hX1 hcell.1 (by rw [ec]; rfl) e2 e3 e4 hlt (gu.mono hX1))) (hX.tr hX1) (hL.mono hX1) (hS'.mono hX1)
theorem abS72 : abOk 72 (abOst abKaa) := by
  intro D z sb sl rh xs0 w0 p l ev R s m args below meth c Q k d nx e pc ls st g r hF hE hop hpc hnx h
  obtain ⟨hx, hb, hml, hown, hts, hnm, hz, hR1, hR2, hR3, hR4, hlaw⟩ := hF
  obtain ⟨o, pc', a1, a2, x, ps⟩ := e
  have ho : o = 72 := hop
  have hp : pc' = pc := hpc
  subst ho; subst hp
  have hd := abEt_dec hE (show ¬ (72 : Nat) = 85 by decide) rfl
  obtain ⟨u, s1, rfl, h0⟩ := abHd_some h
  obtain ⟨w, v, rr, rfl, h0⟩ := ab2_some h0
  intro H locs ws A xs hH hX hL hS
  have hS0 := hS
  obtain ⟨x2, xr2, rfl, gu, x0, xr, rfl, gw, x1, xr', rfl, gv, hS'⟩ := hS
  obtain ⟨⟨tys, hK, hC⟩, hP, hD, hSS, hn, h4096, hwf, he⟩ := id hH
  obtain ⟨ia, ib, y, h1, rfl, p1, p2, -, -⟩ := abWi0 h0 he gw
  cases qab : Nat.beq ia ib with
  | false =>
    rw [abIf_f qab] at h1
    exact abHas_run hnx (abSpl_ok h1 he (abTag_i gw) p1 p2) hH hX hL hS0
  | true =>
    rw [abIf_t qab] at h1
    have eab := abBeq qab
    obtain ⟨a, en, h2, hj, rfl⟩ := abWr_ok h1 gv
    have hcell := hC v.2.1 (hH.lt hj)
    obtain ⟨hin, h3⟩ := abA1_ok (y := y) h2 (by omega)
    have hlt : y.toNatClampNeg < (g.1.get v.2.1).2.1 := Nat.not_le.mp fun q => hin (Or.inr q)
    obtain ⟨b0, en2, h4, hj2, rfl⟩ := abWr_ok h3 gu
    obtain ⟨h5, h6⟩ := abIf_some h4
    obtain ⟨h7, h8⟩ := abIf_some h6
    have b1 := abBle h5
    have b2 := abBeq h7
    have hcell2 := hC u.2.1 (hH.lt hj2)
    obtain ⟨a2', fs, yq, e1, e2, e3, e4, e5⟩ := hcell2.2.1 b1
    rw [hj2] at e1
    cases e1
    obtain ⟨a', cA, f, t0, yc, g1, g0, g2, g3, g4⟩ := hcell.2.2.2.2 (by omega)
    rw [hj] at g1
    cases g1
    have eidx : (g.1.get v.2.1).1 - 200 = (g.1.get u.2.1).1 := by omega
    rw [eidx, e3] at g0
    cases g0
    refine va_astq (r := yq) hx hb hK hP hD hSS v.2.1 t0 u.2.1 (g.1.get u.2.1).1 hj g2 hj2 e3 hin hd (fun H1 locs1 hP1 hD1 hS1 => ?_)
    have hX1 := abX.via hj hP1
    exact hnx _ _ _ _ r h8 (fun _ q => q) H1 locs1 _ A _ (hH.put hK hC hj hP1 hD1 hS1 (abCs.putQ (y := yq) hX1 hcell.1 (by omega) (by rw [eidx]; exact e3) g2 g3 g4 hlt (gu.mono hX1))) (hX.tr hX1) (hL.mono hX1) (hS'.mono hX1)
end
section
/-! making, copying, the script -/
def abWfb {al : Type} : Nat → Nat → Lean.RArray al → Bool
  | _, _, .leaf _ => true
  | 0, _, .branch _ _ _ => false
  | d + 1, lo, .branch p l r => Nat.beq p (lo + 2 ^ d) && abWfb d lo l && abWfb d p r
theorem abWfb_ok {al : Type} : ∀ (d lo : Nat) (t : Lean.RArray al), abWfb d lo t = true → abWf d lo t
  | 0, _, .leaf _, _ => trivial
  | _ + 1, _, .leaf _, _ => trivial
  | 0, _, .branch _ _ _, h => by cases h
  | d + 1, lo, .branch p l r, h => by
    obtain ⟨h1, h2⟩ := Bool.and_eq_true_iff.mp (show (Nat.beq p (lo + 2 ^ d) && abWfb d lo l && abWfb d p r) = true from h)
    obtain ⟨h3, h4⟩ := Bool.and_eq_true_iff.mp h1
    exact ⟨abBeq h3, abWfb_ok d lo l h4, abWfb_ok d p r h2⟩
def abDv (ty : FieldType) : abV := match ty with
  | .int => (0, 9223372036854775808, 9223372036854775808)
  | .boolean => (0, 9223372036854775808, 9223372036854775808)
  | .long => (2, 9223372036854775808, 9223372036854775808)
  | .object _ => (6, 0, 0)
  | .array _ => (6, 0, 0)
  | _ => (8, 0, 0)
theorem abDv_ok {ws : va_W} {sb sl : Nat} {rh : Nat → Int} (ty : FieldType) : abG ws sb sl rh (abDv ty) (defaultValue ty) := by
  cases ty with
  | int => exact abSelfI (y := 0) rfl
  | boolean => exact abSelfI (y := 0) rfl
  | long => exact abSelfL (y := 0) rfl
  | object n => rfl
  | array t => rfl
  | _ => trivial
theorem abDw0 : abWf (abD 7) 0 abDf0 := abWfb_ok _ _ _ (by decide +kernel)
theorem abDg0 : ∀ k, k < 7 → abDf0.get k = abDv (abTyp 0 k) := by decide +kernel
theorem abDw1 : abWf (abD 11) 0 abDf1 := abWfb_ok _ _ _ (by decide +kernel)
theorem abDg1 : ∀ k, k < 11 → abDf1.get k = abDv (abTyp 1 k) := by decide +kernel
theorem abDw2 : abWf (abD 8) 0 abDf2 := abWfb_ok _ _ _ (by decide +kernel)
theorem abDg2 : ∀ k, k < 8 → abDf2.get k = abDv (abTyp 2 k) := by decide +kernel
theorem abDw3 : abWf (abD 5) 0 abDf3 := abWfb_ok _ _ _ (by decide +kernel)
theorem abDg3 : ∀ k, k < 5 → abDf3.get k = abDv (abTyp 3 k) := by decide +kernel
theorem abDw4 : abWf (abD 9) 0 abDf4 := abWfb_ok _ _ _ (by decide +kernel)
theorem abDg4 : ∀ k, k < 9 → abDf4.get k = abDv (abTyp 4 k) := by decide +kernel
theorem abDw5 : abWf (abD 3) 0 abDf5 := abWfb_ok _ _ _ (by decide +kernel)
theorem abDg5 : ∀ k, k < 3 → abDf5.get k = abDv (abTyp 5 k) := by decide +kernel
theorem abDw6 : abWf (abD 9) 0 abDf6 := abWfb_ok _ _ _ (by decide +kernel)
theorem abDg6 : ∀ k, k < 9 → abDf6.get k = abDv (abTyp 6 k) := by decide +kernel
theorem abDw7 : abWf (abD 9) 0 abDf7 := abWfb_ok _ _ _ (by decide +kernel)
theorem abDg7 : ∀ k, k < 9 → abDf7.get k = abDv (abTyp 7 k) := by decide +kernel
theorem abDw8 : abWf (abD 1) 0 abDf8 := abWfb_ok _ _ _ (by decide +kernel)
theorem abDg8 : ∀ k, k < 1 → abDf8.get k = abDv (abTyp 8 k) := by decide +kernel
theorem abDw9 : abWf (abD 3) 0 abDf9 := abWfb_ok _ _ _ (by decide +kernel)
theorem abDg9 : ∀ k, k < 3 → abDf9.get k = abDv (abTyp 9 k) := by decide +kernel
theorem abDw10 : abWf (abD 15) 0 abDf10 := abWfb_ok _ _ _ (by decide +kernel)
theorem abDg10 : ∀ k, k < 15 → abDf10.get k = abDv (abTyp 10 k) := by decide +kernel
theorem abDw11 : abWf (abD 13) 0 abDf11 := abWfb_ok _ _ _ (by decide +kernel)
theorem abDg11 : ∀ k, k < 13 → abDf11.get k = abDv (abTyp 11 k) := by decide +kernel
theorem abDw12 : abWf (abD 41) 0 abDf12 := abWfb_ok _ _ _ (by decide +kernel)
theorem abDg12 : ∀ k, k < 41 → abDf12.get k = abDv (abTyp 12 k) := by decide +kernel
theorem abDfl_ok : ∀ (ci : Nat) (q : vw_C), abCls[ci]? = some q → abWf (abD q.2.2) 0 (abDfl.get ci) ∧ ∀ k, k < q.2.2 → (abDfl.get ci).get k = abDv (abTyp ci k) := by
  intro ci q h
  match ci, h with
  | 0, h => cases h; exact ⟨abDw0, abDg0⟩
  | 1, h => cases h; exact ⟨abDw1, abDg1⟩
  | 2, h => cases h; exact ⟨abDw2, abDg2⟩
  | 3, h => cases h; exact ⟨abDw3, abDg3⟩
  | 4, h => cases h; exact ⟨abDw4, abDg4⟩
  | 5, h => cases h; exact ⟨abDw5, abDg5⟩
  | 6, h => cases h; exact ⟨abDw6, abDg6⟩
  | 7, h => cases h; exact ⟨abDw7, abDg7⟩
  | 8, h => cases h; exact ⟨abDw8, abDg8⟩
  | 9, h => cases h; exact ⟨abDw9, abDg9⟩
  | 10, h => cases h; exact ⟨abDw10, abDg10⟩
  | 11, h => cases h; exact ⟨abDw11, abDg11⟩
  | 12, h => cases h; exact ⟨abDw12, abDg12⟩
  | _ + 13, h => exact absurd h (by simp [abCls])
theorem abRm_ok {k : Nat} {g : abSt} {n : Nat} {r' : abR} {r : List abF} (h : abRm k g n r' = some r) : g.2.1 + 1 ≤ 4096 ∧ g.2.2.2.1 + 1 ≤ (abMe k).2.2.1 ∧ g.2.2.2.2 + n ≤ (abMe k).2.2.2.1 ∧ r' = some r := by
  obtain ⟨h1, h2⟩ := abIf_some h
  obtain ⟨h3, h4⟩ := abIf_some h2
  obtain ⟨h5, h6⟩ := abIf_some h4
  exact ⟨abBle h1, abBle h3, abBle h5, h6⟩
theorem abLg_ok {ws : va_W} {sb sl : Nat} {rh : Nat → Int} {v : abV} {g : abSt} {f : Nat → abR} {r : List abF} {x : Value} (h : abLg v g f = some r) (he : abEok rh g.2.2.1) (gv : abG ws sb sl rh v x) : ∃ y : Int32, x = .int y ∧ 0 ≤ y.toInt ∧ y.toInt ≤ 65536 ∧ f y.toNatClampNeg = some r := by
  obtain ⟨a, b, y, h1, rfl, p1, p2, -, -⟩ := abWi0 h he gv
  have hbB : (9223372036854775808 : Nat) = abB := rfl
  have hcB : (9223372036854841344 : Nat) = abB + 65536 := rfl
  generalize (9223372036854775808 : Nat) = B at h1 hbB
  generalize (9223372036854841344 : Nat) = B2 at h1 hcB
  obtain ⟨h2, h3⟩ := abIf_some h1
  obtain ⟨h4, h5⟩ := abIf_some h3
  obtain ⟨h6, h7⟩ := abIf_some h5
  have e1 := abBeq h2
  have e2 := abBle h4
  have e3 := abBle h6
  refine ⟨y, rfl, by omega, by omega, ?_⟩
  have ei : a - B = y.toNatClampNeg := by rw [abClamp]; omega
  rw [ei] at h7
  exact h7
theorem abNot0 {y : Int32} (h : 0 ≤ y.toInt) : ¬ y < 0 := fun q => by
  have := Int32.lt_iff_toInt_lt.mp q
  have e0 : (0 : Int32).toInt = 0 := rfl
  omega
theorem abSm_ok {ws : va_W} {sb sl : Nat} {rh : Nat → Int} : ∀ {st : List abV} {xs : List Value}, abSok ws sb sl rh st xs → (xs.map fun v => v.category).sum ≤ abSm st
  | [], xs, h => by
    have e : xs = [] := h
    subst e
    exact Nat.le_refl _
  | v :: st, _, h => by
    obtain ⟨x, xr, rfl, g, h'⟩ := h
    have ih := abSm_ok h'
    have hs : abSm (v :: st) = abIf (Nat.beq (v.1 / 2) 1) (abSm st + 2) (abIf (Nat.ble v.1 7) (abSm st + 1) (abSm st + 2)) := rfl
    rw [List.map_cons, List.sum_cons, hs]
    have hc := lv_cat x
    cases q1 : Nat.beq (v.1 / 2) 1 with
    | true => rw [abIf_t rfl]; omega
    | false =>
      rw [abIf_f rfl]
      cases q2 : Nat.ble v.1 7 with
      | false => rw [abIf_f rfl]; omega
      | true =>
        rw [abIf_t rfl]
        have := abCat_ok (abCat1 (abBle q2) (abBeq_f q1)) g
        omega
theorem abSetSame {ws : va_W} {j : Nat} {q : Nat × va_E} (h : ws[j]? = some q) : ws.set j q = ws := by
  apply List.ext_getElem?
  intro i
  by_cases e : j = i
  · subst e
    rw [List.getElem?_set_self (List.getElem?_eq_some_iff.mp h).1, h]
  · rw [List.getElem?_set_ne e]
theorem abS73 : abOk 73 abOnew := by
  intro D z sb sl rh xs0 w0 p l ev R s m args below meth c Q k d nx e pc ls st g r hF hE hop hpc hnx h
  obtain ⟨hx, hb, hml, hown, hts, hnm, hz, hR1, hR2, hR3, hR4, hlaw⟩ := hF
  obtain ⟨o, pc', a1, a2, x, ps⟩ := e
  have ho : o = 73 := hop
  have hp : pc' = pc := hpc
  subst ho; subst hp
  have hd := abEt_dec hE (show ¬ (73 : Nat) = 85 by decide) rfl
  have hsm : (match abCls[a1]? with | some q => decide (a2 = q.2.2) && decide (a1 < 90) | none => false) = true := hE.2.2
  have hwd : ∀ w ∈ (match abCls[a1]? with | some q => [Jvm.Cond.classLink (abOwn k) x q.1, .instantiable q.1 q.2.2, .initialized q.1] | none => []), w ∈ abTw := hE.2.1
  obtain ⟨m1, m2, m3, h1⟩ := abRm_ok h
  intro H locs ws A xs hH hX hL hS
  obtain ⟨⟨tys, hK, hC⟩, hP, hD, hSS, hn, h4096, hwf, he⟩ := id hH
  cases hq : abCls[a1]? with
  | none => rw [hq] at hsm; cases hsm
  | some q =>
    rw [hq] at hsm hwd
    obtain ⟨q1, q2⟩ := Bool.and_eq_true_iff.mp hsm
    have q1 := of_decide_eq_true q1
    have q2 := of_decide_eq_true q2
    subst q1
    obtain ⟨c1, c2, c3, c4⟩ := abCls_ok a1 q hq
    obtain ⟨d1, d2⟩ := abDfl_ok a1 q hq
    refine va_new (D := D) (cl := abCls) (tys := tys) (ws := ws) (ci := a1) (fs := (List.range q.2.2).map fun j => defaultValue (abTyp a1 j)) (C := q.1) (T := q.2.1) (N := q.2.2) hx hb hts c1 (abTyp a1) c2 hown (hts _ (hwd _ List.mem_cons_self)) (hts _ (hwd _ (List.mem_cons_of_mem _ List.mem_cons_self))) (hts _ (hwd _ (List.mem_cons_of_mem _ (List.mem_cons_of_mem _ List.mem_cons_self)))) hK hP hD hSS (fun z1 hz1 => Nat.le_trans hz hz1) hq (fun j hj => ?_) (by omega) (Nat.le_trans m3 hR2) hd (fun q0 H1 hP1 hD1 hS1 => ?_)
    · simp [vp_V, hj]
    · have hX1 : abX ws (ws ++ [(q0, .inr (a1, (List.range q.2.2).map fun j => defaultValue (abTyp a1 j)))]) := abX.app _ _
      refine hnx _ _ _ (abMk g (a1, q.2.2, abDfl.get a1)) r h1 (fun _ q => q) H1 locs _ A _ (hH.push hC (fun _ _ q => q) hK m1 hP1 hD1 hS1 ⟨d1, fun _ => ⟨q0, _, q, rfl, by simp, hq, rfl, fun kx xx hkx => ?_⟩, fun ty ht => ?_, fun hc => ?_, fun hc => ?_⟩) (hX.tr hX1) (hL.mono hX1) ⟨_, _, rfl, abG.last hn, hS.mono hX1⟩
      · have hkl := (List.getElem?_eq_some_iff.mp hkx).1
        rw [List.length_map, List.length_range] at hkl
        rw [List.getElem?_map, List.getElem?_range hkl] at hkx
        cases hkx
        show abG _ sb sl rh ((abDfl.get a1).get kx) _
        rw [d2 kx hkl]
        exact abDv_ok _
      · have hc := abTyA_c (show abTyA a1 = some ty from ht)
        omega
      · have : a1 = 101 := hc
        omega
      · have : 200 ≤ a1 := hc
        omega
theorem abZeroI {ws : va_W} {sb sl : Nat} {rh : Nat → Int} : abG ws sb sl rh (0, 9223372036854775808, 9223372036854775808) (.int 0) := abSelfI (y := 0) rfl
theorem abZeroL {ws : va_W} {sb sl : Nat} {rh : Nat → Int} : abG ws sb sl rh (2, 9223372036854775808, 9223372036854775808) (.long 0) := abSelfL (y := 0) rfl
theorem abS74 : abOk 74 abOna := by
  intro D z sb sl rh xs0 w0 p l ev R s m args below meth c Q k d nx e pc ls st g r hF hE hop hpc hnx h
  obtain ⟨hx, hb, hml, hown, hts, hnm, hz, hR1, hR2, hR3, hR4, hlaw⟩ := hF
  obtain ⟨o, pc', a1, a2, x, ps⟩ := e
  have ho : o = 74 := hop
  have hp : pc' = pc := hpc
  subst ho; subst hp
  obtain ⟨v, rr, rfl, h0⟩ := abHd_some h
  intro H locs ws A xs hH hX hL hS
  obtain ⟨x1, xr', rfl, gv, hS'⟩ := hS
  obtain ⟨⟨tys, hK, hC⟩, hP, hD, hSS, hn, h4096, hwf, he⟩ := id hH
  obtain ⟨y, rfl, y1, y2, h1⟩ := abLg_ok h0 he gv
  obtain ⟨m1, m2, m3, h2⟩ := abRm_ok h1
  have hsm : (abAty a1).isSome = true := hE.2.2
  have hcodes : a1 = 100 ∨ a1 = 101 ∨ a1 = 102 ∨ a1 = 103 := by
    unfold abAty at hsm
    split at hsm
    · exact Or.inl rfl
    · exact Or.inr (Or.inl rfl)
    · exact Or.inr (Or.inr (Or.inl rfl))
    · exact Or.inr (Or.inr (Or.inr rfl))
    · cases hsm
  rcases hcodes with hc0 | hc0 | hc0 | hc0
  · have ec : a1 = 100 := by omega
    subst ec
    have hd := abEt_dec hE (show ¬ (74 : Nat) = 85 by decide) rfl
    refine va_newa (atype := .int) (ty := .int) (a0 := (y.toNatClampNeg, .inl fun _ => 0)) (N' := y.toNatClampNeg) hx hb (hts _ (hE.2.1 _ List.mem_cons_self)) rfl hK hP hD hSS (fun z1 hz1 => Nat.le_trans hz hz1) (fun cA => rfl) (abNot0 y1) rfl (by show y.toNatClampNeg * 4 ≤ 536870912; rw [abClamp]; omega) (by omega) (Nat.le_trans m3 hR2) hd (fun q0 cA H1 hK1 hP1 hD1 hS1 => ?_)
    have hX1 : abX ws (ws ++ [(q0, .inl (cA, (y.toNatClampNeg, .inl fun _ => 0)))]) := abX.app _ _
    refine hnx _ _ _ (abMk g (100, y.toNatClampNeg, .leaf (0, 9223372036854775808, 9223372036854775808))) r h2 (fun _ q => q) H1 locs _ A _ (hH.push hC (fun t0 y0 q => by rw [List.getElem?_append_left (List.getElem?_eq_some_iff.mp q).1]; exact q) hK1 m1 hP1 hD1 hS1 ⟨by cases hz9 : abD y.toNatClampNeg <;> trivial, fun hc => absurd (show (100 : Nat) ≤ 90 from hc) (by decide), fun ty ht => ⟨q0, cA, fun _ => 0, tys.length, rfl, by cases ht; rw [List.getElem?_append_right (Nat.le_refl _), Nat.sub_self]; rfl, by show y.toNatClampNeg ≤ 65536; rw [abClamp]; omega, fun _ _ => abZeroI⟩, fun hc => absurd (show (100 : Nat) = 101 from hc) (by decide), fun hc => absurd (show 200 ≤ (100 : Nat) from hc) (by decide)⟩) (hX.tr hX1) (hL.mono hX1) ⟨_, _, rfl, abG.last hn, hS'.mono hX1⟩
  · have ec : a1 = 101 := by omega
    subst ec
    have hd := abEt_dec hE (show ¬ (74 : Nat) = 85 by decide) rfl
    refine va_newa (atype := .long) (ty := .long) (a0 := (y.toNatClampNeg, .inr (.inl fun _ => 0))) (N' := y.toNatClampNeg) hx hb (hts _ (hE.2.1 _ List.mem_cons_self)) rfl hK hP hD hSS (fun z1 hz1 => Nat.le_trans hz hz1) (fun cA => rfl) (abNot0 y1) rfl (by show y.toNatClampNeg * 8 ≤ 536870912; rw [abClamp]; omega) (by omega) (Nat.le_trans m3 hR2) hd (fun q0 cA H1 hK1 hP1 hD1 hS1 => ?_)
    have hX1 : abX ws (ws ++ [(q0, .inl (cA, (y.toNatClampNeg, .inr (.inl fun _ => 0))))]) := abX.app _ _
    refine hnx _ _ _ (abMk g (101, y.toNatClampNeg, .leaf (2, 9223372036854775808, 9223372036854775808))) r h2 (fun _ q => q) H1 locs _ A _ (hH.push hC (fun t0 y0 q => by rw [List.getElem?_append_left (List.getElem?_eq_some_iff.mp q).1]; exact q) hK1 m1 hP1 hD1 hS1 ⟨by cases hz9 : abD y.toNatClampNeg <;> trivial, fun hc => absurd (show (101 : Nat) ≤ 90 from hc) (by decide), fun ty ht => (by cases ht), fun _ => ⟨q0, cA, fun _ => 0, tys.length, rfl, by rw [List.getElem?_append_right (Nat.le_refl _), Nat.sub_self]; rfl, by show y.toNatClampNeg ≤ 65536; rw [abClamp]; omega, fun _ _ => abZeroL⟩, fun hc => absurd (show 200 ≤ (101 : Nat) from hc) (by decide)⟩) (hX.tr hX1) (hL.mono hX1) ⟨_, _, rfl, abG.last hn, hS'.mono hX1⟩
  · have ec : a1 = 102 := by omega
    subst ec
    have hd := abEt_dec hE (show ¬ (74 : Nat) = 85 by decide) rfl
    refine va_newa (atype := .byte) (ty := .byte) (a0 := (y.toNatClampNeg, .inl fun _ => 0)) (N' := y.toNatClampNeg) hx hb (hts _ (hE.2.1 _ List.mem_cons_self)) rfl hK hP hD hSS (fun z1 hz1 => Nat.le_trans hz hz1) (fun cA => rfl) (abNot0 y1) rfl (by show y.toNatClampNeg * 1 ≤ 536870912; rw [abClamp]; omega) (by omega) (Nat.le_trans m3 hR2) hd (fun q0 cA H1 hK1 hP1 hD1 hS1 => ?_)
    have hX1 : abX ws (ws ++ [(q0, .inl (cA, (y.toNatClampNeg, .inl fun _ => 0)))]) := abX.app _ _
    refine hnx _ _ _ (abMk g (102, y.toNatClampNeg, .leaf (0, 9223372036854775808, 9223372036854775808))) r h2 (fun _ q => q) H1 locs _ A _ (hH.push hC (fun t0 y0 q => by rw [List.getElem?_append_left (List.getElem?_eq_some_iff.mp q).1]; exact q) hK1 m1 hP1 hD1 hS1 ⟨by cases hz9 : abD y.toNatClampNeg <;> trivial, fun hc => absurd (show (102 : Nat) ≤ 90 from hc) (by decide), fun ty ht => ⟨q0, cA, fun _ => 0, tys.length, rfl, by cases ht; rw [List.getElem?_append_right (Nat.le_refl _), Nat.sub_self]; rfl, by show y.toNatClampNeg ≤ 65536; rw [abClamp]; omega, fun _ _ => abZeroI⟩, fun hc => absurd (show (102 : Nat) = 101 from hc) (by decide), fun hc => absurd (show 200 ≤ (102 : Nat) from hc) (by decide)⟩) (hX.tr hX1) (hL.mono hX1) ⟨_, _, rfl, abG.last hn, hS'.mono hX1⟩
  · have ec : a1 = 103 := by omega
    subst ec
    have hd := abEt_dec hE (show ¬ (74 : Nat) = 85 by decide) rfl
    refine va_newa (atype := .boolean) (ty := .boolean) (a0 := (y.toNatClampNeg, .inl fun _ => 0)) (N' := y.toNatClampNeg) hx hb (hts _ (hE.2.1 _ List.mem_cons_self)) rfl hK hP hD hSS (fun z1 hz1 => Nat.le_trans hz hz1) (fun cA => rfl) (abNot0 y1) rfl (by show y.toNatClampNeg * 1 ≤ 536870912; rw [abClamp]; omega) (by omega) (Nat.le_trans m3 hR2) hd (fun q0 cA H1 hK1 hP1 hD1 hS1 => ?_)
    have hX1 : abX ws (ws ++ [(q0, .inl (cA, (y.toNatClampNeg, .inl fun _ => 0)))]) := abX.app _ _
    refine hnx _ _ _ (abMk g (103, y.toNatClampNeg, .leaf (0, 9223372036854775808, 9223372036854775808))) r h2 (fun _ q => q) H1 locs _ A _ (hH.push hC (fun t0 y0 q => by rw [List.getElem?_append_left (List.getElem?_eq_some_iff.mp q).1]; exact q) hK1 m1 hP1 hD1 hS1 ⟨by cases hz9 : abD y.toNatClampNeg <;> trivial, fun hc => absurd (show (103 : Nat) ≤ 90 from hc) (by decide), fun ty ht => ⟨q0, cA, fun _ => 0, tys.length, rfl, by cases ht; rw [List.getElem?_append_right (Nat.le_refl _), Nat.sub_self]; rfl, by show y.toNatClampNeg ≤ 65536; rw [abClamp]; omega, fun _ _ => abZeroI⟩, fun hc => absurd (show (103 : Nat) = 101 from hc) (by decide), fun hc => absurd (show 200 ≤ (103 : Nat) from hc) (by decide)⟩) (hX.tr hX1) (hL.mono hX1) ⟨_, _, rfl, abG.last hn, hS'.mono hX1⟩
theorem abS75 : abOk 75 abOnr := by
  intro D z sb sl rh xs0 w0 p l ev R s m args below meth c Q k d nx e pc ls st g r hF hE hop hpc hnx h
  obtain ⟨hx, hb, hml, hown, hts, hnm, hz, hR1, hR2, hR3, hR4, hlaw⟩ := hF
  obtain ⟨o, pc', a1, a2, x, ps⟩ := e
  have ho : o = 75 := hop
  have hp : pc' = pc := hpc
  subst ho; subst hp
  have hd := abEt_dec hE (show ¬ (75 : Nat) = 85 by decide) rfl
  have hsm : (match abCls[a1]? with | some _ => decide (a1 < 90) | none => false) = true := hE.2.2
  have hwd : ∀ w ∈ (match abCls[a1]? with | some q => [Jvm.Cond.classLink (abOwn k) x q.1, .arrayOver (.object q.1)] | none => []), w ∈ abTw := hE.2.1
  obtain ⟨v, rr, rfl, h0⟩ := abHd_some h
  intro H locs ws A xs hH hX hL hS
  obtain ⟨x1, xr', rfl, gv, hS'⟩ := hS
  obtain ⟨⟨tys, hK, hC⟩, hP, hD, hSS, hn, h4096, hwf, he⟩ := id hH
  obtain ⟨y, rfl, y1, y2, h1⟩ := abLg_ok h0 he gv
  obtain ⟨m1, m2, m3, h2⟩ := abRm_ok h1
  cases hq : abCls[a1]? with
  | none => rw [hq] at hsm; cases hsm
  | some q =>
    rw [hq] at hsm hwd
    have q2 := of_decide_eq_true hsm
    refine va_newq (C := q.1) (N' := y.toNatClampNeg) hx hb hown (hts _ (hwd _ List.mem_cons_self)) (va_AO.of (hts _ (hwd _ (List.mem_cons_of_mem _ List.mem_cons_self)))) hK hP hD hSS (fun z1 hz1 => Nat.le_trans hz hz1) (abNot0 y1) rfl (by rw [abClamp]; omega) (by omega) (Nat.le_trans m3 hR2) hd (fun q0 cA H1 hK1 hP1 hD1 hS1 => ?_)
    have hX1 : abX ws (ws ++ [(q0, .inl (cA, y.toNatClampNeg, .inr (.inr (.inr (.inr (fun _ => none))))))]) := abX.app _ _
    refine hnx _ _ _ (abMk g (200 + a1, y.toNatClampNeg, .leaf (6, 0, 0))) r h2 (fun _ q => q) H1 locs _ A _ (hH.push hC (fun t0 y0 q => by rw [List.getElem?_append_left (List.getElem?_eq_some_iff.mp q).1]; exact q) hK1 m1 hP1 hD1 hS1 ⟨by cases hz9 : abD y.toNatClampNeg <;> trivial, fun hc => ?_, fun ty ht => ?_, fun hc => ?_, fun hc => ⟨q0, cA, fun _ => none, tys.length, q, rfl, by rw [show 200 + a1 - 200 = a1 by omega]; exact hq, by rw [List.getElem?_append_right (Nat.le_refl _), Nat.sub_self]; rfl, by show y.toNatClampNeg ≤ 65536; rw [abClamp]; omega, fun _ _ => rfl⟩⟩) (hX.tr hX1) (hL.mono hX1) ⟨_, _, rfl, abG.last hn, hS'.mono hX1⟩
    · have : 200 + a1 ≤ 90 := hc
      omega
    · have hc := abTyA_c (show abTyA (200 + a1) = some ty from ht)
      omega
    · have : 200 + a1 = 101 := hc
      omega
theorem abS76 : abOk 76 abOoi := by
  intro D z sb sl rh xs0 w0 p l ev R s m args below meth c Q k d nx e pc ls st g r hF hE hop hpc hnx h
  obtain ⟨hx, hb, hml, hown, hts, hnm, hz, hR1, hR2, hR3, hR4, hlaw⟩ := hF
  obtain ⟨o, pc', a1, a2, x, ps⟩ := e
  have ho : o = 76 := hop
  have hp : pc' = pc := hpc
  subst ho; subst hp
  have hd := abEt_dec hE (show ¬ (76 : Nat) = 85 by decide) rfl
  obtain ⟨v, rr, rfl, h0⟩ := abHd_some h
  intro H locs ws A xs hH hX hL hS
  obtain ⟨x1, xr', rfl, gv, hS'⟩ := hS
  obtain ⟨a, en, h2, hj, rfl⟩ := abWr_ok h0 gv
  obtain ⟨h3, h4⟩ := abIf_some h2
  have hsum := Nat.le_trans (abSm_ok hS') (abBle h3)
  refine W.objInit (c := c) hx hb hown (hts _ (hE.2.1 _ List.mem_cons_self)) (hts _ (hE.2.1 _ (List.mem_cons_of_mem _ List.mem_cons_self))) (hts _ (hE.2.1 _ (List.mem_cons_of_mem _ (List.mem_cons_of_mem _ List.mem_cons_self)))) (g := F0 m pc' A (.ref a :: xr')) rfl ?_ (a := a) (rest := xr') rfl hd (by omega) ?_ ?_
  · obtain ⟨l1, lv, l2, l3⟩ := hL
    exact l2.1
  · have := lv_room (m := m) (pc := pc') (ls := A) (rest := (.ref a :: xr' : List Value)) hsum
    omega
  · exact hnx _ _ _ _ r h4 (fun _ q => q) H locs ws A _ hH hX hL hS'
theorem abS86 : abOk 86 abOsl := by
  intro D z sb sl rh xs0 w0 p l ev R s m args below meth c Q k d nx e pc ls st g r hF hE hop hpc hnx h
  obtain ⟨hx, hb, hml, hown, hts, hnm, hz, hR1, hR2, hR3, hR4, hlaw⟩ := hF
  obtain ⟨o, pc', a1, a2, x, ps⟩ := e
  have ho : o = 86 := hop
  have hp : pc' = pc := hpc
  subst ho; subst hp
  have hd := abEt_dec hE (show ¬ (86 : Nat) = 85 by decide) rfl
  have hk := of_decide_eq_true (show decide (abNM ≤ k) = true from hE.2.2)
  obtain ⟨hXs, hsb, hsl, hrh⟩ := hlaw hk
  obtain ⟨v, rr, rfl, h0⟩ := abHd_some h
  obtain ⟨h1, h2⟩ := abIf_some h0
  intro H locs ws A xs hH hX hL hS
  obtain ⟨x1, xr', rfl, gv, hS'⟩ := hS
  obtain ⟨⟨tys, hK, hC⟩, hP, hD, hSS, hn, h4096, hwf, he⟩ := id hH
  obtain ⟨t, i, j⟩ := v
  have ht : t = 5 := abBeq h1
  subst ht
  obtain ⟨rfl, hi⟩ := gv
  have hi' : i = sl := hi
  subst hi'
  refine va_slen hx hb hXs (by omega) (Nat.not_le.mpr hsb) hSS hd ?_
  exact hnx _ _ _ _ r h2 (fun _ q => q) H locs ws A _ hH hX hL ⟨_, _, rfl, abLenG hsl, hS'⟩
theorem abS87 : abOk 87 abOsd := by
  intro D z sb sl rh xs0 w0 p l ev R s m args below meth c Q k d nx e pc ls st g r hF hE hop hpc hnx h
  obtain ⟨hx, hb, hml, hown, hts, hnm, hz, hR1, hR2, hR3, hR4, hlaw⟩ := hF
  obtain ⟨o, pc', a1, a2, x, ps⟩ := e
  have ho : o = 87 := hop
  have hp : pc' = pc := hpc
  subst ho; subst hp
  have hd := abEt_dec hE (show ¬ (87 : Nat) = 85 by decide) rfl
  have hk := of_decide_eq_true (show decide (abNM ≤ k) = true from hE.2.2)
  obtain ⟨hXs, hsb, hsl, hrh⟩ := hlaw hk
  obtain ⟨w, v, rr, rfl, h0⟩ := ab2_some h
  obtain ⟨h1, h2⟩ := abIf_some h0
  intro H locs ws A xs hH hX hL hS
  obtain ⟨x0, xr, rfl, gw, x1, xr', rfl, gv, hS'⟩ := hS
  obtain ⟨⟨tys, hK, hC⟩, hP, hD, hSS, hn, h4096, hwf, he⟩ := id hH
  obtain ⟨t, i, j⟩ := v
  have ht : t = 5 := abBeq h1
  subst ht
  obtain ⟨rfl, hi⟩ := gv
  have hi' : i = sl := hi
  subst hi'
  obtain ⟨ia, ib, y, h3, rfl, p1, p2, -, -⟩ := abWi0 h2 he gw
  dsimp only at h3
  have hbB : (9223372036854775808 : Nat) = abB := rfl
  generalize (9223372036854775808 : Nat) = B at h3 hbB
  obtain ⟨h4, h5⟩ := abIf_some h3
  obtain ⟨h6, h7⟩ := abIf_some h5
  obtain ⟨h8, h9⟩ := abIf_some h7
  have e1 := abBeq h4
  have e2 := abBle h6
  have e3 := abBle h8
  have ei : ia - B = y.toNatClampNeg := by rw [abClamp]; omega
  rw [ei] at h9
  refine va_sld hx hb hXs (by omega) (Nat.not_le.mpr hsb) hSS (vp_in_iff.mpr ⟨by omega, by omega⟩) hd ?_
  exact hnx _ _ _ _ r h9 (fun _ q => q) H locs ws A _ hH hX hL ⟨_, _, rfl, ⟨_, rfl, (hrh _).symm⟩, hS'⟩
end
section
/-! arraycopy; and all of them -/
theorem abNatW : nativeFrameWords "java/lang/System" "arraycopy" 5 + 11 ≤ 52 := by decide +kernel
theorem abCpy0 {f g : Nat → Int32} {sp dp : Nat} : va_cpy f g sp dp 0 = g := by
  funext k
  unfold va_cpy
  rw [if_neg (by omega)]
theorem abS77 : abOk 77 abOcp := by
  intro D z sb sl rh xs0 w0 p l ev R s m args below meth c Q k d nx e pc ls st g r hF hE hop hpc hnx h
  obtain ⟨hx, hb, hml, hown, hts, hnm, hz, hR1, hR2, hR3, hR4, hlaw⟩ := hF
  obtain ⟨o, pc', a1, a2, x, ps⟩ := e
  have ho : o = 77 := hop
  have hp : pc' = pc := hpc
  subst ho; subst hp
  have hd := abEt_dec hE (show ¬ (77 : Nat) = 85 by decide) rfl
  obtain ⟨vn, s1, rfl, h0⟩ := abHd_some h
  obtain ⟨vdp, vrd, s2, rfl, h00⟩ := ab2_some (show ab2 s1 _ = some r from h0)
  obtain ⟨vsp, vrs, rr, rfl, h01⟩ := ab2_some (show ab2 s2 _ = some r from h00)
  clear h h0 h00
  intro H locs ws A xs hH hX hL hS
  obtain ⟨x1, xr1, rfl, g1, x2, xr2, rfl, g2, x3, xr3, rfl, g3, x4, xr4, rfl, g4, x5, xr, rfl, g5, hS'⟩ := hS
  obtain ⟨⟨tys, hK, hC⟩, hP, hD, hSS, hn, h4096, hwf, he⟩ := id hH
  obtain ⟨yn, rfl, n1, n2, h02⟩ := abLg_ok (show abLg vn g _ = some r from h01) he g1
  obtain ⟨yd, rfl, d1, d2, h03⟩ := abLg_ok h02 he g2
  obtain ⟨ys, rfl, s1', s2', h04⟩ := abLg_ok h03 he g4
  obtain ⟨a, en, h05, hjd, rfl⟩ := abWr_ok h04 g3
  obtain ⟨a0, en0, h06, hjs, rfl⟩ := abWr_ok h05 g5
  unfold abCp1 at h06
  obtain ⟨q1, h07⟩ := abIf_some h06
  obtain ⟨q2, h08⟩ := abIf_some h07
  obtain ⟨q3, h09⟩ := abIf_some h08
  obtain ⟨q4, h0⟩ := abIf_some h09
  have hsum := Nat.le_trans (abSm_ok hS') (abBle q1)
  have ed := abBeq q2
  have es := abBeq q3
  have ecode := abBeq q4
  have hcd := hC vrd.2.1 (hH.lt hjd)
  have hcs := hC vrs.2.1 (hH.lt hjs)
  have hAsz : c.maxLocals = A.size := by
    obtain ⟨l1, lv, l2, l3⟩ := hL
    exact l2.1.symm
  have w1 := hts _ (hE.2.1 (.methodLink (abOwn k) x arraycopyName) List.mem_cons_self)
  have w2 := hts _ (hE.2.1 (.native arraycopyName) (List.mem_cons_of_mem _ List.mem_cons_self))
  have w3 := hts _ (hE.2.1 (.static arraycopyName) (List.mem_cons_of_mem _ (List.mem_cons_of_mem _ List.mem_cons_self)))
  have w4 := hts _ (hE.2.1 (.initialized "java/lang/System") (List.mem_cons_of_mem _ (List.mem_cons_of_mem _ (List.mem_cons_of_mem _ List.mem_cons_self))))
  have hloc : (xr.map fun v => v.category).sum + (nativeFrameWords "java/lang/System" "arraycopy" 5 + 11) ≤ R.locals := by
    have := abNatW
    omega
  have nothing : ∀ ty : FieldType, abTyA (g.1.get vrd.2.1).1 = some ty → refKind ty = false → yn.toNatClampNeg = 0 → nx (pc' + 3) ls rr g = some r → W p l ev R s m args below meth c H locs g.2.2.2.1 g.2.2.2.2 Q (F0 m pc' A (.int yn :: .int yd :: .ref a :: .int ys :: .ref a0 :: xr)) := by
    intro ty hty hrk hn0 hr
    obtain ⟨a', cA, f, t0, e1, e2, e3, e4⟩ := hcd.2.2.1 ty hty
    rw [hjd] at e1
    cases e1
    obtain ⟨a2', cA2, f2, t2, e1', e2', e3', e4'⟩ := hcs.2.2.1 ty (by rw [← ecode]; exact hty)
    rw [hjs] at e1'
    cases e1'
    refine va_copyi hx hb hAsz hown w1 w2 w3 w4 hK hP hD hSS vrs.2.1 vrd.2.1 t2 t0 hjs hjd e2' e2 hrk (abNot0 s1') (abNot0 d1) (abNot0 n1) (by omega) (by omega) (fun i hi => absurd hi (by omega)) (by omega) hloc hd (fun H1 locs1 hP1 hD1 hS1 => ?_)
    rw [hn0, abCpy0, abSetSame hjd] at hP1 hD1
    exact hnx _ _ _ _ r hr (fun _ q => q) H1 locs1 ws A _ ⟨⟨tys, hK, hC⟩, hP1, hD1, hS1, hn, h4096, hwf, he⟩ hX hL hS'
  cases q5 : Nat.beq yn.toNatClampNeg 0 with
  | true =>
    rw [abIf_t q5] at h0
    have en0' := abBeq q5
    cases q6 : Nat.beq (g.1.get vrd.2.1).1 100 with
    | true =>
      rw [abIf_t q6] at h0
      exact nothing .int (by rw [abBeq q6]; rfl) rfl en0' h0
    | false =>
      rw [abIf_f q6] at h0
      obtain ⟨q7, h1⟩ := abIf_some h0
      rcases abDiv q7 with q8 | q8
      · exact nothing .byte (by rw [q8]; rfl) rfl en0' h1
      · exact nothing .boolean (by rw [q8]; rfl) rfl en0' h1
  | false =>
    rw [abIf_f q5] at h0
    obtain ⟨q6, h1⟩ := abIf_some h0
    obtain ⟨q7, h2⟩ := abIf_some h1
    obtain ⟨q8, h3⟩ := abIf_some h2
    have ec := abBeq q6
    have el1 := abBeq q7
    have el2 := abBeq q8
    obtain ⟨a', cA, f, t0, e1, e2, e3, e4⟩ := hcd.2.2.1 .int (by rw [ec]; rfl)
    rw [hjd] at e1
    cases e1
    obtain ⟨a2', cA2, f2, t2, e1', e2', e3', e4'⟩ := hcs.2.2.1 .int (by rw [← ecode, ec]; rfl)
    rw [hjs] at e1'
    cases e1'
    refine va_copyi hx hb hAsz hown w1 w2 w3 w4 hK hP hD hSS vrs.2.1 vrd.2.1 t2 t0 hjs hjd e2' e2 rfl (abNot0 s1') (abNot0 d1) (abNot0 n1) (by omega) (by omega) (fun i hi => rfl) (by omega) hloc hd (fun H1 locs1 hP1 hD1 hS1 => ?_)
    have hX1 := abX.via hjd hP1
    have hw2 : abWf (abD (g.1.get vrd.2.1).2.1) 0 (g.1.get vrs.2.1).2.2 := by
      rw [← el1, el2]
      exact hcs.1
    refine hnx _ _ _ _ r h3 (fun _ q => q) H1 locs1 _ A _ (hH.put hK hC hjd hP1 hD1 hS1 (c1 := ((g.1.get vrd.2.1).1, (g.1.get vrd.2.1).2.1, (g.1.get vrs.2.1).2.2)) ⟨hw2, fun hc => ?_, fun ty ht => ⟨a, cA, _, t0, rfl, ?_, e3, fun kx hkx => ?_⟩, fun hc => ?_, fun hc => ?_⟩) (hX.tr hX1) (hL.mono hX1) (hS'.mono hX1)
    · have : (g.1.get vrd.2.1).1 ≤ 90 := hc
      omega
    · have h' : abTyA (g.1.get vrd.2.1).1 = some ty := ht
      rw [ec] at h'
      cases h'
      exact e2
    · have hkx' : kx < (g.1.get vrd.2.1).2.1 := hkx
      show abG _ sb sl rh ((g.1.get vrs.2.1).2.2.get kx) (.int (va_cpy f2 f ys.toNatClampNeg yd.toNatClampNeg yn.toNatClampNeg kx))
      have ev : va_cpy f2 f ys.toNatClampNeg yd.toNatClampNeg yn.toNatClampNeg kx = f2 kx := by
        unfold va_cpy
        rw [if_pos ⟨by omega, by omega⟩, es, ed, Nat.zero_add, Nat.sub_zero]
      rw [ev]
      exact (e4' kx (by omega)).mono hX1
    · have : (g.1.get vrd.2.1).1 = 101 := hc
      omega
    · have : 200 ≤ (g.1.get vrd.2.1).1 := hc
      omega
theorem abSf (op : Nat) : abOk op abFail := by
  intro D z sb sl rh xs0 w0 p l ev R s m args below meth c Q k d nx e pc ls st g r hF hE hop hpc hnx h
  cases h
theorem abL1 {F : abPo} (i : Nat) (h : abOk i F) : ∀ n : Nat, i ≤ n → n < i + 1 → abOk n F := fun n h1 h2 => by
  have e : n = i := by omega
  rw [e]
  exact h
theorem abOps_chk : abChk (fun n F => abOk n F) abOps 0 88 := ⟨⟨⟨⟨⟨⟨(abL1 0 (abSf 0)), (abL1 1 (abS1))⟩, ⟨(abL1 2 (abS2)), ⟨(abL1 3 (abS3)), (abL1 4 (abS4))⟩⟩⟩, ⟨⟨(abL1 5 (abS5)), ⟨(abL1 6 (abS6)), (abL1 7 (abS7))⟩⟩, ⟨(abL1 8 (abS8)), ⟨(abL1 9 (abS9)), (abL1 10 (abS10))⟩⟩⟩⟩, ⟨⟨⟨(abL1 11 (abS11)), (abL1 12 (abS12))⟩, ⟨(abL1 13 (abS13)), ⟨(abL1 14 (abS14)), (abL1 15 (abS15))⟩⟩⟩, ⟨⟨(abL1 16 (abS16)), ⟨(abL1 17 (abS17)), (abL1 18 (abS18))⟩⟩, ⟨(abL1 19 (abS19)), ⟨(abL1 20 (abS20)), (abL1 21 (abS21))⟩⟩⟩⟩⟩, ⟨⟨⟨⟨(abL1 22 (abS22)), (abL1 23 (abS23))⟩, ⟨(abL1 24 (abS24)), ⟨(abL1 25 (abS25)), (abL1 26 (abS26))⟩⟩⟩, ⟨⟨(abL1 27 (abS27)), ⟨(abL1 28 (abS28)), (abL1 29 (abS29))⟩⟩, ⟨(abL1 30 (abS30)), ⟨(abL1 31 (abS31)), (abL1 32 (abS32))⟩⟩⟩⟩, ⟨⟨⟨(abL1 33 (abS33)), (abL1 34 (abS34))⟩, ⟨(abL1 35 (abS35)), ⟨(abL1 36 (abS36)), (abL1 37 (abS37))⟩⟩⟩, ⟨⟨(abL1 38 (abS38)), ⟨(abL1 39 (abS39)), (abL1 40 (abS40))⟩⟩, ⟨(abL1 41 (abS41)), ⟨(abL1 42 (abS42)), (abL1 43 (abS43))⟩⟩⟩⟩⟩⟩, ⟨⟨⟨⟨⟨(abL1 44 (abS44)), (abL1 45 (abS45))⟩, ⟨(abL1 46 (abS46)), ⟨(abL1 47 (abS47)), (abL1 48 (abS48))⟩⟩⟩, ⟨⟨(abL1 49 (abS49)), ⟨(abL1 50 (abS50)), (abL1 51 (abS51))⟩⟩, ⟨(abL1 52 (abS52)), ⟨(abL1 53 (abS53)), (abL1 54 (abS54))⟩⟩⟩⟩, ⟨⟨⟨(abL1 55 (abS55)), (abL1 56 (abS56))⟩, ⟨(abL1 57 (abS57)), ⟨(abL1 58 (abS58)), (abL1 59 (abS59))⟩⟩⟩, ⟨⟨(abL1 60 (abS60)), ⟨(abL1 61 (abS61)), (abL1 62 (abS62))⟩⟩, ⟨(abL1 63 (abS63)), ⟨(abL1 64 (abS64)), (abL1 65 (abS65))⟩⟩⟩⟩⟩, ⟨⟨⟨⟨(abL1 66 (abS66)), (abL1 67 (abS67))⟩, ⟨(abL1 68 (abS68)), ⟨(abL1 69 (abS69)), (abL1 70 (abS70))⟩⟩⟩, ⟨⟨(abL1 71 (abS71)), ⟨(abL1 72 (abS72)), (abL1 73 (abS73))⟩⟩, ⟨(abL1 74 (abS74)), ⟨(abL1 75 (abS75)), (abL1 76 (abS76))⟩⟩⟩⟩, ⟨⟨⟨(abL1 77 (abS77)), (abL1 78 (abSf 78))⟩, ⟨(abL1 79 (abSf 79)), ⟨(abL1 80 (abSf 80)), (abL1 81 (abSf 81))⟩⟩⟩, ⟨⟨(abL1 82 (abSf 82)), ⟨(abL1 83 (abSf 83)), (abL1 84 (abSf 84))⟩⟩, ⟨(abL1 85 (abSf 85)), ⟨(abL1 86 (abS86)), (abL1 87 (abS87))⟩⟩⟩⟩⟩⟩⟩
theorem abOps_ok {op : Nat} (h : op < 88) : abOk op (abOps.get op) := abChk_get abOps 0 88 op abOps_chk (Nat.zero_le _) h
end
section
/-! SOUNDNESS, 3: calls and the run -/
noncomputable def abWs (q : Nat) : List Jvm.Cond := Jvm.Cond.code (abNm q) (abBy q) (abMe q).1.2.2.1 (abRtT q) :: abTb
noncomputable def abRoom (q d : Nat) : Room := { frames := d + 1, cells := (abMe q).2.2.1, slots := (abMe q).2.2.2.1, locals := 60 * (d + 1) }
/-- what must hold of a method that is called -/
def abMok (q : Nat) : Prop := plainName (abNm q).cls = true ∧ Jvm.Cond.code (abNm q) (abBy q) (abMe q).1.2.2.1 (abRtT q) ∈ abTb ∧ Jvm.Cond.initialized (abNm q).cls ∈ abTb ∧ ((abNm q).cls ≠ "java/lang/invoke/MethodHandle" ∧ (abNm q).cls ≠ "java/lang/invoke/VarHandle" ∧ (parseMethodDescriptor (abNm q).desc).map (fun d => d.parameters.length) = some (abMe q).2.1) ∧ (abMe q).1.2.2.1 ≤ 41
/-- the tables are right -/
def abTabs : Prop := (∀ q, q < abNM → abMok q) ∧ (∀ w ∈ abTb, goodWord w = true) ∧ ∀ k pc : Nat, k < abNM + 3 → ((abMe k).2.2.2.2.2.get pc).2.1 = pc → abEtOk k ((abMe k).2.2.2.2.2.get pc) ∧ ((abMe k).2.2.2.2.2.get pc).1 < 88
def abXp (t : Lean.RArray abEy) (x : abF) : Prop := (t.get x.1).2.1 = x.1 ∧ 82 ≤ (t.get x.1).1 ∧ (t.get x.1).1 ≤ 85 ∧ abRt (t.get x.1) x.1 x.2.1 x.2.2.1 x.2.2.2 = some [x]
def abSd (D : va_G) (z sb sl : Nat) (rh : Nat → Int) (w0 : va_W) (p : Program) (l : Launch) (ev : Env) (R : Room) (s : State) (m : MethodId) (args : Array Value) (below : List Frame) (meth : Method) (c : Code) (Q : State → Prop) (t : Lean.RArray abEy) (r : List abF) : Prop :=
  ∀ x ∈ r, abXp t x → abW D z sb sl rh w0 p l ev R s m args below meth c Q x.1 x.2.1 x.2.2.1 x.2.2.2
/-- the run is sound up to n steps -/
def abRuns (D : va_G) (z sb sl : Nat) (rh : Nat → Int) (xs0 : Nat → Int32) (n : Nat) : Prop := ∀ (w0 : va_W) (p : Program) (l : Launch) (ev : Env) (R : Room) (s : State) (m : MethodId) (args : Array Value) (below : List Frame) (meth : Method) (c : Code) (Q : State → Prop) (k d pc : Nat) (ls st : List abV) (g : abSt) (r : List abF), abFr z sb sl rh xs0 k d p R s m args meth c → k < abNM + 3 → abRun n d k (abMe k).2.2.2.2.2 pc ls st g = some r → abSd D z sb sl rh w0 p l ev R s m args below meth c Q (abMe k).2.2.2.2.2 r → abW D z sb sl rh w0 p l ev R s m args below meth c Q pc ls st g
theorem abRt_eq {e : abEy} {pc : Nat} {ls st : List abV} {g : abSt} {r : List abF} (h : abRt e pc ls st g = some r) : r = [(pc, ls, st, g)] := by
  have fl : ∀ (F : abFt) (env : abE) (v : abV), (∀ (kk : abR) (r : List abF), F env v kk = some r → kk = some r) → F env v (some [(pc, ls, st, g)]) = some r → r = [(pc, ls, st, g)] := fun F env v hF h => (Option.some.inj (hF _ _ h)).symm
  unfold abRt at h
  cases q1 : Nat.beq e.1 85 with
  | true => rw [abIf_t q1] at h; exact (Option.some.inj h).symm
  | false =>
    rw [abIf_f q1] at h
    cases q2 : Nat.beq e.1 82 with
    | true =>
      rw [abIf_t q2] at h
      cases st with
      | nil => exact (Option.some.inj h).symm
      | cons v s' => cases h
    | false =>
      rw [abIf_f q2] at h
      obtain ⟨v, s', rfl, h1⟩ := abHd_some h
      cases s' with
      | cons a b => cases h1
      | nil =>
        have h2 : abIf (Nat.beq e.1 84) (abFtl g.2.2.1 v (some [(pc, ls, [v], g)])) (abIf (Nat.beq e.2.2.1 1) (abFtz g.2.2.1 v (some [(pc, ls, [v], g)])) (abFti g.2.2.1 v (some [(pc, ls, [v], g)]))) = some r := h1
        cases q3 : Nat.beq e.1 84 with
        | true =>
          rw [abIf_t q3] at h2
          exact (Option.some.inj (abIf_some h2).2).symm
        | false =>
          rw [abIf_f q3] at h2
          cases q4 : Nat.beq e.2.2.1 1 with
          | true =>
            rw [abIf_t q4] at h2
            unfold abFtz abWi at h2
            cases q5 : Nat.beq v.1 0 with
            | true =>
              rw [abIf_t q5] at h2
              exact (Option.some.inj (abIf_some (abIf_some h2).2).2).symm
            | false =>
              rw [abIf_f q5] at h2
              obtain ⟨q, -, h3⟩ := abWe_ok (abIf_some h2).2
              exact (Option.some.inj (abIf_some (abIf_some h3).2).2).symm
          | false =>
            rw [abIf_f q4] at h2
            exact (Option.some.inj (abIf_some h2).2).symm
theorem abBd_ok {r0 : abR} {F : abF → abR} {r : List abF} (h : abBd r0 F = some r) : ∃ exs, r0 = some exs ∧ ∀ x ∈ exs, ∃ r', F x = some r' ∧ ∀ z ∈ r', z ∈ r := by
  unfold abBd at h
  cases r0 with
  | none => cases h
  | some exs =>
    refine ⟨exs, rfl, ?_⟩
    have key : ∀ (l : List abF) (r : List abF), (List.rec (some []) (fun x _ ih => abJn (F x) ih) l : abR) = some r → ∀ x ∈ l, ∃ r', F x = some r' ∧ ∀ z ∈ r', z ∈ r := by
      intro l
      induction l with
      | nil => intro r _ x hx; cases hx
      | cons a l ih =>
        intro r h x hx
        obtain ⟨u, v, h1, h2, rfl⟩ := abJn_some (show abJn (F a) (List.rec (some []) (fun x _ ih => abJn (F x) ih) l) = some r from h)
        rcases List.mem_cons.mp hx with rfl | hx
        · exact ⟨u, h1, fun z q => List.mem_append_left _ q⟩
        · obtain ⟨r', q1, q2⟩ := ih v h2 x hx
          exact ⟨r', q1, fun z q => List.mem_append_right _ (q2 z q)⟩
    exact key exs r h
theorem abTk_ok {ws : va_W} {sb sl : Nat} {rh : Nat → Int} {K : List abV → List abV → abR} {r : List abF} : ∀ (n : Nat) (acc st : List abV) (xs ys : List Value), abTk K n acc st = some r → abSok ws sb sl rh st xs → abSok ws sb sl rh acc ys → (∀ v ∈ acc, v.1 ≤ 7) → ∃ (as rest : List abV) (zs rx : List Value), K as rest = some r ∧ xs = zs.reverse ++ rx ∧ zs.length = n ∧ abSok ws sb sl rh as (zs ++ ys) ∧ abSok ws sb sl rh rest rx ∧ ∀ v ∈ as, v.1 ≤ 7
  | 0, acc, st, xs, ys, h, hS, hA, h7 => ⟨acc, st, [], xs, h, rfl, rfl, hA, hS, h7⟩
  | n + 1, acc, st, xs, ys, h, hS, hA, h7 => by
    obtain ⟨v, st', rfl, h1⟩ := abHd_some (show abHd st (fun v r => abIf (Nat.ble v.1 7) (abTk K n (v :: acc) r) none) = some r from h)
    obtain ⟨h2, h3⟩ := abIf_some h1
    obtain ⟨x, xr, rfl, gv, hS'⟩ := hS
    obtain ⟨as, rest, zs, rx, q1, q2, q3, q4, q5, q6⟩ := abTk_ok n (v :: acc) st' xr (x :: ys) h3 hS' ⟨x, ys, rfl, gv, hA⟩ (fun w hw => by
      rcases List.mem_cons.mp hw with rfl | hw
      · exact abBle h2
      · exact h7 w hw)
    refine ⟨as, rest, zs ++ [x], rx, q1, by rw [List.reverse_append, q2]; rfl, by rw [List.length_append, q3]; rfl, by rw [List.append_assoc]; exact q4, q5, q6⟩
theorem abJs_get : ∀ (n i : Nat) (v : abV), (abJs n)[i]? = some v → v = abJ
  | 0, _, _, h => by cases h
  | n + 1, 0, v, h => (Option.some.inj h).symm
  | n + 1, i + 1, v, h => abJs_get n i v h
theorem abJs_len : ∀ n : Nat, (abJs n).length = n
  | 0 => rfl
  | n + 1 => congrArg Nat.succ (abJs_len n)
theorem abEn_ok {ws : va_W} {sb sl : Nat} {rh : Nat → Int} : ∀ (as : List abV) (vs : List Value) (n base : Nat), abSok ws sb sl rh as vs → (∀ v ∈ as, v.1 ≤ 7) → abSm as ≤ n → (abEn as n).length = n ∧ (lg_sl vs).length ≤ n ∧ ∀ (i : Nat) (v : abV), (abEn as n)[i]? = some v → v.1 ≤ 7 → ∃ x : Value, (base + i, x) ∈ lv_args base vs ∧ abG ws sb sl rh v x
  | [], vs, n, base, hS, h7, hn => by
    have e : vs = [] := hS
    subst e
    refine ⟨abJs_len n, Nat.zero_le _, fun i v hi hv => ?_⟩
    have e := abJs_get n i v hi
    subst e
    exact absurd hv (by decide)
  | v :: as, vs, n, base, hS, h7, hn => by
    obtain ⟨x, xr, rfl, gv, hS'⟩ := hS
    have hv7 := h7 v List.mem_cons_self
    have h7' : ∀ w ∈ as, w.1 ≤ 7 := fun w hw => h7 w (List.mem_cons_of_mem _ hw)
    have hs : abSm (v :: as) = abIf (Nat.beq (v.1 / 2) 1) (abSm as + 2) (abIf (Nat.ble v.1 7) (abSm as + 1) (abSm as + 2)) := rfl
    rw [hs] at hn
    have he : abEn (v :: as) n = abIf (Nat.beq (v.1 / 2) 1) (v :: abJ :: abEn as (n - 2)) (v :: abEn as (n - 1)) := rfl
    rw [he]
    cases q1 : Nat.beq (v.1 / 2) 1 with
    | true =>
      rw [abIf_t q1] at hn
      rw [abIf_t rfl]
      have h2 := abDiv q1
      obtain ⟨y, rfl⟩ := abG_l gv (by omega)
      obtain ⟨r1, r2, r3⟩ := abEn_ok as xr (n - 2) (base + 2) hS' h7' (by omega)
      refine ⟨by simp only [List.length_cons, r1]; omega, ?_, fun i w hi hw => ?_⟩
      · have e : lg_sl (Value.long y :: xr) = [.val (.long y), .second] ++ lg_sl xr := rfl
        rw [e, List.length_append]
        simp only [List.length_cons, List.length_nil]
        omega
      · match i, hi with
        | 0, hi =>
          cases hi
          exact ⟨.long y, List.mem_cons_self, gv⟩
        | 1, hi =>
          cases hi
          exact absurd hw (by decide)
        | i + 2, hi =>
          obtain ⟨x', z1, z2⟩ := r3 i w hi hw
          refine ⟨x', ?_, z2⟩
          have e : lv_args base (Value.long y :: xr) = (base, .long y) :: lv_args (base + 2) xr := rfl
          rw [e, show base + (i + 2) = base + 2 + i by omega]
          exact List.mem_cons_of_mem _ z1
    | false =>
      rw [abIf_f q1, abIf_t (abBle_t hv7)] at hn
      rw [abIf_f rfl]
      have hc := abCat_ok (abCat1 hv7 (abBeq_f q1)) gv
      have hc2 : ¬ x.category = 2 := by omega
      obtain ⟨r1, r2, r3⟩ := abEn_ok as xr (n - 1) (base + 1) hS' h7' (by omega)
      refine ⟨by simp only [List.length_cons, r1]; omega, ?_, fun i w hi hw => ?_⟩
      · have e : lg_sl (x :: xr) = [.val x] ++ lg_sl xr := by simp [lg_sl, hc2]
        rw [e, List.length_append]
        simp only [List.length_cons, List.length_nil]
        omega
      · match i, hi with
        | 0, hi =>
          cases hi
          exact ⟨x, List.mem_cons_self, gv⟩
        | i + 1, hi =>
          obtain ⟨x', z1, z2⟩ := r3 i w hi hw
          refine ⟨x', ?_, z2⟩
          have e : lv_args base (x :: xr) = (base, x) :: lv_args (base + 1) xr := by simp [lv_args, hc2]
          rw [e, show base + (i + 1) = base + 1 + i by omega]
          exact List.mem_cons_of_mem _ z1
end
section
/-- behind a call, whatever it gives -/
theorem abCallx {p : Program} {l : Launch} {ev : Env} {R : Room} {s : State} {m : MethodId} {args : Array Value} {below : List Frame} {meth : Method} {c : Code} {H : Heap} {locs : List Loc} {cells slots mc ms pc : Nat} {A : Array Slot} {st0 rest : List Value} {Q : State → Prop} {Qa : State → Outcome → State → Prop} {free : Addr → Prop} (hr : va_Run p l ev R s m args below meth c H locs cells slots mc ms (F0 m pc A st0) rest Qa free) (kk : ∀ (v : Option Value) (s0 t : State) (L : List Loc), s0.heap = H → s.vm.Alike t.vm → (∀ q ∈ L, free q.base) → Qa s0 (.returned v) t → W p l ev R s m args below meth c t.heap (locs ++ L) (cells + mc) (slots + ms) Q (F0 m (pc + 3) A (v.toList ++ rest))) : W p l ev R s m args below meth c H locs cells slots Q (F0 m pc A st0) := by
  intro T hT X
  obtain ⟨v, s0, t, T', L, h0, X', hL, e1, e2, hq, st⟩ := hr T hT X
  obtain ⟨t2, a1, b1⟩ := kk v s0 t L h0 (by rw [← e2]; exact X'.warmed.alike) hL hq T' e1 X'
  exact ⟨t2, st t2 a1, b1⟩
/-- the world at a call, and behind it -/
def abPre (D : va_G) (z sb sl : Nat) (rh : Nat → Int) (ws : va_W) (h : abH) (U : State) : Prop := (∃ tys, va_K D abCls tys U ∧ ∀ j : Nat, j < 4096 → abCs tys ws sb sl rh ws[j]? (h.get j)) ∧ va_P D abCls ws U.heap ∧ va_D (fun q : Nat => z ≤ q) ws ∧ z ≤ U.heap.size ∧ ∀ q ∈ abNl, va_Nw (.methodLinkNest q.1 q.2.1 q.2.2 "TallBins") U
def abPost (D : va_G) (z sb sl : Nat) (rh : Nat → Int) (ws : va_W) (exs : List abF) : Array Value → State → Outcome → State → Prop := fun _ st oc t =>
  (∃ ex ∈ exs, ∃ (rv : Option Value) (u : va_W), oc = .returned rv ∧ abSok u sb sl rh ex.2.2.1 rv.toList ∧ abX ws u ∧ (∃ tys, va_K D abCls tys t ∧ ∀ j : Nat, j < 4096 → abCs tys u sb sl rh u[j]? (ex.2.2.2.1.get j)) ∧ va_P D abCls u t.heap ∧ va_D (fun q : Nat => z ≤ q) u ∧ u.length = ex.2.2.2.2.1 ∧ ex.2.2.2.2.1 ≤ 4096 ∧ abWf 12 0 ex.2.2.2.1 ∧ abEok rh ex.2.2.2.2.2.1) ∧ va_F (fun q : Nat => z ≤ q) st t
theorem abMet {D : va_G} {z sb sl : Nat} {rh : Nat → Int} {xs0 : Nat → Int32} (hT : abTabs) {n : Nat} (IH : abRuns D z sb sl rh xs0 n) (l : Launch) {q d : Nat} (hq : q < abNM) {as : List abV} {vs : List Value} {ws : va_W} {h : abH} {nn : Nat} {env : abE} {exs : List abF} (hrun : abRun n d q (abMe q).2.2.2.2.2 0 (abEn as (abMe q).1.2.2.1) [] (h, nn, env, 0, 0) = some exs) (hvs : abSok ws sb sl rh as vs) (h7 : ∀ v ∈ as, v.1 ≤ 7) (hsm : abSm as ≤ (abMe q).1.2.2.1) (hlen : ws.length = nn) (hnn : nn ≤ 4096) (hwf : abWf 12 0 h) (he : abEok rh env) (hroom : ∀ x ∈ exs, x.2.2.2.2.2.2.1 ≤ (abMe q).2.2.1 ∧ x.2.2.2.2.2.2.2 ≤ (abMe q).2.2.2.1) : Met l (abNm q) (abWs q) (abRoom q d) (va_Pc vs (abPre D z sb sl rh ws h)) (abPost D z sb sl rh ws exs) (abMe q).2.2.1 (abMe q).2.2.2.1 (fun a => z ≤ a) := by
  obtain ⟨t1, t2, t3⟩ := hT
  obtain ⟨m1, m2, m3, m4, m5⟩ := t1 q hq
  refine Met.ofW (cc := abBy q) (maxL := (abMe q).1.2.2.1) (ret := abRtT q) m1 rfl ?_
  intro p e s m args below meth c s₁ B hml hv
  obtain ⟨rfl, ⟨tys, hK, hC⟩, hP, hD, hz, hNl⟩ := hv
  have hx := B.exec
  have hb := B.bytes
  have hr := B.returns
  have hts := atoms_spec (ws := abWs q) B.pre
  have hown : s.vm.findClass (abOwn q) = some m.cls := findClass_of_methodNamed B.named
  have hlocks := B.notSynchronized
  have hin : meth.name = (abNm q).name := (name_of_methodNamed B.named B.method).1
  have hFr : abFr z sb sl rh xs0 q d p (headSpec (abWs q) (abRoom q d)).room s m vs.toArray meth c := ⟨hx, hb, hml, hown, abTa_hts (fun w hw => hts w (List.mem_cons_of_mem _ hw)) hNl, hin, hz, Nat.le_refl _, Nat.le_refl _, Nat.le_refl _, Nat.le_refl _, fun hk => absurd hq (by omega)⟩
  obtain ⟨g1, g2, g3⟩ := abEn_ok as vs (abMe q).1.2.2.1 0 hvs h7 hsm
  have hl := lv_entry vs (n := (abMe q).1.2.2.1) g2
  rw [lg_entry_eq]
  have hLok : abLok ws sb sl rh (abEn as (abMe q).1.2.2.1) c.maxLocals ((lg_sl vs ++ List.replicate ((abMe q).1.2.2.1 - (lg_sl vs).length) Slot.unset).toArray) := by
    rw [hml]
    refine ⟨g1, _, hl, fun i v hi hv => ?_⟩
    obtain ⟨x, z1, z2⟩ := g3 i v hi hv
    rw [Nat.zero_add] at z1
    exact ⟨x, z1, z2⟩
  refine IH ws p l e _ s m vs.toArray below meth c _ q d 0 _ [] (h, nn, env, 0, 0) exs hFr (by omega) hrun ?_ s.heap [] ws _ [] ⟨⟨tys, hK, hC⟩, hP, hD, va_S.rf, hlen, hnn, hwf, he⟩ (abX.rf ws) hLok rfl
  intro x hxm hxp H locs u A xs hH hX hL hS
  obtain ⟨x1, x2, x3, x4⟩ := hxp
  obtain ⟨r1, r2⟩ := hroom x hxm
  obtain ⟨hE, hop⟩ := t3 q x.1 (by omega) x1
  obtain ⟨⟨tys', hK', hC'⟩, hP', hD', hSS', hn', h4', hwf', he'⟩ := hH
  refine W.widen r1 r2 ?_
  have post : ∀ (rv : Option Value) (t : State), xs = rv.toList → t.heap = H → s.WarmedH t.vm → abPost D z sb sl rh ws exs vs.toArray s (.returned rv) t := by
    intro rv t hxs ht hW
    refine ⟨⟨x, hxm, rv, u, rfl, by rw [← hxs]; exact hS, hX, ⟨tys', va_K.moved hW.alike hK', hC'⟩, by rw [ht]; exact hP', hD', hn', h4', hwf', he'⟩, hSS'.F ht⟩
  rcases (show ((abMe q).2.2.2.2.2.get x.1).1 = 82 ∨ ((abMe q).2.2.2.2.2.get x.1).1 = 83 ∨ ((abMe q).2.2.2.2.2.get x.1).1 = 84 ∨ ((abMe q).2.2.2.2.2.get x.1).1 = 85 by omega) with o | o | o | o
  · -- return
    generalize (abMe q).2.2.2.2.2.get x.1 = en at hE x1 x4 o
    obtain ⟨oo, pc', a1, a2, xx, ps⟩ := en
    have o' : oo = 82 := o
    subst o'
    have hpc : pc' = x.1 := x1
    subst hpc
    have hd := abEt_dec hE (show ¬ (82 : Nat) = 85 by decide) rfl
    have hrt := of_decide_eq_true (show decide (abRtT q = none) = true from hE.2.2)
    rw [hrt] at hr
    have x4' : (List.rec (some [(x.1, x.2.1, x.2.2.1, x.2.2.2)]) (fun _ _ _ => none) x.2.2.1 : abR) = some [x] := x4
    cases hst : x.2.2.1 with
    | cons v s' => rw [hst] at x4'; cases x4'
    | nil =>
      rw [hst] at hS
      have hxs : xs = [] := hS
      rw [hxs]
      exact W.vret hx hb hr (fun t ht hW => post none t hxs ht hW) hSS'.2.2 hd
  · -- ireturn
    generalize (abMe q).2.2.2.2.2.get x.1 = en at hE x1 x4 o
    obtain ⟨oo, pc', a1, a2, xx, ps⟩ := en
    have o' : oo = 83 := o
    subst o'
    have hpc : pc' = x.1 := x1
    subst hpc
    have hd := abEt_dec hE (show ¬ (83 : Nat) = 85 by decide) rfl
    obtain ⟨v, s', hst, h1⟩ := abHd_some (show abHd x.2.2.1 (fun v r => List.rec (abIf (Nat.beq 83 84) (abFtl x.2.2.2.2.2.1 v (some [(x.1, x.2.1, x.2.2.1, x.2.2.2)])) (abIf (Nat.beq a1 1) (abFtz x.2.2.2.2.2.1 v (some [(x.1, x.2.1, x.2.2.1, x.2.2.2)])) (abFti x.2.2.2.2.2.1 v (some [(x.1, x.2.1, x.2.2.1, x.2.2.2)])))) (fun _ _ _ => none) r) = some [x] from x4)
    cases s' with
    | cons a b => cases h1
    | nil =>
      have h2 : abIf (Nat.beq a1 1) (abFtz x.2.2.2.2.2.1 v (some [(x.1, x.2.1, x.2.2.1, x.2.2.2)])) (abFti x.2.2.2.2.2.1 v (some [(x.1, x.2.1, x.2.2.1, x.2.2.2)])) = some [x] := h1
      have hsmk : (if a1 = 1 then decide (abRtT q = some .boolean) else decide (abRtT q = some .int)) = true := hE.2.2
      rw [hst] at hS
      obtain ⟨y0, xr, hxs, gv, hnil⟩ := hS
      have hxr : xr = [] := hnil
      subst hxr
      cases q1 : Nat.beq a1 1 with
      | true =>
        rw [abIf_t q1] at h2
        rw [if_pos (abBeq q1)] at hsmk
        have hrt := of_decide_eq_true hsmk
        obtain ⟨-, n1, n2⟩ := abFtz_ok u sb sl rh _ v _ _ y0 .boolean h2 he' gv rfl
        obtain ⟨-, -, y, -, rfl, -, -, -, -⟩ := abWi0 h2 he' gv
        rw [hrt] at hr
        rw [hxs]
        exact W.zret (ty := .boolean) hx hb hr n1 (fun t ht hW => post (some (.int y)) t hxs ht hW) hSS'.2.2 hd
      | false =>
        rw [abIf_f q1] at h2
        rw [if_neg (abBeq_f q1)] at hsmk
        have hrt := of_decide_eq_true hsmk
        obtain ⟨y, rfl⟩ := abG_i gv (by have := abBle (abIf_some h2).1; omega)
        rw [hrt] at hr
        rw [hxs]
        exact W.iret hx hb hr (fun t ht hW => post (some (.int y)) t hxs ht hW) hSS'.2.2 hd
  · -- lreturn
    generalize (abMe q).2.2.2.2.2.get x.1 = en at hE x1 x4 o
    obtain ⟨oo, pc', a1, a2, xx, ps⟩ := en
    have o' : oo = 84 := o
    subst o'
    have hpc : pc' = x.1 := x1
    subst hpc
    have hd := abEt_dec hE (show ¬ (84 : Nat) = 85 by decide) rfl
    have hrt := of_decide_eq_true (show decide (abRtT q = some .long) = true from hE.2.2)
    obtain ⟨v, s', hst, h1⟩ := abHd_some (show abHd x.2.2.1 (fun v r => List.rec (abIf (Nat.beq 84 84) (abFtl x.2.2.2.2.2.1 v (some [(x.1, x.2.1, x.2.2.1, x.2.2.2)])) (abIf (Nat.beq a1 1) (abFtz x.2.2.2.2.2.1 v (some [(x.1, x.2.1, x.2.2.1, x.2.2.2)])) (abFti x.2.2.2.2.2.1 v (some [(x.1, x.2.1, x.2.2.1, x.2.2.2)])))) (fun _ _ _ => none) r) = some [x] from x4)
    cases s' with
    | cons a b => cases h1
    | nil =>
      have h2 : abFtl x.2.2.2.2.2.1 v (some [(x.1, x.2.1, x.2.2.1, x.2.2.2)]) = some [x] := h1
      rw [hst] at hS
      obtain ⟨y0, xr, hxs, gv, hnil⟩ := hS
      have hxr : xr = [] := hnil
      subst hxr
      obtain ⟨y, rfl⟩ := abG_l gv (by have := abDiv (abIf_some h2).1; omega)
      rw [hrt] at hr
      rw [hxs]
      exact W.lret hx hb hr (fun t ht hW => post (some (.long y)) t hxs ht hW) hSS'.2.2 hd
  · -- a stop is in the law alone
    have hk : abSmk q ((abMe q).2.2.2.2.2.get x.1) = true := hE.2.2
    generalize (abMe q).2.2.2.2.2.get x.1 = en at hk o
    obtain ⟨oo, pc', a1, a2, xx, ps⟩ := en
    have o' : oo = 85 := o
    subst o'
    have := of_decide_eq_true (show decide (abNM ≤ q) = true from hk)
    omega
end
section
theorem abSok_app {ws : va_W} {sb sl : Nat} {rh : Nat → Int} {rr : List abV} {rx : List Value} (h2 : abSok ws sb sl rh rr rx) : ∀ {st : List abV} {xs : List Value}, abSok ws sb sl rh st xs → abSok ws sb sl rh (st ++ rr) (xs ++ rx)
  | [], xs, h => by
    have e : xs = [] := h
    subst e
    exact h2
  | v :: st, _, h => by
    obtain ⟨x, xr, rfl, g, h'⟩ := h
    exact ⟨x, xr ++ rx, rfl, g, abSok_app h2 h'⟩
theorem abGo_ok {D : va_G} {z sb sl : Nat} {rh : Nat → Int} {xs0 : Nat → Int32} (hT : abTabs) {n : Nat} (IH : abRuns D z sb sl rh xs0 n) {w0 : va_W} {p : Program} {l : Launch} {ev : Env} {R : Room} {s : State} {m : MethodId} {args : Array Value} {below : List Frame} {meth : Method} {c : Code} {Q : State → Prop} {k d q pc : Nat} {ls as rr : List abV} {g : abSt} {r : List abF} (hF : abFr z sb sl rh xs0 k d p R s m args meth c) (hk : k < abNM + 3) (hq : q < abNM) (h : abGo (abRun n) d k (abMe k).2.2.2.2.2 q pc ls as rr g = some r) (hSd : abSd D z sb sl rh w0 p l ev R s m args below meth c Q (abMe k).2.2.2.2.2 r) {H : Heap} {locs : List Loc} {ws : va_W} {A : Array Slot} {vs rx xs : List Value} (hH : abHok D z sb sl rh s ws H locs g) (hX : abX w0 ws) (hL : abLok ws sb sl rh ls c.maxLocals A) (hvs : abSok ws sb sl rh as vs) (h7 : ∀ v ∈ as, v.1 ≤ 7) (hrx : abSok ws sb sl rh rr rx)
    (hrun : ∀ (d' : Nat) (exs : List abF), d = d' + 1 → Met l (abNm q) (abWs q) (abRoom q d') (va_Pc vs (abPre D z sb sl rh ws g.1)) (abPost D z sb sl rh ws exs) (abMe q).2.2.1 (abMe q).2.2.2.1 (fun a => z ≤ a) → (rx.map fun v => v.category).sum ≤ 8 → (g.2.2.2.1 + (abMe q).2.2.1 ≤ R.cells ∧ g.2.2.2.2 + (abMe q).2.2.2.1 ≤ R.slots) → va_Run p l ev R s m args below meth c H locs g.2.2.2.1 g.2.2.2.2 (abMe q).2.2.1 (abMe q).2.2.2.1 (F0 m pc A xs) rx (abPost D z sb sl rh ws exs vs.toArray) (fun a => z ≤ a)) : W p l ev R s m args below meth c H locs g.2.2.2.1 g.2.2.2.2 Q (F0 m pc A xs) := by
  obtain ⟨c1, h1⟩ := abIf_some h
  obtain ⟨c2, h2⟩ := abIf_some h1
  obtain ⟨c3, h3⟩ := abIf_some h2
  obtain ⟨c4, h4⟩ := abIf_some h3
  cases d with
  | zero => cases h4
  | succ d' =>
    obtain ⟨exs, e1, e2⟩ := abBd_ok (show abBd (abRun n d' q (abMe q).2.2.2.2.2 0 (abEn as (abMe q).1.2.2.1) [] (g.1, g.2.1, g.2.2.1, 0, 0)) (abAf (abRun n) (d' + 1) k (abMe k).2.2.2.2.2 q pc ls rr g) = some r from h4)
    obtain ⟨⟨tys, hK, hC⟩, hP, hD, hSS, hn, h4096, hwf, he⟩ := id hH
    have hF0 := hF
    obtain ⟨hx, hb, hml, hown, hts, hnm, hz, hR1, hR2, hR3, hR4, hlaw⟩ := hF
    have hM := abMet (D := D) (z := z) (sb := sb) (sl := sl) (rh := rh) hT IH l hq e1 hvs h7 (abBle c4) hn h4096 hwf he (fun x hx => by
      obtain ⟨r', q1, -⟩ := e2 x hx
      obtain ⟨q2, q3⟩ := abIf_some q1
      obtain ⟨q4, q5⟩ := abIf_some q3
      exact ⟨abBle q2, abBle q4⟩)
    have b2 := abBle c2
    have b3 := abBle c3
    refine abCallx (hrun d' exs rfl hM (Nat.le_trans (abSm_ok hrx) (abBle c1)) ⟨by omega, by omega⟩) (fun v s0 t L h0 hal hLf hpost => ?_)
    obtain ⟨⟨ex, hex, rv, u, hoc, hS', hXu, ⟨tys', hK', hC'⟩, hP', hD', hn', h4', hwf', he'⟩, hFr⟩ := hpost
    cases hoc
    obtain ⟨r', q1, q6⟩ := e2 ex hex
    obtain ⟨q2, q3⟩ := abIf_some q1
    obtain ⟨q4, q5⟩ := abIf_some q3
    refine IH w0 p l ev R s m args below meth c Q k (d' + 1) (pc + 3) ls (ex.2.2.1 ++ rr) (ex.2.2.2.1, ex.2.2.2.2.1, ex.2.2.2.2.2.1, g.2.2.2.1 + (abMe q).2.2.1, g.2.2.2.2 + (abMe q).2.2.2.1) r' hF0 hk q5 (fun x hx => hSd x (q6 x hx)) t.heap (locs ++ L) u A _ ⟨⟨tys', va_K.moved hal.symm hK', hC'⟩, hP', hD', ?_, hn', h4', hwf', he'⟩ (hX.tr hXu) (hL.mono hXu) (abSok_app (hrx.mono hXu) hS')
    rw [← h0] at hSS
    refine ⟨Nat.le_trans hSS.1 hFr.1, fun j h1 h2 => ?_, fun j hj => ?_⟩
    · rw [hFr.2 j (Nat.lt_of_lt_of_le h1 hSS.1) h2]
      exact hSS.2.1 j h1 h2
    · rcases List.mem_append.mp hj with w | w
      · exact hSS.2.2 j w
      · exact hLf j w
theorem abBlind {D : va_G} {z sb sl : Nat} {rh : Nat → Int} {ws : va_W} {h : abH} {vs : List Value} : FrameBlind (va_Pc vs (abPre D z sb sl rh ws h)) := fun a U gg mk q => by
  obtain ⟨q0, ⟨tys, q1, q2⟩, q3, q4, q5, q6⟩ := q
  exact ⟨q0, ⟨tys, va_K.moved (u := U) (U := U.calling gg mk a) (Vm.Alike.refl U.vm) q1, q2⟩, q3, q4, q5, fun q hq => va_Nw.same rfl rfl (q6 q hq)⟩
theorem abCl_ok {D : va_G} {z sb sl : Nat} {rh : Nat → Int} {xs0 : Nat → Int32} (hT : abTabs) {n : Nat} (IH : abRuns D z sb sl rh xs0 n) {w0 : va_W} {p : Program} {l : Launch} {ev : Env} {R : Room} {s : State} {m : MethodId} {args : Array Value} {below : List Frame} {meth : Method} {c : Code} {Q : State → Prop} {k d pc : Nat} {e : abEy} {ls st : List abV} {g : abSt} {r : List abF} (hF : abFr z sb sl rh xs0 k d p R s m args meth c) (hk : k < abNM + 3) (hE : abEtOk k e) (hpc : e.2.1 = pc) (ho : 78 ≤ e.1 ∧ e.1 ≤ 81) (h : abCl (abRun n) d k (abMe k).2.2.2.2.2 e pc ls st g = some r) (hSd : abSd D z sb sl rh w0 p l ev R s m args below meth c Q (abMe k).2.2.2.2.2 r) : abW D z sb sl rh w0 p l ev R s m args below meth c Q pc ls st g := by
  intro H locs ws A xs hH hX hL hS
  have hF0 := hF
  obtain ⟨hx, hb, hml, hown, hts, hnm, hz, hR1, hR2, hR3, hR4, hlaw⟩ := hF
  obtain ⟨o, pc', a1, a2, x, ps⟩ := e
  have hp : pc' = pc := hpc
  subst hp
  obtain ⟨⟨tys, hK, hC⟩, hP, hD, hSS, hn, h4096, hwf, he⟩ := id hH
  obtain ⟨as, rest, zs, rx, h1, rfl, hzl, hzs, hrest, h7⟩ := abTk_ok (abMe a1).2.1 [] st xs [] h hS rfl (fun v hv => by cases hv)
  rw [List.append_nil] at hzs
  have hAsz : A.size = c.maxLocals := by
    obtain ⟨l1, lv, l2, l3⟩ := hL
    exact l2.1
  have hG : ∀ q, q < abNM → GoodIn abTw (abWs q) := fun q hq w hw => by
    rcases List.mem_cons.mp hw with rfl | hw
    · exact ⟨abTaL (hT.1 q hq).2.1, good_of_word (hT.2.1 _ (hT.1 q hq).2.1)⟩
    · exact ⟨abTaL hw, good_of_word (hT.2.1 _ hw)⟩
  have pre : ∀ (vs : List Value) (U : State), U.heap = H → s.WarmedH U.vm → va_Pc vs (abPre D z sb sl rh ws g.1) vs.toArray U := fun vs U hU hW => ⟨rfl, ⟨tys, va_K.moved hW.alike hK, hC⟩, by rw [hU]; exact hP, hD, by rw [hU]; exact Nat.le_trans hz hSS.1, fun q hq => va_Nw.warmM hW (abTa_nest hts q hq)⟩
  have rm : ∀ (q d' : Nat), q < abNM → d = d' + 1 → (abRoom q d').frames + 1 ≤ R.frames ∧ 8 + ((abMe q).1.2.2.1 + 11) + (abRoom q d').locals ≤ R.locals := by
    intro q d' hq hd'
    have := (hT.1 q hq).2.2.2.2
    refine ⟨by show d' + 1 + 1 ≤ R.frames; omega, by show 8 + ((abMe q).1.2.2.1 + 11) + 60 * (d' + 1) ≤ R.locals; omega⟩
  have S : CallFix p m c (abBy k) c.maxLocals s args abTw (abOwn k) := ⟨hx, hb, rfl, hown, hts⟩
  rcases (show o = 78 ∨ o = 79 ∨ o = 80 ∨ o = 81 by have := ho.1; have := ho.2; simp only at *; omega) with rfl | rfl | rfl | rfl
  · have h2 : abHd rest (fun v r => abWr v fun j => abIf (Nat.beq (g.1.get j).1 (abMe a1).2.2.2.2.1) (abGo (abRun n) d k (abMe k).2.2.2.2.2 a1 pc' ls (v :: as) r g) none) = some r := h1
    obtain ⟨v, rr, rfl, h3⟩ := abHd_some h2
    obtain ⟨x0, xr, rfl, gv, hS'⟩ := hrest
    obtain ⟨a, en, h4, hj, rfl⟩ := abWr_ok h3 gv
    obtain ⟨h5, h6⟩ := abIf_some h4
    have hd := abEt_dec hE (show ¬ (78 : Nat) = 85 by decide) rfl
    have hsm : (decide (a1 < abNM) && decide ((abMe a1).2.2.2.2.1 < 90) && (match abCls[(abMe a1).2.2.2.2.1]? with | some q => decide (q.1 = abOwn a1) | none => false)) = true := hE.2.2
    obtain ⟨hsm1, hsm2⟩ := Bool.and_eq_true_iff.mp hsm
    obtain ⟨hsm3, hsm4⟩ := Bool.and_eq_true_iff.mp hsm1
    have hq := of_decide_eq_true hsm3
    have hco := of_decide_eq_true hsm4
    have hcell := hC v.2.1 (hH.lt hj)
    obtain ⟨a', fs, y, e1, e2, e3, e4, e5⟩ := hcell.2.1 (by rw [abBeq h5]; omega)
    rw [hj] at e1
    cases e1
    rw [← abBeq h5, e3] at hsm2
    have hyc := of_decide_eq_true hsm2
    refine abGo_ok hT IH hF0 hk hq h6 hSd hH hX hL (vs := .ref a :: zs) (rx := xr) ⟨_, _, rfl, gv, hzs⟩ (fun w hw => ?_) hS' (fun d' exs hd' hM hsum hroom => ?_)
    · rcases List.mem_cons.mp hw with rfl | hw
      · have := abBeq (abIf_some h3).1
        omega
      · exact h7 w hw
    · have hrecv := va_recv hK hP e3 hj
      rw [hyc] at hrecv
      exact va_runV (C := abOwn a1) (As := zs) (rest := xr) S hM ⟨callB_of (abMe a1).2.1 hts (hG a1 hq) rfl rfl rfl (hts _ (abTaL (hT.1 a1 hq).2.2.1)) (hts _ (hE.2.1 (.methodLink (abOwn k) x (abNm a1)) List.mem_cons_self)) (hT.1 a1 hq).2.2.2.1 (rm a1 d' hq hd'), hts _ (hE.2.1 (.instanceMethod (abNm a1)) (List.mem_cons_of_mem _ List.mem_cons_self)), hts _ (hE.2.1 (.selects (abOwn a1) (abNm a1) (abNm a1)) (List.mem_cons_of_mem _ (List.mem_cons_of_mem _ List.mem_cons_self)))⟩ ⟨abBlind, hrecv, fun U hU hW => pre (.ref a :: zs) U hU hW⟩ rfl hzl hAsz rfl (lv_room hsum) hd hroom
  · have h2 : abGo (abRun n) d k (abMe k).2.2.2.2.2 a1 pc' ls as rest g = some r := h1
    have hd := abEt_dec hE (show ¬ (79 : Nat) = 85 by decide) rfl
    have hq := of_decide_eq_true (show decide (a1 < abNM) = true from hE.2.2)
    refine abGo_ok hT IH hF0 hk hq h2 hSd hH hX hL (vs := zs) (rx := rx) hzs h7 hrest (fun d' exs hd' hM hsum hroom => ?_)
    exact va_runS (As := zs) (rest := rx) S hM ⟨callB_of (abMe a1).2.1 hts (hG a1 hq) rfl rfl rfl (hts _ (abTaL (hT.1 a1 hq).2.2.1)) (hts _ (hE.2.1 (.methodLink (abOwn k) x (abNm a1)) List.mem_cons_self)) (hT.1 a1 hq).2.2.2.1 (rm a1 d' hq hd'), hts _ (hE.2.1 (.static (abNm a1)) (List.mem_cons_of_mem _ List.mem_cons_self))⟩ ⟨abBlind, fun U hU hW => pre zs U hU hW⟩ rfl hzl hAsz rfl (lv_room hsum) hd hroom
  · have h2 : abHd rest (fun v r => abWr v fun j => abGo (abRun n) d k (abMe k).2.2.2.2.2 a1 pc' ls (v :: as) r g) = some r := h1
    obtain ⟨v, rr, rfl, h3⟩ := abHd_some h2
    obtain ⟨x0, xr, rfl, gv, hS'⟩ := hrest
    obtain ⟨a, en, h6, hj, rfl⟩ := abWr_ok h3 gv
    have hd := abEt_dec hE (show ¬ (80 : Nat) = 85 by decide) rfl
    have hsm : (decide (a1 < abNM) && decide ((abNm a1).name = "<init>") && decide (abRtT a1 = none)) = true := hE.2.2
    obtain ⟨hsm1, hsm2⟩ := Bool.and_eq_true_iff.mp hsm
    obtain ⟨hsm3, hsm4⟩ := Bool.and_eq_true_iff.mp hsm1
    have hq := of_decide_eq_true hsm3
    have hini := of_decide_eq_true hsm4
    have hrt := of_decide_eq_true hsm2
    refine abGo_ok hT IH hF0 hk hq h6 hSd hH hX hL (vs := .ref a :: zs) (rx := xr) ⟨_, _, rfl, gv, hzs⟩ (fun w hw => ?_) hS' (fun d' exs hd' hM hsum hroom => ?_)
    · rcases List.mem_cons.mp hw with rfl | hw
      · have := abBeq (abIf_some h3).1
        omega
      · exact h7 w hw
    · exact va_runI (As := zs) (rest := xr) S hM ⟨callB_of (bytes := abBy a1) (maxL := (abMe a1).1.2.2.1) (abMe a1).2.1 hts (hG a1 hq) (by unfold abWs; rw [hrt]) rfl rfl (hts _ (abTaL (hT.1 a1 hq).2.2.1)) (hts _ (hE.2.1 (.methodLink (abOwn k) x (abNm a1)) List.mem_cons_self)) (hT.1 a1 hq).2.2.2.1 (rm a1 d' hq hd'), hini, hts _ (hE.2.1 (.instanceMethod (abNm a1)) (List.mem_cons_of_mem _ List.mem_cons_self))⟩ ⟨abBlind, fun U hU hW => pre (.ref a :: zs) U hU hW⟩ rfl hzl hAsz rfl (lv_room hsum) hd hroom
  · have h2 : abHd rest (fun v r => abWr v fun j => abGo (abRun n) d k (abMe k).2.2.2.2.2 a1 pc' ls (v :: as) r g) = some r := h1
    obtain ⟨v, rr, rfl, h3⟩ := abHd_some h2
    obtain ⟨x0, xr, rfl, gv, hS'⟩ := hrest
    obtain ⟨a, en, h6, hj, rfl⟩ := abWr_ok h3 gv
    have hd := abEt_dec hE (show ¬ (81 : Nat) = 85 by decide) rfl
    have hsm : (decide (a1 < abNM) && decide ((abNm a1).name = "<init>") && decide (abRtT a1 = none)) = true := hE.2.2
    obtain ⟨hsm1, hsm2⟩ := Bool.and_eq_true_iff.mp hsm
    obtain ⟨hsm3, hsm4⟩ := Bool.and_eq_true_iff.mp hsm1
    have hq := of_decide_eq_true hsm3
    have hini := of_decide_eq_true hsm4
    have hrt := of_decide_eq_true hsm2
    refine abGo_ok hT IH hF0 hk hq h6 hSd hH hX hL (vs := .ref a :: zs) (rx := xr) ⟨_, _, rfl, gv, hzs⟩ (fun w hw => ?_) hS' (fun d' exs hd' hM hsum hroom => ?_)
    · rcases List.mem_cons.mp hw with rfl | hw
      · have := abBeq (abIf_some h3).1
        omega
      · exact h7 w hw
    · exact va_runIN (As := zs) (rest := xr) (host := "TallBins") S hM ⟨va_cnB (bytes := abBy a1) (maxL := (abMe a1).1.2.2.1) (abMe a1).2.1 hts (hG a1 hq) (by unfold abWs; rw [hrt]) rfl rfl (hts _ (hE.2.1 (.methodLinkNest (abOwn k) x (abNm a1) "TallBins") List.mem_cons_self)) (hts _ (abTaL (hT.1 a1 hq).2.2.1)) (hT.1 a1 hq).2.2.2.1 (rm a1 d' hq hd'), hini, hts _ (hE.2.1 (.instanceMethod (abNm a1)) (List.mem_cons_of_mem _ List.mem_cons_self))⟩ ⟨abBlind, fun U hU hW => pre (.ref a :: zs) U hU hW⟩ rfl hzl hAsz rfl (lv_room hsum) hd hroom
theorem abRun_ok {D : va_G} {z sb sl : Nat} {rh : Nat → Int} {xs0 : Nat → Int32} (hT : abTabs) : ∀ n, abRuns D z sb sl rh xs0 n
  | 0 => by
    intro w0 p l ev R s m args below meth c Q k d pc ls st g r hF hk h hSd
    cases h
  | n + 1 => by
    have IH := abRun_ok (D := D) (z := z) (sb := sb) (sl := sl) (rh := rh) (xs0 := xs0) hT n
    intro w0 p l ev R s m args below meth c Q k d pc ls st g r hF hk h hSd
    obtain ⟨q0, h0⟩ := abIf_some (show abIf (Nat.beq ((abMe k).2.2.2.2.2.get pc).2.1 pc) (abIf (Nat.ble 78 ((abMe k).2.2.2.2.2.get pc).1) (abIf (Nat.ble ((abMe k).2.2.2.2.2.get pc).1 81) (abCl (abRun n) d k (abMe k).2.2.2.2.2 ((abMe k).2.2.2.2.2.get pc) pc ls st g) (abIf (Nat.ble ((abMe k).2.2.2.2.2.get pc).1 85) (abRt ((abMe k).2.2.2.2.2.get pc) pc ls st g) ((abOps.get ((abMe k).2.2.2.2.2.get pc).1) (abRun n d k (abMe k).2.2.2.2.2) k ((abMe k).2.2.2.2.2.get pc) pc ls st g)))
    ((abOps.get ((abMe k).2.2.2.2.2.get pc).1) (abRun n d k (abMe k).2.2.2.2.2) k ((abMe k).2.2.2.2.2.get pc) pc ls st g)) none = some r from h)
    have hpc := abBeq q0
    obtain ⟨hE, hop⟩ := hT.2.2 k pc hk hpc
    have plain : (abOps.get ((abMe k).2.2.2.2.2.get pc).1) (abRun n d k (abMe k).2.2.2.2.2) k ((abMe k).2.2.2.2.2.get pc) pc ls st g = some r → abW D z sb sl rh w0 p l ev R s m args below meth c Q pc ls st g := fun hh => abOps_ok hop D z sb sl rh xs0 w0 p l ev R s m args below meth c Q k d _ _ pc ls st g r hF hE rfl hpc (fun pc' ls' st' g' r' hr hs => IH w0 p l ev R s m args below meth c Q k d pc' ls' st' g' r' hF hk hr (fun x hx => hSd x (hs x hx))) hh
    cases q1 : Nat.ble 78 ((abMe k).2.2.2.2.2.get pc).1 with
    | false => rw [abIf_f q1] at h0; exact plain h0
    | true =>
      rw [abIf_t q1] at h0
      cases q2 : Nat.ble ((abMe k).2.2.2.2.2.get pc).1 81 with
      | true =>
        rw [abIf_t q2] at h0
        exact abCl_ok hT IH hF hk hE hpc ⟨abBle q1, abBle q2⟩ h0 hSd
      | false =>
        rw [abIf_f q2] at h0
        cases q3 : Nat.ble ((abMe k).2.2.2.2.2.get pc).1 85 with
        | false => rw [abIf_f q3] at h0; exact plain h0
        | true =>
          rw [abIf_t q3] at h0
          have er := abRt_eq h0
          subst er
          exact hSd (pc, ls, st, g) List.mem_cons_self ⟨hpc, by have := abBle_f q2; show 82 ≤ ((abMe k).2.2.2.2.2.get pc).1; omega, abBle q3, h0⟩
end
section
/-! THE TABLES ARE RIGHT: each entry against the bytes and the words of the Statement -/
noncomputable def abLi {al : Type} (l : List al) : Nat → Option al := List.rec (motive := fun _ => Nat → Option al) (fun _ => none) (fun h _ ih i => Nat.rec (some h) (fun n _ => ih n) i) l
theorem abLi_mem {al : Type} : ∀ {l : List al} {i : Nat} {w : al}, abLi l i = some w → w ∈ l
  | [], _, _, h => by cases h
  | _ :: _, 0, _, h => by cases h; exact List.mem_cons_self
  | _ :: l, i + 1, _, h => List.mem_cons_of_mem _ (abLi_mem (l := l) (i := i) h)
noncomputable def abWc1 (w : Jvm.Cond) (i : Nat) : Bool := (decide (abLi lw_tbl i = some w) && goodWord w) || decide (w ∈ abNw)
theorem abWc1_ok {w : Jvm.Cond} {i : Nat} (h : abWc1 w i = true) : w ∈ abTw := by
  rcases Bool.or_eq_true_iff.mp h with q | q
  · obtain ⟨h1, h2⟩ := Bool.and_eq_true_iff.mp q
    exact abTaT (abLi_mem (of_decide_eq_true h1)) h2
  · exact List.mem_append.mpr (Or.inr (of_decide_eq_true q))
noncomputable def abWck (ws : List Jvm.Cond) : List Nat → Bool := List.rec (motive := fun _ => List Nat → Bool) (fun _ => true) (fun w _ ih is => List.rec false (fun i is' _ => abIf (abWc1 w i) (ih is') false) is) ws
theorem abWck_ok : ∀ {ws : List Jvm.Cond} {is : List Nat}, abWck ws is = true → ∀ w ∈ ws, w ∈ abTw
  | [], _, _, _, h => by cases h
  | w :: ws, [], h, _, _ => by cases h
  | w :: ws, i :: is, h, v, hv => by
    have h' : abIf (abWc1 w i) (abWck ws is) false = true := h
    cases q : abWc1 w i with
    | false => rw [abIf_f q] at h'; cases h'
    | true =>
      rw [abIf_t q] at h'
      rcases List.mem_cons.mp hv with rfl | hv
      · exact abWc1_ok q
      · exact abWck_ok h' v hv
noncomputable def abEtb (k : Nat) (e : abEy) : Bool :=
  (decide (e.1 = 85) || (match abIns e with | some i => decide (decode (abBy k) e.2.1 = .ok i) | none => false)) && abWck (abWds k e) e.2.2.2.2.2 && abSmk k e && decide (e.1 < 88)
theorem abEtb_ok {k : Nat} {e : abEy} (h : abEtb k e = true) : abEtOk k e ∧ e.1 < 88 := by
  obtain ⟨h1, h2⟩ := Bool.and_eq_true_iff.mp h
  obtain ⟨h3, h4⟩ := Bool.and_eq_true_iff.mp h1
  obtain ⟨h5, h6⟩ := Bool.and_eq_true_iff.mp h3
  refine ⟨⟨?_, abWck_ok h6, h4⟩, of_decide_eq_true h2⟩
  rcases Bool.or_eq_true_iff.mp h5 with q | q
  · exact Or.inl (of_decide_eq_true q)
  · cases hi : abIns e with
    | none => rw [hi] at q; cases q
    | some i =>
      rw [hi] at q
      exact Or.inr ⟨i, rfl, of_decide_eq_true q⟩
/-- the entries of a method between two places -/
noncomputable def abTrr (k lo hi : Nat) (t : Lean.RArray abEy) : Bool := Lean.RArray.rec (fun e => abIf (Nat.ble lo e.2.1) (abIf (Nat.ble (e.2.1 + 1) hi) (abEtb k e) true) true) (fun _ _ _ a b => abIf a b false) t
theorem abTrr_ok {k lo hi : Nat} : ∀ {t : Lean.RArray abEy}, abTrr k lo hi t = true → ∀ pc : Nat, lo ≤ (t.get pc).2.1 → (t.get pc).2.1 < hi → abEtOk k (t.get pc) ∧ (t.get pc).1 < 88
  | .leaf e, h, pc, h1, h2 => by
    have h' : abIf (Nat.ble lo e.2.1) (abIf (Nat.ble (e.2.1 + 1) hi) (abEtb k e) true) true = true := h
    rw [abIf_t (abBle_t h1), abIf_t (abBle_t h2)] at h'
    exact abEtb_ok h'
  | .branch p l r, h, pc, h1, h2 => by
    have h' : abIf (abTrr k lo hi l) (abTrr k lo hi r) false = true := h
    cases q : abTrr k lo hi l with
    | false => rw [abIf_f q] at h'; cases h'
    | true =>
      rw [abIf_t q] at h'
      cases hb : Nat.ble p pc with
      | true =>
        rw [abGet_b1 hb] at h1 h2 ⊢
        exact abTrr_ok h' pc h1 h2
      | false =>
        rw [abGet_b0 hb] at h1 h2 ⊢
        exact abTrr_ok q pc h1 h2
/-- the entries of a method from a place on -/
noncomputable def abTru (k lo : Nat) (t : Lean.RArray abEy) : Bool := Lean.RArray.rec (fun e => abIf (Nat.ble lo e.2.1) (abEtb k e) true) (fun _ _ _ a b => abIf a b false) t
theorem abTru_ok {k lo : Nat} : ∀ {t : Lean.RArray abEy}, abTru k lo t = true → ∀ pc : Nat, lo ≤ (t.get pc).2.1 → abEtOk k (t.get pc) ∧ (t.get pc).1 < 88
  | .leaf e, h, pc, h1 => by
    have h' : abIf (Nat.ble lo e.2.1) (abEtb k e) true = true := h
    rw [abIf_t (abBle_t h1)] at h'
    exact abEtb_ok h'
  | .branch p l r, h, pc, h1 => by
    have h' : abIf (abTru k lo l) (abTru k lo r) false = true := h
    cases q : abTru k lo l with
    | false => rw [abIf_f q] at h'; cases h'
    | true =>
      rw [abIf_t q] at h'
      cases hb : Nat.ble p pc with
      | true =>
        rw [abGet_b1 hb] at h1 ⊢
        exact abTru_ok h' pc h1
      | false =>
        rw [abGet_b0 hb] at h1 ⊢
        exact abTru_ok q pc h1
/-- the methods between a and a + n -/
noncomputable def abTrs (a n : Nat) : Bool := Nat.rec true (fun n ih => abIf (abTru (a + n) 0 (abMe (a + n)).2.2.2.2.2) ih false) n
theorem abTrs_ok {a : Nat} : ∀ {n : Nat}, abTrs a n = true → ∀ k, a ≤ k → k < a + n → abTru k 0 (abMe k).2.2.2.2.2 = true
  | 0, _, k, h1, h2 => absurd h1 (by omega)
  | n + 1, h, k, h1, h2 => by
    have h' : abIf (abTru (a + n) 0 (abMe (a + n)).2.2.2.2.2) (abTrs a n) false = true := h
    cases q : abTru (a + n) 0 (abMe (a + n)).2.2.2.2.2 with
    | false => rw [abIf_f q] at h'; cases h'
    | true =>
      rw [abIf_t q] at h'
      by_cases e : k = a + n
      · rw [e]; exact q
      · exact abTrs_ok h' k h1 (by omega)
/-- where a method's own words stand -/
noncomputable def abMkb (q pc pi : Nat) : Bool := plainName (abNm q).cls && decide (abLi lw_tbl pc = some (Jvm.Cond.code (abNm q) (abBy q) (abMe q).1.2.2.1 (abRtT q))) && decide (abLi lw_tbl pi = some (Jvm.Cond.initialized (abNm q).cls)) && decide ((abNm q).cls ≠ "java/lang/invoke/MethodHandle") && decide ((abNm q).cls ≠ "java/lang/invoke/VarHandle") && decide ((parseMethodDescriptor (abNm q).desc).map (fun d => d.parameters.length) = some (abMe q).2.1) && decide ((abMe q).1.2.2.1 ≤ 41) && goodWord (Jvm.Cond.code (abNm q) (abBy q) (abMe q).1.2.2.1 (abRtT q)) && goodWord (Jvm.Cond.initialized (abNm q).cls)
theorem abMkb_ok {q pc pi : Nat} (h : abMkb q pc pi = true) : abMok q := by
  obtain ⟨h9, g9⟩ := Bool.and_eq_true_iff.mp h
  obtain ⟨h8, g8⟩ := Bool.and_eq_true_iff.mp h9
  obtain ⟨h1, g7⟩ := Bool.and_eq_true_iff.mp h8
  obtain ⟨h2, g6⟩ := Bool.and_eq_true_iff.mp h1
  obtain ⟨h3, g5⟩ := Bool.and_eq_true_iff.mp h2
  obtain ⟨h4, g4⟩ := Bool.and_eq_true_iff.mp h3
  obtain ⟨h5, g3⟩ := Bool.and_eq_true_iff.mp h4
  obtain ⟨g1, g2⟩ := Bool.and_eq_true_iff.mp h5
  exact ⟨g1, List.mem_filter.mpr ⟨abLi_mem (of_decide_eq_true g2), g8⟩, List.mem_filter.mpr ⟨abLi_mem (of_decide_eq_true g3), g9⟩, ⟨of_decide_eq_true g4, of_decide_eq_true g5, of_decide_eq_true g6⟩, of_decide_eq_true g7⟩
noncomputable def abMks (a : Nat) (l : List (Nat × Nat)) : Bool := List.rec (motive := fun _ => Nat → Bool) (fun _ => true) (fun h _ ih q => abIf (abMkb q h.1 h.2) (ih (q + 1)) false) l a
theorem abMks_ok : ∀ {l : List (Nat × Nat)} {a : Nat}, abMks a l = true → ∀ q, a ≤ q → q < a + l.length → abMok q
  | [], a, _, q, h1, h2 => absurd h1 (by simp at h2; omega)
  | x :: l, a, h, q, h1, h2 => by
    have h' : abIf (abMkb a x.1 x.2) (abMks (a + 1) l) false = true := h
    cases z : abMkb a x.1 x.2 with
    | false => rw [abIf_f z] at h'; cases h'
    | true =>
      rw [abIf_t z] at h'
      by_cases e : q = a
      · rw [e]; exact abMkb_ok z
      · exact abMks_ok h' q (by omega) (by simp at h2; omega)
end
section
/-! methods -/
set_option maxRecDepth 100000 in
theorem abMa0 : abMks 0 [(108, 84), (116, 85), (122, 86), (128, 87), (159, 86), (163, 87)] = true := by decide +kernel
set_option maxRecDepth 100000 in
theorem abMa6 : abMks 6 [(262, 88), (272, 89), (287, 90), (295, 91), (300, 91), (310, 92)] = true := by decide +kernel
set_option maxRecDepth 100000 in
theorem abMa12 : abMks 12 [(439, 93), (460, 94), (497, 95), (571, 84), (575, 84), (579, 84)] = true := by decide +kernel
set_option maxRecDepth 100000 in
theorem abMa18 : abMks 18 [(583, 84), (587, 88), (591, 90), (595, 85), (603, 85), (606, 85)] = true := by decide +kernel
set_option maxRecDepth 100000 in
theorem abMa24 : abMks 24 [(609, 85), (612, 85), (617, 85), (622, 85), (677, 85), (681, 85)] = true := by decide +kernel
set_option maxRecDepth 100000 in
theorem abMa30 : abMks 30 [(685, 85), (689, 85), (694, 85), (701, 85), (708, 85), (715, 86)] = true := by decide +kernel
set_option maxRecDepth 100000 in
theorem abMa36 : abMks 36 [(719, 85), (723, 85), (728, 85), (738, 87), (742, 85), (747, 87)] = true := by decide +kernel
set_option maxRecDepth 100000 in
theorem abMa42 : abMks 42 [(751, 88), (755, 86), (762, 87), (768, 84), (772, 84), (776, 84)] = true := by decide +kernel
set_option maxRecDepth 100000 in
theorem abMa48 : abMks 48 [(780, 84), (784, 84), (793, 90), (797, 90), (801, 90), (806, 92)] = true := by decide +kernel
set_option maxRecDepth 100000 in
theorem abMa54 : abMks 54 [(810, 88), (814, 89), (818, 89), (823, 84), (826, 84), (830, 93)] = true := by decide +kernel
set_option maxRecDepth 100000 in
theorem abMa60 : abMks 60 [(834, 93), (838, 93), (842, 84), (847, 88), (851, 86), (855, 92)] = true := by decide +kernel
set_option maxRecDepth 100000 in
theorem abMa66 : abMks 66 [(859, 92), (869, 84), (873, 92), (877, 88), (882, 90), (886, 90)] = true := by decide +kernel
set_option maxRecDepth 100000 in
theorem abMa72 : abMks 72 [(890, 92), (894, 92), (901, 92), (905, 92), (910, 90), (914, 90)] = true := by decide +kernel
set_option maxRecDepth 100000 in
theorem abMa78 : abMks 78 [(918, 84), (922, 86), (927, 84), (931, 90), (935, 84), (939, 94)] = true := by decide +kernel
set_option maxRecDepth 100000 in
theorem abMa84 : abMks 84 [(943, 94), (948, 90), (953, 88), (956, 94), (960, 94), (964, 94)] = true := by decide +kernel
set_option maxRecDepth 100000 in
theorem abMa90 : abMks 90 [(969, 84), (973, 84), (978, 92), (983, 84), (987, 84), (991, 84)] = true := by decide +kernel
end
section
/-! methods -/
set_option maxRecDepth 100000 in
theorem abMa96 : abMks 96 [(995, 88), (1000, 88), (1004, 90), (1008, 90), (1012, 84), (1016, 88)] = true := by decide +kernel
set_option maxRecDepth 100000 in
theorem abMa102 : abMks 102 [(1022, 84), (1026, 84), (1029, 84), (1033, 88), (1037, 90), (1041, 86)] = true := by decide +kernel
set_option maxRecDepth 100000 in
theorem abMa108 : abMks 108 [(1047, 90), (1055, 90), (1060, 90), (1064, 90), (1068, 84), (1074, 84)] = true := by decide +kernel
set_option maxRecDepth 100000 in
theorem abMa114 : abMks 114 [(1079, 84), (1083, 90), (1087, 92), (1092, 91), (1098, 84), (1102, 91)] = true := by decide +kernel
set_option maxRecDepth 100000 in
theorem abMa120 : abMks 120 [(1106, 84), (1110, 91), (1114, 91), (1122, 91), (1129, 84), (1133, 91)] = true := by decide +kernel
set_option maxRecDepth 100000 in
theorem abMa126 : abMks 126 [(1137, 84), (1141, 90), (1146, 84), (1149, 84), (1153, 88), (1157, 87)] = true := by decide +kernel
set_option maxRecDepth 100000 in
theorem abMa132 : abMks 132 [(1161, 87), (1165, 87), (1168, 87), (1172, 90), (1177, 90), (1181, 84)] = true := by decide +kernel
set_option maxRecDepth 100000 in
theorem abMa138 : abMks 138 [(1185, 84), (1189, 84), (1193, 84), (1197, 95), (1203, 90), (1207, 95)] = true := by decide +kernel
set_option maxRecDepth 100000 in
theorem abMa144 : abMks 144 [(1211, 95), (1215, 95), (1221, 84), (1225, 84), (1230, 84), (1234, 89)] = true := by decide +kernel
set_option maxRecDepth 100000 in
theorem abMa150 : abMks 150 [(1239, 84), (1243, 88), (1247, 90), (1251, 88), (1255, 84), (1260, 86)] = true := by decide +kernel
set_option maxRecDepth 100000 in
theorem abMa156 : abMks 156 [(1264, 84), (1268, 88), (1272, 88), (1276, 88), (1283, 84), (1287, 84)] = true := by decide +kernel
set_option maxRecDepth 100000 in
theorem abMa162 : abMks 162 [(1291, 88), (1296, 89), (1302, 84), (1306, 84), (1310, 93), (1314, 84)] = true := by decide +kernel
set_option maxRecDepth 100000 in
theorem abMa168 : abMks 168 [(1318, 93), (1322, 84), (1326, 93), (1332, 96), (1336, 96), (1339, 96)] = true := by decide +kernel
set_option maxRecDepth 100000 in
theorem abMa174 : abMks 174 [(1343, 96), (1470, 96), (1474, 96), (1478, 96), (1482, 96), (1486, 96)] = true := by decide +kernel
set_option maxRecDepth 100000 in
theorem abMa180 : abMks 180 [(1490, 96), (1494, 96), (1497, 96), (1501, 96), (1505, 96), (1509, 96)] = true := by decide +kernel
set_option maxRecDepth 100000 in
theorem abMa186 : abMks 186 [(1519, 96), (1523, 96), (1528, 96), (1537, 96), (1541, 96), (1545, 96)] = true := by decide +kernel
end
section
/-! methods -/
set_option maxRecDepth 100000 in
theorem abMa192 : abMks 192 [(1550, 96), (1555, 96), (1562, 96), (1570, 96), (1574, 96), (1579, 96)] = true := by decide +kernel
set_option maxRecDepth 100000 in
theorem abMa198 : abMks 198 [(1589, 96), (1597, 96), (1601, 96), (1605, 96), (1609, 96), (1618, 96)] = true := by decide +kernel
set_option maxRecDepth 100000 in
theorem abMa204 : abMks 204 [(1622, 96), (1628, 96), (1631, 96), (1638, 96), (1642, 96), (1646, 96)] = true := by decide +kernel
set_option maxRecDepth 100000 in
theorem abMa210 : abMks 210 [(1650, 96), (1655, 96), (1659, 96), (1663, 96), (1667, 96), (1671, 96)] = true := by decide +kernel
set_option maxRecDepth 100000 in
theorem abMa216 : abMks 216 [(1676, 96), (1680, 96), (1684, 96), (1688, 96), (1692, 96), (1698, 96)] = true := by decide +kernel
set_option maxRecDepth 100000 in
theorem abMa222 : abMks 222 [(1702, 96), (1707, 96), (1711, 96), (1715, 96), (1719, 96), (1723, 96)] = true := by decide +kernel
set_option maxRecDepth 100000 in
theorem abMa228 : abMks 228 [(1730, 96), (1734, 96), (1738, 96), (1742, 96), (1746, 96), (1750, 96)] = true := by decide +kernel
set_option maxRecDepth 100000 in
theorem abMa234 : abMks 234 [(1762, 96), (1768, 96), (1772, 96), (1776, 96), (1780, 96), (1784, 96)] = true := by decide +kernel
set_option maxRecDepth 100000 in
theorem abMa240 : abMks 240 [(1788, 96), (1792, 96), (1797, 96), (1801, 96), (1805, 96), (1810, 96)] = true := by decide +kernel
set_option maxRecDepth 100000 in
theorem abMa246 : abMks 246 [(1814, 96), (1818, 96), (1822, 96), (1826, 96), (1830, 96), (1834, 96)] = true := by decide +kernel
set_option maxRecDepth 100000 in
theorem abMa252 : abMks 252 [(1838, 96), (1842, 96), (1846, 96), (1850, 96), (1854, 96), (1859, 96)] = true := by decide +kernel
set_option maxRecDepth 100000 in
theorem abMa258 : abMks 258 [(1863, 96), (1867, 96), (1871, 96), (1875, 96), (1879, 96), (1883, 96)] = true := by decide +kernel
set_option maxRecDepth 100000 in
theorem abMa264 : abMks 264 [(1887, 96), (1892, 96), (1896, 96), (1899, 96), (1903, 96), (599, 97)] = true := by decide +kernel
set_option maxRecDepth 100000 in
theorem abMa270 : abMks 270 [(862, 97), (865, 97), (897, 97), (1051, 103), (1117, 97), (1758, 97)] = true := by decide +kernel
end
section
/-! entries -/
set_option maxRecDepth 100000 in
theorem abTq0 : abTrs 0 2 = true := by decide +kernel
set_option maxRecDepth 100000 in
theorem abTq2 : abTrs 2 2 = true := by decide +kernel
set_option maxRecDepth 100000 in
theorem abTq4 : abTrs 4 4 = true := by decide +kernel
set_option maxRecDepth 100000 in
theorem abTq8 : abTrs 8 6 = true := by decide +kernel
set_option maxRecDepth 100000 in
theorem abTq14 : abTrs 14 4 = true := by decide +kernel
set_option maxRecDepth 100000 in
theorem abTq18 : abTrs 18 4 = true := by decide +kernel
set_option maxRecDepth 100000 in
theorem abTq22 : abTrs 22 1 = true := by decide +kernel
set_option maxRecDepth 100000 in
theorem abTq23 : abTrs 23 4 = true := by decide +kernel
set_option maxRecDepth 100000 in
theorem abTq27 : abTrs 27 3 = true := by decide +kernel
set_option maxRecDepth 100000 in
theorem abTq30 : abTrs 30 4 = true := by decide +kernel
set_option maxRecDepth 100000 in
theorem abTq34 : abTrs 34 3 = true := by decide +kernel
set_option maxRecDepth 100000 in
theorem abTq37 : abTrs 37 2 = true := by decide +kernel
end
section
/-! entries -/
set_option maxRecDepth 100000 in
theorem abTq39 : abTrs 39 3 = true := by decide +kernel
set_option maxRecDepth 100000 in
theorem abTq42 : abTrs 42 1 = true := by decide +kernel
set_option maxRecDepth 100000 in
theorem abTq43 : abTrs 43 1 = true := by decide +kernel
set_option maxRecDepth 100000 in
theorem abTq44 : abTrs 44 3 = true := by decide +kernel
set_option maxRecDepth 100000 in
theorem abTq47 : abTrs 47 2 = true := by decide +kernel
set_option maxRecDepth 100000 in
theorem abTq49 : abTrs 49 5 = true := by decide +kernel
set_option maxRecDepth 100000 in
theorem abTq54 : abTrs 54 3 = true := by decide +kernel
set_option maxRecDepth 100000 in
theorem abTq57 : abTrs 57 6 = true := by decide +kernel
set_option maxRecDepth 100000 in
theorem abTq63 : abTrs 63 4 = true := by decide +kernel
set_option maxRecDepth 100000 in
theorem abTq67 : abTrs 67 3 = true := by decide +kernel
set_option maxRecDepth 100000 in
theorem abTq70 : abTrs 70 2 = true := by decide +kernel
set_option maxRecDepth 100000 in
theorem abTq72 : abTrs 72 1 = true := by decide +kernel
end
section
/-! entries -/
set_option maxRecDepth 100000 in
theorem abTq73 : abTrs 73 3 = true := by decide +kernel
set_option maxRecDepth 100000 in
theorem abTq76 : abTrs 76 4 = true := by decide +kernel
set_option maxRecDepth 100000 in
theorem abTq80 : abTrs 80 1 = true := by decide +kernel
set_option maxRecDepth 100000 in
theorem abTq81 : abTrs 81 3 = true := by decide +kernel
set_option maxRecDepth 100000 in
theorem abTq84 : abTrs 84 3 = true := by decide +kernel
set_option maxRecDepth 100000 in
theorem abTq87 : abTrs 87 3 = true := by decide +kernel
set_option maxRecDepth 100000 in
theorem abTq90 : abTrs 90 4 = true := by decide +kernel
set_option maxRecDepth 100000 in
theorem abTq94 : abTrs 94 6 = true := by decide +kernel
set_option maxRecDepth 100000 in
theorem abTq100 : abTrs 100 5 = true := by decide +kernel
set_option maxRecDepth 100000 in
theorem abTq105 : abTrs 105 1 = true := by decide +kernel
set_option maxRecDepth 100000 in
theorem abTq106 : abTrs 106 2 = true := by decide +kernel
set_option maxRecDepth 100000 in
theorem abTq108 : abTrs 108 3 = true := by decide +kernel
end
section
/-! entries -/
set_option maxRecDepth 100000 in
theorem abTq111 : abTrs 111 3 = true := by decide +kernel
set_option maxRecDepth 100000 in
theorem abTq114 : abTrs 114 3 = true := by decide +kernel
set_option maxRecDepth 100000 in
theorem abTq117 : abTrs 117 5 = true := by decide +kernel
set_option maxRecDepth 100000 in
theorem abTq122 : abTrs 122 4 = true := by decide +kernel
set_option maxRecDepth 100000 in
theorem abTq126 : abTrs 126 3 = true := by decide +kernel
set_option maxRecDepth 100000 in
theorem abTq129 : abTrs 129 4 = true := by decide +kernel
set_option maxRecDepth 100000 in
theorem abTq133 : abTrs 133 3 = true := by decide +kernel
set_option maxRecDepth 100000 in
theorem abTq136 : abTrs 136 5 = true := by decide +kernel
set_option maxRecDepth 100000 in
theorem abTq141 : abTrs 141 2 = true := by decide +kernel
set_option maxRecDepth 100000 in
theorem abTq143 : abTrs 143 2 = true := by decide +kernel
set_option maxRecDepth 100000 in
theorem abTq145 : abTrs 145 2 = true := by decide +kernel
set_option maxRecDepth 100000 in
theorem abTq147 : abTrs 147 3 = true := by decide +kernel
end
section
/-! entries -/
set_option maxRecDepth 100000 in
theorem abTq150 : abTrs 150 4 = true := by decide +kernel
set_option maxRecDepth 100000 in
theorem abTq154 : abTrs 154 3 = true := by decide +kernel
set_option maxRecDepth 100000 in
theorem abTq157 : abTrs 157 5 = true := by decide +kernel
set_option maxRecDepth 100000 in
theorem abTq162 : abTrs 162 3 = true := by decide +kernel
set_option maxRecDepth 100000 in
theorem abTq165 : abTrs 165 4 = true := by decide +kernel
set_option maxRecDepth 100000 in
theorem abTq169 : abTrs 169 2 = true := by decide +kernel
set_option maxRecDepth 100000 in
theorem abTq171 : abTrs 171 1 = true := by decide +kernel
set_option maxRecDepth 100000 in
theorem abTq172 : abTrs 172 5 = true := by decide +kernel
set_option maxRecDepth 100000 in
theorem abTq177 : abTrs 177 2 = true := by decide +kernel
set_option maxRecDepth 100000 in
theorem abTq179 : abTrs 179 1 = true := by decide +kernel
set_option maxRecDepth 100000 in
theorem abTq180 : abTrs 180 1 = true := by decide +kernel
set_option maxRecDepth 100000 in
theorem abTq181 : abTrs 181 3 = true := by decide +kernel
end
section
/-! entries -/
set_option maxRecDepth 100000 in
theorem abTq184 : abTrs 184 1 = true := by decide +kernel
set_option maxRecDepth 100000 in
theorem abTq185 : abTrs 185 2 = true := by decide +kernel
set_option maxRecDepth 100000 in
theorem abTq187 : abTrs 187 1 = true := by decide +kernel
set_option maxRecDepth 100000 in
theorem abTq188 : abTrs 188 3 = true := by decide +kernel
set_option maxRecDepth 100000 in
theorem abTq191 : abTrs 191 2 = true := by decide +kernel
set_option maxRecDepth 100000 in
theorem abTq193 : abTrs 193 2 = true := by decide +kernel
set_option maxRecDepth 100000 in
theorem abTq195 : abTrs 195 1 = true := by decide +kernel
set_option maxRecDepth 100000 in
theorem abTq196 : abTrs 196 1 = true := by decide +kernel
set_option maxRecDepth 100000 in
theorem abTq197 : abTrs 197 3 = true := by decide +kernel
set_option maxRecDepth 100000 in
theorem abTq200 : abTrs 200 1 = true := by decide +kernel
set_option maxRecDepth 100000 in
theorem abTq201 : abTrs 201 3 = true := by decide +kernel
set_option maxRecDepth 100000 in
theorem abTq204 : abTrs 204 1 = true := by decide +kernel
end
section
/-! entries -/
set_option maxRecDepth 100000 in
theorem abTq205 : abTrs 205 2 = true := by decide +kernel
set_option maxRecDepth 100000 in
theorem abTq207 : abTrs 207 4 = true := by decide +kernel
set_option maxRecDepth 100000 in
theorem abTq211 : abTrs 211 2 = true := by decide +kernel
set_option maxRecDepth 100000 in
theorem abTq213 : abTrs 213 1 = true := by decide +kernel
set_option maxRecDepth 100000 in
theorem abTq214 : abTrs 214 1 = true := by decide +kernel
set_option maxRecDepth 100000 in
theorem abTq215 : abTrs 215 1 = true := by decide +kernel
set_option maxRecDepth 100000 in
theorem abTq216 : abTrs 216 2 = true := by decide +kernel
set_option maxRecDepth 100000 in
theorem abTq218 : abTrs 218 1 = true := by decide +kernel
set_option maxRecDepth 100000 in
theorem abTq219 : abTrs 219 1 = true := by decide +kernel
set_option maxRecDepth 100000 in
theorem abTq220 : abTrs 220 2 = true := by decide +kernel
set_option maxRecDepth 100000 in
theorem abTq222 : abTrs 222 2 = true := by decide +kernel
set_option maxRecDepth 100000 in
theorem abTq224 : abTrs 224 2 = true := by decide +kernel
end
section
/-! entries -/
set_option maxRecDepth 100000 in
theorem abTq226 : abTrs 226 1 = true := by decide +kernel
set_option maxRecDepth 100000 in
theorem abTq227 : abTrs 227 1 = true := by decide +kernel
set_option maxRecDepth 100000 in
theorem abTq228 : abTrs 228 1 = true := by decide +kernel
set_option maxRecDepth 100000 in
theorem abTq229 : abTrs 229 1 = true := by decide +kernel
set_option maxRecDepth 100000 in
theorem abTq230 : abTrs 230 2 = true := by decide +kernel
set_option maxRecDepth 100000 in
theorem abTq232 : abTrs 232 1 = true := by decide +kernel
set_option maxRecDepth 100000 in
theorem abTq233 : abTrs 233 1 = true := by decide +kernel
set_option maxRecDepth 100000 in
theorem abTq234 : abTrs 234 2 = true := by decide +kernel
set_option maxRecDepth 100000 in
theorem abTq236 : abTrs 236 1 = true := by decide +kernel
set_option maxRecDepth 100000 in
theorem abTq237 : abTrs 237 1 = true := by decide +kernel
set_option maxRecDepth 100000 in
theorem abTq238 : abTrs 238 1 = true := by decide +kernel
set_option maxRecDepth 100000 in
theorem abTq239 : abTrs 239 1 = true := by decide +kernel
end
section
/-! entries -/
set_option maxRecDepth 100000 in
theorem abTq240 : abTrs 240 4 = true := by decide +kernel
set_option maxRecDepth 100000 in
theorem abTq244 : abTrs 244 2 = true := by decide +kernel
set_option maxRecDepth 100000 in
theorem abTq246 : abTrs 246 2 = true := by decide +kernel
set_option maxRecDepth 100000 in
theorem abTq248 : abTrs 248 2 = true := by decide +kernel
set_option maxRecDepth 100000 in
theorem abTq250 : abTrs 250 1 = true := by decide +kernel
set_option maxRecDepth 100000 in
theorem abTq251 : abTrs 251 3 = true := by decide +kernel
set_option maxRecDepth 100000 in
theorem abTq254 : abTrs 254 3 = true := by decide +kernel
set_option maxRecDepth 100000 in
theorem abTq257 : abTrs 257 1 = true := by decide +kernel
set_option maxRecDepth 100000 in
theorem abTq258 : abTrs 258 2 = true := by decide +kernel
set_option maxRecDepth 100000 in
theorem abTq260 : abTrs 260 1 = true := by decide +kernel
set_option maxRecDepth 100000 in
theorem abTq261 : abTrs 261 2 = true := by decide +kernel
set_option maxRecDepth 100000 in
theorem abTq263 : abTrs 263 1 = true := by decide +kernel
end
section
/-! entries -/
set_option maxRecDepth 100000 in
theorem abTq264 : abTrs 264 1 = true := by decide +kernel
set_option maxRecDepth 100000 in
theorem abTq265 : abTrs 265 3 = true := by decide +kernel
set_option maxRecDepth 100000 in
theorem abTq268 : abTrs 268 2 = true := by decide +kernel
set_option maxRecDepth 100000 in
theorem abTq270 : abTrs 270 6 = true := by decide +kernel
set_option maxRecDepth 100000 in
theorem abTl0 : abTru 276 0 (abMe 276).2.2.2.2.2 = true := by decide +kernel
set_option maxRecDepth 100000 in
theorem abTl1 : abTru 277 0 (abMe 277).2.2.2.2.2 = true := by decide +kernel
set_option maxRecDepth 100000 in
theorem abTm0 : abTrr 278 0 80 (abMe 278).2.2.2.2.2 = true := by decide +kernel
set_option maxRecDepth 100000 in
theorem abTm1 : abTrr 278 80 160 (abMe 278).2.2.2.2.2 = true := by decide +kernel
set_option maxRecDepth 100000 in
theorem abTm2 : abTrr 278 160 240 (abMe 278).2.2.2.2.2 = true := by decide +kernel
set_option maxRecDepth 100000 in
theorem abTm3 : abTrr 278 240 320 (abMe 278).2.2.2.2.2 = true := by decide +kernel
set_option maxRecDepth 100000 in
theorem abTm4 : abTrr 278 320 400 (abMe 278).2.2.2.2.2 = true := by decide +kernel
set_option maxRecDepth 100000 in
theorem abTm5 : abTrr 278 400 480 (abMe 278).2.2.2.2.2 = true := by decide +kernel
end
section
/-! entries -/
set_option maxRecDepth 100000 in
theorem abTm6 : abTrr 278 480 560 (abMe 278).2.2.2.2.2 = true := by decide +kernel
set_option maxRecDepth 100000 in
theorem abTm7 : abTrr 278 560 640 (abMe 278).2.2.2.2.2 = true := by decide +kernel
set_option maxRecDepth 100000 in
theorem abTm8 : abTrr 278 640 720 (abMe 278).2.2.2.2.2 = true := by decide +kernel
set_option maxRecDepth 100000 in
theorem abTm9 : abTrr 278 720 800 (abMe 278).2.2.2.2.2 = true := by decide +kernel
set_option maxRecDepth 100000 in
theorem abTm10 : abTrr 278 800 880 (abMe 278).2.2.2.2.2 = true := by decide +kernel
set_option maxRecDepth 100000 in
theorem abTm11 : abTrr 278 880 960 (abMe 278).2.2.2.2.2 = true := by decide +kernel
set_option maxRecDepth 100000 in
theorem abTm12 : abTrr 278 960 1040 (abMe 278).2.2.2.2.2 = true := by decide +kernel
set_option maxRecDepth 100000 in
theorem abTm13 : abTrr 278 1040 1120 (abMe 278).2.2.2.2.2 = true := by decide +kernel
set_option maxRecDepth 100000 in
theorem abTm14 : abTrr 278 1120 1200 (abMe 278).2.2.2.2.2 = true := by decide +kernel
set_option maxRecDepth 100000 in
theorem abTm15 : abTrr 278 1200 1280 (abMe 278).2.2.2.2.2 = true := by decide +kernel
set_option maxRecDepth 100000 in
theorem abTm16 : abTrr 278 1280 1360 (abMe 278).2.2.2.2.2 = true := by decide +kernel
set_option maxRecDepth 100000 in
theorem abTm17 : abTrr 278 1360 1440 (abMe 278).2.2.2.2.2 = true := by decide +kernel
end
section
/-! entries -/
set_option maxRecDepth 100000 in
theorem abTm18 : abTrr 278 1440 1520 (abMe 278).2.2.2.2.2 = true := by decide +kernel
set_option maxRecDepth 100000 in
theorem abTm19 : abTrr 278 1520 1600 (abMe 278).2.2.2.2.2 = true := by decide +kernel
set_option maxRecDepth 100000 in
theorem abTmZ : abTru 278 1600 (abMe 278).2.2.2.2.2 = true := by decide +kernel
end
section
/-! the tables, together -/
theorem abMa (q : Nat) (h : q < abNM) : abMok q := by
  have h0 : q < 276 := h
  by_cases h0 : q < 6
  · exact abMks_ok abMa0 q (by omega) (by simp only [List.length_cons, List.length_nil]; omega)
  by_cases h6 : q < 12
  · exact abMks_ok abMa6 q (by omega) (by simp only [List.length_cons, List.length_nil]; omega)
  by_cases h12 : q < 18
  · exact abMks_ok abMa12 q (by omega) (by simp only [List.length_cons, List.length_nil]; omega)
  by_cases h18 : q < 24
  · exact abMks_ok abMa18 q (by omega) (by simp only [List.length_cons, List.length_nil]; omega)
  by_cases h24 : q < 30
  · exact abMks_ok abMa24 q (by omega) (by simp only [List.length_cons, List.length_nil]; omega)
  by_cases h30 : q < 36
  · exact abMks_ok abMa30 q (by omega) (by simp only [List.length_cons, List.length_nil]; omega)
  by_cases h36 : q < 42
  · exact abMks_ok abMa36 q (by omega) (by simp only [List.length_cons, List.length_nil]; omega)
  by_cases h42 : q < 48
  · exact abMks_ok abMa42 q (by omega) (by simp only [List.length_cons, List.length_nil]; omega)
  by_cases h48 : q < 54
  · exact abMks_ok abMa48 q (by omega) (by simp only [List.length_cons, List.length_nil]; omega)
  by_cases h54 : q < 60
  · exact abMks_ok abMa54 q (by omega) (by simp only [List.length_cons, List.length_nil]; omega)
  by_cases h60 : q < 66
  · exact abMks_ok abMa60 q (by omega) (by simp only [List.length_cons, List.length_nil]; omega)
  by_cases h66 : q < 72
  · exact abMks_ok abMa66 q (by omega) (by simp only [List.length_cons, List.length_nil]; omega)
  by_cases h72 : q < 78
  · exact abMks_ok abMa72 q (by omega) (by simp only [List.length_cons, List.length_nil]; omega)
  by_cases h78 : q < 84
  · exact abMks_ok abMa78 q (by omega) (by simp only [List.length_cons, List.length_nil]; omega)
  by_cases h84 : q < 90
  · exact abMks_ok abMa84 q (by omega) (by simp only [List.length_cons, List.length_nil]; omega)
  by_cases h90 : q < 96
  · exact abMks_ok abMa90 q (by omega) (by simp only [List.length_cons, List.length_nil]; omega)
  by_cases h96 : q < 102
  · exact abMks_ok abMa96 q (by omega) (by simp only [List.length_cons, List.length_nil]; omega)
  by_cases h102 : q < 108
  · exact abMks_ok abMa102 q (by omega) (by simp only [List.length_cons, List.length_nil]; omega)
  by_cases h108 : q < 114
  · exact abMks_ok abMa108 q (by omega) (by simp only [List.length_cons, List.length_nil]; omega)
  by_cases h114 : q < 120
  · exact abMks_ok abMa114 q (by omega) (by simp only [List.length_cons, List.length_nil]; omega)
  by_cases h120 : q < 126
  · exact abMks_ok abMa120 q (by omega) (by simp only [List.length_cons, List.length_nil]; omega)
  by_cases h126 : q < 132
  · exact abMks_ok abMa126 q (by omega) (by simp only [List.length_cons, List.length_nil]; omega)
  by_cases h132 : q < 138
  · exact abMks_ok abMa132 q (by omega) (by simp only [List.length_cons, List.length_nil]; omega)
  by_cases h138 : q < 144
  · exact abMks_ok abMa138 q (by omega) (by simp only [List.length_cons, List.length_nil]; omega)
  by_cases h144 : q < 150
  · exact abMks_ok abMa144 q (by omega) (by simp only [List.length_cons, List.length_nil]; omega)
  by_cases h150 : q < 156
  · exact abMks_ok abMa150 q (by omega) (by simp only [List.length_cons, List.length_nil]; omega)
  by_cases h156 : q < 162
  · exact abMks_ok abMa156 q (by omega) (by simp only [List.length_cons, List.length_nil]; omega)
  by_cases h162 : q < 168
  · exact abMks_ok abMa162 q (by omega) (by simp only [List.length_cons, List.length_nil]; omega)
  by_cases h168 : q < 174
  · exact abMks_ok abMa168 q (by omega) (by simp only [List.length_cons, List.length_nil]; omega)
  by_cases h174 : q < 180
  · exact abMks_ok abMa174 q (by omega) (by simp only [List.length_cons, List.length_nil]; omega)
  by_cases h180 : q < 186
  · exact abMks_ok abMa180 q (by omega) (by simp only [List.length_cons, List.length_nil]; omega)
  by_cases h186 : q < 192
  · exact abMks_ok abMa186 q (by omega) (by simp only [List.length_cons, List.length_nil]; omega)
  by_cases h192 : q < 198
  · exact abMks_ok abMa192 q (by omega) (by simp only [List.length_cons, List.length_nil]; omega)
  by_cases h198 : q < 204
  · exact abMks_ok abMa198 q (by omega) (by simp only [List.length_cons, List.length_nil]; omega)
  by_cases h204 : q < 210
  · exact abMks_ok abMa204 q (by omega) (by simp only [List.length_cons, List.length_nil]; omega)
  by_cases h210 : q < 216
  · exact abMks_ok abMa210 q (by omega) (by simp only [List.length_cons, List.length_nil]; omega)
  by_cases h216 : q < 222
  · exact abMks_ok abMa216 q (by omega) (by simp only [List.length_cons, List.length_nil]; omega)
  by_cases h222 : q < 228
  · exact abMks_ok abMa222 q (by omega) (by simp only [List.length_cons, List.length_nil]; omega)
  by_cases h228 : q < 234
  · exact abMks_ok abMa228 q (by omega) (by simp only [List.length_cons, List.length_nil]; omega)
  by_cases h234 : q < 240
  · exact abMks_ok abMa234 q (by omega) (by simp only [List.length_cons, List.length_nil]; omega)
  by_cases h240 : q < 246
  · exact abMks_ok abMa240 q (by omega) (by simp only [List.length_cons, List.length_nil]; omega)
  by_cases h246 : q < 252
  · exact abMks_ok abMa246 q (by omega) (by simp only [List.length_cons, List.length_nil]; omega)
  by_cases h252 : q < 258
  · exact abMks_ok abMa252 q (by omega) (by simp only [List.length_cons, List.length_nil]; omega)
  by_cases h258 : q < 264
  · exact abMks_ok abMa258 q (by omega) (by simp only [List.length_cons, List.length_nil]; omega)
  by_cases h264 : q < 270
  · exact abMks_ok abMa264 q (by omega) (by simp only [List.length_cons, List.length_nil]; omega)
  by_cases h270 : q < 276
  · exact abMks_ok abMa270 q (by omega) (by simp only [List.length_cons, List.length_nil]; omega)
  omega
theorem abTent (k pc : Nat) (h : k < abNM) : abEtOk k ((abMe k).2.2.2.2.2.get pc) ∧ ((abMe k).2.2.2.2.2.get pc).1 < 88 := by
  have h0 : k < 276 := h
  by_cases h0 : k < 2
  · exact abTru_ok (abTrs_ok abTq0 k (by omega) (by omega)) pc (Nat.zero_le _)
  by_cases h2 : k < 4
  · exact abTru_ok (abTrs_ok abTq2 k (by omega) (by omega)) pc (Nat.zero_le _)
  by_cases h4 : k < 8
  · exact abTru_ok (abTrs_ok abTq4 k (by omega) (by omega)) pc (Nat.zero_le _)
  by_cases h8 : k < 14
  · exact abTru_ok (abTrs_ok abTq8 k (by omega) (by omega)) pc (Nat.zero_le _)
  by_cases h14 : k < 18
  · exact abTru_ok (abTrs_ok abTq14 k (by omega) (by omega)) pc (Nat.zero_le _)
  by_cases h18 : k < 22
  · exact abTru_ok (abTrs_ok abTq18 k (by omega) (by omega)) pc (Nat.zero_le _)
  by_cases h22 : k < 23
  · exact abTru_ok (abTrs_ok abTq22 k (by omega) (by omega)) pc (Nat.zero_le _)
  by_cases h23 : k < 27
  · exact abTru_ok (abTrs_ok abTq23 k (by omega) (by omega)) pc (Nat.zero_le _)
  by_cases h27 : k < 30
  · exact abTru_ok (abTrs_ok abTq27 k (by omega) (by omega)) pc (Nat.zero_le _)
  by_cases h30 : k < 34
  · exact abTru_ok (abTrs_ok abTq30 k (by omega) (by omega)) pc (Nat.zero_le _)
  by_cases h34 : k < 37
  · exact abTru_ok (abTrs_ok abTq34 k (by omega) (by omega)) pc (Nat.zero_le _)
  by_cases h37 : k < 39
  · exact abTru_ok (abTrs_ok abTq37 k (by omega) (by omega)) pc (Nat.zero_le _)
  by_cases h39 : k < 42
  · exact abTru_ok (abTrs_ok abTq39 k (by omega) (by omega)) pc (Nat.zero_le _)
  by_cases h42 : k < 43
  · exact abTru_ok (abTrs_ok abTq42 k (by omega) (by omega)) pc (Nat.zero_le _)
  by_cases h43 : k < 44
  · exact abTru_ok (abTrs_ok abTq43 k (by omega) (by omega)) pc (Nat.zero_le _)
  by_cases h44 : k < 47
  · exact abTru_ok (abTrs_ok abTq44 k (by omega) (by omega)) pc (Nat.zero_le _)
  by_cases h47 : k < 49
  · exact abTru_ok (abTrs_ok abTq47 k (by omega) (by omega)) pc (Nat.zero_le _)
  by_cases h49 : k < 54
  · exact abTru_ok (abTrs_ok abTq49 k (by omega) (by omega)) pc (Nat.zero_le _)
  by_cases h54 : k < 57
  · exact abTru_ok (abTrs_ok abTq54 k (by omega) (by omega)) pc (Nat.zero_le _)
  by_cases h57 : k < 63
  · exact abTru_ok (abTrs_ok abTq57 k (by omega) (by omega)) pc (Nat.zero_le _)
  by_cases h63 : k < 67
  · exact abTru_ok (abTrs_ok abTq63 k (by omega) (by omega)) pc (Nat.zero_le _)
  by_cases h67 : k < 70
  · exact abTru_ok (abTrs_ok abTq67 k (by omega) (by omega)) pc (Nat.zero_le _)
  by_cases h70 : k < 72
  · exact abTru_ok (abTrs_ok abTq70 k (by omega) (by omega)) pc (Nat.zero_le _)
  by_cases h72 : k < 73
  · exact abTru_ok (abTrs_ok abTq72 k (by omega) (by omega)) pc (Nat.zero_le _)
  by_cases h73 : k < 76
  · exact abTru_ok (abTrs_ok abTq73 k (by omega) (by omega)) pc (Nat.zero_le _)
  by_cases h76 : k < 80
  · exact abTru_ok (abTrs_ok abTq76 k (by omega) (by omega)) pc (Nat.zero_le _)
  by_cases h80 : k < 81
  · exact abTru_ok (abTrs_ok abTq80 k (by omega) (by omega)) pc (Nat.zero_le _)
  by_cases h81 : k < 84
  · exact abTru_ok (abTrs_ok abTq81 k (by omega) (by omega)) pc (Nat.zero_le _)
  by_cases h84 : k < 87
  · exact abTru_ok (abTrs_ok abTq84 k (by omega) (by omega)) pc (Nat.zero_le _)
  by_cases h87 : k < 90
  · exact abTru_ok (abTrs_ok abTq87 k (by omega) (by omega)) pc (Nat.zero_le _)
  by_cases h90 : k < 94
  · exact abTru_ok (abTrs_ok abTq90 k (by omega) (by omega)) pc (Nat.zero_le _)
  by_cases h94 : k < 100
  · exact abTru_ok (abTrs_ok abTq94 k (by omega) (by omega)) pc (Nat.zero_le _)
  by_cases h100 : k < 105
  · exact abTru_ok (abTrs_ok abTq100 k (by omega) (by omega)) pc (Nat.zero_le _)
  by_cases h105 : k < 106
  · exact abTru_ok (abTrs_ok abTq105 k (by omega) (by omega)) pc (Nat.zero_le _)
  by_cases h106 : k < 108
  · exact abTru_ok (abTrs_ok abTq106 k (by omega) (by omega)) pc (Nat.zero_le _)
  by_cases h108 : k < 111
  · exact abTru_ok (abTrs_ok abTq108 k (by omega) (by omega)) pc (Nat.zero_le _)
  by_cases h111 : k < 114
  · exact abTru_ok (abTrs_ok abTq111 k (by omega) (by omega)) pc (Nat.zero_le _)
  by_cases h114 : k < 117
  · exact abTru_ok (abTrs_ok abTq114 k (by omega) (by omega)) pc (Nat.zero_le _)
  by_cases h117 : k < 122
  · exact abTru_ok (abTrs_ok abTq117 k (by omega) (by omega)) pc (Nat.zero_le _)
  by_cases h122 : k < 126
  · exact abTru_ok (abTrs_ok abTq122 k (by omega) (by omega)) pc (Nat.zero_le _)
  by_cases h126 : k < 129
  · exact abTru_ok (abTrs_ok abTq126 k (by omega) (by omega)) pc (Nat.zero_le _)
  by_cases h129 : k < 133
  · exact abTru_ok (abTrs_ok abTq129 k (by omega) (by omega)) pc (Nat.zero_le _)
  by_cases h133 : k < 136
  · exact abTru_ok (abTrs_ok abTq133 k (by omega) (by omega)) pc (Nat.zero_le _)
  by_cases h136 : k < 141
  · exact abTru_ok (abTrs_ok abTq136 k (by omega) (by omega)) pc (Nat.zero_le _)
  by_cases h141 : k < 143
  · exact abTru_ok (abTrs_ok abTq141 k (by omega) (by omega)) pc (Nat.zero_le _)
  by_cases h143 : k < 145
  · exact abTru_ok (abTrs_ok abTq143 k (by omega) (by omega)) pc (Nat.zero_le _)
  by_cases h145 : k < 147
  · exact abTru_ok (abTrs_ok abTq145 k (by omega) (by omega)) pc (Nat.zero_le _)
  by_cases h147 : k < 150
  · exact abTru_ok (abTrs_ok abTq147 k (by omega) (by omega)) pc (Nat.zero_le _)
  by_cases h150 : k < 154
  · exact abTru_ok (abTrs_ok abTq150 k (by omega) (by omega)) pc (Nat.zero_le _)
  by_cases h154 : k < 157
  · exact abTru_ok (abTrs_ok abTq154 k (by omega) (by omega)) pc (Nat.zero_le _)
  by_cases h157 : k < 162
  · exact abTru_ok (abTrs_ok abTq157 k (by omega) (by omega)) pc (Nat.zero_le _)
  by_cases h162 : k < 165
  · exact abTru_ok (abTrs_ok abTq162 k (by omega) (by omega)) pc (Nat.zero_le _)
  by_cases h165 : k < 169
  · exact abTru_ok (abTrs_ok abTq165 k (by omega) (by omega)) pc (Nat.zero_le _)
  by_cases h169 : k < 171
  · exact abTru_ok (abTrs_ok abTq169 k (by omega) (by omega)) pc (Nat.zero_le _)
  by_cases h171 : k < 172
  · exact abTru_ok (abTrs_ok abTq171 k (by omega) (by omega)) pc (Nat.zero_le _)
  by_cases h172 : k < 177
  · exact abTru_ok (abTrs_ok abTq172 k (by omega) (by omega)) pc (Nat.zero_le _)
  by_cases h177 : k < 179
  · exact abTru_ok (abTrs_ok abTq177 k (by omega) (by omega)) pc (Nat.zero_le _)
  by_cases h179 : k < 180
  · exact abTru_ok (abTrs_ok abTq179 k (by omega) (by omega)) pc (Nat.zero_le _)
  by_cases h180 : k < 181
  · exact abTru_ok (abTrs_ok abTq180 k (by omega) (by omega)) pc (Nat.zero_le _)
  by_cases h181 : k < 184
  · exact abTru_ok (abTrs_ok abTq181 k (by omega) (by omega)) pc (Nat.zero_le _)
  by_cases h184 : k < 185
  · exact abTru_ok (abTrs_ok abTq184 k (by omega) (by omega)) pc (Nat.zero_le _)
  by_cases h185 : k < 187
  · exact abTru_ok (abTrs_ok abTq185 k (by omega) (by omega)) pc (Nat.zero_le _)
  by_cases h187 : k < 188
  · exact abTru_ok (abTrs_ok abTq187 k (by omega) (by omega)) pc (Nat.zero_le _)
  by_cases h188 : k < 191
  · exact abTru_ok (abTrs_ok abTq188 k (by omega) (by omega)) pc (Nat.zero_le _)
  by_cases h191 : k < 193
  · exact abTru_ok (abTrs_ok abTq191 k (by omega) (by omega)) pc (Nat.zero_le _)
  by_cases h193 : k < 195
  · exact abTru_ok (abTrs_ok abTq193 k (by omega) (by omega)) pc (Nat.zero_le _)
  by_cases h195 : k < 196
  · exact abTru_ok (abTrs_ok abTq195 k (by omega) (by omega)) pc (Nat.zero_le _)
  by_cases h196 : k < 197
  · exact abTru_ok (abTrs_ok abTq196 k (by omega) (by omega)) pc (Nat.zero_le _)
  by_cases h197 : k < 200
  · exact abTru_ok (abTrs_ok abTq197 k (by omega) (by omega)) pc (Nat.zero_le _)
  by_cases h200 : k < 201
  · exact abTru_ok (abTrs_ok abTq200 k (by omega) (by omega)) pc (Nat.zero_le _)
  by_cases h201 : k < 204
  · exact abTru_ok (abTrs_ok abTq201 k (by omega) (by omega)) pc (Nat.zero_le _)
  by_cases h204 : k < 205
  · exact abTru_ok (abTrs_ok abTq204 k (by omega) (by omega)) pc (Nat.zero_le _)
  by_cases h205 : k < 207
  · exact abTru_ok (abTrs_ok abTq205 k (by omega) (by omega)) pc (Nat.zero_le _)
  by_cases h207 : k < 211
  · exact abTru_ok (abTrs_ok abTq207 k (by omega) (by omega)) pc (Nat.zero_le _)
  by_cases h211 : k < 213
  · exact abTru_ok (abTrs_ok abTq211 k (by omega) (by omega)) pc (Nat.zero_le _)
  by_cases h213 : k < 214
  · exact abTru_ok (abTrs_ok abTq213 k (by omega) (by omega)) pc (Nat.zero_le _)
  by_cases h214 : k < 215
  · exact abTru_ok (abTrs_ok abTq214 k (by omega) (by omega)) pc (Nat.zero_le _)
  by_cases h215 : k < 216
  · exact abTru_ok (abTrs_ok abTq215 k (by omega) (by omega)) pc (Nat.zero_le _)
  by_cases h216 : k < 218
  · exact abTru_ok (abTrs_ok abTq216 k (by omega) (by omega)) pc (Nat.zero_le _)
  by_cases h218 : k < 219
  · exact abTru_ok (abTrs_ok abTq218 k (by omega) (by omega)) pc (Nat.zero_le _)
  by_cases h219 : k < 220
  · exact abTru_ok (abTrs_ok abTq219 k (by omega) (by omega)) pc (Nat.zero_le _)
  by_cases h220 : k < 222
  · exact abTru_ok (abTrs_ok abTq220 k (by omega) (by omega)) pc (Nat.zero_le _)
  by_cases h222 : k < 224
  · exact abTru_ok (abTrs_ok abTq222 k (by omega) (by omega)) pc (Nat.zero_le _)
  by_cases h224 : k < 226
  · exact abTru_ok (abTrs_ok abTq224 k (by omega) (by omega)) pc (Nat.zero_le _)
  by_cases h226 : k < 227
  · exact abTru_ok (abTrs_ok abTq226 k (by omega) (by omega)) pc (Nat.zero_le _)
  by_cases h227 : k < 228
  · exact abTru_ok (abTrs_ok abTq227 k (by omega) (by omega)) pc (Nat.zero_le _)
  by_cases h228 : k < 229
  · exact abTru_ok (abTrs_ok abTq228 k (by omega) (by omega)) pc (Nat.zero_le _)
  by_cases h229 : k < 230
  · exact abTru_ok (abTrs_ok abTq229 k (by omega) (by omega)) pc (Nat.zero_le _)
  by_cases h230 : k < 232
  · exact abTru_ok (abTrs_ok abTq230 k (by omega) (by omega)) pc (Nat.zero_le _)
  by_cases h232 : k < 233
  · exact abTru_ok (abTrs_ok abTq232 k (by omega) (by omega)) pc (Nat.zero_le _)
  by_cases h233 : k < 234
  · exact abTru_ok (abTrs_ok abTq233 k (by omega) (by omega)) pc (Nat.zero_le _)
  by_cases h234 : k < 236
  · exact abTru_ok (abTrs_ok abTq234 k (by omega) (by omega)) pc (Nat.zero_le _)
  by_cases h236 : k < 237
  · exact abTru_ok (abTrs_ok abTq236 k (by omega) (by omega)) pc (Nat.zero_le _)
  by_cases h237 : k < 238
  · exact abTru_ok (abTrs_ok abTq237 k (by omega) (by omega)) pc (Nat.zero_le _)
  by_cases h238 : k < 239
  · exact abTru_ok (abTrs_ok abTq238 k (by omega) (by omega)) pc (Nat.zero_le _)
  by_cases h239 : k < 240
  · exact abTru_ok (abTrs_ok abTq239 k (by omega) (by omega)) pc (Nat.zero_le _)
  by_cases h240 : k < 244
  · exact abTru_ok (abTrs_ok abTq240 k (by omega) (by omega)) pc (Nat.zero_le _)
  by_cases h244 : k < 246
  · exact abTru_ok (abTrs_ok abTq244 k (by omega) (by omega)) pc (Nat.zero_le _)
  by_cases h246 : k < 248
  · exact abTru_ok (abTrs_ok abTq246 k (by omega) (by omega)) pc (Nat.zero_le _)
  by_cases h248 : k < 250
  · exact abTru_ok (abTrs_ok abTq248 k (by omega) (by omega)) pc (Nat.zero_le _)
  by_cases h250 : k < 251
  · exact abTru_ok (abTrs_ok abTq250 k (by omega) (by omega)) pc (Nat.zero_le _)
  by_cases h251 : k < 254
  · exact abTru_ok (abTrs_ok abTq251 k (by omega) (by omega)) pc (Nat.zero_le _)
  by_cases h254 : k < 257
  · exact abTru_ok (abTrs_ok abTq254 k (by omega) (by omega)) pc (Nat.zero_le _)
  by_cases h257 : k < 258
  · exact abTru_ok (abTrs_ok abTq257 k (by omega) (by omega)) pc (Nat.zero_le _)
  by_cases h258 : k < 260
  · exact abTru_ok (abTrs_ok abTq258 k (by omega) (by omega)) pc (Nat.zero_le _)
  by_cases h260 : k < 261
  · exact abTru_ok (abTrs_ok abTq260 k (by omega) (by omega)) pc (Nat.zero_le _)
  by_cases h261 : k < 263
  · exact abTru_ok (abTrs_ok abTq261 k (by omega) (by omega)) pc (Nat.zero_le _)
  by_cases h263 : k < 264
  · exact abTru_ok (abTrs_ok abTq263 k (by omega) (by omega)) pc (Nat.zero_le _)
  by_cases h264 : k < 265
  · exact abTru_ok (abTrs_ok abTq264 k (by omega) (by omega)) pc (Nat.zero_le _)
  by_cases h265 : k < 268
  · exact abTru_ok (abTrs_ok abTq265 k (by omega) (by omega)) pc (Nat.zero_le _)
  by_cases h268 : k < 270
  · exact abTru_ok (abTrs_ok abTq268 k (by omega) (by omega)) pc (Nat.zero_le _)
  by_cases h270 : k < 276
  · exact abTru_ok (abTrs_ok abTq270 k (by omega) (by omega)) pc (Nat.zero_le _)
  omega
theorem abTm (pc : Nat) : abEtOk 278 ((abMe 278).2.2.2.2.2.get pc) ∧ ((abMe 278).2.2.2.2.2.get pc).1 < 88 := by
  generalize hx : ((abMe 278).2.2.2.2.2.get pc).2.1 = x
  by_cases h0 : x < 80
  · exact abTrr_ok abTm0 pc (by omega) (by omega)
  by_cases h1 : x < 160
  · exact abTrr_ok abTm1 pc (by omega) (by omega)
  by_cases h2 : x < 240
  · exact abTrr_ok abTm2 pc (by omega) (by omega)
  by_cases h3 : x < 320
  · exact abTrr_ok abTm3 pc (by omega) (by omega)
  by_cases h4 : x < 400
  · exact abTrr_ok abTm4 pc (by omega) (by omega)
  by_cases h5 : x < 480
  · exact abTrr_ok abTm5 pc (by omega) (by omega)
  by_cases h6 : x < 560
  · exact abTrr_ok abTm6 pc (by omega) (by omega)
  by_cases h7 : x < 640
  · exact abTrr_ok abTm7 pc (by omega) (by omega)
  by_cases h8 : x < 720
  · exact abTrr_ok abTm8 pc (by omega) (by omega)
  by_cases h9 : x < 800
  · exact abTrr_ok abTm9 pc (by omega) (by omega)
  by_cases h10 : x < 880
  · exact abTrr_ok abTm10 pc (by omega) (by omega)
  by_cases h11 : x < 960
  · exact abTrr_ok abTm11 pc (by omega) (by omega)
  by_cases h12 : x < 1040
  · exact abTrr_ok abTm12 pc (by omega) (by omega)
  by_cases h13 : x < 1120
  · exact abTrr_ok abTm13 pc (by omega) (by omega)
  by_cases h14 : x < 1200
  · exact abTrr_ok abTm14 pc (by omega) (by omega)
  by_cases h15 : x < 1280
  · exact abTrr_ok abTm15 pc (by omega) (by omega)
  by_cases h16 : x < 1360
  · exact abTrr_ok abTm16 pc (by omega) (by omega)
  by_cases h17 : x < 1440
  · exact abTrr_ok abTm17 pc (by omega) (by omega)
  by_cases h18 : x < 1520
  · exact abTrr_ok abTm18 pc (by omega) (by omega)
  by_cases h19 : x < 1600
  · exact abTrr_ok abTm19 pc (by omega) (by omega)
  exact abTru_ok abTmZ pc (by omega)
theorem abTabsOk : abTabs := by
  refine ⟨abMa, abTb_good, fun k pc hk hp => ?_⟩
  have hk' : k < 276 + 3 := hk
  by_cases h : k < abNM
  · exact abTent k pc h
  · have h' : ¬ k < 276 := h
    by_cases h1 : k = 276
    · subst h1
      exact abTru_ok abTl0 pc (Nat.zero_le _)
    by_cases h2 : k = 277
    · subst h2
      exact abTru_ok abTl1 pc (Nat.zero_le _)
    have h3 : k = 278 := by omega
    subst h3
    exact abTm pc
end
