section
-- ===== PART A: goes FIRST, ahead of the names: the tables' words, and 'selects' of the private methods out of them =====
/-- a private method of a class that the tables say can be made, by its rows of tables_1 -/
def lw_okq (q : MethodName × Nat) : Prop := (q.1.cls ≠ "java/lang/invoke/MethodHandle" ∧ q.1.cls ≠ "java/lang/invoke/VarHandle") ∧ Cond.instantiable q.1.cls q.2 ∈ tables_1 ∧ Cond.privateMethod q.1 ∈ tables_1 ∧ Cond.instanceMethod q.1 ∈ tables_1
theorem lw_p0 : lw_okq (⟨"TallBins", "tapeNumber", "(I)V"⟩, 13) := ⟨⟨by decide +kernel, by decide +kernel⟩, List.mem_of_getElem? (i := 22) (by decide +kernel), List.mem_of_getElem? (i := 490) (by decide +kernel), List.mem_of_getElem? (i := 491) (by decide +kernel)⟩
theorem lw_p1 : lw_okq (⟨"TallBins$Reader", "advance", "()V"⟩, 9) := ⟨⟨by decide +kernel, by decide +kernel⟩, List.mem_of_getElem? (i := 30) (by decide +kernel), List.mem_of_getElem? (i := 518) (by decide +kernel), List.mem_of_getElem? (i := 519) (by decide +kernel)⟩
theorem lw_p2 : lw_okq (⟨"TallBins$Reader", "readLine", "(I)V"⟩, 9) := ⟨⟨by decide +kernel, by decide +kernel⟩, List.mem_of_getElem? (i := 30) (by decide +kernel), List.mem_of_getElem? (i := 532) (by decide +kernel), List.mem_of_getElem? (i := 533) (by decide +kernel)⟩
theorem lw_p3 : lw_okq (⟨"TallBins$Reader", "isWord", "(Ljava/lang/String;)Z"⟩, 9) := ⟨⟨by decide +kernel, by decide +kernel⟩, List.mem_of_getElem? (i := 30) (by decide +kernel), List.mem_of_getElem? (i := 537) (by decide +kernel), List.mem_of_getElem? (i := 538) (by decide +kernel)⟩
theorem lw_p4 : lw_okq (⟨"TallBins$Reader", "fail", "(I)V"⟩, 9) := ⟨⟨by decide +kernel, by decide +kernel⟩, List.mem_of_getElem? (i := 30) (by decide +kernel), List.mem_of_getElem? (i := 592) (by decide +kernel), List.mem_of_getElem? (i := 593) (by decide +kernel)⟩
theorem lw_p5 : lw_okq (⟨"TallBins$Reader", "readBin", "()V"⟩, 9) := ⟨⟨by decide +kernel, by decide +kernel⟩, List.mem_of_getElem? (i := 30) (by decide +kernel), List.mem_of_getElem? (i := 596) (by decide +kernel), List.mem_of_getElem? (i := 597) (by decide +kernel)⟩
theorem lw_p6 : lw_okq (⟨"TallBins$Reader", "takeFresh", "(II)I"⟩, 9) := ⟨⟨by decide +kernel, by decide +kernel⟩, List.mem_of_getElem? (i := 30) (by decide +kernel), List.mem_of_getElem? (i := 600) (by decide +kernel), List.mem_of_getElem? (i := 601) (by decide +kernel)⟩
theorem lw_p7 : lw_okq (⟨"TallBins$Reader", "takeNumber", "(II)I"⟩, 9) := ⟨⟨by decide +kernel, by decide +kernel⟩, List.mem_of_getElem? (i := 30) (by decide +kernel), List.mem_of_getElem? (i := 604) (by decide +kernel), List.mem_of_getElem? (i := 605) (by decide +kernel)⟩
theorem lw_p8 : lw_okq (⟨"TallBins$Reader", "takeNamed", "(Ljava/lang/String;II)I"⟩, 9) := ⟨⟨by decide +kernel, by decide +kernel⟩, List.mem_of_getElem? (i := 30) (by decide +kernel), List.mem_of_getElem? (i := 609) (by decide +kernel), List.mem_of_getElem? (i := 610) (by decide +kernel)⟩
theorem lw_p9 : lw_okq (⟨"TallBins$Reader", "readGrain", "()V"⟩, 9) := ⟨⟨by decide +kernel, by decide +kernel⟩, List.mem_of_getElem? (i := 30) (by decide +kernel), List.mem_of_getElem? (i := 616) (by decide +kernel), List.mem_of_getElem? (i := 617) (by decide +kernel)⟩
theorem lw_p10 : lw_okq (⟨"TallBins$Reader", "readBreath", "()V"⟩, 9) := ⟨⟨by decide +kernel, by decide +kernel⟩, List.mem_of_getElem? (i := 30) (by decide +kernel), List.mem_of_getElem? (i := 623) (by decide +kernel), List.mem_of_getElem? (i := 624) (by decide +kernel)⟩
theorem lw_p11 : lw_okq (⟨"TallBins$Reader", "readBar", "()V"⟩, 9) := ⟨⟨by decide +kernel, by decide +kernel⟩, List.mem_of_getElem? (i := 30) (by decide +kernel), List.mem_of_getElem? (i := 634) (by decide +kernel), List.mem_of_getElem? (i := 635) (by decide +kernel)⟩
theorem lw_p12 : lw_okq (⟨"TallBins$Reader", "readCond", "()V"⟩, 9) := ⟨⟨by decide +kernel, by decide +kernel⟩, List.mem_of_getElem? (i := 30) (by decide +kernel), List.mem_of_getElem? (i := 638) (by decide +kernel), List.mem_of_getElem? (i := 639) (by decide +kernel)⟩
theorem lw_p13 : lw_okq (⟨"TallBins$Reader", "condWord", "()I"⟩, 9) := ⟨⟨by decide +kernel, by decide +kernel⟩, List.mem_of_getElem? (i := 30) (by decide +kernel), List.mem_of_getElem? (i := 643) (by decide +kernel), List.mem_of_getElem? (i := 644) (by decide +kernel)⟩
theorem lw_p14 : lw_okq (⟨"TallBins$Reader", "takeSign", "(I)V"⟩, 9) := ⟨⟨by decide +kernel, by decide +kernel⟩, List.mem_of_getElem? (i := 30) (by decide +kernel), List.mem_of_getElem? (i := 657) (by decide +kernel), List.mem_of_getElem? (i := 658) (by decide +kernel)⟩
theorem lw_p15 : lw_okq (⟨"TallBins", "putIn", "(IJJJJJ)I"⟩, 13) := ⟨⟨by decide +kernel, by decide +kernel⟩, List.mem_of_getElem? (i := 22) (by decide +kernel), List.mem_of_getElem? (i := 691) (by decide +kernel), List.mem_of_getElem? (i := 692) (by decide +kernel)⟩
def lw_privs_1 : List (MethodName × Nat) := [(⟨"TallBins", "tapeNumber", "(I)V"⟩, 13), (⟨"TallBins$Reader", "advance", "()V"⟩, 9), (⟨"TallBins$Reader", "readLine", "(I)V"⟩, 9), (⟨"TallBins$Reader", "isWord", "(Ljava/lang/String;)Z"⟩, 9), (⟨"TallBins$Reader", "fail", "(I)V"⟩, 9), (⟨"TallBins$Reader", "readBin", "()V"⟩, 9), (⟨"TallBins$Reader", "takeFresh", "(II)I"⟩, 9), (⟨"TallBins$Reader", "takeNumber", "(II)I"⟩, 9), (⟨"TallBins$Reader", "takeNamed", "(Ljava/lang/String;II)I"⟩, 9), (⟨"TallBins$Reader", "readGrain", "()V"⟩, 9), (⟨"TallBins$Reader", "readBreath", "()V"⟩, 9), (⟨"TallBins$Reader", "readBar", "()V"⟩, 9), (⟨"TallBins$Reader", "readCond", "()V"⟩, 9), (⟨"TallBins$Reader", "condWord", "()I"⟩, 9), (⟨"TallBins$Reader", "takeSign", "(I)V"⟩, 9), (⟨"TallBins", "putIn", "(IJJJJJ)I"⟩, 13)]
theorem lw_r1 : ∀ q ∈ lw_privs_1, lw_okq q := List.forall_mem_cons.mpr ⟨lw_p0, List.forall_mem_cons.mpr ⟨lw_p1, List.forall_mem_cons.mpr ⟨lw_p2, List.forall_mem_cons.mpr ⟨lw_p3, List.forall_mem_cons.mpr ⟨lw_p4, List.forall_mem_cons.mpr ⟨lw_p5, List.forall_mem_cons.mpr ⟨lw_p6, List.forall_mem_cons.mpr ⟨lw_p7, List.forall_mem_cons.mpr ⟨lw_p8, List.forall_mem_cons.mpr ⟨lw_p9, List.forall_mem_cons.mpr ⟨lw_p10, List.forall_mem_cons.mpr ⟨lw_p11, List.forall_mem_cons.mpr ⟨lw_p12, List.forall_mem_cons.mpr ⟨lw_p13, List.forall_mem_cons.mpr ⟨lw_p14, List.forall_mem_cons.mpr ⟨lw_p15, fun _ h => absurd h List.not_mem_nil⟩⟩⟩⟩⟩⟩⟩⟩⟩⟩⟩⟩⟩⟩⟩⟩
theorem lw_p16 : lw_okq (⟨"TallBins", "isTold", "(I)Z"⟩, 13) := ⟨⟨by decide +kernel, by decide +kernel⟩, List.mem_of_getElem? (i := 22) (by decide +kernel), List.mem_of_getElem? (i := 695) (by decide +kernel), List.mem_of_getElem? (i := 696) (by decide +kernel)⟩
theorem lw_p17 : lw_okq (⟨"TallBins$Ledger", "placeOf", "(I)I"⟩, 3) := ⟨⟨by decide +kernel, by decide +kernel⟩, List.mem_of_getElem? (i := 186) (by decide +kernel), List.mem_of_getElem? (i := 733) (by decide +kernel), List.mem_of_getElem? (i := 734) (by decide +kernel)⟩
theorem lw_p18 : lw_okq (⟨"TallBins$Bin", "placeInTurn", "(II)I"⟩, 11) := ⟨⟨by decide +kernel, by decide +kernel⟩, List.mem_of_getElem? (i := 201) (by decide +kernel), List.mem_of_getElem? (i := 801) (by decide +kernel), List.mem_of_getElem? (i := 802) (by decide +kernel)⟩
theorem lw_p19 : lw_okq (⟨"TallBins$Heap", "partOf", "(II)I"⟩, 5) := ⟨⟨by decide +kernel, by decide +kernel⟩, List.mem_of_getElem? (i := 224) (by decide +kernel), List.mem_of_getElem? (i := 809) (by decide +kernel), List.mem_of_getElem? (i := 810) (by decide +kernel)⟩
theorem lw_p20 : lw_okq (⟨"TallBins$Heap", "shareLots", "(I[I)V"⟩, 5) := ⟨⟨by decide +kernel, by decide +kernel⟩, List.mem_of_getElem? (i := 224) (by decide +kernel), List.mem_of_getElem? (i := 816) (by decide +kernel), List.mem_of_getElem? (i := 817) (by decide +kernel)⟩
theorem lw_p21 : lw_okq (⟨"TallBins$Heap", "greatestRest", "(I[I)I"⟩, 5) := ⟨⟨by decide +kernel, by decide +kernel⟩, List.mem_of_getElem? (i := 224) (by decide +kernel), List.mem_of_getElem? (i := 820) (by decide +kernel), List.mem_of_getElem? (i := 821) (by decide +kernel)⟩
theorem lw_p22 : lw_okq (⟨"TallBins$Bin", "settle", "()V"⟩, 11) := ⟨⟨by decide +kernel, by decide +kernel⟩, List.mem_of_getElem? (i := 201) (by decide +kernel), List.mem_of_getElem? (i := 825) (by decide +kernel), List.mem_of_getElem? (i := 826) (by decide +kernel)⟩
theorem lw_p23 : lw_okq (⟨"TallBins$Planner", "lookAtBins", "(LTallBins$House;I)Z"⟩, 9) := ⟨⟨by decide +kernel, by decide +kernel⟩, List.mem_of_getElem? (i := 374) (by decide +kernel), List.mem_of_getElem? (i := 858) (by decide +kernel), List.mem_of_getElem? (i := 859) (by decide +kernel)⟩
theorem lw_p24 : lw_okq (⟨"TallBins$Planner", "move", "(III)V"⟩, 9) := ⟨⟨by decide +kernel, by decide +kernel⟩, List.mem_of_getElem? (i := 374) (by decide +kernel), List.mem_of_getElem? (i := 875) (by decide +kernel), List.mem_of_getElem? (i := 876) (by decide +kernel)⟩
theorem lw_p25 : lw_okq (⟨"TallBins$Planner", "unmove", "(II)V"⟩, 9) := ⟨⟨by decide +kernel, by decide +kernel⟩, List.mem_of_getElem? (i := 374) (by decide +kernel), List.mem_of_getElem? (i := 879) (by decide +kernel), List.mem_of_getElem? (i := 880) (by decide +kernel)⟩
theorem lw_p26 : lw_okq (⟨"TallBins", "isRing", "(II)Z"⟩, 13) := ⟨⟨by decide +kernel, by decide +kernel⟩, List.mem_of_getElem? (i := 22) (by decide +kernel), List.mem_of_getElem? (i := 902) (by decide +kernel), List.mem_of_getElem? (i := 903) (by decide +kernel)⟩
theorem lw_p27 : lw_okq (⟨"TallBins$House", "isHard", "(IZ)Z"⟩, 9) := ⟨⟨by decide +kernel, by decide +kernel⟩, List.mem_of_getElem? (i := 176) (by decide +kernel), List.mem_of_getElem? (i := 915) (by decide +kernel), List.mem_of_getElem? (i := 916) (by decide +kernel)⟩
theorem lw_p28 : lw_okq (⟨"TallBins$Bars", "allHold", "(IILTallBins$Bin;)Z"⟩, 7) := ⟨⟨by decide +kernel, by decide +kernel⟩, List.mem_of_getElem? (i := 42) (by decide +kernel), List.mem_of_getElem? (i := 1076) (by decide +kernel), List.mem_of_getElem? (i := 1077) (by decide +kernel)⟩
theorem lw_p29 : lw_okq (⟨"TallBins$Bars", "isTrue", "(ILTallBins$Bin;)Z"⟩, 7) := ⟨⟨by decide +kernel, by decide +kernel⟩, List.mem_of_getElem? (i := 42) (by decide +kernel), List.mem_of_getElem? (i := 1080) (by decide +kernel), List.mem_of_getElem? (i := 1081) (by decide +kernel)⟩
theorem lw_p30 : lw_okq (⟨"TallBins$Blender", "weigh", "(II)V"⟩, 8) := ⟨⟨by decide +kernel, by decide +kernel⟩, List.mem_of_getElem? (i := 411) (by decide +kernel), List.mem_of_getElem? (i := 1126) (by decide +kernel), List.mem_of_getElem? (i := 1127) (by decide +kernel)⟩
theorem lw_p31 : lw_okq (⟨"TallBins$Blender", "mayImprove", "(III)Z"⟩, 8) := ⟨⟨by decide +kernel, by decide +kernel⟩, List.mem_of_getElem? (i := 411) (by decide +kernel), List.mem_of_getElem? (i := 1130) (by decide +kernel), List.mem_of_getElem? (i := 1131) (by decide +kernel)⟩
def lw_privs_2 : List (MethodName × Nat) := [(⟨"TallBins", "isTold", "(I)Z"⟩, 13), (⟨"TallBins$Ledger", "placeOf", "(I)I"⟩, 3), (⟨"TallBins$Bin", "placeInTurn", "(II)I"⟩, 11), (⟨"TallBins$Heap", "partOf", "(II)I"⟩, 5), (⟨"TallBins$Heap", "shareLots", "(I[I)V"⟩, 5), (⟨"TallBins$Heap", "greatestRest", "(I[I)I"⟩, 5), (⟨"TallBins$Bin", "settle", "()V"⟩, 11), (⟨"TallBins$Planner", "lookAtBins", "(LTallBins$House;I)Z"⟩, 9), (⟨"TallBins$Planner", "move", "(III)V"⟩, 9), (⟨"TallBins$Planner", "unmove", "(II)V"⟩, 9), (⟨"TallBins", "isRing", "(II)Z"⟩, 13), (⟨"TallBins$House", "isHard", "(IZ)Z"⟩, 9), (⟨"TallBins$Bars", "allHold", "(IILTallBins$Bin;)Z"⟩, 7), (⟨"TallBins$Bars", "isTrue", "(ILTallBins$Bin;)Z"⟩, 7), (⟨"TallBins$Blender", "weigh", "(II)V"⟩, 8), (⟨"TallBins$Blender", "mayImprove", "(III)Z"⟩, 8)]
theorem lw_r2 : ∀ q ∈ lw_privs_2, lw_okq q := List.forall_mem_cons.mpr ⟨lw_p16, List.forall_mem_cons.mpr ⟨lw_p17, List.forall_mem_cons.mpr ⟨lw_p18, List.forall_mem_cons.mpr ⟨lw_p19, List.forall_mem_cons.mpr ⟨lw_p20, List.forall_mem_cons.mpr ⟨lw_p21, List.forall_mem_cons.mpr ⟨lw_p22, List.forall_mem_cons.mpr ⟨lw_p23, List.forall_mem_cons.mpr ⟨lw_p24, List.forall_mem_cons.mpr ⟨lw_p25, List.forall_mem_cons.mpr ⟨lw_p26, List.forall_mem_cons.mpr ⟨lw_p27, List.forall_mem_cons.mpr ⟨lw_p28, List.forall_mem_cons.mpr ⟨lw_p29, List.forall_mem_cons.mpr ⟨lw_p30, List.forall_mem_cons.mpr ⟨lw_p31, fun _ h => absurd h List.not_mem_nil⟩⟩⟩⟩⟩⟩⟩⟩⟩⟩⟩⟩⟩⟩⟩⟩
theorem lw_p32 : lw_okq (⟨"TallBins", "howManyRows", "()I"⟩, 13) := ⟨⟨by decide +kernel, by decide +kernel⟩, List.mem_of_getElem? (i := 22) (by decide +kernel), List.mem_of_getElem? (i := 1198) (by decide +kernel), List.mem_of_getElem? (i := 1199) (by decide +kernel)⟩
theorem lw_p33 : lw_okq (⟨"TallBinsModel", "emptied", "(I)V"⟩, 41) := ⟨⟨by decide +kernel, by decide +kernel⟩, List.mem_of_getElem? (i := 1246) (by decide +kernel), List.mem_of_getElem? (i := 1258) (by decide +kernel), List.mem_of_getElem? (i := 1259) (by decide +kernel)⟩
theorem lw_p34 : lw_okq (⟨"TallBinsModel", "unitsOf", "(I)I"⟩, 41) := ⟨⟨by decide +kernel, by decide +kernel⟩, List.mem_of_getElem? (i := 1246) (by decide +kernel), List.mem_of_getElem? (i := 1409) (by decide +kernel), List.mem_of_getElem? (i := 1410) (by decide +kernel)⟩
theorem lw_p35 : lw_okq (⟨"TallBinsModel", "manIn", "(I)I"⟩, 41) := ⟨⟨by decide +kernel, by decide +kernel⟩, List.mem_of_getElem? (i := 1246) (by decide +kernel), List.mem_of_getElem? (i := 1416) (by decide +kernel), List.mem_of_getElem? (i := 1417) (by decide +kernel)⟩
theorem lw_p36 : lw_okq (⟨"TallBinsModel", "step", "()V"⟩, 41) := ⟨⟨by decide +kernel, by decide +kernel⟩, List.mem_of_getElem? (i := 1246) (by decide +kernel), List.mem_of_getElem? (i := 1420) (by decide +kernel), List.mem_of_getElem? (i := 1421) (by decide +kernel)⟩
theorem lw_p37 : lw_okq (⟨"TallBinsModel", "see", "(I)I"⟩, 41) := ⟨⟨by decide +kernel, by decide +kernel⟩, List.mem_of_getElem? (i := 1246) (by decide +kernel), List.mem_of_getElem? (i := 1424) (by decide +kernel), List.mem_of_getElem? (i := 1425) (by decide +kernel)⟩
theorem lw_p38 : lw_okq (⟨"TallBinsModel", "good", "()Z"⟩, 41) := ⟨⟨by decide +kernel, by decide +kernel⟩, List.mem_of_getElem? (i := 1246) (by decide +kernel), List.mem_of_getElem? (i := 1434) (by decide +kernel), List.mem_of_getElem? (i := 1435) (by decide +kernel)⟩
theorem lw_p39 : lw_okq (⟨"TallBinsModel", "readLine", "()V"⟩, 41) := ⟨⟨by decide +kernel, by decide +kernel⟩, List.mem_of_getElem? (i := 1246) (by decide +kernel), List.mem_of_getElem? (i := 1438) (by decide +kernel), List.mem_of_getElem? (i := 1439) (by decide +kernel)⟩
theorem lw_p40 : lw_okq (⟨"TallBinsModel", "is", "(Ljava/lang/String;)Z"⟩, 41) := ⟨⟨by decide +kernel, by decide +kernel⟩, List.mem_of_getElem? (i := 1246) (by decide +kernel), List.mem_of_getElem? (i := 1443) (by decide +kernel), List.mem_of_getElem? (i := 1444) (by decide +kernel)⟩
theorem lw_p41 : lw_okq (⟨"TallBinsModel", "wrong", "(I)V"⟩, 41) := ⟨⟨by decide +kernel, by decide +kernel⟩, List.mem_of_getElem? (i := 1246) (by decide +kernel), List.mem_of_getElem? (i := 1452) (by decide +kernel), List.mem_of_getElem? (i := 1453) (by decide +kernel)⟩
theorem lw_p42 : lw_okq (⟨"TallBinsModel", "takes", "(Ljava/lang/String;)Z"⟩, 41) := ⟨⟨by decide +kernel, by decide +kernel⟩, List.mem_of_getElem? (i := 1246) (by decide +kernel), List.mem_of_getElem? (i := 1456) (by decide +kernel), List.mem_of_getElem? (i := 1457) (by decide +kernel)⟩
theorem lw_p43 : lw_okq (⟨"TallBinsModel", "readBin", "()V"⟩, 41) := ⟨⟨by decide +kernel, by decide +kernel⟩, List.mem_of_getElem? (i := 1246) (by decide +kernel), List.mem_of_getElem? (i := 1460) (by decide +kernel), List.mem_of_getElem? (i := 1461) (by decide +kernel)⟩
theorem lw_p44 : lw_okq (⟨"TallBinsModel", "number", "(II)I"⟩, 41) := ⟨⟨by decide +kernel, by decide +kernel⟩, List.mem_of_getElem? (i := 1246) (by decide +kernel), List.mem_of_getElem? (i := 1465) (by decide +kernel), List.mem_of_getElem? (i := 1466) (by decide +kernel)⟩
theorem lw_p45 : lw_okq (⟨"TallBinsModel", "told", "(Ljava/lang/String;II)I"⟩, 41) := ⟨⟨by decide +kernel, by decide +kernel⟩, List.mem_of_getElem? (i := 1246) (by decide +kernel), List.mem_of_getElem? (i := 1470) (by decide +kernel), List.mem_of_getElem? (i := 1471) (by decide +kernel)⟩
theorem lw_p46 : lw_okq (⟨"TallBinsModel", "readGrain", "()V"⟩, 41) := ⟨⟨by decide +kernel, by decide +kernel⟩, List.mem_of_getElem? (i := 1246) (by decide +kernel), List.mem_of_getElem? (i := 1477) (by decide +kernel), List.mem_of_getElem? (i := 1478) (by decide +kernel)⟩
theorem lw_p47 : lw_okq (⟨"TallBinsModel", "readBar", "()V"⟩, 41) := ⟨⟨by decide +kernel, by decide +kernel⟩, List.mem_of_getElem? (i := 1246) (by decide +kernel), List.mem_of_getElem? (i := 1485) (by decide +kernel), List.mem_of_getElem? (i := 1486) (by decide +kernel)⟩
def lw_privs_3 : List (MethodName × Nat) := [(⟨"TallBins", "howManyRows", "()I"⟩, 13), (⟨"TallBinsModel", "emptied", "(I)V"⟩, 41), (⟨"TallBinsModel", "unitsOf", "(I)I"⟩, 41), (⟨"TallBinsModel", "manIn", "(I)I"⟩, 41), (⟨"TallBinsModel", "step", "()V"⟩, 41), (⟨"TallBinsModel", "see", "(I)I"⟩, 41), (⟨"TallBinsModel", "good", "()Z"⟩, 41), (⟨"TallBinsModel", "readLine", "()V"⟩, 41), (⟨"TallBinsModel", "is", "(Ljava/lang/String;)Z"⟩, 41), (⟨"TallBinsModel", "wrong", "(I)V"⟩, 41), (⟨"TallBinsModel", "takes", "(Ljava/lang/String;)Z"⟩, 41), (⟨"TallBinsModel", "readBin", "()V"⟩, 41), (⟨"TallBinsModel", "number", "(II)I"⟩, 41), (⟨"TallBinsModel", "told", "(Ljava/lang/String;II)I"⟩, 41), (⟨"TallBinsModel", "readGrain", "()V"⟩, 41), (⟨"TallBinsModel", "readBar", "()V"⟩, 41)]
theorem lw_r3 : ∀ q ∈ lw_privs_3, lw_okq q := List.forall_mem_cons.mpr ⟨lw_p32, List.forall_mem_cons.mpr ⟨lw_p33, List.forall_mem_cons.mpr ⟨lw_p34, List.forall_mem_cons.mpr ⟨lw_p35, List.forall_mem_cons.mpr ⟨lw_p36, List.forall_mem_cons.mpr ⟨lw_p37, List.forall_mem_cons.mpr ⟨lw_p38, List.forall_mem_cons.mpr ⟨lw_p39, List.forall_mem_cons.mpr ⟨lw_p40, List.forall_mem_cons.mpr ⟨lw_p41, List.forall_mem_cons.mpr ⟨lw_p42, List.forall_mem_cons.mpr ⟨lw_p43, List.forall_mem_cons.mpr ⟨lw_p44, List.forall_mem_cons.mpr ⟨lw_p45, List.forall_mem_cons.mpr ⟨lw_p46, List.forall_mem_cons.mpr ⟨lw_p47, fun _ h => absurd h List.not_mem_nil⟩⟩⟩⟩⟩⟩⟩⟩⟩⟩⟩⟩⟩⟩⟩⟩
theorem lw_p48 : lw_okq (⟨"TallBinsModel", "readCond", "(I)V"⟩, 41) := ⟨⟨by decide +kernel, by decide +kernel⟩, List.mem_of_getElem? (i := 1246) (by decide +kernel), List.mem_of_getElem? (i := 1489) (by decide +kernel), List.mem_of_getElem? (i := 1490) (by decide +kernel)⟩
theorem lw_p49 : lw_okq (⟨"TallBinsModel", "wordHere", "()I"⟩, 41) := ⟨⟨by decide +kernel, by decide +kernel⟩, List.mem_of_getElem? (i := 1246) (by decide +kernel), List.mem_of_getElem? (i := 1494) (by decide +kernel), List.mem_of_getElem? (i := 1495) (by decide +kernel)⟩
theorem lw_p50 : lw_okq (⟨"TallBinsModel", "isSign", "(I)Z"⟩, 41) := ⟨⟨by decide +kernel, by decide +kernel⟩, List.mem_of_getElem? (i := 1246) (by decide +kernel), List.mem_of_getElem? (i := 1504) (by decide +kernel), List.mem_of_getElem? (i := 1505) (by decide +kernel)⟩
theorem lw_p51 : lw_okq (⟨"TallBinsModel", "mayFill", "(IIIIII)Z"⟩, 41) := ⟨⟨by decide +kernel, by decide +kernel⟩, List.mem_of_getElem? (i := 1246) (by decide +kernel), List.mem_of_getElem? (i := 1520) (by decide +kernel), List.mem_of_getElem? (i := 1521) (by decide +kernel)⟩
theorem lw_p52 : lw_okq (⟨"TallBinsModel", "isBin", "(I)Z"⟩, 41) := ⟨⟨by decide +kernel, by decide +kernel⟩, List.mem_of_getElem? (i := 1246) (by decide +kernel), List.mem_of_getElem? (i := 1524) (by decide +kernel), List.mem_of_getElem? (i := 1525) (by decide +kernel)⟩
theorem lw_p53 : lw_okq (⟨"TallBinsModel", "logs", "(IIIII)V"⟩, 41) := ⟨⟨by decide +kernel, by decide +kernel⟩, List.mem_of_getElem? (i := 1246) (by decide +kernel), List.mem_of_getElem? (i := 1533) (by decide +kernel), List.mem_of_getElem? (i := 1534) (by decide +kernel)⟩
theorem lw_p54 : lw_okq (⟨"TallBinsModel", "flowOf", "(I)I"⟩, 41) := ⟨⟨by decide +kernel, by decide +kernel⟩, List.mem_of_getElem? (i := 1246) (by decide +kernel), List.mem_of_getElem? (i := 1557) (by decide +kernel), List.mem_of_getElem? (i := 1558) (by decide +kernel)⟩
theorem lw_p55 : lw_okq (⟨"TallBinsModel", "grainIs", "(II)I"⟩, 41) := ⟨⟨by decide +kernel, by decide +kernel⟩, List.mem_of_getElem? (i := 1246) (by decide +kernel), List.mem_of_getElem? (i := 1561) (by decide +kernel), List.mem_of_getElem? (i := 1562) (by decide +kernel)⟩
theorem lw_p56 : lw_okq (⟨"TallBinsModel", "isOf", "(III)I"⟩, 41) := ⟨⟨by decide +kernel, by decide +kernel⟩, List.mem_of_getElem? (i := 1246) (by decide +kernel), List.mem_of_getElem? (i := 1565) (by decide +kernel), List.mem_of_getElem? (i := 1566) (by decide +kernel)⟩
theorem lw_p57 : lw_okq (⟨"TallBinsModel", "isHung", "(I)Z"⟩, 41) := ⟨⟨by decide +kernel, by decide +kernel⟩, List.mem_of_getElem? (i := 1246) (by decide +kernel), List.mem_of_getElem? (i := 1574) (by decide +kernel), List.mem_of_getElem? (i := 1575) (by decide +kernel)⟩
theorem lw_p58 : lw_okq (⟨"TallBinsModel", "draws", "(II)V"⟩, 41) := ⟨⟨by decide +kernel, by decide +kernel⟩, List.mem_of_getElem? (i := 1246) (by decide +kernel), List.mem_of_getElem? (i := 1578) (by decide +kernel), List.mem_of_getElem? (i := 1579) (by decide +kernel)⟩
theorem lw_p59 : lw_okq (⟨"TallBinsModel", "takes0", "(III)V"⟩, 41) := ⟨⟨by decide +kernel, by decide +kernel⟩, List.mem_of_getElem? (i := 1246) (by decide +kernel), List.mem_of_getElem? (i := 1582) (by decide +kernel), List.mem_of_getElem? (i := 1583) (by decide +kernel)⟩
theorem lw_p60 : lw_okq (⟨"TallBinsModel", "parts", "(II)V"⟩, 41) := ⟨⟨by decide +kernel, by decide +kernel⟩, List.mem_of_getElem? (i := 1246) (by decide +kernel), List.mem_of_getElem? (i := 1586) (by decide +kernel), List.mem_of_getElem? (i := 1587) (by decide +kernel)⟩
theorem lw_p61 : lw_okq (⟨"TallBinsModel", "settles", "(I)V"⟩, 41) := ⟨⟨by decide +kernel, by decide +kernel⟩, List.mem_of_getElem? (i := 1246) (by decide +kernel), List.mem_of_getElem? (i := 1591) (by decide +kernel), List.mem_of_getElem? (i := 1592) (by decide +kernel)⟩
theorem lw_p62 : lw_okq (⟨"TallBinsModel", "lays", "(I)V"⟩, 41) := ⟨⟨by decide +kernel, by decide +kernel⟩, List.mem_of_getElem? (i := 1246) (by decide +kernel), List.mem_of_getElem? (i := 1595) (by decide +kernel), List.mem_of_getElem? (i := 1596) (by decide +kernel)⟩
theorem lw_p63 : lw_okq (⟨"TallBinsModel", "isRing", "(II)Z"⟩, 41) := ⟨⟨by decide +kernel, by decide +kernel⟩, List.mem_of_getElem? (i := 1246) (by decide +kernel), List.mem_of_getElem? (i := 1617) (by decide +kernel), List.mem_of_getElem? (i := 1618) (by decide +kernel)⟩
def lw_privs_4 : List (MethodName × Nat) := [(⟨"TallBinsModel", "readCond", "(I)V"⟩, 41), (⟨"TallBinsModel", "wordHere", "()I"⟩, 41), (⟨"TallBinsModel", "isSign", "(I)Z"⟩, 41), (⟨"TallBinsModel", "mayFill", "(IIIIII)Z"⟩, 41), (⟨"TallBinsModel", "isBin", "(I)Z"⟩, 41), (⟨"TallBinsModel", "logs", "(IIIII)V"⟩, 41), (⟨"TallBinsModel", "flowOf", "(I)I"⟩, 41), (⟨"TallBinsModel", "grainIs", "(II)I"⟩, 41), (⟨"TallBinsModel", "isOf", "(III)I"⟩, 41), (⟨"TallBinsModel", "isHung", "(I)Z"⟩, 41), (⟨"TallBinsModel", "draws", "(II)V"⟩, 41), (⟨"TallBinsModel", "takes0", "(III)V"⟩, 41), (⟨"TallBinsModel", "parts", "(II)V"⟩, 41), (⟨"TallBinsModel", "settles", "(I)V"⟩, 41), (⟨"TallBinsModel", "lays", "(I)V"⟩, 41), (⟨"TallBinsModel", "isRing", "(II)Z"⟩, 41)]
theorem lw_r4 : ∀ q ∈ lw_privs_4, lw_okq q := List.forall_mem_cons.mpr ⟨lw_p48, List.forall_mem_cons.mpr ⟨lw_p49, List.forall_mem_cons.mpr ⟨lw_p50, List.forall_mem_cons.mpr ⟨lw_p51, List.forall_mem_cons.mpr ⟨lw_p52, List.forall_mem_cons.mpr ⟨lw_p53, List.forall_mem_cons.mpr ⟨lw_p54, List.forall_mem_cons.mpr ⟨lw_p55, List.forall_mem_cons.mpr ⟨lw_p56, List.forall_mem_cons.mpr ⟨lw_p57, List.forall_mem_cons.mpr ⟨lw_p58, List.forall_mem_cons.mpr ⟨lw_p59, List.forall_mem_cons.mpr ⟨lw_p60, List.forall_mem_cons.mpr ⟨lw_p61, List.forall_mem_cons.mpr ⟨lw_p62, List.forall_mem_cons.mpr ⟨lw_p63, fun _ h => absurd h List.not_mem_nil⟩⟩⟩⟩⟩⟩⟩⟩⟩⟩⟩⟩⟩⟩⟩⟩
theorem lw_p64 : lw_okq (⟨"TallBinsModel", "presses", "(IZ)V"⟩, 41) := ⟨⟨by decide +kernel, by decide +kernel⟩, List.mem_of_getElem? (i := 1246) (by decide +kernel), List.mem_of_getElem? (i := 1626) (by decide +kernel), List.mem_of_getElem? (i := 1627) (by decide +kernel)⟩
theorem lw_p65 : lw_okq (⟨"TallBinsModel", "warmNow", "(I)V"⟩, 41) := ⟨⟨by decide +kernel, by decide +kernel⟩, List.mem_of_getElem? (i := 1246) (by decide +kernel), List.mem_of_getElem? (i := 1645) (by decide +kernel), List.mem_of_getElem? (i := 1646) (by decide +kernel)⟩
theorem lw_p66 : lw_okq (⟨"TallBinsModel", "warms", "(II)V"⟩, 41) := ⟨⟨by decide +kernel, by decide +kernel⟩, List.mem_of_getElem? (i := 1246) (by decide +kernel), List.mem_of_getElem? (i := 1649) (by decide +kernel), List.mem_of_getElem? (i := 1650) (by decide +kernel)⟩
theorem lw_p67 : lw_okq (⟨"TallBinsModel", "breathOf", "(II)I"⟩, 41) := ⟨⟨by decide +kernel, by decide +kernel⟩, List.mem_of_getElem? (i := 1246) (by decide +kernel), List.mem_of_getElem? (i := 1653) (by decide +kernel), List.mem_of_getElem? (i := 1654) (by decide +kernel)⟩
theorem lw_p68 : lw_okq (⟨"TallBinsModel", "warmOf", "(II)J"⟩, 41) := ⟨⟨by decide +kernel, by decide +kernel⟩, List.mem_of_getElem? (i := 1246) (by decide +kernel), List.mem_of_getElem? (i := 1657) (by decide +kernel), List.mem_of_getElem? (i := 1658) (by decide +kernel)⟩
theorem lw_p69 : lw_okq (⟨"TallBinsModel", "dries", "(II)I"⟩, 41) := ⟨⟨by decide +kernel, by decide +kernel⟩, List.mem_of_getElem? (i := 1246) (by decide +kernel), List.mem_of_getElem? (i := 1661) (by decide +kernel), List.mem_of_getElem? (i := 1662) (by decide +kernel)⟩
theorem lw_p70 : lw_okq (⟨"TallBinsModel", "breeds", "(I)V"⟩, 41) := ⟨⟨by decide +kernel, by decide +kernel⟩, List.mem_of_getElem? (i := 1246) (by decide +kernel), List.mem_of_getElem? (i := 1665) (by decide +kernel), List.mem_of_getElem? (i := 1666) (by decide +kernel)⟩
theorem lw_p71 : lw_okq (⟨"TallBinsModel", "isHot", "(II)Z"⟩, 41) := ⟨⟨by decide +kernel, by decide +kernel⟩, List.mem_of_getElem? (i := 1246) (by decide +kernel), List.mem_of_getElem? (i := 1695) (by decide +kernel), List.mem_of_getElem? (i := 1696) (by decide +kernel)⟩
theorem lw_p72 : lw_okq (⟨"TallBinsModel", "turns", "(III)Z"⟩, 41) := ⟨⟨by decide +kernel, by decide +kernel⟩, List.mem_of_getElem? (i := 1246) (by decide +kernel), List.mem_of_getElem? (i := 1699) (by decide +kernel), List.mem_of_getElem? (i := 1700) (by decide +kernel)⟩
theorem lw_p73 : lw_okq (⟨"TallBinsModel", "readingOf", "(II)I"⟩, 41) := ⟨⟨by decide +kernel, by decide +kernel⟩, List.mem_of_getElem? (i := 1246) (by decide +kernel), List.mem_of_getElem? (i := 1712) (by decide +kernel), List.mem_of_getElem? (i := 1713) (by decide +kernel)⟩
theorem lw_p74 : lw_okq (⟨"TallBinsModel", "agree", "(I)Z"⟩, 41) := ⟨⟨by decide +kernel, by decide +kernel⟩, List.mem_of_getElem? (i := 1246) (by decide +kernel), List.mem_of_getElem? (i := 1720) (by decide +kernel), List.mem_of_getElem? (i := 1721) (by decide +kernel)⟩
theorem lw_p75 : lw_okq (⟨"TallBinsModel", "mayRead", "(IIZ)I"⟩, 41) := ⟨⟨by decide +kernel, by decide +kernel⟩, List.mem_of_getElem? (i := 1246) (by decide +kernel), List.mem_of_getElem? (i := 1725) (by decide +kernel), List.mem_of_getElem? (i := 1726) (by decide +kernel)⟩
theorem lw_p76 : lw_okq (⟨"TallBinsModel", "barOf", "(I)I"⟩, 41) := ⟨⟨by decide +kernel, by decide +kernel⟩, List.mem_of_getElem? (i := 1246) (by decide +kernel), List.mem_of_getElem? (i := 1741) (by decide +kernel), List.mem_of_getElem? (i := 1742) (by decide +kernel)⟩
theorem lw_p77 : lw_okq (⟨"TallBinsModel", "condHolds", "(II)Z"⟩, 41) := ⟨⟨by decide +kernel, by decide +kernel⟩, List.mem_of_getElem? (i := 1246) (by decide +kernel), List.mem_of_getElem? (i := 1745) (by decide +kernel), List.mem_of_getElem? (i := 1746) (by decide +kernel)⟩
theorem lw_p78 : lw_okq (⟨"TallBinsModel", "wordOf", "(II)J"⟩, 41) := ⟨⟨by decide +kernel, by decide +kernel⟩, List.mem_of_getElem? (i := 1246) (by decide +kernel), List.mem_of_getElem? (i := 1749) (by decide +kernel), List.mem_of_getElem? (i := 1750) (by decide +kernel)⟩
theorem lw_p79 : lw_okq (⟨"TallBinsModel", "beetlesOf", "(I)J"⟩, 41) := ⟨⟨by decide +kernel, by decide +kernel⟩, List.mem_of_getElem? (i := 1246) (by decide +kernel), List.mem_of_getElem? (i := 1753) (by decide +kernel), List.mem_of_getElem? (i := 1754) (by decide +kernel)⟩
def lw_privs_5 : List (MethodName × Nat) := [(⟨"TallBinsModel", "presses", "(IZ)V"⟩, 41), (⟨"TallBinsModel", "warmNow", "(I)V"⟩, 41), (⟨"TallBinsModel", "warms", "(II)V"⟩, 41), (⟨"TallBinsModel", "breathOf", "(II)I"⟩, 41), (⟨"TallBinsModel", "warmOf", "(II)J"⟩, 41), (⟨"TallBinsModel", "dries", "(II)I"⟩, 41), (⟨"TallBinsModel", "breeds", "(I)V"⟩, 41), (⟨"TallBinsModel", "isHot", "(II)Z"⟩, 41), (⟨"TallBinsModel", "turns", "(III)Z"⟩, 41), (⟨"TallBinsModel", "readingOf", "(II)I"⟩, 41), (⟨"TallBinsModel", "agree", "(I)Z"⟩, 41), (⟨"TallBinsModel", "mayRead", "(IIZ)I"⟩, 41), (⟨"TallBinsModel", "barOf", "(I)I"⟩, 41), (⟨"TallBinsModel", "condHolds", "(II)Z"⟩, 41), (⟨"TallBinsModel", "wordOf", "(II)J"⟩, 41), (⟨"TallBinsModel", "beetlesOf", "(I)J"⟩, 41)]
theorem lw_r5 : ∀ q ∈ lw_privs_5, lw_okq q := List.forall_mem_cons.mpr ⟨lw_p64, List.forall_mem_cons.mpr ⟨lw_p65, List.forall_mem_cons.mpr ⟨lw_p66, List.forall_mem_cons.mpr ⟨lw_p67, List.forall_mem_cons.mpr ⟨lw_p68, List.forall_mem_cons.mpr ⟨lw_p69, List.forall_mem_cons.mpr ⟨lw_p70, List.forall_mem_cons.mpr ⟨lw_p71, List.forall_mem_cons.mpr ⟨lw_p72, List.forall_mem_cons.mpr ⟨lw_p73, List.forall_mem_cons.mpr ⟨lw_p74, List.forall_mem_cons.mpr ⟨lw_p75, List.forall_mem_cons.mpr ⟨lw_p76, List.forall_mem_cons.mpr ⟨lw_p77, List.forall_mem_cons.mpr ⟨lw_p78, List.forall_mem_cons.mpr ⟨lw_p79, fun _ h => absurd h List.not_mem_nil⟩⟩⟩⟩⟩⟩⟩⟩⟩⟩⟩⟩⟩⟩⟩⟩
theorem lw_p80 : lw_okq (⟨"TallBinsModel", "blends", "(IIIII)V"⟩, 41) := ⟨⟨by decide +kernel, by decide +kernel⟩, List.mem_of_getElem? (i := 1246) (by decide +kernel), List.mem_of_getElem? (i := 1774) (by decide +kernel), List.mem_of_getElem? (i := 1775) (by decide +kernel)⟩
theorem lw_p81 : lw_okq (⟨"TallBinsModel", "dampOf", "(I)I"⟩, 41) := ⟨⟨by decide +kernel, by decide +kernel⟩, List.mem_of_getElem? (i := 1246) (by decide +kernel), List.mem_of_getElem? (i := 1778) (by decide +kernel), List.mem_of_getElem? (i := 1779) (by decide +kernel)⟩
theorem lw_p82 : lw_okq (⟨"TallBinsModel", "lotIn", "(II)I"⟩, 41) := ⟨⟨by decide +kernel, by decide +kernel⟩, List.mem_of_getElem? (i := 1246) (by decide +kernel), List.mem_of_getElem? (i := 1794) (by decide +kernel), List.mem_of_getElem? (i := 1795) (by decide +kernel)⟩
def lw_privs_6 : List (MethodName × Nat) := [(⟨"TallBinsModel", "blends", "(IIIII)V"⟩, 41), (⟨"TallBinsModel", "dampOf", "(I)I"⟩, 41), (⟨"TallBinsModel", "lotIn", "(II)I"⟩, 41)]
theorem lw_r6 : ∀ q ∈ lw_privs_6, lw_okq q := List.forall_mem_cons.mpr ⟨lw_p80, List.forall_mem_cons.mpr ⟨lw_p81, List.forall_mem_cons.mpr ⟨lw_p82, fun _ h => absurd h List.not_mem_nil⟩⟩⟩
def lw_privs : List (MethodName × Nat) := lw_privs_1 ++ (lw_privs_2 ++ (lw_privs_3 ++ (lw_privs_4 ++ (lw_privs_5 ++ (lw_privs_6)))))
def lw_tbl : List Cond := k2_sels lw_privs ++ tables_1
theorem lw_privs_ok : ∀ q ∈ lw_privs, lw_okq q := by
  show ∀ q ∈ lw_privs_1 ++ (lw_privs_2 ++ (lw_privs_3 ++ (lw_privs_4 ++ (lw_privs_5 ++ (lw_privs_6))))), lw_okq q
  exact List.forall_mem_append.mpr ⟨lw_r1, List.forall_mem_append.mpr ⟨lw_r2, List.forall_mem_append.mpr ⟨lw_r3, List.forall_mem_append.mpr ⟨lw_r4, List.forall_mem_append.mpr ⟨lw_r5, lw_r6⟩⟩⟩⟩⟩
end
section
/-! The abstract values: (kind, number, low, high). 0: an int between low and high; 1: a long; 2: the int that is argument 'number' of the script; 3: the same as a long; 4: the cell 'number' of the world; 5: null; 6: the script; 7: the sign of argument 'number' less 'low'; 8: anything. -/
abbrev abV : Type := Nat × Nat × Int × Int
def abI (lo hi : Int) : abV := (0, 0, lo, hi)
def abL (lo hi : Int) : abV := (1, 0, lo, hi)
def abT (k : Nat) : abV := (2, k, 0, 0)
def abU (k : Nat) : abV := (3, k, 0, 0)
def abR (j : Nat) : abV := (4, j, 0, 0)
def abN : abV := (5, 0, 0, 0)
def abS (n : Int) : abV := (6, 0, n, n)
def abZ (k : Nat) (lo : Int) : abV := (7, k, lo, lo)
def abJ : abV := (8, 0, 0, 0)
def abSg (m n : Int) : Int := if m < n then -1 else if m = n then 0 else 1
abbrev abE : Type := List (Int × Int)
def abG (ws : va_W) (sb sl : Nat) (rh : Nat → Int) (v : abV) (x : Value) : Prop :=
  match v.1 with
  | 0 => ∃ y : Int32, x = .int y ∧ v.2.2.1 ≤ y.toInt ∧ y.toInt ≤ v.2.2.2
  | 1 => ∃ y : Int64, x = .long y ∧ v.2.2.1 ≤ y.toInt ∧ y.toInt ≤ v.2.2.2
  | 2 => ∃ y : Int32, x = .int y ∧ y.toInt = rh v.2.1
  | 3 => ∃ y : Int64, x = .long y ∧ y.toInt = rh v.2.1
  | 4 => ∃ (a : Nat) (e : va_E), ws[v.2.1]? = some (a, e) ∧ x = .ref a
  | 5 => x = .null
  | 6 => x = .ref sb ∧ v.2.2.1 = (sl : Int)
  | 7 => ∃ y : Int32, x = .int y ∧ y.toInt = abSg (rh v.2.1) v.2.2.1
  | _ => True
/-- the world keeps its addresses -/
def abX (w0 w1 : va_W) : Prop := ∀ (j a : Nat) (e : va_E), w0[j]? = some (a, e) → ∃ e' : va_E, w1[j]? = some (a, e')
theorem abX.rf (w : va_W) : abX w w := fun _ _ e h => ⟨e, h⟩
theorem abX.tr {w0 w1 w2 : va_W} (h1 : abX w0 w1) (h2 : abX w1 w2) : abX w0 w2 := fun j a e h => by
  obtain ⟨e', h'⟩ := h1 j a e h
  exact h2 j a e' h'
theorem abX.set {w : va_W} {q0 a : Nat} {e0 e1 : va_E} (h : w[q0]? = some (a, e0)) : abX w (w.set q0 (a, e1)) := by
  intro j b e hj
  by_cases hq : q0 = j
  · subst hq
    rw [h] at hj
    cases hj
    exact ⟨e1, by rw [List.getElem?_set_self (List.getElem?_eq_some_iff.mp h).1]⟩
  · exact ⟨e, by rw [List.getElem?_set_ne hq]; exact hj⟩
theorem abX.app (w x : va_W) : abX w (w ++ x) := by
  intro j a e h
  exact ⟨e, by rw [List.getElem?_append_left (List.getElem?_eq_some_iff.mp h).1]; exact h⟩
theorem abG.mono {w0 w1 : va_W} {sb sl : Nat} {rh : Nat → Int} {v : abV} {x : Value} (hx : abX w0 w1) (h : abG w0 sb sl rh v x) : abG w1 sb sl rh v x := by
  obtain ⟨t, k, lo, hi⟩ := v
  match t, h with
  | 0, h => exact h
  | 1, h => exact h
  | 2, h => exact h
  | 3, h => exact h
  | 4, h =>
    obtain ⟨a, e, h1, h2⟩ := h
    obtain ⟨e', h'⟩ := hx _ _ _ h1
    exact ⟨a, e', h', h2⟩
  | 5, h => exact h
  | 6, h => exact h
  | 7, h => exact h
  | _ + 8, _ => trivial
def abEok (rh : Nat → Int) (env : abE) : Prop := ∀ (k : Nat) (q : Int × Int), env[k]? = some q → q.1 ≤ rh k ∧ rh k ≤ q.2
def abIv (env : abE) (v : abV) : Option (Int × Int) := match v.1 with
  | 0 => some v.2.2
  | 2 => env[v.2.1]?
  | _ => none
def abLv (env : abE) (v : abV) : Option (Int × Int) := match v.1 with
  | 1 => some v.2.2
  | 3 => env[v.2.1]?
  | _ => none
def abRf (v : abV) : Option Nat := match v.1 with
  | 4 => some v.2.1
  | _ => none
theorem abIv_ok {ws : va_W} {sb sl : Nat} {rh : Nat → Int} {env : abE} {v : abV} {x : Value} {q : Int × Int} (he : abEok rh env) (h : abIv env v = some q) (g : abG ws sb sl rh v x) : ∃ y : Int32, x = .int y ∧ q.1 ≤ y.toInt ∧ y.toInt ≤ q.2 := by
  obtain ⟨t, k, lo, hi⟩ := v
  match t, h, g with
  | 0, h, g => cases h; exact g
  | 2, h, g =>
    obtain ⟨y, hy, hr⟩ := g
    have := he k q h
    exact ⟨y, hy, by rw [hr]; exact this.1, by rw [hr]; exact this.2⟩
  | 1, h, _ => cases h
  | 3, h, _ => cases h
  | 4, h, _ => cases h
  | 5, h, _ => cases h
  | 6, h, _ => cases h
  | 7, h, _ => cases h
  | _ + 8, h, _ => cases h
theorem abLv_ok {ws : va_W} {sb sl : Nat} {rh : Nat → Int} {env : abE} {v : abV} {x : Value} {q : Int × Int} (he : abEok rh env) (h : abLv env v = some q) (g : abG ws sb sl rh v x) : ∃ y : Int64, x = .long y ∧ q.1 ≤ y.toInt ∧ y.toInt ≤ q.2 := by
  obtain ⟨t, k, lo, hi⟩ := v
  match t, h, g with
  | 1, h, g => cases h; exact g
  | 3, h, g =>
    obtain ⟨y, hy, hr⟩ := g
    have := he k q h
    exact ⟨y, hy, by rw [hr]; exact this.1, by rw [hr]; exact this.2⟩
  | 0, h, _ => cases h
  | 2, h, _ => cases h
  | 4, h, _ => cases h
  | 5, h, _ => cases h
  | 6, h, _ => cases h
  | 7, h, _ => cases h
  | _ + 8, h, _ => cases h
theorem abRf_ok {ws : va_W} {sb sl : Nat} {rh : Nat → Int} {v : abV} {x : Value} {j : Nat} (h : abRf v = some j) (g : abG ws sb sl rh v x) : ∃ (a : Nat) (e : va_E), ws[j]? = some (a, e) ∧ x = .ref a := by
  obtain ⟨t, k, lo, hi⟩ := v
  match t, h, g with
  | 4, h, g => cases h; exact g
  | 0, h, _ => cases h
  | 1, h, _ => cases h
  | 2, h, _ => cases h
  | 3, h, _ => cases h
  | 5, h, _ => cases h
  | 6, h, _ => cases h
  | 7, h, _ => cases h
  | _ + 8, h, _ => cases h
/-- the category of a value, where it is known -/
def abCat (v : abV) : Nat := match v.1 with
  | 0 => 1
  | 1 => 2
  | 2 => 1
  | 3 => 2
  | 4 => 1
  | 5 => 1
  | 6 => 1
  | 7 => 1
  | _ => 0
theorem abCat_ok {ws : va_W} {sb sl : Nat} {rh : Nat → Int} {v : abV} {x : Value} {n : Nat} (h : abCat v = n + 1) (g : abG ws sb sl rh v x) : x.category = n + 1 := by
  obtain ⟨t, k, lo, hi⟩ := v
  match t, h, g with
  | 0, h, g => obtain ⟨y, rfl, -⟩ := g; exact h
  | 1, h, g => obtain ⟨y, rfl, -⟩ := g; exact h
  | 2, h, g => obtain ⟨y, rfl, -⟩ := g; exact h
  | 3, h, g => obtain ⟨y, rfl, -⟩ := g; exact h
  | 4, h, g => obtain ⟨y, e, -, rfl⟩ := g; exact h
  | 5, h, g => cases g; exact h
  | 6, h, g => obtain ⟨rfl, -⟩ := g; exact h
  | 7, h, g => obtain ⟨y, rfl, -⟩ := g; exact h
  | _ + 8, h, _ => cases h
/-! trees: a leaf stands for all that would lie below it; the lowest bit first -/
def abGet {al : Type} : Nat → Lean.RArray al → Nat → al
  | _, .leaf x, _ => x
  | 0, .branch _ l _, i => abGet 0 l i
  | d + 1, .branch _ l r, i => if i % 2 = 0 then abGet d l (i / 2) else abGet d r (i / 2)
def abSet {al : Type} : Nat → Lean.RArray al → Nat → al → Lean.RArray al
  | 0, _, _, v => .leaf v
  | d + 1, .leaf x, i, v => if i % 2 = 0 then .branch 0 (abSet d (.leaf x) (i / 2) v) (.leaf x) else .branch 0 (.leaf x) (abSet d (.leaf x) (i / 2) v)
  | d + 1, .branch _ l r, i, v => if i % 2 = 0 then .branch 0 (abSet d l (i / 2) v) r else .branch 0 l (abSet d r (i / 2) v)
theorem abGet_leaf {al : Type} (d : Nat) (x : al) (i : Nat) : abGet d (.leaf x) i = x := by
  cases d <;> rfl
theorem abHalf {i j n : Nat} (hi : i < 2 ^ (n + 1)) : i / 2 < 2 ^ n := by
  rw [Nat.pow_succ] at hi
  omega
theorem abGet_set {al : Type} : ∀ (d : Nat) (t : Lean.RArray al) (i j : Nat) (v : al), i < 2 ^ d → j < 2 ^ d → abGet d (abSet d t i v) j = if i = j then v else abGet d t j
  | 0, t, i, j, v, hi, hj => by
    have h1 : i = j := by simp at hi hj; omega
    rw [if_pos h1]
    exact abGet_leaf 0 v j
  | d + 1, .leaf x, i, j, v, hi, hj => by
    have h1 := abHalf (j := 0) hi
    have h2 := abHalf (j := 0) hj
    have ih := abGet_set d (.leaf x) (i / 2) (j / 2) v h1 h2
    rw [abGet_leaf] at ih
    by_cases hp : i % 2 = 0
    · rw [show abSet (d + 1) (.leaf x) i v = .branch 0 (abSet d (.leaf x) (i / 2) v) (.leaf x) from if_pos hp]
      by_cases hq : j % 2 = 0
      · rw [show abGet (d + 1) (.branch 0 (abSet d (.leaf x) (i / 2) v) (.leaf x)) j = abGet d (abSet d (.leaf x) (i / 2) v) (j / 2) from if_pos hq, ih, abGet_leaf]
        by_cases hz : i / 2 = j / 2
        · rw [if_pos hz, if_pos (by omega)]
        · rw [if_neg hz, if_neg (by omega)]
      · rw [show abGet (d + 1) (.branch 0 (abSet d (.leaf x) (i / 2) v) (.leaf x)) j = abGet d (.leaf x) (j / 2) from if_neg hq, abGet_leaf, abGet_leaf, if_neg (by omega)]
    · rw [show abSet (d + 1) (.leaf x) i v = .branch 0 (.leaf x) (abSet d (.leaf x) (i / 2) v) from if_neg hp]
      by_cases hq : j % 2 = 0
      · rw [show abGet (d + 1) (.branch 0 (.leaf x) (abSet d (.leaf x) (i / 2) v)) j = abGet d (.leaf x) (j / 2) from if_pos hq, abGet_leaf, abGet_leaf, if_neg (by omega)]
      · rw [show abGet (d + 1) (.branch 0 (.leaf x) (abSet d (.leaf x) (i / 2) v)) j = abGet d (abSet d (.leaf x) (i / 2) v) (j / 2) from if_neg hq, ih, abGet_leaf]
        by_cases hz : i / 2 = j / 2
        · rw [if_pos hz, if_pos (by omega)]
        · rw [if_neg hz, if_neg (by omega)]
  | d + 1, .branch p l r, i, j, v, hi, hj => by
    have h1 := abHalf (j := 0) hi
    have h2 := abHalf (j := 0) hj
    by_cases hp : i % 2 = 0
    · have ih := abGet_set d l (i / 2) (j / 2) v h1 h2
      rw [show abSet (d + 1) (.branch p l r) i v = .branch 0 (abSet d l (i / 2) v) r from if_pos hp]
      by_cases hq : j % 2 = 0
      · rw [show abGet (d + 1) (.branch 0 (abSet d l (i / 2) v) r) j = abGet d (abSet d l (i / 2) v) (j / 2) from if_pos hq, ih, show abGet (d + 1) (.branch p l r) j = abGet d l (j / 2) from if_pos hq]
        by_cases hz : i / 2 = j / 2
        · rw [if_pos hz, if_pos (by omega)]
        · rw [if_neg hz, if_neg (by omega)]
      · rw [show abGet (d + 1) (.branch 0 (abSet d l (i / 2) v) r) j = abGet d r (j / 2) from if_neg hq, show abGet (d + 1) (.branch p l r) j = abGet d r (j / 2) from if_neg hq, if_neg (by omega)]
    · have ih := abGet_set d r (i / 2) (j / 2) v h1 h2
      rw [show abSet (d + 1) (.branch p l r) i v = .branch 0 l (abSet d r (i / 2) v) from if_neg hp]
      by_cases hq : j % 2 = 0
      · rw [show abGet (d + 1) (.branch 0 l (abSet d r (i / 2) v)) j = abGet d l (j / 2) from if_pos hq, show abGet (d + 1) (.branch p l r) j = abGet d l (j / 2) from if_pos hq, if_neg (by omega)]
      · rw [show abGet (d + 1) (.branch 0 l (abSet d r (i / 2) v)) j = abGet d (abSet d r (i / 2) v) (j / 2) from if_neg hq, ih, show abGet (d + 1) (.branch p l r) j = abGet d r (j / 2) from if_neg hq]
        by_cases hz : i / 2 = j / 2
        · rw [if_pos hz, if_pos (by omega)]
        · rw [if_neg hz, if_neg (by omega)]
/-- the depth that a row of n needs -/
def abD (n : Nat) : Nat := Nat.log2 n + 1
theorem abD_lt {i n : Nat} (h : i < n) : i < 2 ^ abD n := Nat.lt_trans h Nat.lt_log2_self
/-! arithmetic -/
def abBI (lo hi : Int) : abV := if (-2147483648 : Int) ≤ lo ∧ hi ≤ 2147483647 then abI lo hi else abI (-2147483648) 2147483647
def abBL (lo hi : Int) : abV := if (-9223372036854775808 : Int) ≤ lo ∧ hi ≤ 9223372036854775807 then abL lo hi else abL (-9223372036854775808) 9223372036854775807
theorem abTopI {ws : va_W} {sb sl : Nat} {rh : Nat → Int} (y : Int32) : abG ws sb sl rh (abI (-2147483648) 2147483647) (.int y) := by
  have h1 := Int32.toInt_lt y
  have h2 := Int32.le_toInt y
  exact ⟨y, rfl, by show (-2147483648 : Int) ≤ _; omega, by show _ ≤ (2147483647 : Int); omega⟩
theorem abTopL {ws : va_W} {sb sl : Nat} {rh : Nat → Int} (y : Int64) : abG ws sb sl rh (abL (-9223372036854775808) 9223372036854775807) (.long y) := by
  have h1 := Int64.toInt_lt y
  have h2 := Int64.le_toInt y
  exact ⟨y, rfl, by show (-9223372036854775808 : Int) ≤ _; omega, by show _ ≤ (9223372036854775807 : Int); omega⟩
theorem abBI_ok {ws : va_W} {sb sl : Nat} {rh : Nat → Int} {y : Int32} {t lo hi : Int} (h : y.toInt = t.bmod (2 ^ 32)) (h1 : lo ≤ t) (h2 : t ≤ hi) : abG ws sb sl rh (abBI lo hi) (.int y) := by
  unfold abBI
  by_cases hc : (-2147483648 : Int) ≤ lo ∧ hi ≤ 2147483647
  · rw [if_pos hc]
    have e : t.bmod (2 ^ 32) = t := Int.bmod_eq_of_le (by omega) (by omega)
    rw [e] at h
    exact ⟨y, rfl, by show lo ≤ _; omega, by show _ ≤ hi; omega⟩
  · rw [if_neg hc]
    exact abTopI y
theorem abBL_ok {ws : va_W} {sb sl : Nat} {rh : Nat → Int} {y : Int64} {t lo hi : Int} (h : y.toInt = t.bmod (2 ^ 64)) (h1 : lo ≤ t) (h2 : t ≤ hi) : abG ws sb sl rh (abBL lo hi) (.long y) := by
  unfold abBL
  by_cases hc : (-9223372036854775808 : Int) ≤ lo ∧ hi ≤ 9223372036854775807
  · rw [if_pos hc]
    have e : t.bmod (2 ^ 64) = t := Int.bmod_eq_of_le (by omega) (by omega)
    rw [e] at h
    exact ⟨y, rfl, by show lo ≤ _; omega, by show _ ≤ hi; omega⟩
  · rw [if_neg hc]
    exact abTopL y
/-- an int operation: code 0 plus, 1 minus, else known of known numbers alone -/
def abOpI (code : Nat) (f : Int32 → Int32 → Int32) (a b : Int × Int) : abV :=
  match code with
  | 0 => abBI (a.1 + b.1) (a.2 + b.2)
  | 1 => abBI (a.1 - b.2) (a.2 - b.1)
  | _ => if a.1 = a.2 ∧ b.1 = b.2 then (let r := (f (Int32.ofInt a.1) (Int32.ofInt b.1)).toInt; abI r r) else
    match code with
    | 2 => if b.1 = b.2 ∧ 0 ≤ b.1 then abI 0 b.1 else abI (-2147483648) 2147483647
    | _ => abI (-2147483648) 2147483647
theorem abConstI {x : Int32} {a : Int × Int} (h1 : a.1 ≤ x.toInt) (h2 : x.toInt ≤ a.2) (h : a.1 = a.2) : Int32.ofInt a.1 = x := by
  have e : a.1 = x.toInt := by omega
  rw [e, Int32.ofInt_toInt]
theorem abConstL {x : Int64} {a : Int × Int} (h1 : a.1 ≤ x.toInt) (h2 : x.toInt ≤ a.2) (h : a.1 = a.2) : Int64.ofInt a.1 = x := by
  have e : a.1 = x.toInt := by omega
  rw [e, Int64.ofInt_toInt]
theorem abSelfI {ws : va_W} {sb sl : Nat} {rh : Nat → Int} (y : Int32) : abG ws sb sl rh (abI y.toInt y.toInt) (.int y) := ⟨y, rfl, Int.le_refl _, Int.le_refl _⟩
theorem abSelfL {ws : va_W} {sb sl : Nat} {rh : Nat → Int} (y : Int64) : abG ws sb sl rh (abL y.toInt y.toInt) (.long y) := ⟨y, rfl, Int.le_refl _, Int.le_refl _⟩
theorem abAnd_lo (x y : Int32) (h : 0 ≤ y.toInt) : 0 ≤ (x &&& y).toInt ∧ (x &&& y).toInt ≤ y.toInt := by
  have hy : y.toBitVec.toNat < 2 ^ 31 := by
    have := BitVec.toInt_eq_toNat_cond y.toBitVec
    have h2 : 0 ≤ y.toBitVec.toInt := h
    have h3 := y.toBitVec.isLt
    by_cases hc : 2 * y.toBitVec.toNat < 2 ^ 32
    · omega
    · rw [if_neg hc] at this
      omega
  have e2 : y.toInt = (y.toBitVec.toNat : Int) := by
    show y.toBitVec.toInt = _
    rw [BitVec.toInt_eq_toNat_cond, if_pos (by omega)]
  have hle : (x &&& y).toBitVec.toNat ≤ y.toBitVec.toNat := by
    show (x.toBitVec &&& y.toBitVec).toNat ≤ _
    rw [BitVec.toNat_and]
    exact Nat.and_le_right
  have e1 : (x &&& y).toInt = ((x &&& y).toBitVec.toNat : Int) := by
    show (x &&& y).toBitVec.toInt = _
    rw [BitVec.toInt_eq_toNat_cond, if_pos (by omega)]
  rw [e1, e2]
  omega
theorem abOpI_ok {ws : va_W} {sb sl : Nat} {rh : Nat → Int} {code : Nat} {f : Int32 → Int32 → Int32} {a b : Int × Int} {x y : Int32} (h0 : code = 0 → f x y = x + y) (h1 : code = 1 → f x y = x - y) (h2 : code = 2 → f x y = x &&& y) (ha1 : a.1 ≤ x.toInt) (ha2 : x.toInt ≤ a.2) (hb1 : b.1 ≤ y.toInt) (hb2 : y.toInt ≤ b.2) : abG ws sb sl rh (abOpI code f a b) (.int (f x y)) := by
  have gen : ∀ v : abV, abG ws sb sl rh v (.int (f x y)) → abG ws sb sl rh (if a.1 = a.2 ∧ b.1 = b.2 then (let r := (f (Int32.ofInt a.1) (Int32.ofInt b.1)).toInt; abI r r) else v) (.int (f x y)) := by
    intro v hv
    by_cases hc : a.1 = a.2 ∧ b.1 = b.2
    · rw [if_pos hc, abConstI ha1 ha2 hc.1, abConstI hb1 hb2 hc.2]
      exact abSelfI _
    · rw [if_neg hc]
      exact hv
  match code, h0, h1, h2 with
  | 0, h0, _, _ =>
    rw [h0 rfl]
    exact abBI_ok (Int32.toInt_add x y) (by omega) (by omega)
  | 1, _, h1, _ =>
    rw [h1 rfl]
    exact abBI_ok (Int32.toInt_sub x y) (by omega) (by omega)
  | 2, _, _, h2 =>
    refine gen _ ?_
    by_cases hc : b.1 = b.2 ∧ 0 ≤ b.1
    · rw [if_pos hc, h2 rfl]
      have := abAnd_lo x y (by omega)
      exact ⟨_, rfl, this.1, by show _ ≤ b.1; omega⟩
    · rw [if_neg hc]
      exact abTopI _
  | _ + 3, _, _, _ => exact gen _ (abTopI _)
def abOpL (code : Nat) (f : Int64 → Int64 → Int64) (a b : Int × Int) : abV :=
  match code with
  | 0 => abBL (a.1 + b.1) (a.2 + b.2)
  | 1 => abBL (a.1 - b.2) (a.2 - b.1)
  | _ => if a.1 = a.2 ∧ b.1 = b.2 then (let r := (f (Int64.ofInt a.1) (Int64.ofInt b.1)).toInt; abL r r) else abL (-9223372036854775808) 9223372036854775807
theorem abOpL_ok {ws : va_W} {sb sl : Nat} {rh : Nat → Int} {code : Nat} {f : Int64 → Int64 → Int64} {a b : Int × Int} {x y : Int64} (h0 : code = 0 → f x y = x + y) (h1 : code = 1 → f x y = x - y) (ha1 : a.1 ≤ x.toInt) (ha2 : x.toInt ≤ a.2) (hb1 : b.1 ≤ y.toInt) (hb2 : y.toInt ≤ b.2) : abG ws sb sl rh (abOpL code f a b) (.long (f x y)) := by
  have gen : abG ws sb sl rh (if a.1 = a.2 ∧ b.1 = b.2 then (let r := (f (Int64.ofInt a.1) (Int64.ofInt b.1)).toInt; abL r r) else abL (-9223372036854775808) 9223372036854775807) (.long (f x y)) := by
    by_cases hc : a.1 = a.2 ∧ b.1 = b.2
    · rw [if_pos hc, abConstL ha1 ha2 hc.1, abConstL hb1 hb2 hc.2]
      exact abSelfL _
    · rw [if_neg hc]
      exact abTopL _
  match code, h0, h1 with
  | 0, h0, _ =>
    rw [h0 rfl]
    exact abBL_ok (Int64.toInt_add x y) (by omega) (by omega)
  | 1, _, h1 =>
    rw [h1 rfl]
    exact abBL_ok (Int64.toInt_sub x y) (by omega) (by omega)
  | _ + 2, _, _ => exact gen
/-! what a comparison tells of the arguments -/
def abCut (env : abE) (v : abV) (q : Int × Int) (lo hi : Int) : Option abE :=
  let lo' := if lo ≤ q.1 then q.1 else lo
  let hi' := if q.2 ≤ hi then q.2 else hi
  if lo' ≤ hi' then some (if v.1 = 2 ∨ v.1 = 3 then env.set v.2.1 (lo', hi') else env) else none
theorem abEok_set {rh : Nat → Int} {env : abE} {k : Nat} {q : Int × Int} (he : abEok rh env) (h1 : q.1 ≤ rh k) (h2 : rh k ≤ q.2) : abEok rh (env.set k q) := by
  intro j p hj
  by_cases hk : k = j
  · subst hk
    by_cases hl : k < env.length
    · rw [List.getElem?_set_self hl] at hj
      cases hj
      exact ⟨h1, h2⟩
    · rw [List.getElem?_eq_none (by simp; omega)] at hj
      cases hj
  · rw [List.getElem?_set_ne hk] at hj
    exact he j p hj
/-- the number that a value is, where it is an argument -/
def abTg (rh : Nat → Int) (v : abV) (n : Int) : Prop := (v.1 = 2 ∨ v.1 = 3) → rh v.2.1 = n
theorem abTg_i {ws : va_W} {sb sl : Nat} {rh : Nat → Int} {v : abV} {y : Int32} (g : abG ws sb sl rh v (.int y)) : abTg rh v y.toInt := by
  obtain ⟨t, k, lo, hi⟩ := v
  rintro (h | h)
  · have h' : t = 2 := h
    subst h'
    obtain ⟨z, hz, e⟩ := g
    cases hz
    exact e.symm
  · have h' : t = 3 := h
    subst h'
    obtain ⟨z, hz, e⟩ := g
    cases hz
theorem abTg_l {ws : va_W} {sb sl : Nat} {rh : Nat → Int} {v : abV} {y : Int64} (g : abG ws sb sl rh v (.long y)) : abTg rh v y.toInt := by
  obtain ⟨t, k, lo, hi⟩ := v
  rintro (h | h)
  · have h' : t = 2 := h
    subst h'
    obtain ⟨z, hz, e⟩ := g
    cases hz
  · have h' : t = 3 := h
    subst h'
    obtain ⟨z, hz, e⟩ := g
    cases hz
    exact e.symm
theorem abTg_0 {rh : Nat → Int} {lo hi n : Int} : abTg rh (abI lo hi) n := by
  rintro (h | h) <;> cases h
theorem abCut_ok {rh : Nat → Int} {env : abE} {v : abV} {q : Int × Int} {lo hi n : Int} (he : abEok rh env) (hn : abTg rh v n) (h1 : q.1 ≤ n) (h2 : n ≤ q.2) (h3 : lo ≤ n) (h4 : n ≤ hi) : ∃ env' : abE, abCut env v q lo hi = some env' ∧ abEok rh env' := by
  have a1 : (if lo ≤ q.1 then q.1 else lo) ≤ n := by split <;> omega
  have a2 : n ≤ (if q.2 ≤ hi then q.2 else hi) := by split <;> omega
  unfold abCut
  dsimp only
  rw [if_pos (by omega)]
  refine ⟨_, rfl, ?_⟩
  by_cases ht : v.1 = 2 ∨ v.1 = 3
  · rw [if_pos ht]
    have hr := hn ht
    exact abEok_set he (by rw [hr]; exact a1) (by rw [hr]; exact a2)
  · rw [if_neg ht]
    exact he
def abCond (cd : Jvm.ClassFile.Cond) (env : abE) (v w : abV) (a b : Int × Int) : Option abE :=
  match cd with
  | .eq => match abCut env v a b.1 b.2 with
    | none => none
    | some e1 => abCut e1 w b a.1 a.2
  | .ne => if b.1 = b.2 then
      (if a.1 = b.1 then abCut env v a (b.1 + 1) a.2 else if a.2 = b.1 then abCut env v a a.1 (b.1 - 1) else some env)
    else some env
  | .lt => match abCut env v a a.1 (b.2 - 1) with
    | none => none
    | some e1 => abCut e1 w b (a.1 + 1) b.2
  | .ge => match abCut env v a b.1 a.2 with
    | none => none
    | some e1 => abCut e1 w b b.1 a.2
  | .gt => match abCut env v a (b.1 + 1) a.2 with
    | none => none
    | some e1 => abCut e1 w b b.1 (a.2 - 1)
  | .le => match abCut env v a a.1 b.2 with
    | none => none
    | some e1 => abCut e1 w b a.1 b.2
def abHolds (cd : Jvm.ClassFile.Cond) (m n : Int) : Prop := match cd with
  | .eq => m = n
  | .ne => ¬ m = n
  | .lt => m < n
  | .ge => ¬ m < n
  | .gt => n < m
  | .le => ¬ n < m
theorem abCut2 {rh : Nat → Int} {env : abE} {v w : abV} {a b : Int × Int} {lo hi lo2 hi2 m n : Int} (he : abEok rh env) (hm : abTg rh v m) (hn : abTg rh w n) (a1 : a.1 ≤ m) (a2 : m ≤ a.2) (b1 : b.1 ≤ n) (b2 : n ≤ b.2) (h1 : lo ≤ m) (h2 : m ≤ hi) (h3 : lo2 ≤ n) (h4 : n ≤ hi2) : ∃ env' : abE, (match abCut env v a lo hi with | none => none | some e1 => abCut e1 w b lo2 hi2) = some env' ∧ abEok rh env' := by
  obtain ⟨e1, p1, p2⟩ := abCut_ok he hm a1 a2 h1 h2
  rw [p1]
  exact abCut_ok p2 hn b1 b2 h3 h4
theorem abCond_ok {rh : Nat → Int} {env : abE} {cd : Jvm.ClassFile.Cond} {v w : abV} {a b : Int × Int} {m n : Int} (he : abEok rh env) (hm : abTg rh v m) (hn : abTg rh w n) (a1 : a.1 ≤ m) (a2 : m ≤ a.2) (b1 : b.1 ≤ n) (b2 : n ≤ b.2) (hc : abHolds cd m n) : ∃ env' : abE, abCond cd env v w a b = some env' ∧ abEok rh env' := by
  cases cd with
  | eq => exact abCut2 he hm hn a1 a2 b1 b2 (by have : m = n := hc; omega) (by have : m = n := hc; omega) (by have : m = n := hc; omega) (by have : m = n := hc; omega)
  | ne =>
    have hc' : ¬ m = n := hc
    show ∃ env' : abE, (if b.1 = b.2 then (if a.1 = b.1 then abCut env v a (b.1 + 1) a.2 else if a.2 = b.1 then abCut env v a a.1 (b.1 - 1) else some env) else some env) = some env' ∧ abEok rh env'
    by_cases h1 : b.1 = b.2
    · rw [if_pos h1]
      by_cases h2 : a.1 = b.1
      · rw [if_pos h2]
        exact abCut_ok he hm a1 a2 (by omega) (by omega)
      · rw [if_neg h2]
        by_cases h3 : a.2 = b.1
        · rw [if_pos h3]
          exact abCut_ok he hm a1 a2 (by omega) (by omega)
        · rw [if_neg h3]
          exact ⟨env, rfl, he⟩
    · rw [if_neg h1]
      exact ⟨env, rfl, he⟩
  | lt => exact abCut2 he hm hn a1 a2 b1 b2 (by have : m < n := hc; omega) (by have : m < n := hc; omega) (by have : m < n := hc; omega) (by have : m < n := hc; omega)
  | ge => exact abCut2 he hm hn a1 a2 b1 b2 (by have : ¬ m < n := hc; omega) (by have : ¬ m < n := hc; omega) (by have : ¬ m < n := hc; omega) (by have : ¬ m < n := hc; omega)
  | gt => exact abCut2 he hm hn a1 a2 b1 b2 (by have : n < m := hc; omega) (by have : n < m := hc; omega) (by have : n < m := hc; omega) (by have : n < m := hc; omega)
  | le => exact abCut2 he hm hn a1 a2 b1 b2 (by have : ¬ n < m := hc; omega) (by have : ¬ n < m := hc; omega) (by have : ¬ n < m := hc; omega) (by have : ¬ n < m := hc; omega)
def abNeg : Jvm.ClassFile.Cond → Jvm.ClassFile.Cond
  | .eq => .ne
  | .ne => .eq
  | .lt => .ge
  | .ge => .lt
  | .gt => .le
  | .le => .gt
theorem abNeg_holds {cd : Jvm.ClassFile.Cond} {m n : Int} (h : ¬ abHolds cd m n) : abHolds (abNeg cd) m n := by
  cases cd with
  | eq => exact h
  | ne => exact Classical.not_not.mp h
  | lt => exact h
  | ge => exact Classical.not_not.mp h
  | gt => exact h
  | le => exact Classical.not_not.mp h
/-! cases of an argument with few values -/
def abRange (lo : Int) : Nat → List Int
  | 0 => [lo]
  | n + 1 => lo :: abRange (lo + 1) n
theorem abRange_mem : ∀ (n : Nat) (lo x : Int), lo ≤ x → x ≤ lo + n → x ∈ abRange lo n
  | 0, lo, x, h1, h2 => by
    have : x = lo := by omega
    rw [this]
    exact List.mem_cons_self
  | n + 1, lo, x, h1, h2 => by
    by_cases h : x = lo
    · rw [h]
      exact List.mem_cons_self
    · exact List.mem_cons_of_mem _ (abRange_mem n (lo + 1) x (by omega) (by omega))
/-- the cases, where the value is an argument with more than one and at most w + 1 values -/
def abSplit (env : abE) (v : abV) (w : Int) : Option (List abE) :=
  if v.1 = 2 ∨ v.1 = 3 then
    match env[v.2.1]? with
    | none => none
    | some q => if q.1 < q.2 ∧ q.2 - q.1 ≤ w then some ((abRange q.1 (q.2 - q.1).toNat).map (fun z => env.set v.2.1 (z, z))) else none
  else none
theorem abSplit_ok {rh : Nat → Int} {env : abE} {v : abV} {w : Int} {es : List abE} (he : abEok rh env) (h : abSplit env v w = some es) : ∃ env' ∈ es, abEok rh env' := by
  unfold abSplit at h
  by_cases ht : v.1 = 2 ∨ v.1 = 3
  · rw [if_pos ht] at h
    cases hq : env[v.2.1]? with
    | none => rw [hq] at h; cases h
    | some q =>
      rw [hq] at h
      dsimp only at h
      by_cases hw : q.1 < q.2 ∧ q.2 - q.1 ≤ w
      · rw [if_pos hw] at h
        cases h
        have hr := he _ _ hq
        refine ⟨env.set v.2.1 (rh v.2.1, rh v.2.1), List.mem_map.mpr ⟨rh v.2.1, abRange_mem _ _ _ hr.1 (by omega), rfl⟩, abEok_set he (Int.le_refl _) (Int.le_refl _)⟩
      · rw [if_neg hw] at h
        cases h
  · rw [if_neg ht] at h
    cases h
end
