section
-- ===== PART A: goes FIRST, ahead of the names: the tables' words, and 'selects' of the private methods out of them =====
/-- a private method of a class that the tables say can be made, by its rows of tables_1 -/
def lw_okq (q : MethodName × Nat) : Prop := (q.1.cls ≠ "java/lang/invoke/MethodHandle" ∧ q.1.cls ≠ "java/lang/invoke/VarHandle") ∧ Cond.instantiable q.1.cls q.2 ∈ tables_1 ∧ Cond.privateMethod q.1 ∈ tables_1 ∧ Cond.instanceMethod q.1 ∈ tables_1
theorem lw_p0 : lw_okq (⟨"PavingTrust", "findStreet", "(I)LPavingTrust$Street;"⟩, 14) := ⟨⟨by decide +kernel, by decide +kernel⟩, List.mem_of_getElem? (i := 24) (by decide +kernel), List.mem_of_getElem? (i := 329) (by decide +kernel), List.mem_of_getElem? (i := 330) (by decide +kernel)⟩
theorem lw_p1 : lw_okq (⟨"PavingTrust$Street", "lowerOf", "(III)I"⟩, 9) := ⟨⟨by decide +kernel, by decide +kernel⟩, List.mem_of_getElem? (i := 279) (by decide +kernel), List.mem_of_getElem? (i := 369) (by decide +kernel), List.mem_of_getElem? (i := 370) (by decide +kernel)⟩
theorem lw_p2 : lw_okq (⟨"PavingTrust$Flow", "findEnds", "(LPavingTrust$Street;)V"⟩, 2) := ⟨⟨by decide +kernel, by decide +kernel⟩, List.mem_of_getElem? (i := 34) (by decide +kernel), List.mem_of_getElem? (i := 385) (by decide +kernel), List.mem_of_getElem? (i := 386) (by decide +kernel)⟩
theorem lw_p3 : lw_okq (⟨"PavingTrust$Leveller", "weighColumn", "(LPavingTrust$Street;II)V"⟩, 9) := ⟨⟨by decide +kernel, by decide +kernel⟩, List.mem_of_getElem? (i := 48) (by decide +kernel), List.mem_of_getElem? (i := 411) (by decide +kernel), List.mem_of_getElem? (i := 412) (by decide +kernel)⟩
theorem lw_p4 : lw_okq (⟨"PavingTrust$Leveller", "lowestBehind", "(II)I"⟩, 9) := ⟨⟨by decide +kernel, by decide +kernel⟩, List.mem_of_getElem? (i := 48) (by decide +kernel), List.mem_of_getElem? (i := 418) (by decide +kernel), List.mem_of_getElem? (i := 419) (by decide +kernel)⟩
theorem lw_p5 : lw_okq (⟨"PavingTrust$Leveller", "highestBehind", "(II)I"⟩, 9) := ⟨⟨by decide +kernel, by decide +kernel⟩, List.mem_of_getElem? (i := 48) (by decide +kernel), List.mem_of_getElem? (i := 422) (by decide +kernel), List.mem_of_getElem? (i := 423) (by decide +kernel)⟩
theorem lw_p6 : lw_okq (⟨"PavingTrust$Leveller", "bestHeight", "(III)I"⟩, 9) := ⟨⟨by decide +kernel, by decide +kernel⟩, List.mem_of_getElem? (i := 48) (by decide +kernel), List.mem_of_getElem? (i := 426) (by decide +kernel), List.mem_of_getElem? (i := 427) (by decide +kernel)⟩
theorem lw_p7 : lw_okq (⟨"PavingTrust$Leveller", "keepHeights", "(LPavingTrust$Street;I)V"⟩, 9) := ⟨⟨by decide +kernel, by decide +kernel⟩, List.mem_of_getElem? (i := 48) (by decide +kernel), List.mem_of_getElem? (i := 435) (by decide +kernel), List.mem_of_getElem? (i := 436) (by decide +kernel)⟩
theorem lw_p8 : lw_okq (⟨"PavingTrust$Leveller", "isRowAsBefore", "(LPavingTrust$Street;)Z"⟩, 9) := ⟨⟨by decide +kernel, by decide +kernel⟩, List.mem_of_getElem? (i := 48) (by decide +kernel), List.mem_of_getElem? (i := 455) (by decide +kernel), List.mem_of_getElem? (i := 456) (by decide +kernel)⟩
theorem lw_p9 : lw_okq (⟨"PavingTrust$Yard", "chooseCourse", "(I)I"⟩, 5) := ⟨⟨by decide +kernel, by decide +kernel⟩, List.mem_of_getElem? (i := 82) (by decide +kernel), List.mem_of_getElem? (i := 475) (by decide +kernel), List.mem_of_getElem? (i := 476) (by decide +kernel)⟩
theorem lw_p10 : lw_okq (⟨"PavingTrust$Yard", "countFor", "(II)I"⟩, 5) := ⟨⟨by decide +kernel, by decide +kernel⟩, List.mem_of_getElem? (i := 82) (by decide +kernel), List.mem_of_getElem? (i := 480) (by decide +kernel), List.mem_of_getElem? (i := 481) (by decide +kernel)⟩
theorem lw_p11 : lw_okq (⟨"PavingTrust$Street", "meanWheels", "(I)I"⟩, 9) := ⟨⟨by decide +kernel, by decide +kernel⟩, List.mem_of_getElem? (i := 279) (by decide +kernel), List.mem_of_getElem? (i := 516) (by decide +kernel), List.mem_of_getElem? (i := 517) (by decide +kernel)⟩
theorem lw_p12 : lw_okq (⟨"PavingTrust", "isPlanSet", "(I)Z"⟩, 14) := ⟨⟨by decide +kernel, by decide +kernel⟩, List.mem_of_getElem? (i := 24) (by decide +kernel), List.mem_of_getElem? (i := 532) (by decide +kernel), List.mem_of_getElem? (i := 533) (by decide +kernel)⟩
theorem lw_p13 : lw_okq (⟨"PavingTrust$Planner", "tryFrom", "(III)V"⟩, 11) := ⟨⟨by decide +kernel, by decide +kernel⟩, List.mem_of_getElem? (i := 104) (by decide +kernel), List.mem_of_getElem? (i := 560) (by decide +kernel), List.mem_of_getElem? (i := 561) (by decide +kernel)⟩
theorem lw_p14 : lw_okq (⟨"PavingTrust$Planner", "keepIfBetter", "(II)V"⟩, 11) := ⟨⟨by decide +kernel, by decide +kernel⟩, List.mem_of_getElem? (i := 104) (by decide +kernel), List.mem_of_getElem? (i := 564) (by decide +kernel), List.mem_of_getElem? (i := 565) (by decide +kernel)⟩
theorem lw_p15 : lw_okq (⟨"PavingTrust", "isFrontage", "(I)Z"⟩, 14) := ⟨⟨by decide +kernel, by decide +kernel⟩, List.mem_of_getElem? (i := 24) (by decide +kernel), List.mem_of_getElem? (i := 583) (by decide +kernel), List.mem_of_getElem? (i := 584) (by decide +kernel)⟩
def lw_privs_1 : List (MethodName × Nat) := [(⟨"PavingTrust", "findStreet", "(I)LPavingTrust$Street;"⟩, 14), (⟨"PavingTrust$Street", "lowerOf", "(III)I"⟩, 9), (⟨"PavingTrust$Flow", "findEnds", "(LPavingTrust$Street;)V"⟩, 2), (⟨"PavingTrust$Leveller", "weighColumn", "(LPavingTrust$Street;II)V"⟩, 9), (⟨"PavingTrust$Leveller", "lowestBehind", "(II)I"⟩, 9), (⟨"PavingTrust$Leveller", "highestBehind", "(II)I"⟩, 9), (⟨"PavingTrust$Leveller", "bestHeight", "(III)I"⟩, 9), (⟨"PavingTrust$Leveller", "keepHeights", "(LPavingTrust$Street;I)V"⟩, 9), (⟨"PavingTrust$Leveller", "isRowAsBefore", "(LPavingTrust$Street;)Z"⟩, 9), (⟨"PavingTrust$Yard", "chooseCourse", "(I)I"⟩, 5), (⟨"PavingTrust$Yard", "countFor", "(II)I"⟩, 5), (⟨"PavingTrust$Street", "meanWheels", "(I)I"⟩, 9), (⟨"PavingTrust", "isPlanSet", "(I)Z"⟩, 14), (⟨"PavingTrust$Planner", "tryFrom", "(III)V"⟩, 11), (⟨"PavingTrust$Planner", "keepIfBetter", "(II)V"⟩, 11), (⟨"PavingTrust", "isFrontage", "(I)Z"⟩, 14)]
theorem lw_r1 : ∀ q ∈ lw_privs_1, lw_okq q := List.forall_mem_cons.mpr ⟨lw_p0, List.forall_mem_cons.mpr ⟨lw_p1, List.forall_mem_cons.mpr ⟨lw_p2, List.forall_mem_cons.mpr ⟨lw_p3, List.forall_mem_cons.mpr ⟨lw_p4, List.forall_mem_cons.mpr ⟨lw_p5, List.forall_mem_cons.mpr ⟨lw_p6, List.forall_mem_cons.mpr ⟨lw_p7, List.forall_mem_cons.mpr ⟨lw_p8, List.forall_mem_cons.mpr ⟨lw_p9, List.forall_mem_cons.mpr ⟨lw_p10, List.forall_mem_cons.mpr ⟨lw_p11, List.forall_mem_cons.mpr ⟨lw_p12, List.forall_mem_cons.mpr ⟨lw_p13, List.forall_mem_cons.mpr ⟨lw_p14, List.forall_mem_cons.mpr ⟨lw_p15, fun _ h => absurd h List.not_mem_nil⟩⟩⟩⟩⟩⟩⟩⟩⟩⟩⟩⟩⟩⟩⟩⟩
theorem lw_p16 : lw_okq (⟨"PavingTrust$TextReader", "readClause", "(I)I"⟩, 7) := ⟨⟨by decide +kernel, by decide +kernel⟩, List.mem_of_getElem? (i := 157) (by decide +kernel), List.mem_of_getElem? (i := 646) (by decide +kernel), List.mem_of_getElem? (i := 647) (by decide +kernel)⟩
theorem lw_p17 : lw_okq (⟨"PavingTrust$TextReader", "readExpression", "(I)I"⟩, 7) := ⟨⟨by decide +kernel, by decide +kernel⟩, List.mem_of_getElem? (i := 157) (by decide +kernel), List.mem_of_getElem? (i := 650) (by decide +kernel), List.mem_of_getElem? (i := 651) (by decide +kernel)⟩
theorem lw_p18 : lw_okq (⟨"PavingTrust$TextReader", "readSum", "(I)I"⟩, 7) := ⟨⟨by decide +kernel, by decide +kernel⟩, List.mem_of_getElem? (i := 157) (by decide +kernel), List.mem_of_getElem? (i := 654) (by decide +kernel), List.mem_of_getElem? (i := 655) (by decide +kernel)⟩
theorem lw_p19 : lw_okq (⟨"PavingTrust$TextReader", "readProduct", "(I)I"⟩, 7) := ⟨⟨by decide +kernel, by decide +kernel⟩, List.mem_of_getElem? (i := 157) (by decide +kernel), List.mem_of_getElem? (i := 658) (by decide +kernel), List.mem_of_getElem? (i := 659) (by decide +kernel)⟩
theorem lw_p20 : lw_okq (⟨"PavingTrust$TextReader", "readOperand", "(I)I"⟩, 7) := ⟨⟨by decide +kernel, by decide +kernel⟩, List.mem_of_getElem? (i := 157) (by decide +kernel), List.mem_of_getElem? (i := 662) (by decide +kernel), List.mem_of_getElem? (i := 663) (by decide +kernel)⟩
theorem lw_p21 : lw_okq (⟨"PavingTrust$TextReader", "peek", "()I"⟩, 7) := ⟨⟨by decide +kernel, by decide +kernel⟩, List.mem_of_getElem? (i := 157) (by decide +kernel), List.mem_of_getElem? (i := 666) (by decide +kernel), List.mem_of_getElem? (i := 667) (by decide +kernel)⟩
theorem lw_p22 : lw_okq (⟨"PavingTrust$TextReader", "readNumber", "()I"⟩, 7) := ⟨⟨by decide +kernel, by decide +kernel⟩, List.mem_of_getElem? (i := 157) (by decide +kernel), List.mem_of_getElem? (i := 673) (by decide +kernel), List.mem_of_getElem? (i := 674) (by decide +kernel)⟩
theorem lw_p23 : lw_okq (⟨"PavingTrust$TextReader", "markFault", "()V"⟩, 7) := ⟨⟨by decide +kernel, by decide +kernel⟩, List.mem_of_getElem? (i := 157) (by decide +kernel), List.mem_of_getElem? (i := 677) (by decide +kernel), List.mem_of_getElem? (i := 678) (by decide +kernel)⟩
theorem lw_p24 : lw_okq (⟨"PavingTrust$TextReader", "readParenthesis", "(I)I"⟩, 7) := ⟨⟨by decide +kernel, by decide +kernel⟩, List.mem_of_getElem? (i := 157) (by decide +kernel), List.mem_of_getElem? (i := 681) (by decide +kernel), List.mem_of_getElem? (i := 682) (by decide +kernel)⟩
theorem lw_p25 : lw_okq (⟨"PavingTrust", "findHouse", "(I)LPavingTrust$House;"⟩, 14) := ⟨⟨by decide +kernel, by decide +kernel⟩, List.mem_of_getElem? (i := 24) (by decide +kernel), List.mem_of_getElem? (i := 816) (by decide +kernel), List.mem_of_getElem? (i := 817) (by decide +kernel)⟩
theorem lw_p26 : lw_okq (⟨"PavingTrust", "isSquare", "(II)Z"⟩, 14) := ⟨⟨by decide +kernel, by decide +kernel⟩, List.mem_of_getElem? (i := 24) (by decide +kernel), List.mem_of_getElem? (i := 862) (by decide +kernel), List.mem_of_getElem? (i := 863) (by decide +kernel)⟩
theorem lw_p27 : lw_okq (⟨"PavingTrust", "openNowAt", "(II)I"⟩, 14) := ⟨⟨by decide +kernel, by decide +kernel⟩, List.mem_of_getElem? (i := 24) (by decide +kernel), List.mem_of_getElem? (i := 866) (by decide +kernel), List.mem_of_getElem? (i := 867) (by decide +kernel)⟩
theorem lw_p28 : lw_okq (⟨"PavingTrust", "findOpening", "(I)LPavingTrust$Opening;"⟩, 14) := ⟨⟨by decide +kernel, by decide +kernel⟩, List.mem_of_getElem? (i := 24) (by decide +kernel), List.mem_of_getElem? (i := 915) (by decide +kernel), List.mem_of_getElem? (i := 916) (by decide +kernel)⟩
theorem lw_p29 : lw_okq (⟨"PavingTrust", "countOpen", "(I)I"⟩, 14) := ⟨⟨by decide +kernel, by decide +kernel⟩, List.mem_of_getElem? (i := 24) (by decide +kernel), List.mem_of_getElem? (i := 923) (by decide +kernel), List.mem_of_getElem? (i := 924) (by decide +kernel)⟩
theorem lw_p30 : lw_okq (⟨"PavingTrust", "lastPutBackAt", "(II)I"⟩, 14) := ⟨⟨by decide +kernel, by decide +kernel⟩, List.mem_of_getElem? (i := 24) (by decide +kernel), List.mem_of_getElem? (i := 941) (by decide +kernel), List.mem_of_getElem? (i := 942) (by decide +kernel)⟩
theorem lw_p31 : lw_okq (⟨"PavingTrust$Lots", "waysWithFew", "(IIII)J"⟩, 4) := ⟨⟨by decide +kernel, by decide +kernel⟩, List.mem_of_getElem? (i := 210) (by decide +kernel), List.mem_of_getElem? (i := 976) (by decide +kernel), List.mem_of_getElem? (i := 977) (by decide +kernel)⟩
def lw_privs_2 : List (MethodName × Nat) := [(⟨"PavingTrust$TextReader", "readClause", "(I)I"⟩, 7), (⟨"PavingTrust$TextReader", "readExpression", "(I)I"⟩, 7), (⟨"PavingTrust$TextReader", "readSum", "(I)I"⟩, 7), (⟨"PavingTrust$TextReader", "readProduct", "(I)I"⟩, 7), (⟨"PavingTrust$TextReader", "readOperand", "(I)I"⟩, 7), (⟨"PavingTrust$TextReader", "peek", "()I"⟩, 7), (⟨"PavingTrust$TextReader", "readNumber", "()I"⟩, 7), (⟨"PavingTrust$TextReader", "markFault", "()V"⟩, 7), (⟨"PavingTrust$TextReader", "readParenthesis", "(I)I"⟩, 7), (⟨"PavingTrust", "findHouse", "(I)LPavingTrust$House;"⟩, 14), (⟨"PavingTrust", "isSquare", "(II)Z"⟩, 14), (⟨"PavingTrust", "openNowAt", "(II)I"⟩, 14), (⟨"PavingTrust", "findOpening", "(I)LPavingTrust$Opening;"⟩, 14), (⟨"PavingTrust", "countOpen", "(I)I"⟩, 14), (⟨"PavingTrust", "lastPutBackAt", "(II)I"⟩, 14), (⟨"PavingTrust$Lots", "waysWithFew", "(IIII)J"⟩, 4)]
theorem lw_r2 : ∀ q ∈ lw_privs_2, lw_okq q := List.forall_mem_cons.mpr ⟨lw_p16, List.forall_mem_cons.mpr ⟨lw_p17, List.forall_mem_cons.mpr ⟨lw_p18, List.forall_mem_cons.mpr ⟨lw_p19, List.forall_mem_cons.mpr ⟨lw_p20, List.forall_mem_cons.mpr ⟨lw_p21, List.forall_mem_cons.mpr ⟨lw_p22, List.forall_mem_cons.mpr ⟨lw_p23, List.forall_mem_cons.mpr ⟨lw_p24, List.forall_mem_cons.mpr ⟨lw_p25, List.forall_mem_cons.mpr ⟨lw_p26, List.forall_mem_cons.mpr ⟨lw_p27, List.forall_mem_cons.mpr ⟨lw_p28, List.forall_mem_cons.mpr ⟨lw_p29, List.forall_mem_cons.mpr ⟨lw_p30, List.forall_mem_cons.mpr ⟨lw_p31, fun _ h => absurd h List.not_mem_nil⟩⟩⟩⟩⟩⟩⟩⟩⟩⟩⟩⟩⟩⟩⟩⟩
theorem lw_p32 : lw_okq (⟨"PavingTrust", "countAllOpen", "()I"⟩, 14) := ⟨⟨by decide +kernel, by decide +kernel⟩, List.mem_of_getElem? (i := 24) (by decide +kernel), List.mem_of_getElem? (i := 984) (by decide +kernel), List.mem_of_getElem? (i := 985) (by decide +kernel)⟩
theorem lw_p33 : lw_okq (⟨"PavingTrustModel", "isSquare", "(III)Z"⟩, 66) := ⟨⟨by decide +kernel, by decide +kernel⟩, List.mem_of_getElem? (i := 992) (by decide +kernel), List.mem_of_getElem? (i := 1208) (by decide +kernel), List.mem_of_getElem? (i := 1209) (by decide +kernel)⟩
theorem lw_p34 : lw_okq (⟨"PavingTrustModel", "isStreet", "(I)Z"⟩, 66) := ⟨⟨by decide +kernel, by decide +kernel⟩, List.mem_of_getElem? (i := 992) (by decide +kernel), List.mem_of_getElem? (i := 1212) (by decide +kernel), List.mem_of_getElem? (i := 1213) (by decide +kernel)⟩
theorem lw_p35 : lw_okq (⟨"PavingTrustModel", "comesTo", "(III)I"⟩, 66) := ⟨⟨by decide +kernel, by decide +kernel⟩, List.mem_of_getElem? (i := 992) (by decide +kernel), List.mem_of_getElem? (i := 1231) (by decide +kernel), List.mem_of_getElem? (i := 1232) (by decide +kernel)⟩
theorem lw_p36 : lw_okq (⟨"PavingTrustModel", "goesOn", "(III)I"⟩, 66) := ⟨⟨by decide +kernel, by decide +kernel⟩, List.mem_of_getElem? (i := 992) (by decide +kernel), List.mem_of_getElem? (i := 1235) (by decide +kernel), List.mem_of_getElem? (i := 1236) (by decide +kernel)⟩
theorem lw_p37 : lw_okq (⟨"PavingTrustModel", "isDrain", "(II)Z"⟩, 66) := ⟨⟨by decide +kernel, by decide +kernel⟩, List.mem_of_getElem? (i := 992) (by decide +kernel), List.mem_of_getElem? (i := 1239) (by decide +kernel), List.mem_of_getElem? (i := 1240) (by decide +kernel)⟩
theorem lw_p38 : lw_okq (⟨"PavingTrustModel", "find", "(I)I"⟩, 66) := ⟨⟨by decide +kernel, by decide +kernel⟩, List.mem_of_getElem? (i := 992) (by decide +kernel), List.mem_of_getElem? (i := 1278) (by decide +kernel), List.mem_of_getElem? (i := 1279) (by decide +kernel)⟩
theorem lw_p39 : lw_okq (⟨"PavingTrustModel", "wearOf", "(II)I"⟩, 66) := ⟨⟨by decide +kernel, by decide +kernel⟩, List.mem_of_getElem? (i := 992) (by decide +kernel), List.mem_of_getElem? (i := 1302) (by decide +kernel), List.mem_of_getElem? (i := 1303) (by decide +kernel)⟩
theorem lw_p40 : lw_okq (⟨"PavingTrustModel", "mean", "(I)I"⟩, 66) := ⟨⟨by decide +kernel, by decide +kernel⟩, List.mem_of_getElem? (i := 992) (by decide +kernel), List.mem_of_getElem? (i := 1306) (by decide +kernel), List.mem_of_getElem? (i := 1307) (by decide +kernel)⟩
theorem lw_p41 : lw_okq (⟨"PavingTrustModel", "costOf", "(II)I"⟩, 66) := ⟨⟨by decide +kernel, by decide +kernel⟩, List.mem_of_getElem? (i := 992) (by decide +kernel), List.mem_of_getElem? (i := 1323) (by decide +kernel), List.mem_of_getElem? (i := 1324) (by decide +kernel)⟩
theorem lw_p42 : lw_okq (⟨"PavingTrustModel", "isPlace", "(I)Z"⟩, 66) := ⟨⟨by decide +kernel, by decide +kernel⟩, List.mem_of_getElem? (i := 992) (by decide +kernel), List.mem_of_getElem? (i := 1335) (by decide +kernel), List.mem_of_getElem? (i := 1336) (by decide +kernel)⟩
theorem lw_p43 : lw_okq (⟨"PavingTrustModel", "parse", "(II)I"⟩, 66) := ⟨⟨by decide +kernel, by decide +kernel⟩, List.mem_of_getElem? (i := 992) (by decide +kernel), List.mem_of_getElem? (i := 1351) (by decide +kernel), List.mem_of_getElem? (i := 1352) (by decide +kernel)⟩
theorem lw_p44 : lw_okq (⟨"PavingTrustModel", "operand", "(II)Z"⟩, 66) := ⟨⟨by decide +kernel, by decide +kernel⟩, List.mem_of_getElem? (i := 992) (by decide +kernel), List.mem_of_getElem? (i := 1355) (by decide +kernel), List.mem_of_getElem? (i := 1356) (by decide +kernel)⟩
theorem lw_p45 : lw_okq (⟨"PavingTrustModel", "opened", "()I"⟩, 66) := ⟨⟨by decide +kernel, by decide +kernel⟩, List.mem_of_getElem? (i := 992) (by decide +kernel), List.mem_of_getElem? (i := 1359) (by decide +kernel), List.mem_of_getElem? (i := 1360) (by decide +kernel)⟩
theorem lw_p46 : lw_okq (⟨"PavingTrustModel", "adds", "(III)V"⟩, 66) := ⟨⟨by decide +kernel, by decide +kernel⟩, List.mem_of_getElem? (i := 992) (by decide +kernel), List.mem_of_getElem? (i := 1366) (by decide +kernel), List.mem_of_getElem? (i := 1367) (by decide +kernel)⟩
theorem lw_p47 : lw_okq (⟨"PavingTrustModel", "done", "(II)V"⟩, 66) := ⟨⟨by decide +kernel, by decide +kernel⟩, List.mem_of_getElem? (i := 992) (by decide +kernel), List.mem_of_getElem? (i := 1379) (by decide +kernel), List.mem_of_getElem? (i := 1380) (by decide +kernel)⟩
def lw_privs_3 : List (MethodName × Nat) := [(⟨"PavingTrust", "countAllOpen", "()I"⟩, 14), (⟨"PavingTrustModel", "isSquare", "(III)Z"⟩, 66), (⟨"PavingTrustModel", "isStreet", "(I)Z"⟩, 66), (⟨"PavingTrustModel", "comesTo", "(III)I"⟩, 66), (⟨"PavingTrustModel", "goesOn", "(III)I"⟩, 66), (⟨"PavingTrustModel", "isDrain", "(II)Z"⟩, 66), (⟨"PavingTrustModel", "find", "(I)I"⟩, 66), (⟨"PavingTrustModel", "wearOf", "(II)I"⟩, 66), (⟨"PavingTrustModel", "mean", "(I)I"⟩, 66), (⟨"PavingTrustModel", "costOf", "(II)I"⟩, 66), (⟨"PavingTrustModel", "isPlace", "(I)Z"⟩, 66), (⟨"PavingTrustModel", "parse", "(II)I"⟩, 66), (⟨"PavingTrustModel", "operand", "(II)Z"⟩, 66), (⟨"PavingTrustModel", "opened", "()I"⟩, 66), (⟨"PavingTrustModel", "adds", "(III)V"⟩, 66), (⟨"PavingTrustModel", "done", "(II)V"⟩, 66)]
theorem lw_r3 : ∀ q ∈ lw_privs_3, lw_okq q := List.forall_mem_cons.mpr ⟨lw_p32, List.forall_mem_cons.mpr ⟨lw_p33, List.forall_mem_cons.mpr ⟨lw_p34, List.forall_mem_cons.mpr ⟨lw_p35, List.forall_mem_cons.mpr ⟨lw_p36, List.forall_mem_cons.mpr ⟨lw_p37, List.forall_mem_cons.mpr ⟨lw_p38, List.forall_mem_cons.mpr ⟨lw_p39, List.forall_mem_cons.mpr ⟨lw_p40, List.forall_mem_cons.mpr ⟨lw_p41, List.forall_mem_cons.mpr ⟨lw_p42, List.forall_mem_cons.mpr ⟨lw_p43, List.forall_mem_cons.mpr ⟨lw_p44, List.forall_mem_cons.mpr ⟨lw_p45, List.forall_mem_cons.mpr ⟨lw_p46, List.forall_mem_cons.mpr ⟨lw_p47, fun _ h => absurd h List.not_mem_nil⟩⟩⟩⟩⟩⟩⟩⟩⟩⟩⟩⟩⟩⟩⟩⟩
theorem lw_p48 : lw_okq (⟨"PavingTrustModel", "forceOn", "(III)I"⟩, 66) := ⟨⟨by decide +kernel, by decide +kernel⟩, List.mem_of_getElem? (i := 992) (by decide +kernel), List.mem_of_getElem? (i := 1390) (by decide +kernel), List.mem_of_getElem? (i := 1391) (by decide +kernel)⟩
theorem lw_p49 : lw_okq (⟨"PavingTrustModel", "isHouse", "(I)Z"⟩, 66) := ⟨⟨by decide +kernel, by decide +kernel⟩, List.mem_of_getElem? (i := 992) (by decide +kernel), List.mem_of_getElem? (i := 1398) (by decide +kernel), List.mem_of_getElem? (i := 1399) (by decide +kernel)⟩
theorem lw_p50 : lw_okq (⟨"PavingTrustModel", "part", "(IIZI)I"⟩, 66) := ⟨⟨by decide +kernel, by decide +kernel⟩, List.mem_of_getElem? (i := 992) (by decide +kernel), List.mem_of_getElem? (i := 1403) (by decide +kernel), List.mem_of_getElem? (i := 1404) (by decide +kernel)⟩
theorem lw_p51 : lw_okq (⟨"PavingTrustModel", "says", "(I)I"⟩, 66) := ⟨⟨by decide +kernel, by decide +kernel⟩, List.mem_of_getElem? (i := 992) (by decide +kernel), List.mem_of_getElem? (i := 1407) (by decide +kernel), List.mem_of_getElem? (i := 1408) (by decide +kernel)⟩
theorem lw_p52 : lw_okq (⟨"PavingTrustModel", "isAt", "(II)Z"⟩, 66) := ⟨⟨by decide +kernel, by decide +kernel⟩, List.mem_of_getElem? (i := 992) (by decide +kernel), List.mem_of_getElem? (i := 1429) (by decide +kernel), List.mem_of_getElem? (i := 1430) (by decide +kernel)⟩
theorem lw_p53 : lw_okq (⟨"PavingTrustModel", "openNow", "(II)I"⟩, 66) := ⟨⟨by decide +kernel, by decide +kernel⟩, List.mem_of_getElem? (i := 992) (by decide +kernel), List.mem_of_getElem? (i := 1433) (by decide +kernel), List.mem_of_getElem? (i := 1434) (by decide +kernel)⟩
theorem lw_p54 : lw_okq (⟨"PavingTrustModel", "isOpening", "(I)Z"⟩, 66) := ⟨⟨by decide +kernel, by decide +kernel⟩, List.mem_of_getElem? (i := 992) (by decide +kernel), List.mem_of_getElem? (i := 1441) (by decide +kernel), List.mem_of_getElem? (i := 1442) (by decide +kernel)⟩
theorem lw_p55 : lw_okq (⟨"PavingTrustModel", "choose", "(II)J"⟩, 66) := ⟨⟨by decide +kernel, by decide +kernel⟩, List.mem_of_getElem? (i := 992) (by decide +kernel), List.mem_of_getElem? (i := 1470) (by decide +kernel), List.mem_of_getElem? (i := 1471) (by decide +kernel)⟩
def lw_privs_4 : List (MethodName × Nat) := [(⟨"PavingTrustModel", "forceOn", "(III)I"⟩, 66), (⟨"PavingTrustModel", "isHouse", "(I)Z"⟩, 66), (⟨"PavingTrustModel", "part", "(IIZI)I"⟩, 66), (⟨"PavingTrustModel", "says", "(I)I"⟩, 66), (⟨"PavingTrustModel", "isAt", "(II)Z"⟩, 66), (⟨"PavingTrustModel", "openNow", "(II)I"⟩, 66), (⟨"PavingTrustModel", "isOpening", "(I)Z"⟩, 66), (⟨"PavingTrustModel", "choose", "(II)J"⟩, 66)]
theorem lw_r4 : ∀ q ∈ lw_privs_4, lw_okq q := List.forall_mem_cons.mpr ⟨lw_p48, List.forall_mem_cons.mpr ⟨lw_p49, List.forall_mem_cons.mpr ⟨lw_p50, List.forall_mem_cons.mpr ⟨lw_p51, List.forall_mem_cons.mpr ⟨lw_p52, List.forall_mem_cons.mpr ⟨lw_p53, List.forall_mem_cons.mpr ⟨lw_p54, List.forall_mem_cons.mpr ⟨lw_p55, fun _ h => absurd h List.not_mem_nil⟩⟩⟩⟩⟩⟩⟩⟩
def lw_privs : List (MethodName × Nat) := lw_privs_1 ++ (lw_privs_2 ++ (lw_privs_3 ++ (lw_privs_4)))
def lw_tbl : List Cond := k2_sels lw_privs ++ tables_1
theorem lw_privs_ok : ∀ q ∈ lw_privs, lw_okq q := by
  show ∀ q ∈ lw_privs_1 ++ (lw_privs_2 ++ (lw_privs_3 ++ (lw_privs_4))), lw_okq q
  exact List.forall_mem_append.mpr ⟨lw_r1, List.forall_mem_append.mpr ⟨lw_r2, List.forall_mem_append.mpr ⟨lw_r3, lw_r4⟩⟩⟩
end
section
theorem goodIn_r {big : List Cond} (ws : List Cond) (ps : List Nat) (hp : ws = ps.filterMap (fun i => big[i]?)) (h : ws.all goodWord = true) : GoodIn big ws := by
  intro w hw
  have h1 := List.all_eq_true.mp h w hw
  rw [hp] at hw
  obtain ⟨i, -, hi⟩ := List.mem_filterMap.mp hw
  have hm : w ∈ big := by first | exact List.mem_of_getElem? hi | exact List.getElem?_mem hi
  exact ⟨hm, good_of_word h1⟩
theorem goodIn_app {big a b : List Cond} (ha : GoodIn big a) (hb : GoodIn big b) : GoodIn big (a ++ b) := fun w h => (List.mem_append.mp h).elim (ha w) (hb w)
theorem goodIn_ca {big a b : List Cond} {c : Cond} (ha : GoodIn big (c :: a)) (hb : GoodIn big b) : GoodIn big (c :: (a ++ b)) := fun w h => (List.mem_cons.mp h).elim (fun e => ha w (List.mem_cons.mpr (Or.inl e))) (fun h => (List.mem_append.mp h).elim (fun h => ha w (List.mem_cons.mpr (Or.inr h))) (hb w))
theorem goodIn_sub {big ws : List Cond} (hm : ∀ w ∈ ws, w ∈ big) (h : ws.all goodWord = true) : GoodIn big ws := fun w hw => ⟨hm w hw, good_of_word (List.all_eq_true.mp h w hw)⟩
def RX0 : String := "PavingTrust$Act"
def TX0 : u_T := fun k => match k with
  | 0 => ("PavingTrust$Act", "kind", "I", true)
  | 1 => ("PavingTrust$Act", "passedOn", "I", true)
  | 2 => ("PavingTrust$Act", "forceFrom", "I", true)
  | _ => ("PavingTrust$Act", "text", "[B", true)
def tyX0 : Nat → FieldType := fun k => match k with
  | 0 => .int
  | 1 => .int
  | 2 => .int
  | _ => .array .byte
abbrev wsX00 : List Cond := u_ws RX0 TX0 4
theorem nmX0 : ∀ a, a < 4 → ∀ b, b < 4 → a ≠ b → (TX0 a).2.1 ≠ (TX0 b).2.1 := by decide +kernel
theorem tyX0_ok : ∀ k, k < 4 → parseFieldDescriptor (TX0 k).2.2.1 = some (tyX0 k) := by decide +kernel
abbrev cX0_init : ByteArray := prog_2_method_1_code
def yX0_init : MethodName := ⟨RX0, "<init>", "(III[B)V"⟩
def RX1 : String := "PavingTrust$ActBook"
def TX1 : u_T := fun k => match k with
  | 0 => ("PavingTrust$ActBook", "tape", "[B", true)
  | 1 => ("PavingTrust$ActBook", "acts", "[LPavingTrust$Act;", true)
  | 2 => ("PavingTrust$ActBook", "reader", "LPavingTrust$TextReader;", true)
  | 3 => ("PavingTrust$ActBook", "tapeLength", "I", false)
  | _ => ("PavingTrust$ActBook", "actCount", "I", false)
def tyX1 : Nat → FieldType := fun k => match k with
  | 0 => .array .byte
  | 1 => .array (.object "PavingTrust$Act")
  | 2 => .object "PavingTrust$TextReader"
  | 3 => .int
  | _ => .int
abbrev wsX10 : List Cond := u_ws RX1 TX1 5
theorem nmX1 : ∀ a, a < 5 → ∀ b, b < 5 → a ≠ b → (TX1 a).2.1 ≠ (TX1 b).2.1 := by decide +kernel
theorem tyX1_ok : ∀ k, k < 5 → parseFieldDescriptor (TX1 k).2.2.1 = some (tyX1 k) := by decide +kernel
abbrev cX1_init : ByteArray := prog_3_method_1_code
def yX1_init : MethodName := ⟨RX1, "<init>", "()V"⟩
abbrev cX1_writeTape : ByteArray := prog_3_method_2_code
def yX1_writeTape : MethodName := ⟨RX1, "writeTape", "(II)I"⟩
abbrev cX1_pass : ByteArray := prog_3_method_3_code
def yX1_pass : MethodName := ⟨RX1, "pass", "(III)I"⟩
abbrev cX1_numberInForce : ByteArray := prog_3_method_4_code
def yX1_numberInForce : MethodName := ⟨RX1, "numberInForce", "(III)I"⟩
abbrev cX1_findInForce : ByteArray := prog_3_method_5_code
def yX1_findInForce : MethodName := ⟨RX1, "findInForce", "(III)LPavingTrust$Act;"⟩
abbrev cX1_givePart : ByteArray := prog_3_method_6_code
def yX1_givePart : MethodName := ⟨RX1, "givePart", "(LPavingTrust$Act;LPavingTrust$House;ZI)I"⟩
abbrev cX1_givingClause : ByteArray := prog_3_method_7_code
def yX1_givingClause : MethodName := ⟨RX1, "givingClause", "(LPavingTrust$Act;LPavingTrust$House;I)I"⟩
abbrev cX1_givePenalty : ByteArray := prog_3_method_8_code
def yX1_givePenalty : MethodName := ⟨RX1, "givePenalty", "(LPavingTrust$Act;LPavingTrust$Opening;II)I"⟩
abbrev cX1_keepWithin : ByteArray := prog_3_method_9_code
def yX1_keepWithin : MethodName := ⟨RX1, "keepWithin", "(I)I"⟩
def RX2 : String := "PavingTrust$Flow"
def TX2 : u_T := fun k => match k with
  | 0 => ("PavingTrust$Flow", "ends", "[I", true)
  | _ => ("PavingTrust$Flow", "comers", "[I", true)
def tyX2 : Nat → FieldType := fun k => match k with
  | 0 => .array .int
  | _ => .array .int
abbrev wsX20 : List Cond := u_ws RX2 TX2 2
theorem nmX2 : ∀ a, a < 2 → ∀ b, b < 2 → a ≠ b → (TX2 a).2.1 ≠ (TX2 b).2.1 := by decide +kernel
theorem tyX2_ok : ∀ k, k < 2 → parseFieldDescriptor (TX2 k).2.2.1 = some (tyX2 k) := by decide +kernel
abbrev cX2_init : ByteArray := prog_4_method_1_code
def yX2_init : MethodName := ⟨RX2, "<init>", "()V"⟩
abbrev cX2_countStanding : ByteArray := prog_4_method_2_code
def yX2_countStanding : MethodName := ⟨RX2, "countStanding", "(LPavingTrust$Street;)I"⟩
abbrev cX2_countMost : ByteArray := prog_4_method_3_code
def yX2_countMost : MethodName := ⟨RX2, "countMost", "(LPavingTrust$Street;)I"⟩
abbrev cX2_findEnds : ByteArray := prog_4_method_4_code
def yX2_findEnds : MethodName := ⟨RX2, "findEnds", "(LPavingTrust$Street;)V"⟩
def RX3 : String := "PavingTrust$House"
def TX3 : u_T := fun k => match k with
  | 0 => ("PavingTrust$House", "firstStreet", "I", true)
  | 1 => ("PavingTrust$House", "firstFront", "I", true)
  | 2 => ("PavingTrust$House", "secondStreet", "I", true)
  | 3 => ("PavingTrust$House", "secondFront", "I", true)
  | _ => ("PavingTrust$House", "worth", "I", true)
def tyX3 : Nat → FieldType := fun k => match k with
  | 0 => .int
  | 1 => .int
  | 2 => .int
  | 3 => .int
  | _ => .int
abbrev wsX30 : List Cond := u_ws RX3 TX3 5
theorem nmX3 : ∀ a, a < 5 → ∀ b, b < 5 → a ≠ b → (TX3 a).2.1 ≠ (TX3 b).2.1 := by decide +kernel
theorem tyX3_ok : ∀ k, k < 5 → parseFieldDescriptor (TX3 k).2.2.1 = some (tyX3 k) := by decide +kernel
abbrev cX3_init : ByteArray := prog_5_method_1_code
def yX3_init : MethodName := ⟨RX3, "<init>", "(III)V"⟩
abbrev cX3_isCorner : ByteArray := prog_5_method_2_code
def yX3_isCorner : MethodName := ⟨RX3, "isCorner", "()Z"⟩
abbrev cX3_hasPartIn : ByteArray := prog_5_method_3_code
def yX3_hasPartIn : MethodName := ⟨RX3, "hasPartIn", "(I)Z"⟩
def RX4 : String := "PavingTrust$Leveller"
def TX4 : u_T := fun k => match k with
  | 0 => ("PavingTrust$Leveller", "least", "[I", true)
  | 1 => ("PavingTrust$Leveller", "before", "[I", true)
  | 2 => ("PavingTrust$Leveller", "after", "[I", true)
  | 3 => ("PavingTrust$Leveller", "street", "LPavingTrust$Street;", false)
  | 4 => ("PavingTrust$Leveller", "row", "I", false)
  | 5 => ("PavingTrust$Leveller", "earth", "I", false)
  | 6 => ("PavingTrust$Leveller", "kennel", "I", false)
  | 7 => ("PavingTrust$Leveller", "leastFall", "I", false)
  | _ => ("PavingTrust$Leveller", "greatestFall", "I", false)
def tyX4 : Nat → FieldType := fun k => match k with
  | 0 => .array .int
  | 1 => .array .int
  | 2 => .array .int
  | 3 => .object "PavingTrust$Street"
  | 4 => .int
  | 5 => .int
  | 6 => .int
  | 7 => .int
  | _ => .int
abbrev wsX40 : List Cond := u_ws RX4 TX4 9
theorem nmX4 : ∀ a, a < 9 → ∀ b, b < 9 → a ≠ b → (TX4 a).2.1 ≠ (TX4 b).2.1 := by decide +kernel
theorem tyX4_ok : ∀ k, k < 9 → parseFieldDescriptor (TX4 k).2.2.1 = some (tyX4 k) := by decide +kernel
abbrev cX4_init : ByteArray := prog_6_method_1_code
def yX4_init : MethodName := ⟨RX4, "<init>", "()V"⟩
abbrev cX4_levelRow : ByteArray := prog_6_method_2_code
def yX4_levelRow : MethodName := ⟨RX4, "levelRow", "(LPavingTrust$Street;IIII)I"⟩
abbrev cX4_weighColumn : ByteArray := prog_6_method_3_code
def yX4_weighColumn : MethodName := ⟨RX4, "weighColumn", "(LPavingTrust$Street;II)V"⟩
abbrev cX4_lowestBehind : ByteArray := prog_6_method_4_code
def yX4_lowestBehind : MethodName := ⟨RX4, "lowestBehind", "(II)I"⟩
abbrev cX4_highestBehind : ByteArray := prog_6_method_5_code
def yX4_highestBehind : MethodName := ⟨RX4, "highestBehind", "(II)I"⟩
abbrev cX4_bestHeight : ByteArray := prog_6_method_6_code
def yX4_bestHeight : MethodName := ⟨RX4, "bestHeight", "(III)I"⟩
abbrev cX4_keepHeights : ByteArray := prog_6_method_7_code
def yX4_keepHeights : MethodName := ⟨RX4, "keepHeights", "(LPavingTrust$Street;I)V"⟩
abbrev cX4_newHeight : ByteArray := prog_6_method_8_code
def yX4_newHeight : MethodName := ⟨RX4, "newHeight", "(I)I"⟩
abbrev cX4_carryOut : ByteArray := prog_6_method_9_code
def yX4_carryOut : MethodName := ⟨RX4, "carryOut", "()I"⟩
abbrev cX4_isRowAsBefore : ByteArray := prog_6_method_10_code
def yX4_isRowAsBefore : MethodName := ⟨RX4, "isRowAsBefore", "(LPavingTrust$Street;)Z"⟩
def RX5 : String := "PavingTrust$Lots"
def TX5 : u_T := fun k => match k with
  | 0 => ("PavingTrust$Lots", "ways", "[J", true)
  | 1 => ("PavingTrust$Lots", "rest", "[I", true)
  | 2 => ("PavingTrust$Lots", "lots", "[I", true)
  | _ => ("PavingTrust$Lots", "lotCount", "I", false)
def tyX5 : Nat → FieldType := fun k => match k with
  | 0 => .array .long
  | 1 => .array .int
  | 2 => .array .int
  | _ => .int
abbrev wsX50 : List Cond := u_ws RX5 TX5 4
theorem nmX5 : ∀ a, a < 4 → ∀ b, b < 4 → a ≠ b → (TX5 a).2.1 ≠ (TX5 b).2.1 := by decide +kernel
theorem tyX5_ok : ∀ k, k < 4 → parseFieldDescriptor (TX5 k).2.2.1 = some (tyX5 k) := by decide +kernel
abbrev cX5_init : ByteArray := prog_7_method_1_code
def yX5_init : MethodName := ⟨RX5, "<init>", "()V"⟩
abbrev cX5_drawLots : ByteArray := prog_7_method_2_code
def yX5_drawLots : MethodName := ⟨RX5, "drawLots", "(III)I"⟩
abbrev cX5_lotAt : ByteArray := prog_7_method_3_code
def yX5_lotAt : MethodName := ⟨RX5, "lotAt", "(I)I"⟩
abbrev cX5_mostBad : ByteArray := prog_7_method_4_code
def yX5_mostBad : MethodName := ⟨RX5, "mostBad", "(IIII)I"⟩
abbrev cX5_waysWithFew : ByteArray := prog_7_method_5_code
def yX5_waysWithFew : MethodName := ⟨RX5, "waysWithFew", "(IIII)J"⟩
def RX6 : String := "PavingTrust$Opening"
def TX6 : u_T := fun k => match k with
  | 0 => ("PavingTrust$Opening", "company", "I", true)
  | 1 => ("PavingTrust$Opening", "street", "I", true)
  | 2 => ("PavingTrust$Opening", "square", "I", true)
  | 3 => ("PavingTrust$Opening", "openedDay", "I", true)
  | 4 => ("PavingTrust$Opening", "leaveDays", "I", true)
  | _ => ("PavingTrust$Opening", "backDay", "I", false)
def tyX6 : Nat → FieldType := fun k => match k with
  | 0 => .int
  | 1 => .int
  | 2 => .int
  | 3 => .int
  | 4 => .int
  | _ => .int
abbrev wsX60 : List Cond := u_ws RX6 TX6 6
theorem nmX6 : ∀ a, a < 6 → ∀ b, b < 6 → a ≠ b → (TX6 a).2.1 ≠ (TX6 b).2.1 := by decide +kernel
theorem tyX6_ok : ∀ k, k < 6 → parseFieldDescriptor (TX6 k).2.2.1 = some (tyX6 k) := by decide +kernel
abbrev cX6_init : ByteArray := prog_8_method_1_code
def yX6_init : MethodName := ⟨RX6, "<init>", "(IIIII)V"⟩
abbrev cX6_isOpen : ByteArray := prog_8_method_2_code
def yX6_isOpen : MethodName := ⟨RX6, "isOpen", "()Z"⟩
abbrev cX6_isAt : ByteArray := prog_8_method_3_code
def yX6_isAt : MethodName := ⟨RX6, "isAt", "(II)Z"⟩
abbrev cX6_daysOpenOn : ByteArray := prog_8_method_4_code
def yX6_daysOpenOn : MethodName := ⟨RX6, "daysOpenOn", "(I)I"⟩
def RX7 : String := "PavingTrust$Planner"
def TX7 : u_T := fun k => match k with
  | 0 => ("PavingTrust$Planner", "members", "[I", true)
  | 1 => ("PavingTrust$Planner", "wears", "[I", true)
  | 2 => ("PavingTrust$Planner", "costs", "[I", true)
  | 3 => ("PavingTrust$Planner", "left", "[I", true)
  | 4 => ("PavingTrust$Planner", "choice", "[I", true)
  | 5 => ("PavingTrust$Planner", "bestChoice", "[I", true)
  | 6 => ("PavingTrust$Planner", "told", "[I", true)
  | 7 => ("PavingTrust$Planner", "memberCount", "I", false)
  | 8 => ("PavingTrust$Planner", "years", "I", false)
  | 9 => ("PavingTrust$Planner", "bestWorth", "I", false)
  | _ => ("PavingTrust$Planner", "bestCost", "I", false)
def tyX7 : Nat → FieldType := fun k => match k with
  | 0 => .array .int
  | 1 => .array .int
  | 2 => .array .int
  | 3 => .array .int
  | 4 => .array .int
  | 5 => .array .int
  | 6 => .array .int
  | 7 => .int
  | 8 => .int
  | 9 => .int
  | _ => .int
abbrev wsX70 : List Cond := u_ws RX7 TX7 11
theorem nmX7 : ∀ a, a < 11 → ∀ b, b < 11 → a ≠ b → (TX7 a).2.1 ≠ (TX7 b).2.1 := by decide +kernel
theorem tyX7_ok : ∀ k, k < 11 → parseFieldDescriptor (TX7 k).2.2.1 = some (tyX7 k) := by decide +kernel
abbrev cX7_init : ByteArray := prog_9_method_1_code
def yX7_init : MethodName := ⟨RX7, "<init>", "()V"⟩
abbrev cX7_begin : ByteArray := prog_9_method_2_code
def yX7_begin : MethodName := ⟨RX7, "begin", "(IIII)V"⟩
abbrev cX7_join : ByteArray := prog_9_method_3_code
def yX7_join : MethodName := ⟨RX7, "join", "(ILPavingTrust$Street;I)V"⟩
abbrev cX7_findBest : ByteArray := prog_9_method_4_code
def yX7_findBest : MethodName := ⟨RX7, "findBest", "(I)I"⟩
abbrev cX7_tryFrom : ByteArray := prog_9_method_5_code
def yX7_tryFrom : MethodName := ⟨RX7, "tryFrom", "(III)V"⟩
abbrev cX7_keepIfBetter : ByteArray := prog_9_method_6_code
def yX7_keepIfBetter : MethodName := ⟨RX7, "keepIfBetter", "(II)V"⟩
abbrev cX7_yearOf : ByteArray := prog_9_method_7_code
def yX7_yearOf : MethodName := ⟨RX7, "yearOf", "(I)I"⟩
def RX8 : String := "PavingTrust$Street"
def TX8 : u_T := fun k => match k with
  | 0 => ("PavingTrust$Street", "rows", "I", true)
  | 1 => ("PavingTrust$Street", "columns", "I", true)
  | 2 => ("PavingTrust$Street", "heights", "[I", true)
  | 3 => ("PavingTrust$Street", "drains", "[I", true)
  | 4 => ("PavingTrust$Street", "wheelsIn", "[I", true)
  | 5 => ("PavingTrust$Street", "pavedIn", "I", false)
  | 6 => ("PavingTrust$Street", "fullCost", "I", false)
  | 7 => ("PavingTrust$Street", "savedCost", "I", false)
  | _ => ("PavingTrust$Street", "savingYear", "I", false)
def tyX8 : Nat → FieldType := fun k => match k with
  | 0 => .int
  | 1 => .int
  | 2 => .array .int
  | 3 => .array .int
  | 4 => .array .int
  | 5 => .int
  | 6 => .int
  | 7 => .int
  | _ => .int
abbrev wsX80 : List Cond := u_ws RX8 TX8 9
theorem nmX8 : ∀ a, a < 9 → ∀ b, b < 9 → a ≠ b → (TX8 a).2.1 ≠ (TX8 b).2.1 := by decide +kernel
theorem tyX8_ok : ∀ k, k < 9 → parseFieldDescriptor (TX8 k).2.2.1 = some (tyX8 k) := by decide +kernel
abbrev cX8_init : ByteArray := prog_10_method_1_code
def yX8_init : MethodName := ⟨RX8, "<init>", "(III)V"⟩
abbrev cX8_has : ByteArray := prog_10_method_2_code
def yX8_has : MethodName := ⟨RX8, "has", "(II)Z"⟩
abbrev cX8_placeOf : ByteArray := prog_10_method_3_code
def yX8_placeOf : MethodName := ⟨RX8, "placeOf", "(II)I"⟩
abbrev cX8_rowOf : ByteArray := prog_10_method_4_code
def yX8_rowOf : MethodName := ⟨RX8, "rowOf", "(I)I"⟩
abbrev cX8_columnOf : ByteArray := prog_10_method_5_code
def yX8_columnOf : MethodName := ⟨RX8, "columnOf", "(I)I"⟩
abbrev cX8_nextOfWater : ByteArray := prog_10_method_6_code
def yX8_nextOfWater : MethodName := ⟨RX8, "nextOfWater", "(I)I"⟩
abbrev cX8_lowerOf : ByteArray := prog_10_method_7_code
def yX8_lowerOf : MethodName := ⟨RX8, "lowerOf", "(III)I"⟩
abbrev cX8_endOfWater : ByteArray := prog_10_method_8_code
def yX8_endOfWater : MethodName := ⟨RX8, "endOfWater", "(I)I"⟩
abbrev cX8_wearAt : ByteArray := prog_10_method_9_code
def yX8_wearAt : MethodName := ⟨RX8, "wearAt", "(II)I"⟩
abbrev cX8_meanWheels : ByteArray := prog_10_method_10_code
def yX8_meanWheels : MethodName := ⟨RX8, "meanWheels", "(I)I"⟩
abbrev cX8_costIn : ByteArray := prog_10_method_11_code
def yX8_costIn : MethodName := ⟨RX8, "costIn", "(I)I"⟩
def RX9 : String := "PavingTrust$TextReader"
def TX9 : u_T := fun k => match k with
  | 0 => ("PavingTrust$TextReader", "values", "[I", true)
  | 1 => ("PavingTrust$TextReader", "bytes", "[B", false)
  | 2 => ("PavingTrust$TextReader", "length", "I", false)
  | 3 => ("PavingTrust$TextReader", "at", "I", false)
  | 4 => ("PavingTrust$TextReader", "names", "Ljava/lang/String;", false)
  | 5 => ("PavingTrust$TextReader", "fault", "I", false)
  | _ => ("PavingTrust$TextReader", "givingClause", "I", false)
def tyX9 : Nat → FieldType := fun k => match k with
  | 0 => .array .int
  | 1 => .array .byte
  | 2 => .int
  | 3 => .int
  | 4 => .object "java/lang/String"
  | 5 => .int
  | _ => .int
abbrev wsX90 : List Cond := u_ws RX9 TX9 7
theorem nmX9 : ∀ a, a < 7 → ∀ b, b < 7 → a ≠ b → (TX9 a).2.1 ≠ (TX9 b).2.1 := by decide +kernel
theorem tyX9_ok : ∀ k, k < 7 → parseFieldDescriptor (TX9 k).2.2.1 = some (tyX9 k) := by decide +kernel
abbrev cX9_init : ByteArray := prog_11_method_1_code
def yX9_init : MethodName := ⟨RX9, "<init>", "()V"⟩
abbrev cX9_readText : ByteArray := prog_11_method_2_code
def yX9_readText : MethodName := ⟨RX9, "readText", "([BII)I"⟩
abbrev cX9_readClause : ByteArray := prog_11_method_3_code
def yX9_readClause : MethodName := ⟨RX9, "readClause", "(I)I"⟩
abbrev cX9_readExpression : ByteArray := prog_11_method_4_code
def yX9_readExpression : MethodName := ⟨RX9, "readExpression", "(I)I"⟩
abbrev cX9_readSum : ByteArray := prog_11_method_5_code
def yX9_readSum : MethodName := ⟨RX9, "readSum", "(I)I"⟩
abbrev cX9_readProduct : ByteArray := prog_11_method_6_code
def yX9_readProduct : MethodName := ⟨RX9, "readProduct", "(I)I"⟩
abbrev cX9_multiply : ByteArray := prog_11_method_7_code
def yX9_multiply : MethodName := ⟨RX9, "multiply", "(III)I"⟩
abbrev cX9_readOperand : ByteArray := prog_11_method_8_code
def yX9_readOperand : MethodName := ⟨RX9, "readOperand", "(I)I"⟩
abbrev cX9_readParenthesis : ByteArray := prog_11_method_9_code
def yX9_readParenthesis : MethodName := ⟨RX9, "readParenthesis", "(I)I"⟩
abbrev cX9_readNumber : ByteArray := prog_11_method_10_code
def yX9_readNumber : MethodName := ⟨RX9, "readNumber", "()I"⟩
abbrev cX9_isDigit : ByteArray := prog_11_method_11_code
def yX9_isDigit : MethodName := ⟨RX9, "isDigit", "(I)Z"⟩
abbrev cX9_peek : ByteArray := prog_11_method_12_code
def yX9_peek : MethodName := ⟨RX9, "peek", "()I"⟩
abbrev cX9_markFault : ByteArray := prog_11_method_13_code
def yX9_markFault : MethodName := ⟨RX9, "markFault", "()V"⟩
def RX10 : String := "PavingTrust$Yard"
def TX10 : u_T := fun k => match k with
  | 0 => ("PavingTrust$Yard", "stock", "[I", true)
  | 1 => ("PavingTrust$Yard", "fewest", "[I", true)
  | 2 => ("PavingTrust$Yard", "chosen", "[I", true)
  | 3 => ("PavingTrust$Yard", "told", "[I", true)
  | _ => ("PavingTrust$Yard", "isTold", "Z", false)
def tyX10 : Nat → FieldType := fun k => match k with
  | 0 => .array .int
  | 1 => .array .int
  | 2 => .array .int
  | 3 => .array .int
  | _ => .boolean
abbrev wsX100 : List Cond := u_ws RX10 TX10 5
theorem nmX10 : ∀ a, a < 5 → ∀ b, b < 5 → a ≠ b → (TX10 a).2.1 ≠ (TX10 b).2.1 := by decide +kernel
theorem tyX10_ok : ∀ k, k < 5 → parseFieldDescriptor (TX10 k).2.2.1 = some (tyX10 k) := by decide +kernel
abbrev cX10_init : ByteArray := prog_12_method_1_code
def yX10_init : MethodName := ⟨RX10, "<init>", "()V"⟩
abbrev cX10_bring : ByteArray := prog_12_method_2_code
def yX10_bring : MethodName := ⟨RX10, "bring", "(II)I"⟩
abbrev cX10_tellCourse : ByteArray := prog_12_method_3_code
def yX10_tellCourse : MethodName := ⟨RX10, "tellCourse", "(I)I"⟩
abbrev cX10_toldOf : ByteArray := prog_12_method_4_code
def yX10_toldOf : MethodName := ⟨RX10, "toldOf", "(I)I"⟩
abbrev cX10_layCourse : ByteArray := prog_12_method_5_code
def yX10_layCourse : MethodName := ⟨RX10, "layCourse", "(I)I"⟩
abbrev cX10_chooseCourse : ByteArray := prog_12_method_6_code
def yX10_chooseCourse : MethodName := ⟨RX10, "chooseCourse", "(I)I"⟩
abbrev cX10_countFor : ByteArray := prog_12_method_7_code
def yX10_countFor : MethodName := ⟨RX10, "countFor", "(II)I"⟩
abbrev cX10_countAll : ByteArray := prog_12_method_8_code
def yX10_countAll : MethodName := ⟨RX10, "countAll", "()I"⟩
def RX11 : String := "PavingTrust"
def TX11 : u_T := fun k => match k with
  | 0 => ("PavingTrust", "streets", "[LPavingTrust$Street;", true)
  | 1 => ("PavingTrust", "streetCount", "I", false)
  | 2 => ("PavingTrust", "flow", "LPavingTrust$Flow;", true)
  | 3 => ("PavingTrust", "leveller", "LPavingTrust$Leveller;", true)
  | 4 => ("PavingTrust", "yard", "LPavingTrust$Yard;", true)
  | 5 => ("PavingTrust", "thisYear", "I", false)
  | 6 => ("PavingTrust", "planner", "LPavingTrust$Planner;", true)
  | 7 => ("PavingTrust", "houses", "[LPavingTrust$House;", true)
  | 8 => ("PavingTrust", "houseCount", "I", false)
  | 9 => ("PavingTrust", "today", "I", false)
  | 10 => ("PavingTrust", "actBook", "LPavingTrust$ActBook;", true)
  | 11 => ("PavingTrust", "openings", "[LPavingTrust$Opening;", true)
  | 12 => ("PavingTrust", "openingCount", "I", false)
  | _ => ("PavingTrust", "lots", "LPavingTrust$Lots;", true)
def tyX11 : Nat → FieldType := fun k => match k with
  | 0 => .array (.object "PavingTrust$Street")
  | 1 => .int
  | 2 => .object "PavingTrust$Flow"
  | 3 => .object "PavingTrust$Leveller"
  | 4 => .object "PavingTrust$Yard"
  | 5 => .int
  | 6 => .object "PavingTrust$Planner"
  | 7 => .array (.object "PavingTrust$House")
  | 8 => .int
  | 9 => .int
  | 10 => .object "PavingTrust$ActBook"
  | 11 => .array (.object "PavingTrust$Opening")
  | 12 => .int
  | _ => .object "PavingTrust$Lots"
abbrev wsX110 : List Cond := u_ws RX11 TX11 14
theorem nmX11 : ∀ a, a < 14 → ∀ b, b < 14 → a ≠ b → (TX11 a).2.1 ≠ (TX11 b).2.1 := by decide +kernel
theorem tyX11_ok : ∀ k, k < 14 → parseFieldDescriptor (TX11 k).2.2.1 = some (tyX11 k) := by decide +kernel
abbrev cX11_init : ByteArray := prog_1_method_1_code
def yX11_init : MethodName := ⟨RX11, "<init>", "()V"⟩
abbrev cX11_street : ByteArray := prog_1_method_2_code
def yX11_street : MethodName := ⟨RX11, "street", "(III)I"⟩
abbrev cX11_height : ByteArray := prog_1_method_3_code
def yX11_height : MethodName := ⟨RX11, "height", "(IIII)I"⟩
abbrev cX11_read : ByteArray := prog_1_method_4_code
def yX11_read : MethodName := ⟨RX11, "read", "(III)I"⟩
abbrev cX11_drain : ByteArray := prog_1_method_5_code
def yX11_drain : MethodName := ⟨RX11, "drain", "(IIII)I"⟩
abbrev cX11_water : ByteArray := prog_1_method_6_code
def yX11_water : MethodName := ⟨RX11, "water", "(III)I"⟩
abbrev cX11_standing : ByteArray := prog_1_method_7_code
def yX11_standing : MethodName := ⟨RX11, "standing", "(I)I"⟩
abbrev cX11_most : ByteArray := prog_1_method_8_code
def yX11_most : MethodName := ⟨RX11, "most", "(I)I"⟩
abbrev cX11_level : ByteArray := prog_1_method_9_code
def yX11_level : MethodName := ⟨RX11, "level", "(IIII)I"⟩
abbrev cX11_levelled : ByteArray := prog_1_method_10_code
def yX11_levelled : MethodName := ⟨RX11, "levelled", "(I)I"⟩
abbrev cX11_move : ByteArray := prog_1_method_11_code
def yX11_move : MethodName := ⟨RX11, "move", "()I"⟩
abbrev cX11_stones : ByteArray := prog_1_method_12_code
def yX11_stones : MethodName := ⟨RX11, "stones", "(II)I"⟩
abbrev cX11_course : ByteArray := prog_1_method_13_code
def yX11_course : MethodName := ⟨RX11, "course", "(I)I"⟩
abbrev cX11_of : ByteArray := prog_1_method_14_code
def yX11_of : MethodName := ⟨RX11, "of", "(I)I"⟩
abbrev cX11_lay : ByteArray := prog_1_method_15_code
def yX11_lay : MethodName := ⟨RX11, "lay", "(I)I"⟩
abbrev cX11_year : ByteArray := prog_1_method_16_code
def yX11_year : MethodName := ⟨RX11, "year", "()I"⟩
abbrev cX11_wheels : ByteArray := prog_1_method_17_code
def yX11_wheels : MethodName := ⟨RX11, "wheels", "(III)I"⟩
abbrev cX11_pave : ByteArray := prog_1_method_18_code
def yX11_pave : MethodName := ⟨RX11, "pave", "(I)I"⟩
abbrev cX11_wear : ByteArray := prog_1_method_19_code
def yX11_wear : MethodName := ⟨RX11, "wear", "(II)I"⟩
abbrev cX11_cost : ByteArray := prog_1_method_20_code
def yX11_cost : MethodName := ⟨RX11, "cost", "(IIII)I"⟩
abbrev cX11_plan : ByteArray := prog_1_method_21_code
def yX11_plan : MethodName := ⟨RX11, "plan", "(IIIII)I"⟩
abbrev cX11_planned : ByteArray := prog_1_method_22_code
def yX11_planned : MethodName := ⟨RX11, "planned", "(I)I"⟩
abbrev cX11_house : ByteArray := prog_1_method_23_code
def yX11_house : MethodName := ⟨RX11, "house", "(III)I"⟩
abbrev cX11_days : ByteArray := prog_1_method_24_code
def yX11_days : MethodName := ⟨RX11, "days", "(I)I"⟩
abbrev cX11_feed : ByteArray := prog_1_method_25_code
def yX11_feed : MethodName := ⟨RX11, "feed", "(II)I"⟩
abbrev cX11_act : ByteArray := prog_1_method_26_code
def yX11_act : MethodName := ⟨RX11, "act", "(II)I"⟩
abbrev cX11_inForce : ByteArray := prog_1_method_27_code
def yX11_inForce : MethodName := ⟨RX11, "inForce", "(III)I"⟩
abbrev cX11_rate : ByteArray := prog_1_method_28_code
def yX11_rate : MethodName := ⟨RX11, "rate", "(III)I"⟩
abbrev cX11_rates : ByteArray := prog_1_method_29_code
def yX11_rates : MethodName := ⟨RX11, "rates", "(II)I"⟩
abbrev cX11_clause : ByteArray := prog_1_method_30_code
def yX11_clause : MethodName := ⟨RX11, "clause", "(II)I"⟩
abbrev cX11_open : ByteArray := prog_1_method_31_code
def yX11_open : MethodName := ⟨RX11, "open", "(IIII)I"⟩
abbrev cX11_back : ByteArray := prog_1_method_32_code
def yX11_back : MethodName := ⟨RX11, "back", "(I)I"⟩
abbrev cX11_penalty : ByteArray := prog_1_method_33_code
def yX11_penalty : MethodName := ⟨RX11, "penalty", "(III)I"⟩
abbrev cX11_sink : ByteArray := prog_1_method_34_code
def yX11_sink : MethodName := ⟨RX11, "sink", "(II)I"⟩
abbrev cX11_opening : ByteArray := prog_1_method_35_code
def yX11_opening : MethodName := ⟨RX11, "opening", "(II)I"⟩
abbrev cX11_draw : ByteArray := prog_1_method_36_code
def yX11_draw : MethodName := ⟨RX11, "draw", "(III)I"⟩
abbrev cX11_drawn : ByteArray := prog_1_method_37_code
def yX11_drawn : MethodName := ⟨RX11, "drawn", "(I)I"⟩
abbrev cX11_bad : ByteArray := prog_1_method_38_code
def yX11_bad : MethodName := ⟨RX11, "bad", "(IIII)I"⟩
abbrev cX11_count : ByteArray := prog_1_method_39_code
def yX11_count : MethodName := ⟨RX11, "count", "(I)I"⟩
abbrev cX11_within : ByteArray := prog_1_method_40_code
def yX11_within : MethodName := ⟨RX11, "within", "(III)Z"⟩
abbrev cX11_isDay : ByteArray := prog_1_method_41_code
def yX11_isDay : MethodName := ⟨RX11, "isDay", "(I)Z"⟩
abbrev cX11_isKind : ByteArray := prog_1_method_42_code
def yX11_isKind : MethodName := ⟨RX11, "isKind", "(I)Z"⟩
abbrev cX11_findStreet : ByteArray := prog_1_method_43_code
def yX11_findStreet : MethodName := ⟨RX11, "findStreet", "(I)LPavingTrust$Street;"⟩
abbrev cX11_findHouse : ByteArray := prog_1_method_44_code
def yX11_findHouse : MethodName := ⟨RX11, "findHouse", "(I)LPavingTrust$House;"⟩
abbrev cX11_findOpening : ByteArray := prog_1_method_45_code
def yX11_findOpening : MethodName := ⟨RX11, "findOpening", "(I)LPavingTrust$Opening;"⟩
abbrev cX11_isFrontage : ByteArray := prog_1_method_46_code
def yX11_isFrontage : MethodName := ⟨RX11, "isFrontage", "(I)Z"⟩
abbrev cX11_isSquare : ByteArray := prog_1_method_47_code
def yX11_isSquare : MethodName := ⟨RX11, "isSquare", "(II)Z"⟩
abbrev cX11_isPlanSet : ByteArray := prog_1_method_48_code
def yX11_isPlanSet : MethodName := ⟨RX11, "isPlanSet", "(I)Z"⟩
abbrev cX11_openNowAt : ByteArray := prog_1_method_49_code
def yX11_openNowAt : MethodName := ⟨RX11, "openNowAt", "(II)I"⟩
abbrev cX11_lastPutBackAt : ByteArray := prog_1_method_50_code
def yX11_lastPutBackAt : MethodName := ⟨RX11, "lastPutBackAt", "(II)I"⟩
abbrev cX11_countOpen : ByteArray := prog_1_method_51_code
def yX11_countOpen : MethodName := ⟨RX11, "countOpen", "(I)I"⟩
abbrev cX11_countAllOpen : ByteArray := prog_1_method_52_code
def yX11_countAllOpen : MethodName := ⟨RX11, "countAllOpen", "()I"⟩
def RX12 : String := "PavingTrustModel"
def TX12 : u_T := fun k => match k with
  | 0 => ("PavingTrustModel", "code", "I", false)
  | 1 => ("PavingTrustModel", "streets", "I", false)
  | 2 => ("PavingTrustModel", "rows", "[I", true)
  | 3 => ("PavingTrustModel", "columns", "[I", true)
  | 4 => ("PavingTrustModel", "height", "[I", true)
  | 5 => ("PavingTrustModel", "drains", "[Z", true)
  | 6 => ("PavingTrustModel", "comes", "[I", true)
  | 7 => ("PavingTrustModel", "levelStreet", "I", false)
  | 8 => ("PavingTrustModel", "levelRow", "I", false)
  | 9 => ("PavingTrustModel", "hasLevel", "Z", false)
  | 10 => ("PavingTrustModel", "levelMoved", "I", false)
  | 11 => ("PavingTrustModel", "levels", "[I", true)
  | 12 => ("PavingTrustModel", "levelOld", "[I", true)
  | 13 => ("PavingTrustModel", "least", "[I", true)
  | 14 => ("PavingTrustModel", "yard", "[I", true)
  | 15 => ("PavingTrustModel", "taken", "[I", true)
  | 16 => ("PavingTrustModel", "hasCourse", "Z", false)
  | 17 => ("PavingTrustModel", "course", "[I", true)
  | 18 => ("PavingTrustModel", "fewest", "[I", true)
  | 19 => ("PavingTrustModel", "thisYear", "I", false)
  | 20 => ("PavingTrustModel", "hasWheels", "[Z", true)
  | 21 => ("PavingTrustModel", "wheels", "[I", true)
  | 22 => ("PavingTrustModel", "paved", "[I", true)
  | 23 => ("PavingTrustModel", "costs", "[I", true)
  | 24 => ("PavingTrustModel", "savings", "[I", true)
  | 25 => ("PavingTrustModel", "savingYear", "[I", true)
  | 26 => ("PavingTrustModel", "hasPlan", "Z", false)
  | 27 => ("PavingTrustModel", "planSet", "I", false)
  | 28 => ("PavingTrustModel", "planned", "[I", true)
  | 29 => ("PavingTrustModel", "chosen", "[I", true)
  | 30 => ("PavingTrustModel", "money", "[I", true)
  | 31 => ("PavingTrustModel", "spent", "[I", true)
  | 32 => ("PavingTrustModel", "today", "I", false)
  | 33 => ("PavingTrustModel", "houses", "I", false)
  | 34 => ("PavingTrustModel", "houseStreet", "[I", true)
  | 35 => ("PavingTrustModel", "houseFront", "[I", true)
  | 36 => ("PavingTrustModel", "cornerStreet", "[I", true)
  | 37 => ("PavingTrustModel", "cornerFront", "[I", true)
  | 38 => ("PavingTrustModel", "worth", "[I", true)
  | 39 => ("PavingTrustModel", "tape", "[B", true)
  | 40 => ("PavingTrustModel", "taped", "I", false)
  | 41 => ("PavingTrustModel", "acts", "I", false)
  | 42 => ("PavingTrustModel", "actKind", "[I", true)
  | 43 => ("PavingTrustModel", "actDay", "[I", true)
  | 44 => ("PavingTrustModel", "actFrom", "[I", true)
  | 45 => ("PavingTrustModel", "actSize", "[I", true)
  | 46 => ("PavingTrustModel", "step", "[I", true)
  | 47 => ("PavingTrustModel", "number", "[I", true)
  | 48 => ("PavingTrustModel", "wait", "[I", true)
  | 49 => ("PavingTrustModel", "waits", "I", false)
  | 50 => ("PavingTrustModel", "laid", "I", false)
  | 51 => ("PavingTrustModel", "at", "I", false)
  | 52 => ("PavingTrustModel", "named", "[I", true)
  | 53 => ("PavingTrustModel", "pile", "[I", true)
  | 54 => ("PavingTrustModel", "gave", "I", false)
  | 55 => ("PavingTrustModel", "openings", "I", false)
  | 56 => ("PavingTrustModel", "company", "[I", true)
  | 57 => ("PavingTrustModel", "openStreet", "[I", true)
  | 58 => ("PavingTrustModel", "openAt", "[I", true)
  | 59 => ("PavingTrustModel", "openDay", "[I", true)
  | 60 => ("PavingTrustModel", "leave", "[I", true)
  | 61 => ("PavingTrustModel", "backDay", "[I", true)
  | 62 => ("PavingTrustModel", "drawnMany", "I", false)
  | 63 => ("PavingTrustModel", "drawn", "[I", true)
  | 64 => ("PavingTrustModel", "isDrawn", "[Z", true)
  | _ => ("PavingTrustModel", "ways", "[J", true)
def tyX12 : Nat → FieldType := fun k => match k with
  | 0 => .int
  | 1 => .int
  | 2 => .array .int
  | 3 => .array .int
  | 4 => .array .int
  | 5 => .array .boolean
  | 6 => .array .int
  | 7 => .int
  | 8 => .int
  | 9 => .boolean
  | 10 => .int
  | 11 => .array .int
  | 12 => .array .int
  | 13 => .array .int
  | 14 => .array .int
  | 15 => .array .int
  | 16 => .boolean
  | 17 => .array .int
  | 18 => .array .int
  | 19 => .int
  | 20 => .array .boolean
  | 21 => .array .int
  | 22 => .array .int
  | 23 => .array .int
  | 24 => .array .int
  | 25 => .array .int
  | 26 => .boolean
  | 27 => .int
  | 28 => .array .int
  | 29 => .array .int
  | 30 => .array .int
  | 31 => .array .int
  | 32 => .int
  | 33 => .int
  | 34 => .array .int
  | 35 => .array .int
  | 36 => .array .int
  | 37 => .array .int
  | 38 => .array .int
  | 39 => .array .byte
  | 40 => .int
  | 41 => .int
  | 42 => .array .int
  | 43 => .array .int
  | 44 => .array .int
  | 45 => .array .int
  | 46 => .array .int
  | 47 => .array .int
  | 48 => .array .int
  | 49 => .int
  | 50 => .int
  | 51 => .int
  | 52 => .array .int
  | 53 => .array .int
  | 54 => .int
  | 55 => .int
  | 56 => .array .int
  | 57 => .array .int
  | 58 => .array .int
  | 59 => .array .int
  | 60 => .array .int
  | 61 => .array .int
  | 62 => .int
  | 63 => .array .int
  | 64 => .array .boolean
  | _ => .array .long
abbrev wsX120 : List Cond := u_ws RX12 TX12 66
theorem nmX12 : ∀ a, a < 66 → ∀ b, b < 66 → a ≠ b → (TX12 a).2.1 ≠ (TX12 b).2.1 := by decide +kernel
theorem tyX12_ok : ∀ k, k < 66 → parseFieldDescriptor (TX12 k).2.2.1 = some (tyX12 k) := by decide +kernel
abbrev cX12_init : ByteArray := prog_14_method_1_code
def yX12_init : MethodName := ⟨RX12, "<init>", "()V"⟩
abbrev cX12_in : ByteArray := prog_14_method_3_code
def yX12_in : MethodName := ⟨RX12, "in", "(III)Z"⟩
abbrev cX12_size : ByteArray := prog_14_method_4_code
def yX12_size : MethodName := ⟨RX12, "size", "(I)I"⟩
abbrev cX12_isStreet : ByteArray := prog_14_method_5_code
def yX12_isStreet : MethodName := ⟨RX12, "isStreet", "(I)Z"⟩
abbrev cX12_isSquare : ByteArray := prog_14_method_6_code
def yX12_isSquare : MethodName := ⟨RX12, "isSquare", "(III)Z"⟩
abbrev cX12_place : ByteArray := prog_14_method_7_code
def yX12_place : MethodName := ⟨RX12, "place", "(III)I"⟩
abbrev cX12_street : ByteArray := prog_14_method_8_code
def yX12_street : MethodName := ⟨RX12, "street", "(III)I"⟩
abbrev cX12_height : ByteArray := prog_14_method_9_code
def yX12_height : MethodName := ⟨RX12, "height", "(IIII)I"⟩
abbrev cX12_read : ByteArray := prog_14_method_10_code
def yX12_read : MethodName := ⟨RX12, "read", "(III)I"⟩
abbrev cX12_drain : ByteArray := prog_14_method_11_code
def yX12_drain : MethodName := ⟨RX12, "drain", "(IIII)I"⟩
abbrev cX12_goesOn : ByteArray := prog_14_method_12_code
def yX12_goesOn : MethodName := ⟨RX12, "goesOn", "(III)I"⟩
abbrev cX12_comesTo : ByteArray := prog_14_method_13_code
def yX12_comesTo : MethodName := ⟨RX12, "comesTo", "(III)I"⟩
abbrev cX12_isDrain : ByteArray := prog_14_method_14_code
def yX12_isDrain : MethodName := ⟨RX12, "isDrain", "(II)Z"⟩
abbrev cX12_water : ByteArray := prog_14_method_15_code
def yX12_water : MethodName := ⟨RX12, "water", "(III)I"⟩
abbrev cX12_standing : ByteArray := prog_14_method_16_code
def yX12_standing : MethodName := ⟨RX12, "standing", "(I)I"⟩
abbrev cX12_most : ByteArray := prog_14_method_17_code
def yX12_most : MethodName := ⟨RX12, "most", "(I)I"⟩
abbrev cX12_falls : ByteArray := prog_14_method_18_code
def yX12_falls : MethodName := ⟨RX12, "falls", "(IIZII)Z"⟩
abbrev cX12_level : ByteArray := prog_14_method_19_code
def yX12_level : MethodName := ⟨RX12, "level", "(IIII)I"⟩
abbrev cX12_levelled : ByteArray := prog_14_method_20_code
def yX12_levelled : MethodName := ⟨RX12, "levelled", "(I)I"⟩
abbrev cX12_move : ByteArray := prog_14_method_21_code
def yX12_move : MethodName := ⟨RX12, "move", "()I"⟩
abbrev cX12_stones : ByteArray := prog_14_method_22_code
def yX12_stones : MethodName := ⟨RX12, "stones", "(II)I"⟩
abbrev cX12_find : ByteArray := prog_14_method_23_code
def yX12_find : MethodName := ⟨RX12, "find", "(I)I"⟩
abbrev cX12_course : ByteArray := prog_14_method_24_code
def yX12_course : MethodName := ⟨RX12, "course", "(I)I"⟩
abbrev cX12_of : ByteArray := prog_14_method_25_code
def yX12_of : MethodName := ⟨RX12, "of", "(I)I"⟩
abbrev cX12_lay : ByteArray := prog_14_method_26_code
def yX12_lay : MethodName := ⟨RX12, "lay", "(I)I"⟩
abbrev cX12_year : ByteArray := prog_14_method_27_code
def yX12_year : MethodName := ⟨RX12, "year", "()I"⟩
abbrev cX12_wheels : ByteArray := prog_14_method_28_code
def yX12_wheels : MethodName := ⟨RX12, "wheels", "(III)I"⟩
abbrev cX12_mean : ByteArray := prog_14_method_29_code
def yX12_mean : MethodName := ⟨RX12, "mean", "(I)I"⟩
abbrev cX12_wearOf : ByteArray := prog_14_method_30_code
def yX12_wearOf : MethodName := ⟨RX12, "wearOf", "(II)I"⟩
abbrev cX12_pave : ByteArray := prog_14_method_31_code
def yX12_pave : MethodName := ⟨RX12, "pave", "(I)I"⟩
abbrev cX12_wear : ByteArray := prog_14_method_32_code
def yX12_wear : MethodName := ⟨RX12, "wear", "(II)I"⟩
abbrev cX12_cost : ByteArray := prog_14_method_33_code
def yX12_cost : MethodName := ⟨RX12, "cost", "(IIII)I"⟩
abbrev cX12_costOf : ByteArray := prog_14_method_34_code
def yX12_costOf : MethodName := ⟨RX12, "costOf", "(II)I"⟩
abbrev cX12_plan : ByteArray := prog_14_method_35_code
def yX12_plan : MethodName := ⟨RX12, "plan", "(IIIII)I"⟩
abbrev cX12_planned : ByteArray := prog_14_method_36_code
def yX12_planned : MethodName := ⟨RX12, "planned", "(I)I"⟩
abbrev cX12_isPlace : ByteArray := prog_14_method_37_code
def yX12_isPlace : MethodName := ⟨RX12, "isPlace", "(I)Z"⟩
abbrev cX12_house : ByteArray := prog_14_method_38_code
def yX12_house : MethodName := ⟨RX12, "house", "(III)I"⟩
abbrev cX12_days : ByteArray := prog_14_method_39_code
def yX12_days : MethodName := ⟨RX12, "days", "(I)I"⟩
abbrev cX12_feed : ByteArray := prog_14_method_40_code
def yX12_feed : MethodName := ⟨RX12, "feed", "(II)I"⟩
abbrev cX12_isDigit : ByteArray := prog_14_method_41_code
def yX12_isDigit : MethodName := ⟨RX12, "isDigit", "(I)Z"⟩
abbrev cX12_isName : ByteArray := prog_14_method_42_code
def yX12_isName : MethodName := ⟨RX12, "isName", "(II)Z"⟩
abbrev cX12_signOf : ByteArray := prog_14_method_43_code
def yX12_signOf : MethodName := ⟨RX12, "signOf", "(I)I"⟩
abbrev cX12_tight : ByteArray := prog_14_method_44_code
def yX12_tight : MethodName := ⟨RX12, "tight", "(I)I"⟩
abbrev cX12_adds : ByteArray := prog_14_method_45_code
def yX12_adds : MethodName := ⟨RX12, "adds", "(III)V"⟩
abbrev cX12_done : ByteArray := prog_14_method_46_code
def yX12_done : MethodName := ⟨RX12, "done", "(II)V"⟩
abbrev cX12_opened : ByteArray := prog_14_method_47_code
def yX12_opened : MethodName := ⟨RX12, "opened", "()I"⟩
abbrev cX12_operand : ByteArray := prog_14_method_48_code
def yX12_operand : MethodName := ⟨RX12, "operand", "(II)Z"⟩
abbrev cX12_parse : ByteArray := prog_14_method_49_code
def yX12_parse : MethodName := ⟨RX12, "parse", "(II)I"⟩
abbrev cX12_act : ByteArray := prog_14_method_50_code
def yX12_act : MethodName := ⟨RX12, "act", "(II)I"⟩
abbrev cX12_forceOn : ByteArray := prog_14_method_51_code
def yX12_forceOn : MethodName := ⟨RX12, "forceOn", "(III)I"⟩
abbrev cX12_isDay : ByteArray := prog_14_method_52_code
def yX12_isDay : MethodName := ⟨RX12, "isDay", "(I)Z"⟩
abbrev cX12_inForce : ByteArray := prog_14_method_53_code
def yX12_inForce : MethodName := ⟨RX12, "inForce", "(III)I"⟩
abbrev cX12_both : ByteArray := prog_14_method_54_code
def yX12_both : MethodName := ⟨RX12, "both", "(III)I"⟩
abbrev cX12_says : ByteArray := prog_14_method_55_code
def yX12_says : MethodName := ⟨RX12, "says", "(I)I"⟩
abbrev cX12_clamp : ByteArray := prog_14_method_56_code
def yX12_clamp : MethodName := ⟨RX12, "clamp", "(I)I"⟩
abbrev cX12_part : ByteArray := prog_14_method_57_code
def yX12_part : MethodName := ⟨RX12, "part", "(IIZI)I"⟩
abbrev cX12_isHouse : ByteArray := prog_14_method_58_code
def yX12_isHouse : MethodName := ⟨RX12, "isHouse", "(I)Z"⟩
abbrev cX12_rate : ByteArray := prog_14_method_59_code
def yX12_rate : MethodName := ⟨RX12, "rate", "(III)I"⟩
abbrev cX12_rates : ByteArray := prog_14_method_60_code
def yX12_rates : MethodName := ⟨RX12, "rates", "(II)I"⟩
abbrev cX12_clause : ByteArray := prog_14_method_61_code
def yX12_clause : MethodName := ⟨RX12, "clause", "(II)I"⟩
abbrev cX12_isAt : ByteArray := prog_14_method_62_code
def yX12_isAt : MethodName := ⟨RX12, "isAt", "(II)Z"⟩
abbrev cX12_openNow : ByteArray := prog_14_method_63_code
def yX12_openNow : MethodName := ⟨RX12, "openNow", "(II)I"⟩
abbrev cX12_open : ByteArray := prog_14_method_64_code
def yX12_open : MethodName := ⟨RX12, "open", "(IIII)I"⟩
abbrev cX12_isOpening : ByteArray := prog_14_method_65_code
def yX12_isOpening : MethodName := ⟨RX12, "isOpening", "(I)Z"⟩
abbrev cX12_back : ByteArray := prog_14_method_66_code
def yX12_back : MethodName := ⟨RX12, "back", "(I)I"⟩
abbrev cX12_penalty : ByteArray := prog_14_method_67_code
def yX12_penalty : MethodName := ⟨RX12, "penalty", "(III)I"⟩
abbrev cX12_sink : ByteArray := prog_14_method_68_code
def yX12_sink : MethodName := ⟨RX12, "sink", "(II)I"⟩
abbrev cX12_opening : ByteArray := prog_14_method_69_code
def yX12_opening : MethodName := ⟨RX12, "opening", "(II)I"⟩
abbrev cX12_draw : ByteArray := prog_14_method_70_code
def yX12_draw : MethodName := ⟨RX12, "draw", "(III)I"⟩
abbrev cX12_drawn : ByteArray := prog_14_method_71_code
def yX12_drawn : MethodName := ⟨RX12, "drawn", "(I)I"⟩
abbrev cX12_choose : ByteArray := prog_14_method_72_code
def yX12_choose : MethodName := ⟨RX12, "choose", "(II)J"⟩
abbrev cX12_bad : ByteArray := prog_14_method_73_code
def yX12_bad : MethodName := ⟨RX12, "bad", "(IIII)I"⟩
abbrev cX12_count : ByteArray := prog_14_method_74_code
def yX12_count : MethodName := ⟨RX12, "count", "(I)I"⟩
def RJ11 : String := "java/lang/Character"
def TJ11 : u_T := fun k => match k with
  | _ => ("", "", "", false)
def tyJ11 : Nat → FieldType := fun k => match k with
  | _ => .int
abbrev wsJ110 : List Cond := u_ws RJ11 TJ11 0
theorem nmJ11 : ∀ a, a < 0 → ∀ b, b < 0 → a ≠ b → (TJ11 a).2.1 ≠ (TJ11 b).2.1 := by decide +kernel
theorem tyJ11_ok : ∀ k, k < 0 → parseFieldDescriptor (TJ11 k).2.2.1 = some (tyJ11 k) := by decide +kernel
abbrev cJ11_isValidCodePoint_9a6ad : ByteArray := prog_15_method_11_code
def yJ11_isValidCodePoint_9a6ad : MethodName := ⟨RJ11, "isValidCodePoint", "(I)Z"⟩
abbrev cJ11_highSurrogate_5068e : ByteArray := prog_15_method_28_code
def yJ11_highSurrogate_5068e : MethodName := ⟨RJ11, "highSurrogate", "(I)C"⟩
abbrev cJ11_lowSurrogate_5068e : ByteArray := prog_15_method_29_code
def yJ11_lowSurrogate_5068e : MethodName := ⟨RJ11, "lowSurrogate", "(I)C"⟩
def RJx8e188 : String := "java/lang/Cloneable"
def TJx8e188 : u_T := fun k => match k with
  | _ => ("", "", "", false)
def tyJx8e188 : Nat → FieldType := fun k => match k with
  | _ => .int
abbrev wsJx8e1880 : List Cond := u_ws RJx8e188 TJx8e188 0
theorem nmJx8e188 : ∀ a, a < 0 → ∀ b, b < 0 → a ≠ b → (TJx8e188 a).2.1 ≠ (TJx8e188 b).2.1 := by decide +kernel
theorem tyJx8e188_ok : ∀ k, k < 0 → parseFieldDescriptor (TJx8e188 k).2.2.1 = some (tyJx8e188 k) := by decide +kernel
def RJ6 : String := "java/lang/Integer"
def TJ6 : u_T := fun k => match k with
  | _ => ("", "", "", false)
def tyJ6 : Nat → FieldType := fun k => match k with
  | _ => .int
abbrev wsJ60 : List Cond := u_ws RJ6 TJ6 0
theorem nmJ6 : ∀ a, a < 0 → ∀ b, b < 0 → a ≠ b → (TJ6 a).2.1 ≠ (TJ6 b).2.1 := by decide +kernel
theorem tyJ6_ok : ∀ k, k < 0 → parseFieldDescriptor (TJ6 k).2.2.1 = some (tyJ6 k) := by decide +kernel
abbrev cJ6_bitCount_0f7a4 : ByteArray := prog_17_method_49_code
def yJ6_bitCount_0f7a4 : MethodName := ⟨RJ6, "bitCount", "(I)I"⟩
def RJ9 : String := "java/lang/Math"
def TJ9 : u_T := fun k => match k with
  | _ => ("", "", "", false)
def tyJ9 : Nat → FieldType := fun k => match k with
  | _ => .int
abbrev wsJ90 : List Cond := u_ws RJ9 TJ9 0
theorem nmJ9 : ∀ a, a < 0 → ∀ b, b < 0 → a ≠ b → (TJ9 a).2.1 ≠ (TJ9 b).2.1 := by decide +kernel
theorem tyJ9_ok : ∀ k, k < 0 → parseFieldDescriptor (TJ9 k).2.2.1 = some (tyJ9 k) := by decide +kernel
abbrev cJ9_abs_0f7a4 : ByteArray := prog_18_method_59_code
def yJ9_abs_0f7a4 : MethodName := ⟨RJ9, "abs", "(I)I"⟩
abbrev cJ9_max_7cf53 : ByteArray := prog_18_method_65_code
def yJ9_max_7cf53 : MethodName := ⟨RJ9, "max", "(II)I"⟩
abbrev cJ9_min_7cf53 : ByteArray := prog_18_method_69_code
def yJ9_min_7cf53 : MethodName := ⟨RJ9, "min", "(II)I"⟩
def RJ0 : String := "java/lang/String"
def TJ0 : u_T := fun k => match k with
  | _ => ("", "", "", false)
def tyJ0 : Nat → FieldType := fun k => match k with
  | _ => .int
abbrev wsJ00 : List Cond := u_ws RJ0 TJ0 0
theorem nmJ0 : ∀ a, a < 0 → ∀ b, b < 0 → a ≠ b → (TJ0 a).2.1 ≠ (TJ0 b).2.1 := by decide +kernel
theorem tyJ0_ok : ∀ k, k < 0 → parseFieldDescriptor (TJ0 k).2.2.1 = some (tyJ0 k) := by decide +kernel
abbrev cJ0_length_8abf5 : ByteArray := prog_19_method_54_code
def yJ0_length_8abf5 : MethodName := ⟨RJ0, "length", "()I"⟩
abbrev cJ0_indexOf_0f7a4 : ByteArray := prog_19_method_79_code
def yJ0_indexOf_0f7a4 : MethodName := ⟨RJ0, "indexOf", "(I)I"⟩
abbrev cJ0_indexOf_7cf53 : ByteArray := prog_19_method_80_code
def yJ0_indexOf_7cf53 : MethodName := ⟨RJ0, "indexOf", "(II)I"⟩
abbrev cJ0_coder_7d493 : ByteArray := prog_19_method_152_code
def yJ0_coder_7d493 : MethodName := ⟨RJ0, "coder", "()B"⟩
abbrev cJ0_isLatin1_aae02 : ByteArray := prog_19_method_154_code
def yJ0_isLatin1_aae02 : MethodName := ⟨RJ0, "isLatin1", "()Z"⟩
abbrev cJ0_checkBoundsBeginEnd_23922 : ByteArray := prog_19_method_158_code
def yJ0_checkBoundsBeginEnd_23922 : MethodName := ⟨RJ0, "checkBoundsBeginEnd", "(III)V"⟩
def RJ1 : String := "java/lang/StringLatin1"
def TJ1 : u_T := fun k => match k with
  | _ => ("", "", "", false)
def tyJ1 : Nat → FieldType := fun k => match k with
  | _ => .int
abbrev wsJ10 : List Cond := u_ws RJ1 TJ1 0
theorem nmJ1 : ∀ a, a < 0 → ∀ b, b < 0 → a ≠ b → (TJ1 a).2.1 ≠ (TJ1 b).2.1 := by decide +kernel
theorem tyJ1_ok : ∀ k, k < 0 → parseFieldDescriptor (TJ1 k).2.2.1 = some (tyJ1 k) := by decide +kernel
abbrev cJ1_canEncode_9a6ad : ByteArray := prog_20_method_4_code
def yJ1_canEncode_9a6ad : MethodName := ⟨RJ1, "canEncode", "(I)Z"⟩
abbrev cJ1_indexOf_4cfef : ByteArray := prog_20_method_22_code
def yJ1_indexOf_4cfef : MethodName := ⟨RJ1, "indexOf", "([BIII)I"⟩
abbrev cJ1_indexOfChar_4cfef : ByteArray := prog_20_method_23_code
def yJ1_indexOfChar_4cfef : MethodName := ⟨RJ1, "indexOfChar", "([BIII)I"⟩
def RJ2 : String := "java/lang/StringUTF16"
def TJ2 : u_T := fun k => match k with
  | _ => ("", "", "", false)
def tyJ2 : Nat → FieldType := fun k => match k with
  | _ => .int
abbrev wsJ20 : List Cond := u_ws RJ2 TJ2 0
theorem nmJ2 : ∀ a, a < 0 → ∀ b, b < 0 → a ≠ b → (TJ2 a).2.1 ≠ (TJ2 b).2.1 := by decide +kernel
theorem tyJ2_ok : ∀ k, k < 0 → parseFieldDescriptor (TJ2 k).2.2.1 = some (tyJ2 k) := by decide +kernel
abbrev cJ2_getChar_3b067 : ByteArray := prog_21_method_5_code
def yJ2_getChar_3b067 : MethodName := ⟨RJ2, "getChar", "([BI)C"⟩
abbrev cJ2_length_9d52b : ByteArray := prog_21_method_6_code
def yJ2_length_9d52b : MethodName := ⟨RJ2, "length", "([B)I"⟩
abbrev cJ2_indexOf_4cfef : ByteArray := prog_21_method_40_code
def yJ2_indexOf_4cfef : MethodName := ⟨RJ2, "indexOf", "([BIII)I"⟩
abbrev cJ2_indexOfChar_4cfef : ByteArray := prog_21_method_47_code
def yJ2_indexOfChar_4cfef : MethodName := ⟨RJ2, "indexOfChar", "([BIII)I"⟩
abbrev cJ2_indexOfCharUnsafe_4cfef : ByteArray := prog_21_method_48_code
def yJ2_indexOfCharUnsafe_4cfef : MethodName := ⟨RJ2, "indexOfCharUnsafe", "([BIII)I"⟩
abbrev cJ2_indexOfSupplementary_4cfef : ByteArray := prog_21_method_49_code
def yJ2_indexOfSupplementary_4cfef : MethodName := ⟨RJ2, "indexOfSupplementary", "([BIII)I"⟩
abbrev cJ2_checkBoundsBeginEnd_d044e : ByteArray := prog_21_method_93_code
def yJ2_checkBoundsBeginEnd_d044e : MethodName := ⟨RJ2, "checkBoundsBeginEnd", "(II[B)V"⟩
def RJ10 : String := "java/lang/System"
def TJ10 : u_T := fun k => match k with
  | _ => ("", "", "", false)
def tyJ10 : Nat → FieldType := fun k => match k with
  | _ => .int
abbrev wsJ100 : List Cond := u_ws RJ10 TJ10 0
theorem nmJ10 : ∀ a, a < 0 → ∀ b, b < 0 → a ≠ b → (TJ10 a).2.1 ≠ (TJ10 b).2.1 := by decide +kernel
theorem tyJ10_ok : ∀ k, k < 0 → parseFieldDescriptor (TJ10 k).2.2.1 = some (tyJ10 k) := by decide +kernel
def RJ7 : String := "java/util/Arrays"
def TJ7 : u_T := fun k => match k with
  | _ => ("", "", "", false)
def tyJ7 : Nat → FieldType := fun k => match k with
  | _ => .int
abbrev wsJ70 : List Cond := u_ws RJ7 TJ7 0
theorem nmJ7 : ∀ a, a < 0 → ∀ b, b < 0 → a ≠ b → (TJ7 a).2.1 ≠ (TJ7 b).2.1 := by decide +kernel
theorem tyJ7_ok : ∀ k, k < 0 → parseFieldDescriptor (TJ7 k).2.2.1 = some (tyJ7 k) := by decide +kernel
abbrev cJ7_fill_53178 : ByteArray := prog_23_method_103_code
def yJ7_fill_53178 : MethodName := ⟨RJ7, "fill", "([II)V"⟩
abbrev cJ7_copyOf_9075b : ByteArray := prog_23_method_121_code
def yJ7_copyOf_9075b : MethodName := ⟨RJ7, "copyOf", "([BI)[B"⟩
def RJ3 : String := "jdk/internal/util/Preconditions"
def TJ3 : u_T := fun k => match k with
  | _ => ("", "", "", false)
def tyJ3 : Nat → FieldType := fun k => match k with
  | _ => .int
abbrev wsJ30 : List Cond := u_ws RJ3 TJ3 0
theorem nmJ3 : ∀ a, a < 0 → ∀ b, b < 0 → a ≠ b → (TJ3 a).2.1 ≠ (TJ3 b).2.1 := by decide +kernel
theorem tyJ3_ok : ∀ k, k < 0 → parseFieldDescriptor (TJ3 k).2.2.1 = some (tyJ3 k) := by decide +kernel
abbrev cJ3_checkFromToIndex_8c36e : ByteArray := prog_24_method_12_code
def yJ3_checkFromToIndex_8c36e : MethodName := ⟨RJ3, "checkFromToIndex", "(IIILjava/util/function/BiFunction;)I"⟩
def RL : String := "PavingTrustLaw"
abbrev cL_law : ByteArray := code
def yL_law : MethodName := ⟨RL, "law", "([I)Z"⟩
theorem inX0 : ∀ w ∈ wsX00, w ∈ lw_tbl := by decide +kernel
theorem inX1 : ∀ w ∈ wsX10, w ∈ lw_tbl := by decide +kernel
theorem inX2 : ∀ w ∈ wsX20, w ∈ lw_tbl := by decide +kernel
theorem inX3 : ∀ w ∈ wsX30, w ∈ lw_tbl := by decide +kernel
theorem inX4 : ∀ w ∈ wsX40, w ∈ lw_tbl := by decide +kernel
theorem inX5 : ∀ w ∈ wsX50, w ∈ lw_tbl := by decide +kernel
theorem inX6 : ∀ w ∈ wsX60, w ∈ lw_tbl := by decide +kernel
theorem inX7 : ∀ w ∈ wsX70, w ∈ lw_tbl := by decide +kernel
theorem inX8 : ∀ w ∈ wsX80, w ∈ lw_tbl := by decide +kernel
theorem inX9 : ∀ w ∈ wsX90, w ∈ lw_tbl := by decide +kernel
theorem inX10 : ∀ w ∈ wsX100, w ∈ lw_tbl := by decide +kernel
theorem inX11 : ∀ w ∈ wsX110, w ∈ lw_tbl := by decide +kernel
theorem inX12 : ∀ w ∈ wsX120, w ∈ lw_tbl := by decide +kernel
theorem inJ11 : ∀ w ∈ wsJ110, w ∈ lw_tbl := by decide +kernel
theorem inJx8e188 : ∀ w ∈ wsJx8e1880, w ∈ lw_tbl := by decide +kernel
theorem inJ6 : ∀ w ∈ wsJ60, w ∈ lw_tbl := by decide +kernel
theorem inJ9 : ∀ w ∈ wsJ90, w ∈ lw_tbl := by decide +kernel
theorem inJ0 : ∀ w ∈ wsJ00, w ∈ lw_tbl := by decide +kernel
theorem inJ1 : ∀ w ∈ wsJ10, w ∈ lw_tbl := by decide +kernel
theorem inJ2 : ∀ w ∈ wsJ20, w ∈ lw_tbl := by decide +kernel
theorem inJ10 : ∀ w ∈ wsJ100, w ∈ lw_tbl := by decide +kernel
theorem inJ7 : ∀ w ∈ wsJ70, w ∈ lw_tbl := by decide +kernel
theorem inJ3 : ∀ w ∈ wsJ30, w ∈ lw_tbl := by decide +kernel
abbrev vwCl : List vw_C := [(RX0, TX0, 4), (RX1, TX1, 5), (RX2, TX2, 2), (RX3, TX3, 5), (RX4, TX4, 9), (RX5, TX5, 4), (RX6, TX6, 6), (RX7, TX7, 11), (RX8, TX8, 9), (RX9, TX9, 7), (RX10, TX10, 5), (RX11, TX11, 14), (RX12, TX12, 66)]
end
section
theorem dX0_init_0 : decode cX0_init 0 = .ok (.aload_n 0, 1) := by decide +kernel
theorem dX0_init_1 : decode cX0_init 1 = .ok (.invokespecial 1, 3) := by decide +kernel
theorem dX0_init_4 : decode cX0_init 4 = .ok (.aload_n 0, 1) := by decide +kernel
theorem dX0_init_5 : decode cX0_init 5 = .ok (.iload_n 1, 1) := by decide +kernel
theorem dX0_init_6 : decode cX0_init 6 = .ok (.putfield 7, 3) := by decide +kernel
theorem dX0_init_9 : decode cX0_init 9 = .ok (.aload_n 0, 1) := by decide +kernel
theorem dX0_init_10 : decode cX0_init 10 = .ok (.iload_n 2, 1) := by decide +kernel
theorem dX0_init_11 : decode cX0_init 11 = .ok (.putfield 13, 3) := by decide +kernel
theorem dX0_init_14 : decode cX0_init 14 = .ok (.aload_n 0, 1) := by decide +kernel
theorem dX0_init_15 : decode cX0_init 15 = .ok (.iload_n 3, 1) := by decide +kernel
theorem dX0_init_16 : decode cX0_init 16 = .ok (.putfield 16, 3) := by decide +kernel
theorem dX0_init_19 : decode cX0_init 19 = .ok (.aload_n 0, 1) := by decide +kernel
theorem dX0_init_20 : decode cX0_init 20 = .ok (.aload 4, 2) := by decide +kernel
theorem dX0_init_22 : decode cX0_init 22 = .ok (.putfield 19, 3) := by decide +kernel
theorem dX0_init_25 : decode cX0_init 25 = .ok (.return_, 1) := by decide +kernel
theorem dX1_init_0 : decode cX1_init 0 = .ok (.aload_n 0, 1) := by decide +kernel
theorem dX1_init_1 : decode cX1_init 1 = .ok (.invokespecial 3, 3) := by decide +kernel
theorem dX1_init_4 : decode cX1_init 4 = .ok (.aload_n 0, 1) := by decide +kernel
theorem dX1_init_5 : decode cX1_init 5 = .ok (.sipush 160, 3) := by decide +kernel
theorem dX1_init_8 : decode cX1_init 8 = .ok (.newarray .byte, 2) := by decide +kernel
theorem dX1_init_10 : decode cX1_init 10 = .ok (.putfield 9, 3) := by decide +kernel
theorem dX1_init_13 : decode cX1_init 13 = .ok (.aload_n 0, 1) := by decide +kernel
theorem dX1_init_14 : decode cX1_init 14 = .ok (.bipush 20, 2) := by decide +kernel
theorem dX1_init_16 : decode cX1_init 16 = .ok (.anewarray 15, 3) := by decide +kernel
theorem dX1_init_19 : decode cX1_init 19 = .ok (.putfield 17, 3) := by decide +kernel
theorem dX1_init_22 : decode cX1_init 22 = .ok (.aload_n 0, 1) := by decide +kernel
theorem dX1_init_23 : decode cX1_init 23 = .ok (.new 21, 3) := by decide +kernel
theorem dX1_init_26 : decode cX1_init 26 = .ok (.dup, 1) := by decide +kernel
theorem dX1_init_27 : decode cX1_init 27 = .ok (.invokespecial 23, 3) := by decide +kernel
theorem dX1_init_30 : decode cX1_init 30 = .ok (.putfield 24, 3) := by decide +kernel
theorem dX1_init_33 : decode cX1_init 33 = .ok (.return_, 1) := by decide +kernel
theorem dX1_writeTape_0 : decode cX1_writeTape 0 = .ok (.aload_n 0, 1) := by decide +kernel
theorem dX1_writeTape_1 : decode cX1_writeTape 1 = .ok (.getfield 28, 3) := by decide +kernel
theorem dX1_writeTape_4 : decode cX1_writeTape 4 = .ok (.iload_n 1, 1) := by decide +kernel
theorem dX1_writeTape_5 : decode cX1_writeTape 5 = .ok (.iadd, 1) := by decide +kernel
theorem dX1_writeTape_6 : decode cX1_writeTape 6 = .ok (.sipush 160, 3) := by decide +kernel
theorem dX1_writeTape_9 : decode cX1_writeTape 9 = .ok (.if_icmp .le 6, 3) := by decide +kernel
theorem dX1_writeTape_12 : decode cX1_writeTape 12 = .ok (.bipush (-3), 2) := by decide +kernel
theorem dX1_writeTape_14 : decode cX1_writeTape 14 = .ok (.ireturn, 1) := by decide +kernel
theorem dX1_writeTape_15 : decode cX1_writeTape 15 = .ok (.iconst 0, 1) := by decide +kernel
theorem dX1_writeTape_16 : decode cX1_writeTape 16 = .ok (.istore_n 3, 1) := by decide +kernel
theorem dX1_writeTape_17 : decode cX1_writeTape 17 = .ok (.iload_n 3, 1) := by decide +kernel
theorem dX1_writeTape_18 : decode cX1_writeTape 18 = .ok (.iload_n 1, 1) := by decide +kernel
theorem dX1_writeTape_19 : decode cX1_writeTape 19 = .ok (.if_icmp .ge 35, 3) := by decide +kernel
theorem dX1_writeTape_22 : decode cX1_writeTape 22 = .ok (.aload_n 0, 1) := by decide +kernel
theorem dX1_writeTape_23 : decode cX1_writeTape 23 = .ok (.getfield 9, 3) := by decide +kernel
theorem dX1_writeTape_26 : decode cX1_writeTape 26 = .ok (.aload_n 0, 1) := by decide +kernel
theorem dX1_writeTape_27 : decode cX1_writeTape 27 = .ok (.getfield 28, 3) := by decide +kernel
theorem dX1_writeTape_30 : decode cX1_writeTape 30 = .ok (.iload_n 2, 1) := by decide +kernel
theorem dX1_writeTape_31 : decode cX1_writeTape 31 = .ok (.bipush 8, 2) := by decide +kernel
theorem dX1_writeTape_33 : decode cX1_writeTape 33 = .ok (.iload_n 3, 1) := by decide +kernel
theorem dX1_writeTape_34 : decode cX1_writeTape 34 = .ok (.imul, 1) := by decide +kernel
theorem dX1_writeTape_35 : decode cX1_writeTape 35 = .ok (.iushr, 1) := by decide +kernel
theorem dX1_writeTape_36 : decode cX1_writeTape 36 = .ok (.i2b, 1) := by decide +kernel
theorem dX1_writeTape_37 : decode cX1_writeTape 37 = .ok (.bastore, 1) := by decide +kernel
theorem dX1_writeTape_38 : decode cX1_writeTape 38 = .ok (.aload_n 0, 1) := by decide +kernel
theorem dX1_writeTape_39 : decode cX1_writeTape 39 = .ok (.dup, 1) := by decide +kernel
theorem dX1_writeTape_40 : decode cX1_writeTape 40 = .ok (.getfield 28, 3) := by decide +kernel
theorem dX1_writeTape_43 : decode cX1_writeTape 43 = .ok (.iconst 1, 1) := by decide +kernel
theorem dX1_writeTape_44 : decode cX1_writeTape 44 = .ok (.iadd, 1) := by decide +kernel
theorem dX1_writeTape_45 : decode cX1_writeTape 45 = .ok (.putfield 28, 3) := by decide +kernel
theorem dX1_writeTape_48 : decode cX1_writeTape 48 = .ok (.iinc 3 1, 3) := by decide +kernel
theorem dX1_writeTape_51 : decode cX1_writeTape 51 = .ok (.goto (-34), 3) := by decide +kernel
theorem dX1_writeTape_54 : decode cX1_writeTape 54 = .ok (.aload_n 0, 1) := by decide +kernel
theorem dX1_writeTape_55 : decode cX1_writeTape 55 = .ok (.getfield 28, 3) := by decide +kernel
theorem dX1_writeTape_58 : decode cX1_writeTape 58 = .ok (.ireturn, 1) := by decide +kernel
theorem dX1_pass_0 : decode cX1_pass 0 = .ok (.aload_n 0, 1) := by decide +kernel
theorem dX1_pass_1 : decode cX1_pass 1 = .ok (.getfield 32, 3) := by decide +kernel
theorem dX1_pass_4 : decode cX1_pass 4 = .ok (.bipush 20, 2) := by decide +kernel
theorem dX1_pass_6 : decode cX1_pass 6 = .ok (.if_icmp .lt 6, 3) := by decide +kernel
theorem dX1_pass_9 : decode cX1_pass 9 = .ok (.bipush (-3), 2) := by decide +kernel
theorem dX1_pass_11 : decode cX1_pass 11 = .ok (.ireturn, 1) := by decide +kernel
theorem dX1_pass_12 : decode cX1_pass 12 = .ok (.aload_n 0, 1) := by decide +kernel
theorem dX1_pass_13 : decode cX1_pass 13 = .ok (.getfield 28, 3) := by decide +kernel
theorem dX1_pass_16 : decode cX1_pass 16 = .ok (.istore 4, 2) := by decide +kernel
theorem dX1_pass_18 : decode cX1_pass 18 = .ok (.aload_n 0, 1) := by decide +kernel
theorem dX1_pass_19 : decode cX1_pass 19 = .ok (.iconst 0, 1) := by decide +kernel
theorem dX1_pass_20 : decode cX1_pass 20 = .ok (.putfield 28, 3) := by decide +kernel
theorem dX1_pass_23 : decode cX1_pass 23 = .ok (.aload_n 0, 1) := by decide +kernel
theorem dX1_pass_24 : decode cX1_pass 24 = .ok (.getfield 24, 3) := by decide +kernel
theorem dX1_pass_27 : decode cX1_pass 27 = .ok (.aload_n 0, 1) := by decide +kernel
theorem dX1_pass_28 : decode cX1_pass 28 = .ok (.getfield 9, 3) := by decide +kernel
theorem dX1_pass_31 : decode cX1_pass 31 = .ok (.iload 4, 2) := by decide +kernel
theorem dX1_pass_33 : decode cX1_pass 33 = .ok (.iload_n 1, 1) := by decide +kernel
theorem dX1_pass_34 : decode cX1_pass 34 = .ok (.invokevirtual 35, 3) := by decide +kernel
theorem dX1_pass_37 : decode cX1_pass 37 = .ok (.pop, 1) := by decide +kernel
theorem dX1_pass_38 : decode cX1_pass 38 = .ok (.aload_n 0, 1) := by decide +kernel
theorem dX1_pass_39 : decode cX1_pass 39 = .ok (.getfield 24, 3) := by decide +kernel
theorem dX1_pass_42 : decode cX1_pass 42 = .ok (.getfield 39, 3) := by decide +kernel
theorem dX1_pass_45 : decode cX1_pass 45 = .ok (.iconst (-1), 1) := by decide +kernel
theorem dX1_pass_46 : decode cX1_pass 46 = .ok (.if_icmp .eq 14, 3) := by decide +kernel
theorem dX1_pass_49 : decode cX1_pass 49 = .ok (.bipush (-100), 2) := by decide +kernel
theorem dX1_pass_51 : decode cX1_pass 51 = .ok (.aload_n 0, 1) := by decide +kernel
theorem dX1_pass_52 : decode cX1_pass 52 = .ok (.getfield 24, 3) := by decide +kernel
theorem dX1_pass_55 : decode cX1_pass 55 = .ok (.getfield 39, 3) := by decide +kernel
theorem dX1_pass_58 : decode cX1_pass 58 = .ok (.isub, 1) := by decide +kernel
theorem dX1_pass_59 : decode cX1_pass 59 = .ok (.ireturn, 1) := by decide +kernel
theorem dX1_pass_60 : decode cX1_pass 60 = .ok (.aload_n 0, 1) := by decide +kernel
theorem dX1_pass_61 : decode cX1_pass 61 = .ok (.getfield 17, 3) := by decide +kernel
theorem dX1_pass_64 : decode cX1_pass 64 = .ok (.aload_n 0, 1) := by decide +kernel
theorem dX1_pass_65 : decode cX1_pass 65 = .ok (.getfield 32, 3) := by decide +kernel
theorem dX1_pass_68 : decode cX1_pass 68 = .ok (.new 15, 3) := by decide +kernel
theorem dX1_pass_71 : decode cX1_pass 71 = .ok (.dup, 1) := by decide +kernel
theorem dX1_pass_72 : decode cX1_pass 72 = .ok (.iload_n 1, 1) := by decide +kernel
theorem dX1_pass_73 : decode cX1_pass 73 = .ok (.iload_n 3, 1) := by decide +kernel
theorem dX1_pass_74 : decode cX1_pass 74 = .ok (.iload_n 2, 1) := by decide +kernel
theorem dX1_pass_75 : decode cX1_pass 75 = .ok (.aload_n 0, 1) := by decide +kernel
theorem dX1_pass_76 : decode cX1_pass 76 = .ok (.getfield 9, 3) := by decide +kernel
theorem dX1_pass_79 : decode cX1_pass 79 = .ok (.iload 4, 2) := by decide +kernel
theorem dX1_pass_81 : decode cX1_pass 81 = .ok (.invokestatic 42, 3) := by decide +kernel
theorem dX1_pass_84 : decode cX1_pass 84 = .ok (.invokespecial 48, 3) := by decide +kernel
theorem dX1_pass_87 : decode cX1_pass 87 = .ok (.aastore, 1) := by decide +kernel
theorem dX1_pass_88 : decode cX1_pass 88 = .ok (.aload_n 0, 1) := by decide +kernel
theorem dX1_pass_89 : decode cX1_pass 89 = .ok (.dup, 1) := by decide +kernel
theorem dX1_pass_90 : decode cX1_pass 90 = .ok (.getfield 32, 3) := by decide +kernel
theorem dX1_pass_93 : decode cX1_pass 93 = .ok (.iconst 1, 1) := by decide +kernel
theorem dX1_pass_94 : decode cX1_pass 94 = .ok (.iadd, 1) := by decide +kernel
theorem dX1_pass_95 : decode cX1_pass 95 = .ok (.putfield 32, 3) := by decide +kernel
theorem dX1_pass_98 : decode cX1_pass 98 = .ok (.aload_n 0, 1) := by decide +kernel
theorem dX1_pass_99 : decode cX1_pass 99 = .ok (.getfield 32, 3) := by decide +kernel
theorem dX1_pass_102 : decode cX1_pass 102 = .ok (.iconst 1, 1) := by decide +kernel
theorem dX1_pass_103 : decode cX1_pass 103 = .ok (.isub, 1) := by decide +kernel
theorem dX1_pass_104 : decode cX1_pass 104 = .ok (.ireturn, 1) := by decide +kernel
theorem dX1_numberInForce_0 : decode cX1_numberInForce 0 = .ok (.aload_n 0, 1) := by decide +kernel
theorem dX1_numberInForce_1 : decode cX1_numberInForce 1 = .ok (.getfield 32, 3) := by decide +kernel
theorem dX1_numberInForce_4 : decode cX1_numberInForce 4 = .ok (.iconst 1, 1) := by decide +kernel
theorem dX1_numberInForce_5 : decode cX1_numberInForce 5 = .ok (.isub, 1) := by decide +kernel
theorem dX1_numberInForce_6 : decode cX1_numberInForce 6 = .ok (.istore 4, 2) := by decide +kernel
theorem dX1_numberInForce_8 : decode cX1_numberInForce 8 = .ok (.iload 4, 2) := by decide +kernel
theorem dX1_numberInForce_10 : decode cX1_numberInForce 10 = .ok (.ifCond .lt 53, 3) := by decide +kernel
theorem dX1_numberInForce_13 : decode cX1_numberInForce 13 = .ok (.aload_n 0, 1) := by decide +kernel
theorem dX1_numberInForce_14 : decode cX1_numberInForce 14 = .ok (.getfield 17, 3) := by decide +kernel
theorem dX1_numberInForce_17 : decode cX1_numberInForce 17 = .ok (.iload 4, 2) := by decide +kernel
theorem dX1_numberInForce_19 : decode cX1_numberInForce 19 = .ok (.aaload, 1) := by decide +kernel
theorem dX1_numberInForce_20 : decode cX1_numberInForce 20 = .ok (.astore 5, 2) := by decide +kernel
theorem dX1_numberInForce_22 : decode cX1_numberInForce 22 = .ok (.aload 5, 2) := by decide +kernel
theorem dX1_numberInForce_24 : decode cX1_numberInForce 24 = .ok (.ifnull 33, 3) := by decide +kernel
theorem dX1_numberInForce_27 : decode cX1_numberInForce 27 = .ok (.aload 5, 2) := by decide +kernel
theorem dX1_numberInForce_29 : decode cX1_numberInForce 29 = .ok (.getfield 51, 3) := by decide +kernel
theorem dX1_numberInForce_32 : decode cX1_numberInForce 32 = .ok (.iload_n 1, 1) := by decide +kernel
theorem dX1_numberInForce_33 : decode cX1_numberInForce 33 = .ok (.if_icmp .ne 24, 3) := by decide +kernel
theorem dX1_numberInForce_36 : decode cX1_numberInForce 36 = .ok (.aload 5, 2) := by decide +kernel
theorem dX1_numberInForce_38 : decode cX1_numberInForce 38 = .ok (.getfield 54, 3) := by decide +kernel
theorem dX1_numberInForce_41 : decode cX1_numberInForce 41 = .ok (.iload_n 3, 1) := by decide +kernel
theorem dX1_numberInForce_42 : decode cX1_numberInForce 42 = .ok (.if_icmp .gt 15, 3) := by decide +kernel
theorem dX1_numberInForce_45 : decode cX1_numberInForce 45 = .ok (.aload 5, 2) := by decide +kernel
theorem dX1_numberInForce_47 : decode cX1_numberInForce 47 = .ok (.getfield 57, 3) := by decide +kernel
theorem dX1_numberInForce_50 : decode cX1_numberInForce 50 = .ok (.iload_n 2, 1) := by decide +kernel
theorem dX1_numberInForce_51 : decode cX1_numberInForce 51 = .ok (.if_icmp .gt 6, 3) := by decide +kernel
theorem dX1_numberInForce_54 : decode cX1_numberInForce 54 = .ok (.iload 4, 2) := by decide +kernel
theorem dX1_numberInForce_56 : decode cX1_numberInForce 56 = .ok (.ireturn, 1) := by decide +kernel
theorem dX1_numberInForce_57 : decode cX1_numberInForce 57 = .ok (.iinc 4 (-1), 3) := by decide +kernel
theorem dX1_numberInForce_60 : decode cX1_numberInForce 60 = .ok (.goto (-52), 3) := by decide +kernel
theorem dX1_numberInForce_63 : decode cX1_numberInForce 63 = .ok (.iconst (-1), 1) := by decide +kernel
theorem dX1_numberInForce_64 : decode cX1_numberInForce 64 = .ok (.ireturn, 1) := by decide +kernel
theorem dX1_findInForce_0 : decode cX1_findInForce 0 = .ok (.aload_n 0, 1) := by decide +kernel
theorem dX1_findInForce_1 : decode cX1_findInForce 1 = .ok (.iload_n 1, 1) := by decide +kernel
theorem dX1_findInForce_2 : decode cX1_findInForce 2 = .ok (.iload_n 2, 1) := by decide +kernel
theorem dX1_findInForce_3 : decode cX1_findInForce 3 = .ok (.iload_n 3, 1) := by decide +kernel
theorem dX1_findInForce_4 : decode cX1_findInForce 4 = .ok (.invokevirtual 60, 3) := by decide +kernel
theorem dX1_findInForce_7 : decode cX1_findInForce 7 = .ok (.istore 4, 2) := by decide +kernel
theorem dX1_findInForce_9 : decode cX1_findInForce 9 = .ok (.iload 4, 2) := by decide +kernel
theorem dX1_findInForce_11 : decode cX1_findInForce 11 = .ok (.iconst (-1), 1) := by decide +kernel
theorem dX1_findInForce_12 : decode cX1_findInForce 12 = .ok (.if_icmp .ne 7, 3) := by decide +kernel
theorem dX1_findInForce_15 : decode cX1_findInForce 15 = .ok (.aconst_null, 1) := by decide +kernel
theorem dX1_findInForce_16 : decode cX1_findInForce 16 = .ok (.goto 10, 3) := by decide +kernel
theorem dX1_findInForce_19 : decode cX1_findInForce 19 = .ok (.aload_n 0, 1) := by decide +kernel
theorem dX1_findInForce_20 : decode cX1_findInForce 20 = .ok (.getfield 17, 3) := by decide +kernel
theorem dX1_findInForce_23 : decode cX1_findInForce 23 = .ok (.iload 4, 2) := by decide +kernel
theorem dX1_findInForce_25 : decode cX1_findInForce 25 = .ok (.aaload, 1) := by decide +kernel
theorem dX1_findInForce_26 : decode cX1_findInForce 26 = .ok (.areturn, 1) := by decide +kernel
theorem dX1_givePart_0 : decode cX1_givePart 0 = .ok (.aload_n 1, 1) := by decide +kernel
theorem dX1_givePart_1 : decode cX1_givePart 1 = .ok (.ifnonnull 5, 3) := by decide +kernel
theorem dX1_givePart_4 : decode cX1_givePart 4 = .ok (.iconst 0, 1) := by decide +kernel
theorem dX1_givePart_5 : decode cX1_givePart 5 = .ok (.ireturn, 1) := by decide +kernel
theorem dX1_givePart_6 : decode cX1_givePart 6 = .ok (.aload_n 0, 1) := by decide +kernel
theorem dX1_givePart_7 : decode cX1_givePart 7 = .ok (.getfield 24, 3) := by decide +kernel
theorem dX1_givePart_10 : decode cX1_givePart 10 = .ok (.getfield 64, 3) := by decide +kernel
theorem dX1_givePart_13 : decode cX1_givePart 13 = .ok (.astore 5, 2) := by decide +kernel
theorem dX1_givePart_15 : decode cX1_givePart 15 = .ok (.aload 5, 2) := by decide +kernel
theorem dX1_givePart_17 : decode cX1_givePart 17 = .ok (.iconst 0, 1) := by decide +kernel
theorem dX1_givePart_18 : decode cX1_givePart 18 = .ok (.iload_n 3, 1) := by decide +kernel
theorem dX1_givePart_19 : decode cX1_givePart 19 = .ok (.ifCond .eq 10, 3) := by decide +kernel
theorem dX1_givePart_22 : decode cX1_givePart 22 = .ok (.aload_n 2, 1) := by decide +kernel
theorem dX1_givePart_23 : decode cX1_givePart 23 = .ok (.getfield 68, 3) := by decide +kernel
theorem dX1_givePart_26 : decode cX1_givePart 26 = .ok (.goto 7, 3) := by decide +kernel
theorem dX1_givePart_29 : decode cX1_givePart 29 = .ok (.aload_n 2, 1) := by decide +kernel
theorem dX1_givePart_30 : decode cX1_givePart 30 = .ok (.getfield 73, 3) := by decide +kernel
theorem dX1_givePart_33 : decode cX1_givePart 33 = .ok (.iastore, 1) := by decide +kernel
theorem dX1_givePart_34 : decode cX1_givePart 34 = .ok (.aload 5, 2) := by decide +kernel
theorem dX1_givePart_36 : decode cX1_givePart 36 = .ok (.iconst 1, 1) := by decide +kernel
theorem dX1_givePart_37 : decode cX1_givePart 37 = .ok (.iload_n 3, 1) := by decide +kernel
theorem dX1_givePart_38 : decode cX1_givePart 38 = .ok (.ifCond .eq 10, 3) := by decide +kernel
theorem dX1_givePart_41 : decode cX1_givePart 41 = .ok (.aload_n 2, 1) := by decide +kernel
theorem dX1_givePart_42 : decode cX1_givePart 42 = .ok (.getfield 73, 3) := by decide +kernel
theorem dX1_givePart_45 : decode cX1_givePart 45 = .ok (.goto 7, 3) := by decide +kernel
theorem dX1_givePart_48 : decode cX1_givePart 48 = .ok (.aload_n 2, 1) := by decide +kernel
theorem dX1_givePart_49 : decode cX1_givePart 49 = .ok (.getfield 68, 3) := by decide +kernel
theorem dX1_givePart_52 : decode cX1_givePart 52 = .ok (.iastore, 1) := by decide +kernel
theorem dX1_givePart_53 : decode cX1_givePart 53 = .ok (.aload 5, 2) := by decide +kernel
theorem dX1_givePart_55 : decode cX1_givePart 55 = .ok (.iconst 2, 1) := by decide +kernel
theorem dX1_givePart_56 : decode cX1_givePart 56 = .ok (.aload_n 2, 1) := by decide +kernel
theorem dX1_givePart_57 : decode cX1_givePart 57 = .ok (.getfield 76, 3) := by decide +kernel
theorem dX1_givePart_60 : decode cX1_givePart 60 = .ok (.iastore, 1) := by decide +kernel
theorem dX1_givePart_61 : decode cX1_givePart 61 = .ok (.aload 5, 2) := by decide +kernel
theorem dX1_givePart_63 : decode cX1_givePart 63 = .ok (.iconst 3, 1) := by decide +kernel
theorem dX1_givePart_64 : decode cX1_givePart 64 = .ok (.iload_n 3, 1) := by decide +kernel
theorem dX1_givePart_65 : decode cX1_givePart 65 = .ok (.ifCond .eq 10, 3) := by decide +kernel
theorem dX1_givePart_68 : decode cX1_givePart 68 = .ok (.aload_n 2, 1) := by decide +kernel
theorem dX1_givePart_69 : decode cX1_givePart 69 = .ok (.getfield 79, 3) := by decide +kernel
theorem dX1_givePart_72 : decode cX1_givePart 72 = .ok (.goto 7, 3) := by decide +kernel
theorem dX1_givePart_75 : decode cX1_givePart 75 = .ok (.aload_n 2, 1) := by decide +kernel
theorem dX1_givePart_76 : decode cX1_givePart 76 = .ok (.getfield 82, 3) := by decide +kernel
theorem dX1_givePart_79 : decode cX1_givePart 79 = .ok (.iastore, 1) := by decide +kernel
theorem dX1_givePart_80 : decode cX1_givePart 80 = .ok (.aload 5, 2) := by decide +kernel
theorem dX1_givePart_82 : decode cX1_givePart 82 = .ok (.iconst 4, 1) := by decide +kernel
theorem dX1_givePart_83 : decode cX1_givePart 83 = .ok (.aload_n 2, 1) := by decide +kernel
theorem dX1_givePart_84 : decode cX1_givePart 84 = .ok (.invokevirtual 85, 3) := by decide +kernel
theorem dX1_givePart_87 : decode cX1_givePart 87 = .ok (.ifCond .eq 7, 3) := by decide +kernel
theorem dX1_givePart_90 : decode cX1_givePart 90 = .ok (.iconst 1, 1) := by decide +kernel
theorem dX1_givePart_91 : decode cX1_givePart 91 = .ok (.goto 4, 3) := by decide +kernel
theorem dX1_givePart_94 : decode cX1_givePart 94 = .ok (.iconst 0, 1) := by decide +kernel
theorem dX1_givePart_95 : decode cX1_givePart 95 = .ok (.iastore, 1) := by decide +kernel
theorem dX1_givePart_96 : decode cX1_givePart 96 = .ok (.aload 5, 2) := by decide +kernel
theorem dX1_givePart_98 : decode cX1_givePart 98 = .ok (.iconst 5, 1) := by decide +kernel
theorem dX1_givePart_99 : decode cX1_givePart 99 = .ok (.iload 4, 2) := by decide +kernel
theorem dX1_givePart_101 : decode cX1_givePart 101 = .ok (.sipush 365, 3) := by decide +kernel
theorem dX1_givePart_104 : decode cX1_givePart 104 = .ok (.idiv, 1) := by decide +kernel
theorem dX1_givePart_105 : decode cX1_givePart 105 = .ok (.iastore, 1) := by decide +kernel
theorem dX1_givePart_106 : decode cX1_givePart 106 = .ok (.aload_n 0, 1) := by decide +kernel
theorem dX1_givePart_107 : decode cX1_givePart 107 = .ok (.getfield 24, 3) := by decide +kernel
theorem dX1_givePart_110 : decode cX1_givePart 110 = .ok (.aload_n 1, 1) := by decide +kernel
theorem dX1_givePart_111 : decode cX1_givePart 111 = .ok (.getfield 89, 3) := by decide +kernel
theorem dX1_givePart_114 : decode cX1_givePart 114 = .ok (.aload_n 1, 1) := by decide +kernel
theorem dX1_givePart_115 : decode cX1_givePart 115 = .ok (.getfield 89, 3) := by decide +kernel
theorem dX1_givePart_118 : decode cX1_givePart 118 = .ok (.arraylength, 1) := by decide +kernel
theorem dX1_givePart_119 : decode cX1_givePart 119 = .ok (.iconst 0, 1) := by decide +kernel
theorem dX1_givePart_120 : decode cX1_givePart 120 = .ok (.invokevirtual 35, 3) := by decide +kernel
theorem dX1_givePart_123 : decode cX1_givePart 123 = .ok (.invokestatic 92, 3) := by decide +kernel
theorem dX1_givePart_126 : decode cX1_givePart 126 = .ok (.ireturn, 1) := by decide +kernel
theorem dX1_givingClause_0 : decode cX1_givingClause 0 = .ok (.aload_n 1, 1) := by decide +kernel
theorem dX1_givingClause_1 : decode cX1_givingClause 1 = .ok (.ifnonnull 5, 3) := by decide +kernel
theorem dX1_givingClause_4 : decode cX1_givingClause 4 = .ok (.iconst (-1), 1) := by decide +kernel
theorem dX1_givingClause_5 : decode cX1_givingClause 5 = .ok (.ireturn, 1) := by decide +kernel
theorem dX1_givingClause_6 : decode cX1_givingClause 6 = .ok (.aload_n 0, 1) := by decide +kernel
theorem dX1_givingClause_7 : decode cX1_givingClause 7 = .ok (.aload_n 1, 1) := by decide +kernel
theorem dX1_givingClause_8 : decode cX1_givingClause 8 = .ok (.aload_n 2, 1) := by decide +kernel
theorem dX1_givingClause_9 : decode cX1_givingClause 9 = .ok (.iconst 0, 1) := by decide +kernel
theorem dX1_givingClause_10 : decode cX1_givingClause 10 = .ok (.iload_n 3, 1) := by decide +kernel
theorem dX1_givingClause_11 : decode cX1_givingClause 11 = .ok (.invokevirtual 96, 3) := by decide +kernel
theorem dX1_givingClause_14 : decode cX1_givingClause 14 = .ok (.pop, 1) := by decide +kernel
theorem dX1_givingClause_15 : decode cX1_givingClause 15 = .ok (.aload_n 0, 1) := by decide +kernel
theorem dX1_givingClause_16 : decode cX1_givingClause 16 = .ok (.getfield 24, 3) := by decide +kernel
theorem dX1_givingClause_19 : decode cX1_givingClause 19 = .ok (.getfield 100, 3) := by decide +kernel
theorem dX1_givingClause_22 : decode cX1_givingClause 22 = .ok (.ireturn, 1) := by decide +kernel
theorem dX1_givePenalty_0 : decode cX1_givePenalty 0 = .ok (.aload_n 1, 1) := by decide +kernel
theorem dX1_givePenalty_1 : decode cX1_givePenalty 1 = .ok (.ifnonnull 5, 3) := by decide +kernel
theorem dX1_givePenalty_4 : decode cX1_givePenalty 4 = .ok (.iconst 0, 1) := by decide +kernel
theorem dX1_givePenalty_5 : decode cX1_givePenalty 5 = .ok (.ireturn, 1) := by decide +kernel
theorem dX1_givePenalty_6 : decode cX1_givePenalty 6 = .ok (.aload_n 2, 1) := by decide +kernel
theorem dX1_givePenalty_7 : decode cX1_givePenalty 7 = .ok (.iload_n 3, 1) := by decide +kernel
theorem dX1_givePenalty_8 : decode cX1_givePenalty 8 = .ok (.invokevirtual 103, 3) := by decide +kernel
theorem dX1_givePenalty_11 : decode cX1_givePenalty 11 = .ok (.istore 5, 2) := by decide +kernel
theorem dX1_givePenalty_13 : decode cX1_givePenalty 13 = .ok (.aload_n 0, 1) := by decide +kernel
theorem dX1_givePenalty_14 : decode cX1_givePenalty 14 = .ok (.getfield 24, 3) := by decide +kernel
theorem dX1_givePenalty_17 : decode cX1_givePenalty 17 = .ok (.getfield 64, 3) := by decide +kernel
theorem dX1_givePenalty_20 : decode cX1_givePenalty 20 = .ok (.astore 6, 2) := by decide +kernel
theorem dX1_givePenalty_22 : decode cX1_givePenalty 22 = .ok (.aload 6, 2) := by decide +kernel
theorem dX1_givePenalty_24 : decode cX1_givePenalty 24 = .ok (.iconst 0, 1) := by decide +kernel
theorem dX1_givePenalty_25 : decode cX1_givePenalty 25 = .ok (.iload 5, 2) := by decide +kernel
theorem dX1_givePenalty_27 : decode cX1_givePenalty 27 = .ok (.iastore, 1) := by decide +kernel
theorem dX1_givePenalty_28 : decode cX1_givePenalty 28 = .ok (.aload 6, 2) := by decide +kernel
theorem dX1_givePenalty_30 : decode cX1_givePenalty 30 = .ok (.iconst 1, 1) := by decide +kernel
theorem dX1_givePenalty_31 : decode cX1_givePenalty 31 = .ok (.iconst 0, 1) := by decide +kernel
theorem dX1_givePenalty_32 : decode cX1_givePenalty 32 = .ok (.iload 5, 2) := by decide +kernel
theorem dX1_givePenalty_34 : decode cX1_givePenalty 34 = .ok (.aload_n 2, 1) := by decide +kernel
theorem dX1_givePenalty_35 : decode cX1_givePenalty 35 = .ok (.getfield 108, 3) := by decide +kernel
theorem dX1_givePenalty_38 : decode cX1_givePenalty 38 = .ok (.isub, 1) := by decide +kernel
theorem dX1_givePenalty_39 : decode cX1_givePenalty 39 = .ok (.invokestatic 111, 3) := by decide +kernel
theorem dX1_givePenalty_42 : decode cX1_givePenalty 42 = .ok (.iastore, 1) := by decide +kernel
theorem dX1_givePenalty_43 : decode cX1_givePenalty 43 = .ok (.aload 6, 2) := by decide +kernel
theorem dX1_givePenalty_45 : decode cX1_givePenalty 45 = .ok (.iconst 2, 1) := by decide +kernel
theorem dX1_givePenalty_46 : decode cX1_givePenalty 46 = .ok (.aload_n 2, 1) := by decide +kernel
theorem dX1_givePenalty_47 : decode cX1_givePenalty 47 = .ok (.getfield 117, 3) := by decide +kernel
theorem dX1_givePenalty_50 : decode cX1_givePenalty 50 = .ok (.iastore, 1) := by decide +kernel
theorem dX1_givePenalty_51 : decode cX1_givePenalty 51 = .ok (.aload 6, 2) := by decide +kernel
theorem dX1_givePenalty_53 : decode cX1_givePenalty 53 = .ok (.iconst 3, 1) := by decide +kernel
theorem dX1_givePenalty_54 : decode cX1_givePenalty 54 = .ok (.aload_n 2, 1) := by decide +kernel
theorem dX1_givePenalty_55 : decode cX1_givePenalty 55 = .ok (.getfield 120, 3) := by decide +kernel
theorem dX1_givePenalty_58 : decode cX1_givePenalty 58 = .ok (.iastore, 1) := by decide +kernel
theorem dX1_givePenalty_59 : decode cX1_givePenalty 59 = .ok (.aload 6, 2) := by decide +kernel
theorem dX1_givePenalty_61 : decode cX1_givePenalty 61 = .ok (.iconst 4, 1) := by decide +kernel
theorem dX1_givePenalty_62 : decode cX1_givePenalty 62 = .ok (.iload 4, 2) := by decide +kernel
theorem dX1_givePenalty_64 : decode cX1_givePenalty 64 = .ok (.iastore, 1) := by decide +kernel
theorem dX1_givePenalty_65 : decode cX1_givePenalty 65 = .ok (.aload_n 0, 1) := by decide +kernel
theorem dX1_givePenalty_66 : decode cX1_givePenalty 66 = .ok (.getfield 24, 3) := by decide +kernel
theorem dX1_givePenalty_69 : decode cX1_givePenalty 69 = .ok (.aload_n 1, 1) := by decide +kernel
theorem dX1_givePenalty_70 : decode cX1_givePenalty 70 = .ok (.getfield 89, 3) := by decide +kernel
theorem dX1_givePenalty_73 : decode cX1_givePenalty 73 = .ok (.aload_n 1, 1) := by decide +kernel
theorem dX1_givePenalty_74 : decode cX1_givePenalty 74 = .ok (.getfield 89, 3) := by decide +kernel
theorem dX1_givePenalty_77 : decode cX1_givePenalty 77 = .ok (.arraylength, 1) := by decide +kernel
theorem dX1_givePenalty_78 : decode cX1_givePenalty 78 = .ok (.iconst 1, 1) := by decide +kernel
theorem dX1_givePenalty_79 : decode cX1_givePenalty 79 = .ok (.invokevirtual 35, 3) := by decide +kernel
theorem dX1_givePenalty_82 : decode cX1_givePenalty 82 = .ok (.invokestatic 92, 3) := by decide +kernel
theorem dX1_givePenalty_85 : decode cX1_givePenalty 85 = .ok (.ireturn, 1) := by decide +kernel
theorem dX1_keepWithin_0 : decode cX1_keepWithin 0 = .ok (.iconst 0, 1) := by decide +kernel
theorem dX1_keepWithin_1 : decode cX1_keepWithin 1 = .ok (.ldc 123, 2) := by decide +kernel
theorem dX1_keepWithin_3 : decode cX1_keepWithin 3 = .ok (.iload_n 0, 1) := by decide +kernel
theorem dX1_keepWithin_4 : decode cX1_keepWithin 4 = .ok (.invokestatic 124, 3) := by decide +kernel
theorem dX1_keepWithin_7 : decode cX1_keepWithin 7 = .ok (.invokestatic 111, 3) := by decide +kernel
theorem dX1_keepWithin_10 : decode cX1_keepWithin 10 = .ok (.ireturn, 1) := by decide +kernel
theorem dX2_init_0 : decode cX2_init 0 = .ok (.aload_n 0, 1) := by decide +kernel
theorem dX2_init_1 : decode cX2_init 1 = .ok (.invokespecial 3, 3) := by decide +kernel
theorem dX2_init_4 : decode cX2_init 4 = .ok (.aload_n 0, 1) := by decide +kernel
theorem dX2_init_5 : decode cX2_init 5 = .ok (.sipush 144, 3) := by decide +kernel
theorem dX2_init_8 : decode cX2_init 8 = .ok (.newarray .int, 2) := by decide +kernel
theorem dX2_init_10 : decode cX2_init 10 = .ok (.putfield 9, 3) := by decide +kernel
theorem dX2_init_13 : decode cX2_init 13 = .ok (.aload_n 0, 1) := by decide +kernel
theorem dX2_init_14 : decode cX2_init 14 = .ok (.sipush 144, 3) := by decide +kernel
theorem dX2_init_17 : decode cX2_init 17 = .ok (.newarray .int, 2) := by decide +kernel
theorem dX2_init_19 : decode cX2_init 19 = .ok (.putfield 15, 3) := by decide +kernel
theorem dX2_init_22 : decode cX2_init 22 = .ok (.return_, 1) := by decide +kernel
theorem dX2_countStanding_0 : decode cX2_countStanding 0 = .ok (.aload_n 0, 1) := by decide +kernel
theorem dX2_countStanding_1 : decode cX2_countStanding 1 = .ok (.aload_n 1, 1) := by decide +kernel
theorem dX2_countStanding_2 : decode cX2_countStanding 2 = .ok (.invokevirtual 18, 3) := by decide +kernel
theorem dX2_countStanding_5 : decode cX2_countStanding 5 = .ok (.iconst 0, 1) := by decide +kernel
theorem dX2_countStanding_6 : decode cX2_countStanding 6 = .ok (.istore_n 2, 1) := by decide +kernel
theorem dX2_countStanding_7 : decode cX2_countStanding 7 = .ok (.iconst 0, 1) := by decide +kernel
theorem dX2_countStanding_8 : decode cX2_countStanding 8 = .ok (.istore_n 3, 1) := by decide +kernel
theorem dX2_countStanding_9 : decode cX2_countStanding 9 = .ok (.iload_n 3, 1) := by decide +kernel
theorem dX2_countStanding_10 : decode cX2_countStanding 10 = .ok (.aload_n 1, 1) := by decide +kernel
theorem dX2_countStanding_11 : decode cX2_countStanding 11 = .ok (.getfield 22, 3) := by decide +kernel
theorem dX2_countStanding_14 : decode cX2_countStanding 14 = .ok (.arraylength, 1) := by decide +kernel
theorem dX2_countStanding_15 : decode cX2_countStanding 15 = .ok (.if_icmp .ge 26, 3) := by decide +kernel
theorem dX2_countStanding_18 : decode cX2_countStanding 18 = .ok (.aload_n 1, 1) := by decide +kernel
theorem dX2_countStanding_19 : decode cX2_countStanding 19 = .ok (.getfield 27, 3) := by decide +kernel
theorem dX2_countStanding_22 : decode cX2_countStanding 22 = .ok (.aload_n 0, 1) := by decide +kernel
theorem dX2_countStanding_23 : decode cX2_countStanding 23 = .ok (.getfield 9, 3) := by decide +kernel
theorem dX2_countStanding_26 : decode cX2_countStanding 26 = .ok (.iload_n 3, 1) := by decide +kernel
theorem dX2_countStanding_27 : decode cX2_countStanding 27 = .ok (.iaload, 1) := by decide +kernel
theorem dX2_countStanding_28 : decode cX2_countStanding 28 = .ok (.iaload, 1) := by decide +kernel
theorem dX2_countStanding_29 : decode cX2_countStanding 29 = .ok (.ifCond .ne 6, 3) := by decide +kernel
theorem dX2_countStanding_32 : decode cX2_countStanding 32 = .ok (.iinc 2 1, 3) := by decide +kernel
theorem dX2_countStanding_35 : decode cX2_countStanding 35 = .ok (.iinc 3 1, 3) := by decide +kernel
theorem dX2_countStanding_38 : decode cX2_countStanding 38 = .ok (.goto (-29), 3) := by decide +kernel
theorem dX2_countStanding_41 : decode cX2_countStanding 41 = .ok (.iload_n 2, 1) := by decide +kernel
theorem dX2_countStanding_42 : decode cX2_countStanding 42 = .ok (.ireturn, 1) := by decide +kernel
theorem dX2_countMost_0 : decode cX2_countMost 0 = .ok (.aload_n 0, 1) := by decide +kernel
theorem dX2_countMost_1 : decode cX2_countMost 1 = .ok (.aload_n 1, 1) := by decide +kernel
theorem dX2_countMost_2 : decode cX2_countMost 2 = .ok (.invokevirtual 18, 3) := by decide +kernel
theorem dX2_countMost_5 : decode cX2_countMost 5 = .ok (.aload_n 0, 1) := by decide +kernel
theorem dX2_countMost_6 : decode cX2_countMost 6 = .ok (.getfield 15, 3) := by decide +kernel
theorem dX2_countMost_9 : decode cX2_countMost 9 = .ok (.iconst 0, 1) := by decide +kernel
theorem dX2_countMost_10 : decode cX2_countMost 10 = .ok (.invokestatic 30, 3) := by decide +kernel
theorem dX2_countMost_13 : decode cX2_countMost 13 = .ok (.iconst 0, 1) := by decide +kernel
theorem dX2_countMost_14 : decode cX2_countMost 14 = .ok (.istore_n 2, 1) := by decide +kernel
theorem dX2_countMost_15 : decode cX2_countMost 15 = .ok (.iconst 0, 1) := by decide +kernel
theorem dX2_countMost_16 : decode cX2_countMost 16 = .ok (.istore_n 3, 1) := by decide +kernel
theorem dX2_countMost_17 : decode cX2_countMost 17 = .ok (.iload_n 3, 1) := by decide +kernel
theorem dX2_countMost_18 : decode cX2_countMost 18 = .ok (.aload_n 1, 1) := by decide +kernel
theorem dX2_countMost_19 : decode cX2_countMost 19 = .ok (.getfield 22, 3) := by decide +kernel
theorem dX2_countMost_22 : decode cX2_countMost 22 = .ok (.arraylength, 1) := by decide +kernel
theorem dX2_countMost_23 : decode cX2_countMost 23 = .ok (.if_icmp .ge 40, 3) := by decide +kernel
theorem dX2_countMost_26 : decode cX2_countMost 26 = .ok (.aload_n 0, 1) := by decide +kernel
theorem dX2_countMost_27 : decode cX2_countMost 27 = .ok (.getfield 15, 3) := by decide +kernel
theorem dX2_countMost_30 : decode cX2_countMost 30 = .ok (.aload_n 0, 1) := by decide +kernel
theorem dX2_countMost_31 : decode cX2_countMost 31 = .ok (.getfield 9, 3) := by decide +kernel
theorem dX2_countMost_34 : decode cX2_countMost 34 = .ok (.iload_n 3, 1) := by decide +kernel
theorem dX2_countMost_35 : decode cX2_countMost 35 = .ok (.iaload, 1) := by decide +kernel
theorem dX2_countMost_36 : decode cX2_countMost 36 = .ok (.dup2, 1) := by decide +kernel
theorem dX2_countMost_37 : decode cX2_countMost 37 = .ok (.iaload, 1) := by decide +kernel
theorem dX2_countMost_38 : decode cX2_countMost 38 = .ok (.iconst 1, 1) := by decide +kernel
theorem dX2_countMost_39 : decode cX2_countMost 39 = .ok (.iadd, 1) := by decide +kernel
theorem dX2_countMost_40 : decode cX2_countMost 40 = .ok (.iastore, 1) := by decide +kernel
theorem dX2_countMost_41 : decode cX2_countMost 41 = .ok (.iload_n 2, 1) := by decide +kernel
theorem dX2_countMost_42 : decode cX2_countMost 42 = .ok (.aload_n 0, 1) := by decide +kernel
theorem dX2_countMost_43 : decode cX2_countMost 43 = .ok (.getfield 15, 3) := by decide +kernel
theorem dX2_countMost_46 : decode cX2_countMost 46 = .ok (.aload_n 0, 1) := by decide +kernel
theorem dX2_countMost_47 : decode cX2_countMost 47 = .ok (.getfield 9, 3) := by decide +kernel
theorem dX2_countMost_50 : decode cX2_countMost 50 = .ok (.iload_n 3, 1) := by decide +kernel
theorem dX2_countMost_51 : decode cX2_countMost 51 = .ok (.iaload, 1) := by decide +kernel
theorem dX2_countMost_52 : decode cX2_countMost 52 = .ok (.iaload, 1) := by decide +kernel
theorem dX2_countMost_53 : decode cX2_countMost 53 = .ok (.invokestatic 36, 3) := by decide +kernel
theorem dX2_countMost_56 : decode cX2_countMost 56 = .ok (.istore_n 2, 1) := by decide +kernel
theorem dX2_countMost_57 : decode cX2_countMost 57 = .ok (.iinc 3 1, 3) := by decide +kernel
theorem dX2_countMost_60 : decode cX2_countMost 60 = .ok (.goto (-43), 3) := by decide +kernel
theorem dX2_countMost_63 : decode cX2_countMost 63 = .ok (.iload_n 2, 1) := by decide +kernel
theorem dX2_countMost_64 : decode cX2_countMost 64 = .ok (.ireturn, 1) := by decide +kernel
theorem dX2_findEnds_0 : decode cX2_findEnds 0 = .ok (.iconst 0, 1) := by decide +kernel
theorem dX2_findEnds_1 : decode cX2_findEnds 1 = .ok (.istore_n 2, 1) := by decide +kernel
theorem dX2_findEnds_2 : decode cX2_findEnds 2 = .ok (.iload_n 2, 1) := by decide +kernel
theorem dX2_findEnds_3 : decode cX2_findEnds 3 = .ok (.aload_n 1, 1) := by decide +kernel
theorem dX2_findEnds_4 : decode cX2_findEnds 4 = .ok (.getfield 22, 3) := by decide +kernel
theorem dX2_findEnds_7 : decode cX2_findEnds 7 = .ok (.arraylength, 1) := by decide +kernel
theorem dX2_findEnds_8 : decode cX2_findEnds 8 = .ok (.if_icmp .ge 20, 3) := by decide +kernel
theorem dX2_findEnds_11 : decode cX2_findEnds 11 = .ok (.aload_n 0, 1) := by decide +kernel
theorem dX2_findEnds_12 : decode cX2_findEnds 12 = .ok (.getfield 9, 3) := by decide +kernel
theorem dX2_findEnds_15 : decode cX2_findEnds 15 = .ok (.iload_n 2, 1) := by decide +kernel
theorem dX2_findEnds_16 : decode cX2_findEnds 16 = .ok (.aload_n 1, 1) := by decide +kernel
theorem dX2_findEnds_17 : decode cX2_findEnds 17 = .ok (.iload_n 2, 1) := by decide +kernel
theorem dX2_findEnds_18 : decode cX2_findEnds 18 = .ok (.invokevirtual 42, 3) := by decide +kernel
theorem dX2_findEnds_21 : decode cX2_findEnds 21 = .ok (.iastore, 1) := by decide +kernel
theorem dX2_findEnds_22 : decode cX2_findEnds 22 = .ok (.iinc 2 1, 3) := by decide +kernel
theorem dX2_findEnds_25 : decode cX2_findEnds 25 = .ok (.goto (-23), 3) := by decide +kernel
theorem dX2_findEnds_28 : decode cX2_findEnds 28 = .ok (.iconst 1, 1) := by decide +kernel
theorem dX2_findEnds_29 : decode cX2_findEnds 29 = .ok (.istore_n 2, 1) := by decide +kernel
theorem dX2_findEnds_30 : decode cX2_findEnds 30 = .ok (.iload_n 2, 1) := by decide +kernel
theorem dX2_findEnds_31 : decode cX2_findEnds 31 = .ok (.sipush 144, 3) := by decide +kernel
theorem dX2_findEnds_34 : decode cX2_findEnds 34 = .ok (.if_icmp .ge 44, 3) := by decide +kernel
theorem dX2_findEnds_37 : decode cX2_findEnds 37 = .ok (.iconst 0, 1) := by decide +kernel
theorem dX2_findEnds_38 : decode cX2_findEnds 38 = .ok (.istore_n 3, 1) := by decide +kernel
theorem dX2_findEnds_39 : decode cX2_findEnds 39 = .ok (.iload_n 3, 1) := by decide +kernel
theorem dX2_findEnds_40 : decode cX2_findEnds 40 = .ok (.aload_n 1, 1) := by decide +kernel
theorem dX2_findEnds_41 : decode cX2_findEnds 41 = .ok (.getfield 22, 3) := by decide +kernel
theorem dX2_findEnds_44 : decode cX2_findEnds 44 = .ok (.arraylength, 1) := by decide +kernel
theorem dX2_findEnds_45 : decode cX2_findEnds 45 = .ok (.if_icmp .ge 26, 3) := by decide +kernel
theorem dX2_findEnds_48 : decode cX2_findEnds 48 = .ok (.aload_n 0, 1) := by decide +kernel
theorem dX2_findEnds_49 : decode cX2_findEnds 49 = .ok (.getfield 9, 3) := by decide +kernel
theorem dX2_findEnds_52 : decode cX2_findEnds 52 = .ok (.iload_n 3, 1) := by decide +kernel
theorem dX2_findEnds_53 : decode cX2_findEnds 53 = .ok (.aload_n 0, 1) := by decide +kernel
theorem dX2_findEnds_54 : decode cX2_findEnds 54 = .ok (.getfield 9, 3) := by decide +kernel
theorem dX2_findEnds_57 : decode cX2_findEnds 57 = .ok (.aload_n 0, 1) := by decide +kernel
theorem dX2_findEnds_58 : decode cX2_findEnds 58 = .ok (.getfield 9, 3) := by decide +kernel
theorem dX2_findEnds_61 : decode cX2_findEnds 61 = .ok (.iload_n 3, 1) := by decide +kernel
theorem dX2_findEnds_62 : decode cX2_findEnds 62 = .ok (.iaload, 1) := by decide +kernel
theorem dX2_findEnds_63 : decode cX2_findEnds 63 = .ok (.iaload, 1) := by decide +kernel
theorem dX2_findEnds_64 : decode cX2_findEnds 64 = .ok (.iastore, 1) := by decide +kernel
theorem dX2_findEnds_65 : decode cX2_findEnds 65 = .ok (.iinc 3 1, 3) := by decide +kernel
theorem dX2_findEnds_68 : decode cX2_findEnds 68 = .ok (.goto (-29), 3) := by decide +kernel
theorem dX2_findEnds_71 : decode cX2_findEnds 71 = .ok (.iload_n 2, 1) := by decide +kernel
theorem dX2_findEnds_72 : decode cX2_findEnds 72 = .ok (.iconst 2, 1) := by decide +kernel
theorem dX2_findEnds_73 : decode cX2_findEnds 73 = .ok (.imul, 1) := by decide +kernel
theorem dX2_findEnds_74 : decode cX2_findEnds 74 = .ok (.istore_n 2, 1) := by decide +kernel
theorem dX2_findEnds_75 : decode cX2_findEnds 75 = .ok (.goto (-45), 3) := by decide +kernel
theorem dX2_findEnds_78 : decode cX2_findEnds 78 = .ok (.return_, 1) := by decide +kernel
theorem dX3_init_0 : decode cX3_init 0 = .ok (.aload_n 0, 1) := by decide +kernel
theorem dX3_init_1 : decode cX3_init 1 = .ok (.invokespecial 3, 3) := by decide +kernel
theorem dX3_init_4 : decode cX3_init 4 = .ok (.aload_n 0, 1) := by decide +kernel
theorem dX3_init_5 : decode cX3_init 5 = .ok (.iload_n 1, 1) := by decide +kernel
theorem dX3_init_6 : decode cX3_init 6 = .ok (.bipush 100, 2) := by decide +kernel
theorem dX3_init_8 : decode cX3_init 8 = .ok (.idiv, 1) := by decide +kernel
theorem dX3_init_9 : decode cX3_init 9 = .ok (.putfield 9, 3) := by decide +kernel
theorem dX3_init_12 : decode cX3_init 12 = .ok (.aload_n 0, 1) := by decide +kernel
theorem dX3_init_13 : decode cX3_init 13 = .ok (.iload_n 1, 1) := by decide +kernel
theorem dX3_init_14 : decode cX3_init 14 = .ok (.bipush 100, 2) := by decide +kernel
theorem dX3_init_16 : decode cX3_init 16 = .ok (.irem, 1) := by decide +kernel
theorem dX3_init_17 : decode cX3_init 17 = .ok (.putfield 15, 3) := by decide +kernel
theorem dX3_init_20 : decode cX3_init 20 = .ok (.aload_n 0, 1) := by decide +kernel
theorem dX3_init_21 : decode cX3_init 21 = .ok (.iload_n 2, 1) := by decide +kernel
theorem dX3_init_22 : decode cX3_init 22 = .ok (.iconst (-1), 1) := by decide +kernel
theorem dX3_init_23 : decode cX3_init 23 = .ok (.if_icmp .ne 7, 3) := by decide +kernel
theorem dX3_init_26 : decode cX3_init 26 = .ok (.iconst (-1), 1) := by decide +kernel
theorem dX3_init_27 : decode cX3_init 27 = .ok (.goto 7, 3) := by decide +kernel
theorem dX3_init_30 : decode cX3_init 30 = .ok (.iload_n 2, 1) := by decide +kernel
theorem dX3_init_31 : decode cX3_init 31 = .ok (.bipush 100, 2) := by decide +kernel
theorem dX3_init_33 : decode cX3_init 33 = .ok (.idiv, 1) := by decide +kernel
theorem dX3_init_34 : decode cX3_init 34 = .ok (.putfield 18, 3) := by decide +kernel
theorem dX3_init_37 : decode cX3_init 37 = .ok (.aload_n 0, 1) := by decide +kernel
theorem dX3_init_38 : decode cX3_init 38 = .ok (.iload_n 2, 1) := by decide +kernel
theorem dX3_init_39 : decode cX3_init 39 = .ok (.iconst (-1), 1) := by decide +kernel
theorem dX3_init_40 : decode cX3_init 40 = .ok (.if_icmp .ne 7, 3) := by decide +kernel
theorem dX3_init_43 : decode cX3_init 43 = .ok (.iconst 0, 1) := by decide +kernel
theorem dX3_init_44 : decode cX3_init 44 = .ok (.goto 7, 3) := by decide +kernel
theorem dX3_init_47 : decode cX3_init 47 = .ok (.iload_n 2, 1) := by decide +kernel
theorem dX3_init_48 : decode cX3_init 48 = .ok (.bipush 100, 2) := by decide +kernel
theorem dX3_init_50 : decode cX3_init 50 = .ok (.irem, 1) := by decide +kernel
theorem dX3_init_51 : decode cX3_init 51 = .ok (.putfield 21, 3) := by decide +kernel
theorem dX3_init_54 : decode cX3_init 54 = .ok (.aload_n 0, 1) := by decide +kernel
theorem dX3_init_55 : decode cX3_init 55 = .ok (.iload_n 3, 1) := by decide +kernel
theorem dX3_init_56 : decode cX3_init 56 = .ok (.putfield 24, 3) := by decide +kernel
theorem dX3_init_59 : decode cX3_init 59 = .ok (.return_, 1) := by decide +kernel
theorem dX3_isCorner_0 : decode cX3_isCorner 0 = .ok (.aload_n 0, 1) := by decide +kernel
theorem dX3_isCorner_1 : decode cX3_isCorner 1 = .ok (.getfield 18, 3) := by decide +kernel
theorem dX3_isCorner_4 : decode cX3_isCorner 4 = .ok (.iconst (-1), 1) := by decide +kernel
theorem dX3_isCorner_5 : decode cX3_isCorner 5 = .ok (.if_icmp .eq 7, 3) := by decide +kernel
theorem dX3_isCorner_8 : decode cX3_isCorner 8 = .ok (.iconst 1, 1) := by decide +kernel
theorem dX3_isCorner_9 : decode cX3_isCorner 9 = .ok (.goto 4, 3) := by decide +kernel
theorem dX3_isCorner_12 : decode cX3_isCorner 12 = .ok (.iconst 0, 1) := by decide +kernel
theorem dX3_isCorner_13 : decode cX3_isCorner 13 = .ok (.ireturn, 1) := by decide +kernel
theorem dX3_hasPartIn_0 : decode cX3_hasPartIn 0 = .ok (.aload_n 0, 1) := by decide +kernel
theorem dX3_hasPartIn_1 : decode cX3_hasPartIn 1 = .ok (.getfield 9, 3) := by decide +kernel
theorem dX3_hasPartIn_4 : decode cX3_hasPartIn 4 = .ok (.iload_n 1, 1) := by decide +kernel
theorem dX3_hasPartIn_5 : decode cX3_hasPartIn 5 = .ok (.if_icmp .eq 11, 3) := by decide +kernel
theorem dX3_hasPartIn_8 : decode cX3_hasPartIn 8 = .ok (.aload_n 0, 1) := by decide +kernel
theorem dX3_hasPartIn_9 : decode cX3_hasPartIn 9 = .ok (.getfield 18, 3) := by decide +kernel
theorem dX3_hasPartIn_12 : decode cX3_hasPartIn 12 = .ok (.iload_n 1, 1) := by decide +kernel
theorem dX3_hasPartIn_13 : decode cX3_hasPartIn 13 = .ok (.if_icmp .ne 7, 3) := by decide +kernel
theorem dX3_hasPartIn_16 : decode cX3_hasPartIn 16 = .ok (.iconst 1, 1) := by decide +kernel
theorem dX3_hasPartIn_17 : decode cX3_hasPartIn 17 = .ok (.goto 4, 3) := by decide +kernel
theorem dX3_hasPartIn_20 : decode cX3_hasPartIn 20 = .ok (.iconst 0, 1) := by decide +kernel
theorem dX3_hasPartIn_21 : decode cX3_hasPartIn 21 = .ok (.ireturn, 1) := by decide +kernel
theorem dX4_init_0 : decode cX4_init 0 = .ok (.aload_n 0, 1) := by decide +kernel
theorem dX4_init_1 : decode cX4_init 1 = .ok (.invokespecial 3, 3) := by decide +kernel
theorem dX4_init_4 : decode cX4_init 4 = .ok (.aload_n 0, 1) := by decide +kernel
theorem dX4_init_5 : decode cX4_init 5 = .ok (.sipush 900, 3) := by decide +kernel
theorem dX4_init_8 : decode cX4_init 8 = .ok (.newarray .int, 2) := by decide +kernel
theorem dX4_init_10 : decode cX4_init 10 = .ok (.putfield 11, 3) := by decide +kernel
theorem dX4_init_13 : decode cX4_init 13 = .ok (.aload_n 0, 1) := by decide +kernel
theorem dX4_init_14 : decode cX4_init 14 = .ok (.bipush 9, 2) := by decide +kernel
theorem dX4_init_16 : decode cX4_init 16 = .ok (.newarray .int, 2) := by decide +kernel
theorem dX4_init_18 : decode cX4_init 18 = .ok (.putfield 15, 3) := by decide +kernel
theorem dX4_init_21 : decode cX4_init 21 = .ok (.aload_n 0, 1) := by decide +kernel
theorem dX4_init_22 : decode cX4_init 22 = .ok (.bipush 9, 2) := by decide +kernel
theorem dX4_init_24 : decode cX4_init 24 = .ok (.newarray .int, 2) := by decide +kernel
theorem dX4_init_26 : decode cX4_init 26 = .ok (.putfield 18, 3) := by decide +kernel
theorem dX4_init_29 : decode cX4_init 29 = .ok (.return_, 1) := by decide +kernel
theorem dX4_levelRow_0 : decode cX4_levelRow 0 = .ok (.aload_n 0, 1) := by decide +kernel
theorem dX4_levelRow_1 : decode cX4_levelRow 1 = .ok (.iload_n 3, 1) := by decide +kernel
theorem dX4_levelRow_2 : decode cX4_levelRow 2 = .ok (.putfield 21, 3) := by decide +kernel
theorem dX4_levelRow_5 : decode cX4_levelRow 5 = .ok (.aload_n 0, 1) := by decide +kernel
theorem dX4_levelRow_6 : decode cX4_levelRow 6 = .ok (.iload 4, 2) := by decide +kernel
theorem dX4_levelRow_8 : decode cX4_levelRow 8 = .ok (.putfield 25, 3) := by decide +kernel
theorem dX4_levelRow_11 : decode cX4_levelRow 11 = .ok (.aload_n 0, 1) := by decide +kernel
theorem dX4_levelRow_12 : decode cX4_levelRow 12 = .ok (.iload 5, 2) := by decide +kernel
theorem dX4_levelRow_14 : decode cX4_levelRow 14 = .ok (.putfield 28, 3) := by decide +kernel
theorem dX4_levelRow_17 : decode cX4_levelRow 17 = .ok (.aload_n 1, 1) := by decide +kernel
theorem dX4_levelRow_18 : decode cX4_levelRow 18 = .ok (.getfield 31, 3) := by decide +kernel
theorem dX4_levelRow_21 : decode cX4_levelRow 21 = .ok (.iconst 1, 1) := by decide +kernel
theorem dX4_levelRow_22 : decode cX4_levelRow 22 = .ok (.isub, 1) := by decide +kernel
theorem dX4_levelRow_23 : decode cX4_levelRow 23 = .ok (.istore 6, 2) := by decide +kernel
theorem dX4_levelRow_25 : decode cX4_levelRow 25 = .ok (.iload 6, 2) := by decide +kernel
theorem dX4_levelRow_27 : decode cX4_levelRow 27 = .ok (.ifCond .lt 28, 3) := by decide +kernel
theorem dX4_levelRow_30 : decode cX4_levelRow 30 = .ok (.aload_n 0, 1) := by decide +kernel
theorem dX4_levelRow_31 : decode cX4_levelRow 31 = .ok (.aload_n 1, 1) := by decide +kernel
theorem dX4_levelRow_32 : decode cX4_levelRow 32 = .ok (.iload 6, 2) := by decide +kernel
theorem dX4_levelRow_34 : decode cX4_levelRow 34 = .ok (.aload_n 1, 1) := by decide +kernel
theorem dX4_levelRow_35 : decode cX4_levelRow 35 = .ok (.getfield 36, 3) := by decide +kernel
theorem dX4_levelRow_38 : decode cX4_levelRow 38 = .ok (.aload_n 1, 1) := by decide +kernel
theorem dX4_levelRow_39 : decode cX4_levelRow 39 = .ok (.iload_n 2, 1) := by decide +kernel
theorem dX4_levelRow_40 : decode cX4_levelRow 40 = .ok (.iload 6, 2) := by decide +kernel
theorem dX4_levelRow_42 : decode cX4_levelRow 42 = .ok (.invokevirtual 39, 3) := by decide +kernel
theorem dX4_levelRow_45 : decode cX4_levelRow 45 = .ok (.iaload, 1) := by decide +kernel
theorem dX4_levelRow_46 : decode cX4_levelRow 46 = .ok (.invokevirtual 43, 3) := by decide +kernel
theorem dX4_levelRow_49 : decode cX4_levelRow 49 = .ok (.iinc 6 (-1), 3) := by decide +kernel
theorem dX4_levelRow_52 : decode cX4_levelRow 52 = .ok (.goto (-27), 3) := by decide +kernel
theorem dX4_levelRow_55 : decode cX4_levelRow 55 = .ok (.aload_n 0, 1) := by decide +kernel
theorem dX4_levelRow_56 : decode cX4_levelRow 56 = .ok (.iconst 0, 1) := by decide +kernel
theorem dX4_levelRow_57 : decode cX4_levelRow 57 = .ok (.iconst 0, 1) := by decide +kernel
theorem dX4_levelRow_58 : decode cX4_levelRow 58 = .ok (.bipush 99, 2) := by decide +kernel
theorem dX4_levelRow_60 : decode cX4_levelRow 60 = .ok (.invokevirtual 47, 3) := by decide +kernel
theorem dX4_levelRow_63 : decode cX4_levelRow 63 = .ok (.istore 6, 2) := by decide +kernel
theorem dX4_levelRow_65 : decode cX4_levelRow 65 = .ok (.iload 6, 2) := by decide +kernel
theorem dX4_levelRow_67 : decode cX4_levelRow 67 = .ok (.iconst (-1), 1) := by decide +kernel
theorem dX4_levelRow_68 : decode cX4_levelRow 68 = .ok (.if_icmp .ne 6, 3) := by decide +kernel
theorem dX4_levelRow_71 : decode cX4_levelRow 71 = .ok (.bipush (-2), 2) := by decide +kernel
theorem dX4_levelRow_73 : decode cX4_levelRow 73 = .ok (.ireturn, 1) := by decide +kernel
theorem dX4_levelRow_74 : decode cX4_levelRow 74 = .ok (.aload_n 0, 1) := by decide +kernel
theorem dX4_levelRow_75 : decode cX4_levelRow 75 = .ok (.aload_n 1, 1) := by decide +kernel
theorem dX4_levelRow_76 : decode cX4_levelRow 76 = .ok (.putfield 51, 3) := by decide +kernel
theorem dX4_levelRow_79 : decode cX4_levelRow 79 = .ok (.aload_n 0, 1) := by decide +kernel
theorem dX4_levelRow_80 : decode cX4_levelRow 80 = .ok (.iload_n 2, 1) := by decide +kernel
theorem dX4_levelRow_81 : decode cX4_levelRow 81 = .ok (.putfield 55, 3) := by decide +kernel
theorem dX4_levelRow_84 : decode cX4_levelRow 84 = .ok (.aload_n 0, 1) := by decide +kernel
theorem dX4_levelRow_85 : decode cX4_levelRow 85 = .ok (.aload_n 0, 1) := by decide +kernel
theorem dX4_levelRow_86 : decode cX4_levelRow 86 = .ok (.getfield 11, 3) := by decide +kernel
theorem dX4_levelRow_89 : decode cX4_levelRow 89 = .ok (.iload 6, 2) := by decide +kernel
theorem dX4_levelRow_91 : decode cX4_levelRow 91 = .ok (.iaload, 1) := by decide +kernel
theorem dX4_levelRow_92 : decode cX4_levelRow 92 = .ok (.putfield 58, 3) := by decide +kernel
theorem dX4_levelRow_95 : decode cX4_levelRow 95 = .ok (.aload_n 0, 1) := by decide +kernel
theorem dX4_levelRow_96 : decode cX4_levelRow 96 = .ok (.aload_n 1, 1) := by decide +kernel
theorem dX4_levelRow_97 : decode cX4_levelRow 97 = .ok (.iload 6, 2) := by decide +kernel
theorem dX4_levelRow_99 : decode cX4_levelRow 99 = .ok (.invokevirtual 61, 3) := by decide +kernel
theorem dX4_levelRow_102 : decode cX4_levelRow 102 = .ok (.aload_n 0, 1) := by decide +kernel
theorem dX4_levelRow_103 : decode cX4_levelRow 103 = .ok (.getfield 58, 3) := by decide +kernel
theorem dX4_levelRow_106 : decode cX4_levelRow 106 = .ok (.ireturn, 1) := by decide +kernel
theorem dX4_weighColumn_0 : decode cX4_weighColumn 0 = .ok (.iconst 0, 1) := by decide +kernel
theorem dX4_weighColumn_1 : decode cX4_weighColumn 1 = .ok (.istore 4, 2) := by decide +kernel
theorem dX4_weighColumn_3 : decode cX4_weighColumn 3 = .ok (.iload 4, 2) := by decide +kernel
theorem dX4_weighColumn_5 : decode cX4_weighColumn 5 = .ok (.bipush 100, 2) := by decide +kernel
theorem dX4_weighColumn_7 : decode cX4_weighColumn 7 = .ok (.if_icmp .ge 95, 3) := by decide +kernel
theorem dX4_weighColumn_10 : decode cX4_weighColumn 10 = .ok (.iload 4, 2) := by decide +kernel
theorem dX4_weighColumn_12 : decode cX4_weighColumn 12 = .ok (.iload_n 3, 1) := by decide +kernel
theorem dX4_weighColumn_13 : decode cX4_weighColumn 13 = .ok (.isub, 1) := by decide +kernel
theorem dX4_weighColumn_14 : decode cX4_weighColumn 14 = .ok (.invokestatic 65, 3) := by decide +kernel
theorem dX4_weighColumn_17 : decode cX4_weighColumn 17 = .ok (.istore 5, 2) := by decide +kernel
theorem dX4_weighColumn_19 : decode cX4_weighColumn 19 = .ok (.iload_n 2, 1) := by decide +kernel
theorem dX4_weighColumn_20 : decode cX4_weighColumn 20 = .ok (.iconst 1, 1) := by decide +kernel
theorem dX4_weighColumn_21 : decode cX4_weighColumn 21 = .ok (.iadd, 1) := by decide +kernel
theorem dX4_weighColumn_22 : decode cX4_weighColumn 22 = .ok (.aload_n 1, 1) := by decide +kernel
theorem dX4_weighColumn_23 : decode cX4_weighColumn 23 = .ok (.getfield 31, 3) := by decide +kernel
theorem dX4_weighColumn_26 : decode cX4_weighColumn 26 = .ok (.if_icmp .ge 56, 3) := by decide +kernel
theorem dX4_weighColumn_29 : decode cX4_weighColumn 29 = .ok (.aload_n 0, 1) := by decide +kernel
theorem dX4_weighColumn_30 : decode cX4_weighColumn 30 = .ok (.iload_n 2, 1) := by decide +kernel
theorem dX4_weighColumn_31 : decode cX4_weighColumn 31 = .ok (.iconst 1, 1) := by decide +kernel
theorem dX4_weighColumn_32 : decode cX4_weighColumn 32 = .ok (.iadd, 1) := by decide +kernel
theorem dX4_weighColumn_33 : decode cX4_weighColumn 33 = .ok (.aload_n 0, 1) := by decide +kernel
theorem dX4_weighColumn_34 : decode cX4_weighColumn 34 = .ok (.iload_n 2, 1) := by decide +kernel
theorem dX4_weighColumn_35 : decode cX4_weighColumn 35 = .ok (.iload 4, 2) := by decide +kernel
theorem dX4_weighColumn_37 : decode cX4_weighColumn 37 = .ok (.invokevirtual 71, 3) := by decide +kernel
theorem dX4_weighColumn_40 : decode cX4_weighColumn 40 = .ok (.aload_n 0, 1) := by decide +kernel
theorem dX4_weighColumn_41 : decode cX4_weighColumn 41 = .ok (.iload_n 2, 1) := by decide +kernel
theorem dX4_weighColumn_42 : decode cX4_weighColumn 42 = .ok (.iload 4, 2) := by decide +kernel
theorem dX4_weighColumn_44 : decode cX4_weighColumn 44 = .ok (.invokevirtual 74, 3) := by decide +kernel
theorem dX4_weighColumn_47 : decode cX4_weighColumn 47 = .ok (.invokevirtual 47, 3) := by decide +kernel
theorem dX4_weighColumn_50 : decode cX4_weighColumn 50 = .ok (.istore 6, 2) := by decide +kernel
theorem dX4_weighColumn_52 : decode cX4_weighColumn 52 = .ok (.iload 6, 2) := by decide +kernel
theorem dX4_weighColumn_54 : decode cX4_weighColumn 54 = .ok (.iconst (-1), 1) := by decide +kernel
theorem dX4_weighColumn_55 : decode cX4_weighColumn 55 = .ok (.if_icmp .ne 8, 3) := by decide +kernel
theorem dX4_weighColumn_58 : decode cX4_weighColumn 58 = .ok (.ldc 77, 2) := by decide +kernel
theorem dX4_weighColumn_60 : decode cX4_weighColumn 60 = .ok (.goto 20, 3) := by decide +kernel
theorem dX4_weighColumn_63 : decode cX4_weighColumn 63 = .ok (.iload 5, 2) := by decide +kernel
theorem dX4_weighColumn_65 : decode cX4_weighColumn 65 = .ok (.aload_n 0, 1) := by decide +kernel
theorem dX4_weighColumn_66 : decode cX4_weighColumn 66 = .ok (.getfield 11, 3) := by decide +kernel
theorem dX4_weighColumn_69 : decode cX4_weighColumn 69 = .ok (.iload_n 2, 1) := by decide +kernel
theorem dX4_weighColumn_70 : decode cX4_weighColumn 70 = .ok (.iconst 1, 1) := by decide +kernel
theorem dX4_weighColumn_71 : decode cX4_weighColumn 71 = .ok (.iadd, 1) := by decide +kernel
theorem dX4_weighColumn_72 : decode cX4_weighColumn 72 = .ok (.bipush 100, 2) := by decide +kernel
theorem dX4_weighColumn_74 : decode cX4_weighColumn 74 = .ok (.imul, 1) := by decide +kernel
theorem dX4_weighColumn_75 : decode cX4_weighColumn 75 = .ok (.iload 6, 2) := by decide +kernel
theorem dX4_weighColumn_77 : decode cX4_weighColumn 77 = .ok (.iadd, 1) := by decide +kernel
theorem dX4_weighColumn_78 : decode cX4_weighColumn 78 = .ok (.iaload, 1) := by decide +kernel
theorem dX4_weighColumn_79 : decode cX4_weighColumn 79 = .ok (.iadd, 1) := by decide +kernel
theorem dX4_weighColumn_80 : decode cX4_weighColumn 80 = .ok (.istore 5, 2) := by decide +kernel
theorem dX4_weighColumn_82 : decode cX4_weighColumn 82 = .ok (.aload_n 0, 1) := by decide +kernel
theorem dX4_weighColumn_83 : decode cX4_weighColumn 83 = .ok (.getfield 11, 3) := by decide +kernel
theorem dX4_weighColumn_86 : decode cX4_weighColumn 86 = .ok (.iload_n 2, 1) := by decide +kernel
theorem dX4_weighColumn_87 : decode cX4_weighColumn 87 = .ok (.bipush 100, 2) := by decide +kernel
theorem dX4_weighColumn_89 : decode cX4_weighColumn 89 = .ok (.imul, 1) := by decide +kernel
theorem dX4_weighColumn_90 : decode cX4_weighColumn 90 = .ok (.iload 4, 2) := by decide +kernel
theorem dX4_weighColumn_92 : decode cX4_weighColumn 92 = .ok (.iadd, 1) := by decide +kernel
theorem dX4_weighColumn_93 : decode cX4_weighColumn 93 = .ok (.iload 5, 2) := by decide +kernel
theorem dX4_weighColumn_95 : decode cX4_weighColumn 95 = .ok (.iastore, 1) := by decide +kernel
theorem dX4_weighColumn_96 : decode cX4_weighColumn 96 = .ok (.iinc 4 1, 3) := by decide +kernel
theorem dX4_weighColumn_99 : decode cX4_weighColumn 99 = .ok (.goto (-96), 3) := by decide +kernel
theorem dX4_weighColumn_102 : decode cX4_weighColumn 102 = .ok (.return_, 1) := by decide +kernel
theorem dX4_lowestBehind_0 : decode cX4_lowestBehind 0 = .ok (.iload_n 1, 1) := by decide +kernel
theorem dX4_lowestBehind_1 : decode cX4_lowestBehind 1 = .ok (.aload_n 0, 1) := by decide +kernel
theorem dX4_lowestBehind_2 : decode cX4_lowestBehind 2 = .ok (.getfield 21, 3) := by decide +kernel
theorem dX4_lowestBehind_5 : decode cX4_lowestBehind 5 = .ok (.if_icmp .ge 12, 3) := by decide +kernel
theorem dX4_lowestBehind_8 : decode cX4_lowestBehind 8 = .ok (.iload_n 2, 1) := by decide +kernel
theorem dX4_lowestBehind_9 : decode cX4_lowestBehind 9 = .ok (.aload_n 0, 1) := by decide +kernel
theorem dX4_lowestBehind_10 : decode cX4_lowestBehind 10 = .ok (.getfield 28, 3) := by decide +kernel
theorem dX4_lowestBehind_13 : decode cX4_lowestBehind 13 = .ok (.isub, 1) := by decide +kernel
theorem dX4_lowestBehind_14 : decode cX4_lowestBehind 14 = .ok (.goto 9, 3) := by decide +kernel
theorem dX4_lowestBehind_17 : decode cX4_lowestBehind 17 = .ok (.iload_n 2, 1) := by decide +kernel
theorem dX4_lowestBehind_18 : decode cX4_lowestBehind 18 = .ok (.aload_n 0, 1) := by decide +kernel
theorem dX4_lowestBehind_19 : decode cX4_lowestBehind 19 = .ok (.getfield 25, 3) := by decide +kernel
theorem dX4_lowestBehind_22 : decode cX4_lowestBehind 22 = .ok (.iadd, 1) := by decide +kernel
theorem dX4_lowestBehind_23 : decode cX4_lowestBehind 23 = .ok (.ireturn, 1) := by decide +kernel
theorem dX4_highestBehind_0 : decode cX4_highestBehind 0 = .ok (.iload_n 1, 1) := by decide +kernel
theorem dX4_highestBehind_1 : decode cX4_highestBehind 1 = .ok (.aload_n 0, 1) := by decide +kernel
theorem dX4_highestBehind_2 : decode cX4_highestBehind 2 = .ok (.getfield 21, 3) := by decide +kernel
theorem dX4_highestBehind_5 : decode cX4_highestBehind 5 = .ok (.if_icmp .ge 12, 3) := by decide +kernel
theorem dX4_highestBehind_8 : decode cX4_highestBehind 8 = .ok (.iload_n 2, 1) := by decide +kernel
theorem dX4_highestBehind_9 : decode cX4_highestBehind 9 = .ok (.aload_n 0, 1) := by decide +kernel
theorem dX4_highestBehind_10 : decode cX4_highestBehind 10 = .ok (.getfield 25, 3) := by decide +kernel
theorem dX4_highestBehind_13 : decode cX4_highestBehind 13 = .ok (.isub, 1) := by decide +kernel
theorem dX4_highestBehind_14 : decode cX4_highestBehind 14 = .ok (.goto 9, 3) := by decide +kernel
theorem dX4_highestBehind_17 : decode cX4_highestBehind 17 = .ok (.iload_n 2, 1) := by decide +kernel
theorem dX4_highestBehind_18 : decode cX4_highestBehind 18 = .ok (.aload_n 0, 1) := by decide +kernel
theorem dX4_highestBehind_19 : decode cX4_highestBehind 19 = .ok (.getfield 28, 3) := by decide +kernel
theorem dX4_highestBehind_22 : decode cX4_highestBehind 22 = .ok (.iadd, 1) := by decide +kernel
theorem dX4_highestBehind_23 : decode cX4_highestBehind 23 = .ok (.ireturn, 1) := by decide +kernel
theorem dX4_bestHeight_0 : decode cX4_bestHeight 0 = .ok (.iconst (-1), 1) := by decide +kernel
theorem dX4_bestHeight_1 : decode cX4_bestHeight 1 = .ok (.istore 4, 2) := by decide +kernel
theorem dX4_bestHeight_3 : decode cX4_bestHeight 3 = .ok (.ldc 77, 2) := by decide +kernel
theorem dX4_bestHeight_5 : decode cX4_bestHeight 5 = .ok (.istore 5, 2) := by decide +kernel
theorem dX4_bestHeight_7 : decode cX4_bestHeight 7 = .ok (.iload_n 3, 1) := by decide +kernel
theorem dX4_bestHeight_8 : decode cX4_bestHeight 8 = .ok (.bipush 99, 2) := by decide +kernel
theorem dX4_bestHeight_10 : decode cX4_bestHeight 10 = .ok (.invokestatic 78, 3) := by decide +kernel
theorem dX4_bestHeight_13 : decode cX4_bestHeight 13 = .ok (.istore 6, 2) := by decide +kernel
theorem dX4_bestHeight_15 : decode cX4_bestHeight 15 = .ok (.iload_n 2, 1) := by decide +kernel
theorem dX4_bestHeight_16 : decode cX4_bestHeight 16 = .ok (.iconst 0, 1) := by decide +kernel
theorem dX4_bestHeight_17 : decode cX4_bestHeight 17 = .ok (.invokestatic 81, 3) := by decide +kernel
theorem dX4_bestHeight_20 : decode cX4_bestHeight 20 = .ok (.istore 7, 2) := by decide +kernel
theorem dX4_bestHeight_22 : decode cX4_bestHeight 22 = .ok (.iload 7, 2) := by decide +kernel
theorem dX4_bestHeight_24 : decode cX4_bestHeight 24 = .ok (.iload 6, 2) := by decide +kernel
theorem dX4_bestHeight_26 : decode cX4_bestHeight 26 = .ok (.if_icmp .gt 38, 3) := by decide +kernel
theorem dX4_bestHeight_29 : decode cX4_bestHeight 29 = .ok (.aload_n 0, 1) := by decide +kernel
theorem dX4_bestHeight_30 : decode cX4_bestHeight 30 = .ok (.getfield 11, 3) := by decide +kernel
theorem dX4_bestHeight_33 : decode cX4_bestHeight 33 = .ok (.iload_n 1, 1) := by decide +kernel
theorem dX4_bestHeight_34 : decode cX4_bestHeight 34 = .ok (.bipush 100, 2) := by decide +kernel
theorem dX4_bestHeight_36 : decode cX4_bestHeight 36 = .ok (.imul, 1) := by decide +kernel
theorem dX4_bestHeight_37 : decode cX4_bestHeight 37 = .ok (.iload 7, 2) := by decide +kernel
theorem dX4_bestHeight_39 : decode cX4_bestHeight 39 = .ok (.iadd, 1) := by decide +kernel
theorem dX4_bestHeight_40 : decode cX4_bestHeight 40 = .ok (.iaload, 1) := by decide +kernel
theorem dX4_bestHeight_41 : decode cX4_bestHeight 41 = .ok (.istore 8, 2) := by decide +kernel
theorem dX4_bestHeight_43 : decode cX4_bestHeight 43 = .ok (.iload 8, 2) := by decide +kernel
theorem dX4_bestHeight_45 : decode cX4_bestHeight 45 = .ok (.iload 5, 2) := by decide +kernel
theorem dX4_bestHeight_47 : decode cX4_bestHeight 47 = .ok (.if_icmp .ge 11, 3) := by decide +kernel
theorem dX4_bestHeight_50 : decode cX4_bestHeight 50 = .ok (.iload 7, 2) := by decide +kernel
theorem dX4_bestHeight_52 : decode cX4_bestHeight 52 = .ok (.istore 4, 2) := by decide +kernel
theorem dX4_bestHeight_54 : decode cX4_bestHeight 54 = .ok (.iload 8, 2) := by decide +kernel
theorem dX4_bestHeight_56 : decode cX4_bestHeight 56 = .ok (.istore 5, 2) := by decide +kernel
theorem dX4_bestHeight_58 : decode cX4_bestHeight 58 = .ok (.iinc 7 1, 3) := by decide +kernel
theorem dX4_bestHeight_61 : decode cX4_bestHeight 61 = .ok (.goto (-39), 3) := by decide +kernel
theorem dX4_bestHeight_64 : decode cX4_bestHeight 64 = .ok (.iload 4, 2) := by decide +kernel
theorem dX4_bestHeight_66 : decode cX4_bestHeight 66 = .ok (.ireturn, 1) := by decide +kernel
theorem dX4_keepHeights_0 : decode cX4_keepHeights 0 = .ok (.iload_n 2, 1) := by decide +kernel
theorem dX4_keepHeights_1 : decode cX4_keepHeights 1 = .ok (.istore_n 3, 1) := by decide +kernel
theorem dX4_keepHeights_2 : decode cX4_keepHeights 2 = .ok (.iconst 0, 1) := by decide +kernel
theorem dX4_keepHeights_3 : decode cX4_keepHeights 3 = .ok (.istore 4, 2) := by decide +kernel
theorem dX4_keepHeights_5 : decode cX4_keepHeights 5 = .ok (.iload 4, 2) := by decide +kernel
theorem dX4_keepHeights_7 : decode cX4_keepHeights 7 = .ok (.aload_n 1, 1) := by decide +kernel
theorem dX4_keepHeights_8 : decode cX4_keepHeights 8 = .ok (.getfield 31, 3) := by decide +kernel
theorem dX4_keepHeights_11 : decode cX4_keepHeights 11 = .ok (.if_icmp .ge 69, 3) := by decide +kernel
theorem dX4_keepHeights_14 : decode cX4_keepHeights 14 = .ok (.iload 4, 2) := by decide +kernel
theorem dX4_keepHeights_16 : decode cX4_keepHeights 16 = .ok (.ifCond .le 28, 3) := by decide +kernel
theorem dX4_keepHeights_19 : decode cX4_keepHeights 19 = .ok (.aload_n 0, 1) := by decide +kernel
theorem dX4_keepHeights_20 : decode cX4_keepHeights 20 = .ok (.iload 4, 2) := by decide +kernel
theorem dX4_keepHeights_22 : decode cX4_keepHeights 22 = .ok (.aload_n 0, 1) := by decide +kernel
theorem dX4_keepHeights_23 : decode cX4_keepHeights 23 = .ok (.iload 4, 2) := by decide +kernel
theorem dX4_keepHeights_25 : decode cX4_keepHeights 25 = .ok (.iconst 1, 1) := by decide +kernel
theorem dX4_keepHeights_26 : decode cX4_keepHeights 26 = .ok (.isub, 1) := by decide +kernel
theorem dX4_keepHeights_27 : decode cX4_keepHeights 27 = .ok (.iload_n 3, 1) := by decide +kernel
theorem dX4_keepHeights_28 : decode cX4_keepHeights 28 = .ok (.invokevirtual 71, 3) := by decide +kernel
theorem dX4_keepHeights_31 : decode cX4_keepHeights 31 = .ok (.aload_n 0, 1) := by decide +kernel
theorem dX4_keepHeights_32 : decode cX4_keepHeights 32 = .ok (.iload 4, 2) := by decide +kernel
theorem dX4_keepHeights_34 : decode cX4_keepHeights 34 = .ok (.iconst 1, 1) := by decide +kernel
theorem dX4_keepHeights_35 : decode cX4_keepHeights 35 = .ok (.isub, 1) := by decide +kernel
theorem dX4_keepHeights_36 : decode cX4_keepHeights 36 = .ok (.iload_n 3, 1) := by decide +kernel
theorem dX4_keepHeights_37 : decode cX4_keepHeights 37 = .ok (.invokevirtual 74, 3) := by decide +kernel
theorem dX4_keepHeights_40 : decode cX4_keepHeights 40 = .ok (.invokevirtual 47, 3) := by decide +kernel
theorem dX4_keepHeights_43 : decode cX4_keepHeights 43 = .ok (.istore_n 3, 1) := by decide +kernel
theorem dX4_keepHeights_44 : decode cX4_keepHeights 44 = .ok (.aload_n 0, 1) := by decide +kernel
theorem dX4_keepHeights_45 : decode cX4_keepHeights 45 = .ok (.getfield 15, 3) := by decide +kernel
theorem dX4_keepHeights_48 : decode cX4_keepHeights 48 = .ok (.iload 4, 2) := by decide +kernel
theorem dX4_keepHeights_50 : decode cX4_keepHeights 50 = .ok (.aload_n 1, 1) := by decide +kernel
theorem dX4_keepHeights_51 : decode cX4_keepHeights 51 = .ok (.getfield 36, 3) := by decide +kernel
theorem dX4_keepHeights_54 : decode cX4_keepHeights 54 = .ok (.aload_n 1, 1) := by decide +kernel
theorem dX4_keepHeights_55 : decode cX4_keepHeights 55 = .ok (.aload_n 0, 1) := by decide +kernel
theorem dX4_keepHeights_56 : decode cX4_keepHeights 56 = .ok (.getfield 55, 3) := by decide +kernel
theorem dX4_keepHeights_59 : decode cX4_keepHeights 59 = .ok (.iload 4, 2) := by decide +kernel
theorem dX4_keepHeights_61 : decode cX4_keepHeights 61 = .ok (.invokevirtual 39, 3) := by decide +kernel
theorem dX4_keepHeights_64 : decode cX4_keepHeights 64 = .ok (.iaload, 1) := by decide +kernel
theorem dX4_keepHeights_65 : decode cX4_keepHeights 65 = .ok (.iastore, 1) := by decide +kernel
theorem dX4_keepHeights_66 : decode cX4_keepHeights 66 = .ok (.aload_n 0, 1) := by decide +kernel
theorem dX4_keepHeights_67 : decode cX4_keepHeights 67 = .ok (.getfield 18, 3) := by decide +kernel
theorem dX4_keepHeights_70 : decode cX4_keepHeights 70 = .ok (.iload 4, 2) := by decide +kernel
theorem dX4_keepHeights_72 : decode cX4_keepHeights 72 = .ok (.iload_n 3, 1) := by decide +kernel
theorem dX4_keepHeights_73 : decode cX4_keepHeights 73 = .ok (.iastore, 1) := by decide +kernel
theorem dX4_keepHeights_74 : decode cX4_keepHeights 74 = .ok (.iinc 4 1, 3) := by decide +kernel
theorem dX4_keepHeights_77 : decode cX4_keepHeights 77 = .ok (.goto (-72), 3) := by decide +kernel
theorem dX4_keepHeights_80 : decode cX4_keepHeights 80 = .ok (.return_, 1) := by decide +kernel
theorem dX4_newHeight_0 : decode cX4_newHeight 0 = .ok (.aload_n 0, 1) := by decide +kernel
theorem dX4_newHeight_1 : decode cX4_newHeight 1 = .ok (.getfield 51, 3) := by decide +kernel
theorem dX4_newHeight_4 : decode cX4_newHeight 4 = .ok (.astore_n 2, 1) := by decide +kernel
theorem dX4_newHeight_5 : decode cX4_newHeight 5 = .ok (.aload_n 2, 1) := by decide +kernel
theorem dX4_newHeight_6 : decode cX4_newHeight 6 = .ok (.ifnull 15, 3) := by decide +kernel
theorem dX4_newHeight_9 : decode cX4_newHeight 9 = .ok (.iload_n 1, 1) := by decide +kernel
theorem dX4_newHeight_10 : decode cX4_newHeight 10 = .ok (.ifCond .lt 11, 3) := by decide +kernel
theorem dX4_newHeight_13 : decode cX4_newHeight 13 = .ok (.iload_n 1, 1) := by decide +kernel
theorem dX4_newHeight_14 : decode cX4_newHeight 14 = .ok (.aload_n 2, 1) := by decide +kernel
theorem dX4_newHeight_15 : decode cX4_newHeight 15 = .ok (.getfield 31, 3) := by decide +kernel
theorem dX4_newHeight_18 : decode cX4_newHeight 18 = .ok (.if_icmp .lt 5, 3) := by decide +kernel
theorem dX4_newHeight_21 : decode cX4_newHeight 21 = .ok (.iconst (-1), 1) := by decide +kernel
theorem dX4_newHeight_22 : decode cX4_newHeight 22 = .ok (.ireturn, 1) := by decide +kernel
theorem dX4_newHeight_23 : decode cX4_newHeight 23 = .ok (.aload_n 0, 1) := by decide +kernel
theorem dX4_newHeight_24 : decode cX4_newHeight 24 = .ok (.getfield 18, 3) := by decide +kernel
theorem dX4_newHeight_27 : decode cX4_newHeight 27 = .ok (.iload_n 1, 1) := by decide +kernel
theorem dX4_newHeight_28 : decode cX4_newHeight 28 = .ok (.iaload, 1) := by decide +kernel
theorem dX4_newHeight_29 : decode cX4_newHeight 29 = .ok (.ireturn, 1) := by decide +kernel
theorem dX4_carryOut_0 : decode cX4_carryOut 0 = .ok (.aload_n 0, 1) := by decide +kernel
theorem dX4_carryOut_1 : decode cX4_carryOut 1 = .ok (.getfield 51, 3) := by decide +kernel
theorem dX4_carryOut_4 : decode cX4_carryOut 4 = .ok (.astore_n 1, 1) := by decide +kernel
theorem dX4_carryOut_5 : decode cX4_carryOut 5 = .ok (.aload_n 1, 1) := by decide +kernel
theorem dX4_carryOut_6 : decode cX4_carryOut 6 = .ok (.ifnull 11, 3) := by decide +kernel
theorem dX4_carryOut_9 : decode cX4_carryOut 9 = .ok (.aload_n 0, 1) := by decide +kernel
theorem dX4_carryOut_10 : decode cX4_carryOut 10 = .ok (.aload_n 1, 1) := by decide +kernel
theorem dX4_carryOut_11 : decode cX4_carryOut 11 = .ok (.invokevirtual 84, 3) := by decide +kernel
theorem dX4_carryOut_14 : decode cX4_carryOut 14 = .ok (.ifCond .ne 6, 3) := by decide +kernel
theorem dX4_carryOut_17 : decode cX4_carryOut 17 = .ok (.bipush (-2), 2) := by decide +kernel
theorem dX4_carryOut_19 : decode cX4_carryOut 19 = .ok (.ireturn, 1) := by decide +kernel
theorem dX4_carryOut_20 : decode cX4_carryOut 20 = .ok (.iconst 0, 1) := by decide +kernel
theorem dX4_carryOut_21 : decode cX4_carryOut 21 = .ok (.istore_n 2, 1) := by decide +kernel
theorem dX4_carryOut_22 : decode cX4_carryOut 22 = .ok (.iload_n 2, 1) := by decide +kernel
theorem dX4_carryOut_23 : decode cX4_carryOut 23 = .ok (.aload_n 1, 1) := by decide +kernel
theorem dX4_carryOut_24 : decode cX4_carryOut 24 = .ok (.getfield 31, 3) := by decide +kernel
theorem dX4_carryOut_27 : decode cX4_carryOut 27 = .ok (.if_icmp .ge 29, 3) := by decide +kernel
theorem dX4_carryOut_30 : decode cX4_carryOut 30 = .ok (.aload_n 1, 1) := by decide +kernel
theorem dX4_carryOut_31 : decode cX4_carryOut 31 = .ok (.getfield 36, 3) := by decide +kernel
theorem dX4_carryOut_34 : decode cX4_carryOut 34 = .ok (.aload_n 1, 1) := by decide +kernel
theorem dX4_carryOut_35 : decode cX4_carryOut 35 = .ok (.aload_n 0, 1) := by decide +kernel
theorem dX4_carryOut_36 : decode cX4_carryOut 36 = .ok (.getfield 55, 3) := by decide +kernel
theorem dX4_carryOut_39 : decode cX4_carryOut 39 = .ok (.iload_n 2, 1) := by decide +kernel
theorem dX4_carryOut_40 : decode cX4_carryOut 40 = .ok (.invokevirtual 39, 3) := by decide +kernel
theorem dX4_carryOut_43 : decode cX4_carryOut 43 = .ok (.aload_n 0, 1) := by decide +kernel
theorem dX4_carryOut_44 : decode cX4_carryOut 44 = .ok (.getfield 18, 3) := by decide +kernel
theorem dX4_carryOut_47 : decode cX4_carryOut 47 = .ok (.iload_n 2, 1) := by decide +kernel
theorem dX4_carryOut_48 : decode cX4_carryOut 48 = .ok (.iaload, 1) := by decide +kernel
theorem dX4_carryOut_49 : decode cX4_carryOut 49 = .ok (.iastore, 1) := by decide +kernel
theorem dX4_carryOut_50 : decode cX4_carryOut 50 = .ok (.iinc 2 1, 3) := by decide +kernel
theorem dX4_carryOut_53 : decode cX4_carryOut 53 = .ok (.goto (-31), 3) := by decide +kernel
theorem dX4_carryOut_56 : decode cX4_carryOut 56 = .ok (.aload_n 0, 1) := by decide +kernel
theorem dX4_carryOut_57 : decode cX4_carryOut 57 = .ok (.aconst_null, 1) := by decide +kernel
theorem dX4_carryOut_58 : decode cX4_carryOut 58 = .ok (.putfield 51, 3) := by decide +kernel
theorem dX4_carryOut_61 : decode cX4_carryOut 61 = .ok (.aload_n 0, 1) := by decide +kernel
theorem dX4_carryOut_62 : decode cX4_carryOut 62 = .ok (.getfield 58, 3) := by decide +kernel
theorem dX4_carryOut_65 : decode cX4_carryOut 65 = .ok (.ireturn, 1) := by decide +kernel
theorem dX4_isRowAsBefore_0 : decode cX4_isRowAsBefore 0 = .ok (.iconst 0, 1) := by decide +kernel
theorem dX4_isRowAsBefore_1 : decode cX4_isRowAsBefore 1 = .ok (.istore_n 2, 1) := by decide +kernel
theorem dX4_isRowAsBefore_2 : decode cX4_isRowAsBefore 2 = .ok (.iload_n 2, 1) := by decide +kernel
theorem dX4_isRowAsBefore_3 : decode cX4_isRowAsBefore 3 = .ok (.aload_n 1, 1) := by decide +kernel
theorem dX4_isRowAsBefore_4 : decode cX4_isRowAsBefore 4 = .ok (.getfield 31, 3) := by decide +kernel
theorem dX4_isRowAsBefore_7 : decode cX4_isRowAsBefore 7 = .ok (.if_icmp .ge 34, 3) := by decide +kernel
theorem dX4_isRowAsBefore_10 : decode cX4_isRowAsBefore 10 = .ok (.aload_n 1, 1) := by decide +kernel
theorem dX4_isRowAsBefore_11 : decode cX4_isRowAsBefore 11 = .ok (.getfield 36, 3) := by decide +kernel
theorem dX4_isRowAsBefore_14 : decode cX4_isRowAsBefore 14 = .ok (.aload_n 1, 1) := by decide +kernel
theorem dX4_isRowAsBefore_15 : decode cX4_isRowAsBefore 15 = .ok (.aload_n 0, 1) := by decide +kernel
theorem dX4_isRowAsBefore_16 : decode cX4_isRowAsBefore 16 = .ok (.getfield 55, 3) := by decide +kernel
theorem dX4_isRowAsBefore_19 : decode cX4_isRowAsBefore 19 = .ok (.iload_n 2, 1) := by decide +kernel
theorem dX4_isRowAsBefore_20 : decode cX4_isRowAsBefore 20 = .ok (.invokevirtual 39, 3) := by decide +kernel
theorem dX4_isRowAsBefore_23 : decode cX4_isRowAsBefore 23 = .ok (.iaload, 1) := by decide +kernel
theorem dX4_isRowAsBefore_24 : decode cX4_isRowAsBefore 24 = .ok (.aload_n 0, 1) := by decide +kernel
theorem dX4_isRowAsBefore_25 : decode cX4_isRowAsBefore 25 = .ok (.getfield 15, 3) := by decide +kernel
theorem dX4_isRowAsBefore_28 : decode cX4_isRowAsBefore 28 = .ok (.iload_n 2, 1) := by decide +kernel
theorem dX4_isRowAsBefore_29 : decode cX4_isRowAsBefore 29 = .ok (.iaload, 1) := by decide +kernel
theorem dX4_isRowAsBefore_30 : decode cX4_isRowAsBefore 30 = .ok (.if_icmp .eq 5, 3) := by decide +kernel
theorem dX4_isRowAsBefore_33 : decode cX4_isRowAsBefore 33 = .ok (.iconst 0, 1) := by decide +kernel
theorem dX4_isRowAsBefore_34 : decode cX4_isRowAsBefore 34 = .ok (.ireturn, 1) := by decide +kernel
theorem dX4_isRowAsBefore_35 : decode cX4_isRowAsBefore 35 = .ok (.iinc 2 1, 3) := by decide +kernel
theorem dX4_isRowAsBefore_38 : decode cX4_isRowAsBefore 38 = .ok (.goto (-36), 3) := by decide +kernel
theorem dX4_isRowAsBefore_41 : decode cX4_isRowAsBefore 41 = .ok (.iconst 1, 1) := by decide +kernel
theorem dX4_isRowAsBefore_42 : decode cX4_isRowAsBefore 42 = .ok (.ireturn, 1) := by decide +kernel
theorem dX5_init_0 : decode cX5_init 0 = .ok (.aload_n 0, 1) := by decide +kernel
theorem dX5_init_1 : decode cX5_init 1 = .ok (.invokespecial 3, 3) := by decide +kernel
theorem dX5_init_4 : decode cX5_init 4 = .ok (.aload_n 0, 1) := by decide +kernel
theorem dX5_init_5 : decode cX5_init 5 = .ok (.bipush 40, 2) := by decide +kernel
theorem dX5_init_7 : decode cX5_init 7 = .ok (.newarray .int, 2) := by decide +kernel
theorem dX5_init_9 : decode cX5_init 9 = .ok (.putfield 9, 3) := by decide +kernel
theorem dX5_init_12 : decode cX5_init 12 = .ok (.aload_n 0, 1) := by decide +kernel
theorem dX5_init_13 : decode cX5_init 13 = .ok (.bipush 40, 2) := by decide +kernel
theorem dX5_init_15 : decode cX5_init 15 = .ok (.newarray .int, 2) := by decide +kernel
theorem dX5_init_17 : decode cX5_init 17 = .ok (.putfield 15, 3) := by decide +kernel
theorem dX5_init_20 : decode cX5_init 20 = .ok (.aload_n 0, 1) := by decide +kernel
theorem dX5_init_21 : decode cX5_init 21 = .ok (.sipush 1681, 3) := by decide +kernel
theorem dX5_init_24 : decode cX5_init 24 = .ok (.newarray .long, 2) := by decide +kernel
theorem dX5_init_26 : decode cX5_init 26 = .ok (.putfield 18, 3) := by decide +kernel
theorem dX5_init_29 : decode cX5_init 29 = .ok (.aload_n 0, 1) := by decide +kernel
theorem dX5_init_30 : decode cX5_init 30 = .ok (.getfield 18, 3) := by decide +kernel
theorem dX5_init_33 : decode cX5_init 33 = .ok (.iconst 0, 1) := by decide +kernel
theorem dX5_init_34 : decode cX5_init 34 = .ok (.lconst 1, 1) := by decide +kernel
theorem dX5_init_35 : decode cX5_init 35 = .ok (.lastore, 1) := by decide +kernel
theorem dX5_init_36 : decode cX5_init 36 = .ok (.iconst 1, 1) := by decide +kernel
theorem dX5_init_37 : decode cX5_init 37 = .ok (.istore_n 1, 1) := by decide +kernel
theorem dX5_init_38 : decode cX5_init 38 = .ok (.iload_n 1, 1) := by decide +kernel
theorem dX5_init_39 : decode cX5_init 39 = .ok (.bipush 41, 2) := by decide +kernel
theorem dX5_init_41 : decode cX5_init 41 = .ok (.if_icmp .ge 72, 3) := by decide +kernel
theorem dX5_init_44 : decode cX5_init 44 = .ok (.aload_n 0, 1) := by decide +kernel
theorem dX5_init_45 : decode cX5_init 45 = .ok (.getfield 18, 3) := by decide +kernel
theorem dX5_init_48 : decode cX5_init 48 = .ok (.iload_n 1, 1) := by decide +kernel
theorem dX5_init_49 : decode cX5_init 49 = .ok (.bipush 41, 2) := by decide +kernel
theorem dX5_init_51 : decode cX5_init 51 = .ok (.imul, 1) := by decide +kernel
theorem dX5_init_52 : decode cX5_init 52 = .ok (.lconst 1, 1) := by decide +kernel
theorem dX5_init_53 : decode cX5_init 53 = .ok (.lastore, 1) := by decide +kernel
theorem dX5_init_54 : decode cX5_init 54 = .ok (.iconst 1, 1) := by decide +kernel
theorem dX5_init_55 : decode cX5_init 55 = .ok (.istore_n 2, 1) := by decide +kernel
theorem dX5_init_56 : decode cX5_init 56 = .ok (.iload_n 2, 1) := by decide +kernel
theorem dX5_init_57 : decode cX5_init 57 = .ok (.iload_n 1, 1) := by decide +kernel
theorem dX5_init_58 : decode cX5_init 58 = .ok (.if_icmp .gt 49, 3) := by decide +kernel
theorem dX5_init_61 : decode cX5_init 61 = .ok (.aload_n 0, 1) := by decide +kernel
theorem dX5_init_62 : decode cX5_init 62 = .ok (.getfield 18, 3) := by decide +kernel
theorem dX5_init_65 : decode cX5_init 65 = .ok (.iload_n 1, 1) := by decide +kernel
theorem dX5_init_66 : decode cX5_init 66 = .ok (.bipush 41, 2) := by decide +kernel
theorem dX5_init_68 : decode cX5_init 68 = .ok (.imul, 1) := by decide +kernel
theorem dX5_init_69 : decode cX5_init 69 = .ok (.iload_n 2, 1) := by decide +kernel
theorem dX5_init_70 : decode cX5_init 70 = .ok (.iadd, 1) := by decide +kernel
theorem dX5_init_71 : decode cX5_init 71 = .ok (.aload_n 0, 1) := by decide +kernel
theorem dX5_init_72 : decode cX5_init 72 = .ok (.getfield 18, 3) := by decide +kernel
theorem dX5_init_75 : decode cX5_init 75 = .ok (.iload_n 1, 1) := by decide +kernel
theorem dX5_init_76 : decode cX5_init 76 = .ok (.iconst 1, 1) := by decide +kernel
theorem dX5_init_77 : decode cX5_init 77 = .ok (.isub, 1) := by decide +kernel
theorem dX5_init_78 : decode cX5_init 78 = .ok (.bipush 41, 2) := by decide +kernel
theorem dX5_init_80 : decode cX5_init 80 = .ok (.imul, 1) := by decide +kernel
theorem dX5_init_81 : decode cX5_init 81 = .ok (.iload_n 2, 1) := by decide +kernel
theorem dX5_init_82 : decode cX5_init 82 = .ok (.iadd, 1) := by decide +kernel
theorem dX5_init_83 : decode cX5_init 83 = .ok (.iconst 1, 1) := by decide +kernel
theorem dX5_init_84 : decode cX5_init 84 = .ok (.isub, 1) := by decide +kernel
theorem dX5_init_85 : decode cX5_init 85 = .ok (.laload, 1) := by decide +kernel
theorem dX5_init_86 : decode cX5_init 86 = .ok (.aload_n 0, 1) := by decide +kernel
theorem dX5_init_87 : decode cX5_init 87 = .ok (.getfield 18, 3) := by decide +kernel
theorem dX5_init_90 : decode cX5_init 90 = .ok (.iload_n 1, 1) := by decide +kernel
theorem dX5_init_91 : decode cX5_init 91 = .ok (.iconst 1, 1) := by decide +kernel
theorem dX5_init_92 : decode cX5_init 92 = .ok (.isub, 1) := by decide +kernel
theorem dX5_init_93 : decode cX5_init 93 = .ok (.bipush 41, 2) := by decide +kernel
theorem dX5_init_95 : decode cX5_init 95 = .ok (.imul, 1) := by decide +kernel
theorem dX5_init_96 : decode cX5_init 96 = .ok (.iload_n 2, 1) := by decide +kernel
theorem dX5_init_97 : decode cX5_init 97 = .ok (.iadd, 1) := by decide +kernel
theorem dX5_init_98 : decode cX5_init 98 = .ok (.laload, 1) := by decide +kernel
theorem dX5_init_99 : decode cX5_init 99 = .ok (.ladd, 1) := by decide +kernel
theorem dX5_init_100 : decode cX5_init 100 = .ok (.lastore, 1) := by decide +kernel
theorem dX5_init_101 : decode cX5_init 101 = .ok (.iinc 2 1, 3) := by decide +kernel
theorem dX5_init_104 : decode cX5_init 104 = .ok (.goto (-48), 3) := by decide +kernel
theorem dX5_init_107 : decode cX5_init 107 = .ok (.iinc 1 1, 3) := by decide +kernel
theorem dX5_init_110 : decode cX5_init 110 = .ok (.goto (-72), 3) := by decide +kernel
theorem dX5_init_113 : decode cX5_init 113 = .ok (.return_, 1) := by decide +kernel
theorem dX5_drawLots_0 : decode cX5_drawLots 0 = .ok (.iconst 0, 1) := by decide +kernel
theorem dX5_drawLots_1 : decode cX5_drawLots 1 = .ok (.istore 4, 2) := by decide +kernel
theorem dX5_drawLots_3 : decode cX5_drawLots 3 = .ok (.iload 4, 2) := by decide +kernel
theorem dX5_drawLots_5 : decode cX5_drawLots 5 = .ok (.iload_n 1, 1) := by decide +kernel
theorem dX5_drawLots_6 : decode cX5_drawLots 6 = .ok (.if_icmp .ge 18, 3) := by decide +kernel
theorem dX5_drawLots_9 : decode cX5_drawLots 9 = .ok (.aload_n 0, 1) := by decide +kernel
theorem dX5_drawLots_10 : decode cX5_drawLots 10 = .ok (.getfield 9, 3) := by decide +kernel
theorem dX5_drawLots_13 : decode cX5_drawLots 13 = .ok (.iload 4, 2) := by decide +kernel
theorem dX5_drawLots_15 : decode cX5_drawLots 15 = .ok (.iload 4, 2) := by decide +kernel
theorem dX5_drawLots_17 : decode cX5_drawLots 17 = .ok (.iastore, 1) := by decide +kernel
theorem dX5_drawLots_18 : decode cX5_drawLots 18 = .ok (.iinc 4 1, 3) := by decide +kernel
theorem dX5_drawLots_21 : decode cX5_drawLots 21 = .ok (.goto (-18), 3) := by decide +kernel
theorem dX5_drawLots_24 : decode cX5_drawLots 24 = .ok (.iload_n 3, 1) := by decide +kernel
theorem dX5_drawLots_25 : decode cX5_drawLots 25 = .ok (.istore 4, 2) := by decide +kernel
theorem dX5_drawLots_27 : decode cX5_drawLots 27 = .ok (.iconst 0, 1) := by decide +kernel
theorem dX5_drawLots_28 : decode cX5_drawLots 28 = .ok (.istore 5, 2) := by decide +kernel
theorem dX5_drawLots_30 : decode cX5_drawLots 30 = .ok (.iload 5, 2) := by decide +kernel
theorem dX5_drawLots_32 : decode cX5_drawLots 32 = .ok (.iload_n 2, 1) := by decide +kernel
theorem dX5_drawLots_33 : decode cX5_drawLots 33 = .ok (.if_icmp .ge 78, 3) := by decide +kernel
theorem dX5_drawLots_36 : decode cX5_drawLots 36 = .ok (.iload 5, 2) := by decide +kernel
theorem dX5_drawLots_38 : decode cX5_drawLots 38 = .ok (.iload_n 1, 1) := by decide +kernel
theorem dX5_drawLots_39 : decode cX5_drawLots 39 = .ok (.if_icmp .ge 72, 3) := by decide +kernel
theorem dX5_drawLots_42 : decode cX5_drawLots 42 = .ok (.iload 4, 2) := by decide +kernel
theorem dX5_drawLots_44 : decode cX5_drawLots 44 = .ok (.ldc 22, 2) := by decide +kernel
theorem dX5_drawLots_46 : decode cX5_drawLots 46 = .ok (.imul, 1) := by decide +kernel
theorem dX5_drawLots_47 : decode cX5_drawLots 47 = .ok (.sipush 12345, 3) := by decide +kernel
theorem dX5_drawLots_50 : decode cX5_drawLots 50 = .ok (.iadd, 1) := by decide +kernel
theorem dX5_drawLots_51 : decode cX5_drawLots 51 = .ok (.istore 4, 2) := by decide +kernel
theorem dX5_drawLots_53 : decode cX5_drawLots 53 = .ok (.iload 4, 2) := by decide +kernel
theorem dX5_drawLots_55 : decode cX5_drawLots 55 = .ok (.bipush 8, 2) := by decide +kernel
theorem dX5_drawLots_57 : decode cX5_drawLots 57 = .ok (.iushr, 1) := by decide +kernel
theorem dX5_drawLots_58 : decode cX5_drawLots 58 = .ok (.iload_n 1, 1) := by decide +kernel
theorem dX5_drawLots_59 : decode cX5_drawLots 59 = .ok (.iload 5, 2) := by decide +kernel
theorem dX5_drawLots_61 : decode cX5_drawLots 61 = .ok (.isub, 1) := by decide +kernel
theorem dX5_drawLots_62 : decode cX5_drawLots 62 = .ok (.irem, 1) := by decide +kernel
theorem dX5_drawLots_63 : decode cX5_drawLots 63 = .ok (.istore 6, 2) := by decide +kernel
theorem dX5_drawLots_65 : decode cX5_drawLots 65 = .ok (.aload_n 0, 1) := by decide +kernel
theorem dX5_drawLots_66 : decode cX5_drawLots 66 = .ok (.getfield 15, 3) := by decide +kernel
theorem dX5_drawLots_69 : decode cX5_drawLots 69 = .ok (.iload 5, 2) := by decide +kernel
theorem dX5_drawLots_71 : decode cX5_drawLots 71 = .ok (.aload_n 0, 1) := by decide +kernel
theorem dX5_drawLots_72 : decode cX5_drawLots 72 = .ok (.getfield 9, 3) := by decide +kernel
theorem dX5_drawLots_75 : decode cX5_drawLots 75 = .ok (.iload 6, 2) := by decide +kernel
theorem dX5_drawLots_77 : decode cX5_drawLots 77 = .ok (.iaload, 1) := by decide +kernel
theorem dX5_drawLots_78 : decode cX5_drawLots 78 = .ok (.iastore, 1) := by decide +kernel
theorem dX5_drawLots_79 : decode cX5_drawLots 79 = .ok (.aload_n 0, 1) := by decide +kernel
theorem dX5_drawLots_80 : decode cX5_drawLots 80 = .ok (.getfield 9, 3) := by decide +kernel
theorem dX5_drawLots_83 : decode cX5_drawLots 83 = .ok (.iload 6, 2) := by decide +kernel
theorem dX5_drawLots_85 : decode cX5_drawLots 85 = .ok (.iconst 1, 1) := by decide +kernel
theorem dX5_drawLots_86 : decode cX5_drawLots 86 = .ok (.iadd, 1) := by decide +kernel
theorem dX5_drawLots_87 : decode cX5_drawLots 87 = .ok (.aload_n 0, 1) := by decide +kernel
theorem dX5_drawLots_88 : decode cX5_drawLots 88 = .ok (.getfield 9, 3) := by decide +kernel
theorem dX5_drawLots_91 : decode cX5_drawLots 91 = .ok (.iload 6, 2) := by decide +kernel
theorem dX5_drawLots_93 : decode cX5_drawLots 93 = .ok (.iload_n 1, 1) := by decide +kernel
theorem dX5_drawLots_94 : decode cX5_drawLots 94 = .ok (.iload 5, 2) := by decide +kernel
theorem dX5_drawLots_96 : decode cX5_drawLots 96 = .ok (.isub, 1) := by decide +kernel
theorem dX5_drawLots_97 : decode cX5_drawLots 97 = .ok (.iconst 1, 1) := by decide +kernel
theorem dX5_drawLots_98 : decode cX5_drawLots 98 = .ok (.isub, 1) := by decide +kernel
theorem dX5_drawLots_99 : decode cX5_drawLots 99 = .ok (.iload 6, 2) := by decide +kernel
theorem dX5_drawLots_101 : decode cX5_drawLots 101 = .ok (.isub, 1) := by decide +kernel
theorem dX5_drawLots_102 : decode cX5_drawLots 102 = .ok (.invokestatic 23, 3) := by decide +kernel
theorem dX5_drawLots_105 : decode cX5_drawLots 105 = .ok (.iinc 5 1, 3) := by decide +kernel
theorem dX5_drawLots_108 : decode cX5_drawLots 108 = .ok (.goto (-78), 3) := by decide +kernel
theorem dX5_drawLots_111 : decode cX5_drawLots 111 = .ok (.aload_n 0, 1) := by decide +kernel
theorem dX5_drawLots_112 : decode cX5_drawLots 112 = .ok (.iload_n 2, 1) := by decide +kernel
theorem dX5_drawLots_113 : decode cX5_drawLots 113 = .ok (.putfield 29, 3) := by decide +kernel
theorem dX5_drawLots_116 : decode cX5_drawLots 116 = .ok (.iload_n 2, 1) := by decide +kernel
theorem dX5_drawLots_117 : decode cX5_drawLots 117 = .ok (.ireturn, 1) := by decide +kernel
theorem dX5_lotAt_0 : decode cX5_lotAt 0 = .ok (.iload_n 1, 1) := by decide +kernel
theorem dX5_lotAt_1 : decode cX5_lotAt 1 = .ok (.ifCond .lt 20, 3) := by decide +kernel
theorem dX5_lotAt_4 : decode cX5_lotAt 4 = .ok (.iload_n 1, 1) := by decide +kernel
theorem dX5_lotAt_5 : decode cX5_lotAt 5 = .ok (.aload_n 0, 1) := by decide +kernel
theorem dX5_lotAt_6 : decode cX5_lotAt 6 = .ok (.getfield 29, 3) := by decide +kernel
theorem dX5_lotAt_9 : decode cX5_lotAt 9 = .ok (.if_icmp .ge 12, 3) := by decide +kernel
theorem dX5_lotAt_12 : decode cX5_lotAt 12 = .ok (.aload_n 0, 1) := by decide +kernel
theorem dX5_lotAt_13 : decode cX5_lotAt 13 = .ok (.getfield 15, 3) := by decide +kernel
theorem dX5_lotAt_16 : decode cX5_lotAt 16 = .ok (.iload_n 1, 1) := by decide +kernel
theorem dX5_lotAt_17 : decode cX5_lotAt 17 = .ok (.iaload, 1) := by decide +kernel
theorem dX5_lotAt_18 : decode cX5_lotAt 18 = .ok (.goto 4, 3) := by decide +kernel
theorem dX5_lotAt_21 : decode cX5_lotAt 21 = .ok (.iconst (-1), 1) := by decide +kernel
theorem dX5_lotAt_22 : decode cX5_lotAt 22 = .ok (.ireturn, 1) := by decide +kernel
theorem dX5_mostBad_0 : decode cX5_mostBad 0 = .ok (.iload_n 1, 1) := by decide +kernel
theorem dX5_mostBad_1 : decode cX5_mostBad 1 = .ok (.iload_n 2, 1) := by decide +kernel
theorem dX5_mostBad_2 : decode cX5_mostBad 2 = .ok (.isub, 1) := by decide +kernel
theorem dX5_mostBad_3 : decode cX5_mostBad 3 = .ok (.iload_n 3, 1) := by decide +kernel
theorem dX5_mostBad_4 : decode cX5_mostBad 4 = .ok (.iadd, 1) := by decide +kernel
theorem dX5_mostBad_5 : decode cX5_mostBad 5 = .ok (.istore 5, 2) := by decide +kernel
theorem dX5_mostBad_7 : decode cX5_mostBad 7 = .ok (.iload 5, 2) := by decide +kernel
theorem dX5_mostBad_9 : decode cX5_mostBad 9 = .ok (.iload_n 3, 1) := by decide +kernel
theorem dX5_mostBad_10 : decode cX5_mostBad 10 = .ok (.if_icmp .le 44, 3) := by decide +kernel
theorem dX5_mostBad_13 : decode cX5_mostBad 13 = .ok (.ldc2_w 33, 3) := by decide +kernel
theorem dX5_mostBad_16 : decode cX5_mostBad 16 = .ok (.aload_n 0, 1) := by decide +kernel
theorem dX5_mostBad_17 : decode cX5_mostBad 17 = .ok (.iload_n 1, 1) := by decide +kernel
theorem dX5_mostBad_18 : decode cX5_mostBad 18 = .ok (.iload_n 2, 1) := by decide +kernel
theorem dX5_mostBad_19 : decode cX5_mostBad 19 = .ok (.iload_n 3, 1) := by decide +kernel
theorem dX5_mostBad_20 : decode cX5_mostBad 20 = .ok (.iload 5, 2) := by decide +kernel
theorem dX5_mostBad_22 : decode cX5_mostBad 22 = .ok (.invokevirtual 35, 3) := by decide +kernel
theorem dX5_mostBad_25 : decode cX5_mostBad 25 = .ok (.lmul, 1) := by decide +kernel
theorem dX5_mostBad_26 : decode cX5_mostBad 26 = .ok (.iload 4, 2) := by decide +kernel
theorem dX5_mostBad_28 : decode cX5_mostBad 28 = .ok (.i2l, 1) := by decide +kernel
theorem dX5_mostBad_29 : decode cX5_mostBad 29 = .ok (.aload_n 0, 1) := by decide +kernel
theorem dX5_mostBad_30 : decode cX5_mostBad 30 = .ok (.getfield 18, 3) := by decide +kernel
theorem dX5_mostBad_33 : decode cX5_mostBad 33 = .ok (.iload_n 1, 1) := by decide +kernel
theorem dX5_mostBad_34 : decode cX5_mostBad 34 = .ok (.bipush 41, 2) := by decide +kernel
theorem dX5_mostBad_36 : decode cX5_mostBad 36 = .ok (.imul, 1) := by decide +kernel
theorem dX5_mostBad_37 : decode cX5_mostBad 37 = .ok (.iload_n 2, 1) := by decide +kernel
theorem dX5_mostBad_38 : decode cX5_mostBad 38 = .ok (.iadd, 1) := by decide +kernel
theorem dX5_mostBad_39 : decode cX5_mostBad 39 = .ok (.laload, 1) := by decide +kernel
theorem dX5_mostBad_40 : decode cX5_mostBad 40 = .ok (.lmul, 1) := by decide +kernel
theorem dX5_mostBad_41 : decode cX5_mostBad 41 = .ok (.lcmp, 1) := by decide +kernel
theorem dX5_mostBad_42 : decode cX5_mostBad 42 = .ok (.ifCond .lt 6, 3) := by decide +kernel
theorem dX5_mostBad_45 : decode cX5_mostBad 45 = .ok (.iload 5, 2) := by decide +kernel
theorem dX5_mostBad_47 : decode cX5_mostBad 47 = .ok (.ireturn, 1) := by decide +kernel
theorem dX5_mostBad_48 : decode cX5_mostBad 48 = .ok (.iinc 5 (-1), 3) := by decide +kernel
theorem dX5_mostBad_51 : decode cX5_mostBad 51 = .ok (.goto (-44), 3) := by decide +kernel
theorem dX5_mostBad_54 : decode cX5_mostBad 54 = .ok (.iload_n 3, 1) := by decide +kernel
theorem dX5_mostBad_55 : decode cX5_mostBad 55 = .ok (.ireturn, 1) := by decide +kernel
theorem dX5_waysWithFew_0 : decode cX5_waysWithFew 0 = .ok (.lconst 0, 1) := by decide +kernel
theorem dX5_waysWithFew_1 : decode cX5_waysWithFew 1 = .ok (.lstore 5, 2) := by decide +kernel
theorem dX5_waysWithFew_3 : decode cX5_waysWithFew 3 = .ok (.iconst 0, 1) := by decide +kernel
theorem dX5_waysWithFew_4 : decode cX5_waysWithFew 4 = .ok (.istore 7, 2) := by decide +kernel
theorem dX5_waysWithFew_6 : decode cX5_waysWithFew 6 = .ok (.iload 7, 2) := by decide +kernel
theorem dX5_waysWithFew_8 : decode cX5_waysWithFew 8 = .ok (.iload_n 3, 1) := by decide +kernel
theorem dX5_waysWithFew_9 : decode cX5_waysWithFew 9 = .ok (.if_icmp .gt 45, 3) := by decide +kernel
theorem dX5_waysWithFew_12 : decode cX5_waysWithFew 12 = .ok (.lload 5, 2) := by decide +kernel
theorem dX5_waysWithFew_14 : decode cX5_waysWithFew 14 = .ok (.aload_n 0, 1) := by decide +kernel
theorem dX5_waysWithFew_15 : decode cX5_waysWithFew 15 = .ok (.getfield 18, 3) := by decide +kernel
theorem dX5_waysWithFew_18 : decode cX5_waysWithFew 18 = .ok (.iload 4, 2) := by decide +kernel
theorem dX5_waysWithFew_20 : decode cX5_waysWithFew 20 = .ok (.bipush 41, 2) := by decide +kernel
theorem dX5_waysWithFew_22 : decode cX5_waysWithFew 22 = .ok (.imul, 1) := by decide +kernel
theorem dX5_waysWithFew_23 : decode cX5_waysWithFew 23 = .ok (.iload 7, 2) := by decide +kernel
theorem dX5_waysWithFew_25 : decode cX5_waysWithFew 25 = .ok (.iadd, 1) := by decide +kernel
theorem dX5_waysWithFew_26 : decode cX5_waysWithFew 26 = .ok (.laload, 1) := by decide +kernel
theorem dX5_waysWithFew_27 : decode cX5_waysWithFew 27 = .ok (.aload_n 0, 1) := by decide +kernel
theorem dX5_waysWithFew_28 : decode cX5_waysWithFew 28 = .ok (.getfield 18, 3) := by decide +kernel
theorem dX5_waysWithFew_31 : decode cX5_waysWithFew 31 = .ok (.iload_n 1, 1) := by decide +kernel
theorem dX5_waysWithFew_32 : decode cX5_waysWithFew 32 = .ok (.iload 4, 2) := by decide +kernel
theorem dX5_waysWithFew_34 : decode cX5_waysWithFew 34 = .ok (.isub, 1) := by decide +kernel
theorem dX5_waysWithFew_35 : decode cX5_waysWithFew 35 = .ok (.bipush 41, 2) := by decide +kernel
theorem dX5_waysWithFew_37 : decode cX5_waysWithFew 37 = .ok (.imul, 1) := by decide +kernel
theorem dX5_waysWithFew_38 : decode cX5_waysWithFew 38 = .ok (.iload_n 2, 1) := by decide +kernel
theorem dX5_waysWithFew_39 : decode cX5_waysWithFew 39 = .ok (.iadd, 1) := by decide +kernel
theorem dX5_waysWithFew_40 : decode cX5_waysWithFew 40 = .ok (.iload 7, 2) := by decide +kernel
theorem dX5_waysWithFew_42 : decode cX5_waysWithFew 42 = .ok (.isub, 1) := by decide +kernel
theorem dX5_waysWithFew_43 : decode cX5_waysWithFew 43 = .ok (.laload, 1) := by decide +kernel
theorem dX5_waysWithFew_44 : decode cX5_waysWithFew 44 = .ok (.lmul, 1) := by decide +kernel
theorem dX5_waysWithFew_45 : decode cX5_waysWithFew 45 = .ok (.ladd, 1) := by decide +kernel
theorem dX5_waysWithFew_46 : decode cX5_waysWithFew 46 = .ok (.lstore 5, 2) := by decide +kernel
theorem dX5_waysWithFew_48 : decode cX5_waysWithFew 48 = .ok (.iinc 7 1, 3) := by decide +kernel
theorem dX5_waysWithFew_51 : decode cX5_waysWithFew 51 = .ok (.goto (-45), 3) := by decide +kernel
theorem dX5_waysWithFew_54 : decode cX5_waysWithFew 54 = .ok (.lload 5, 2) := by decide +kernel
theorem dX5_waysWithFew_56 : decode cX5_waysWithFew 56 = .ok (.lreturn, 1) := by decide +kernel
theorem dX6_init_0 : decode cX6_init 0 = .ok (.aload_n 0, 1) := by decide +kernel
theorem dX6_init_1 : decode cX6_init 1 = .ok (.invokespecial 3, 3) := by decide +kernel
theorem dX6_init_4 : decode cX6_init 4 = .ok (.aload_n 0, 1) := by decide +kernel
theorem dX6_init_5 : decode cX6_init 5 = .ok (.iload_n 1, 1) := by decide +kernel
theorem dX6_init_6 : decode cX6_init 6 = .ok (.putfield 9, 3) := by decide +kernel
theorem dX6_init_9 : decode cX6_init 9 = .ok (.aload_n 0, 1) := by decide +kernel
theorem dX6_init_10 : decode cX6_init 10 = .ok (.iload_n 2, 1) := by decide +kernel
theorem dX6_init_11 : decode cX6_init 11 = .ok (.putfield 15, 3) := by decide +kernel
theorem dX6_init_14 : decode cX6_init 14 = .ok (.aload_n 0, 1) := by decide +kernel
theorem dX6_init_15 : decode cX6_init 15 = .ok (.iload_n 3, 1) := by decide +kernel
theorem dX6_init_16 : decode cX6_init 16 = .ok (.putfield 18, 3) := by decide +kernel
theorem dX6_init_19 : decode cX6_init 19 = .ok (.aload_n 0, 1) := by decide +kernel
theorem dX6_init_20 : decode cX6_init 20 = .ok (.iload 4, 2) := by decide +kernel
theorem dX6_init_22 : decode cX6_init 22 = .ok (.putfield 21, 3) := by decide +kernel
theorem dX6_init_25 : decode cX6_init 25 = .ok (.aload_n 0, 1) := by decide +kernel
theorem dX6_init_26 : decode cX6_init 26 = .ok (.iload 5, 2) := by decide +kernel
theorem dX6_init_28 : decode cX6_init 28 = .ok (.putfield 24, 3) := by decide +kernel
theorem dX6_init_31 : decode cX6_init 31 = .ok (.aload_n 0, 1) := by decide +kernel
theorem dX6_init_32 : decode cX6_init 32 = .ok (.iconst (-1), 1) := by decide +kernel
theorem dX6_init_33 : decode cX6_init 33 = .ok (.putfield 27, 3) := by decide +kernel
theorem dX6_init_36 : decode cX6_init 36 = .ok (.return_, 1) := by decide +kernel
theorem dX6_isOpen_0 : decode cX6_isOpen 0 = .ok (.aload_n 0, 1) := by decide +kernel
theorem dX6_isOpen_1 : decode cX6_isOpen 1 = .ok (.getfield 27, 3) := by decide +kernel
theorem dX6_isOpen_4 : decode cX6_isOpen 4 = .ok (.iconst (-1), 1) := by decide +kernel
theorem dX6_isOpen_5 : decode cX6_isOpen 5 = .ok (.if_icmp .ne 7, 3) := by decide +kernel
theorem dX6_isOpen_8 : decode cX6_isOpen 8 = .ok (.iconst 1, 1) := by decide +kernel
theorem dX6_isOpen_9 : decode cX6_isOpen 9 = .ok (.goto 4, 3) := by decide +kernel
theorem dX6_isOpen_12 : decode cX6_isOpen 12 = .ok (.iconst 0, 1) := by decide +kernel
theorem dX6_isOpen_13 : decode cX6_isOpen 13 = .ok (.ireturn, 1) := by decide +kernel
theorem dX6_isAt_0 : decode cX6_isAt 0 = .ok (.aload_n 0, 1) := by decide +kernel
theorem dX6_isAt_1 : decode cX6_isAt 1 = .ok (.getfield 15, 3) := by decide +kernel
theorem dX6_isAt_4 : decode cX6_isAt 4 = .ok (.iload_n 1, 1) := by decide +kernel
theorem dX6_isAt_5 : decode cX6_isAt 5 = .ok (.if_icmp .ne 15, 3) := by decide +kernel
theorem dX6_isAt_8 : decode cX6_isAt 8 = .ok (.aload_n 0, 1) := by decide +kernel
theorem dX6_isAt_9 : decode cX6_isAt 9 = .ok (.getfield 18, 3) := by decide +kernel
theorem dX6_isAt_12 : decode cX6_isAt 12 = .ok (.iload_n 2, 1) := by decide +kernel
theorem dX6_isAt_13 : decode cX6_isAt 13 = .ok (.if_icmp .ne 7, 3) := by decide +kernel
theorem dX6_isAt_16 : decode cX6_isAt 16 = .ok (.iconst 1, 1) := by decide +kernel
theorem dX6_isAt_17 : decode cX6_isAt 17 = .ok (.goto 4, 3) := by decide +kernel
theorem dX6_isAt_20 : decode cX6_isAt 20 = .ok (.iconst 0, 1) := by decide +kernel
theorem dX6_isAt_21 : decode cX6_isAt 21 = .ok (.ireturn, 1) := by decide +kernel
theorem dX6_daysOpenOn_0 : decode cX6_daysOpenOn 0 = .ok (.aload_n 0, 1) := by decide +kernel
theorem dX6_daysOpenOn_1 : decode cX6_daysOpenOn 1 = .ok (.invokevirtual 30, 3) := by decide +kernel
theorem dX6_daysOpenOn_4 : decode cX6_daysOpenOn 4 = .ok (.ifCond .eq 7, 3) := by decide +kernel
theorem dX6_daysOpenOn_7 : decode cX6_daysOpenOn 7 = .ok (.iload_n 1, 1) := by decide +kernel
theorem dX6_daysOpenOn_8 : decode cX6_daysOpenOn 8 = .ok (.goto 11, 3) := by decide +kernel
theorem dX6_daysOpenOn_11 : decode cX6_daysOpenOn 11 = .ok (.iload_n 1, 1) := by decide +kernel
theorem dX6_daysOpenOn_12 : decode cX6_daysOpenOn 12 = .ok (.aload_n 0, 1) := by decide +kernel
theorem dX6_daysOpenOn_13 : decode cX6_daysOpenOn 13 = .ok (.getfield 27, 3) := by decide +kernel
theorem dX6_daysOpenOn_16 : decode cX6_daysOpenOn 16 = .ok (.invokestatic 34, 3) := by decide +kernel
theorem dX6_daysOpenOn_19 : decode cX6_daysOpenOn 19 = .ok (.istore_n 2, 1) := by decide +kernel
theorem dX6_daysOpenOn_20 : decode cX6_daysOpenOn 20 = .ok (.iload_n 2, 1) := by decide +kernel
theorem dX6_daysOpenOn_21 : decode cX6_daysOpenOn 21 = .ok (.aload_n 0, 1) := by decide +kernel
theorem dX6_daysOpenOn_22 : decode cX6_daysOpenOn 22 = .ok (.getfield 21, 3) := by decide +kernel
theorem dX6_daysOpenOn_25 : decode cX6_daysOpenOn 25 = .ok (.isub, 1) := by decide +kernel
theorem dX6_daysOpenOn_26 : decode cX6_daysOpenOn 26 = .ok (.ireturn, 1) := by decide +kernel
theorem dX7_init_0 : decode cX7_init 0 = .ok (.aload_n 0, 1) := by decide +kernel
theorem dX7_init_1 : decode cX7_init 1 = .ok (.invokespecial 3, 3) := by decide +kernel
theorem dX7_init_4 : decode cX7_init 4 = .ok (.aload_n 0, 1) := by decide +kernel
theorem dX7_init_5 : decode cX7_init 5 = .ok (.bipush 6, 2) := by decide +kernel
theorem dX7_init_7 : decode cX7_init 7 = .ok (.newarray .int, 2) := by decide +kernel
theorem dX7_init_9 : decode cX7_init 9 = .ok (.putfield 9, 3) := by decide +kernel
theorem dX7_init_12 : decode cX7_init 12 = .ok (.aload_n 0, 1) := by decide +kernel
theorem dX7_init_13 : decode cX7_init 13 = .ok (.bipush 18, 2) := by decide +kernel
theorem dX7_init_15 : decode cX7_init 15 = .ok (.newarray .int, 2) := by decide +kernel
theorem dX7_init_17 : decode cX7_init 17 = .ok (.putfield 15, 3) := by decide +kernel
theorem dX7_init_20 : decode cX7_init 20 = .ok (.aload_n 0, 1) := by decide +kernel
theorem dX7_init_21 : decode cX7_init 21 = .ok (.bipush 18, 2) := by decide +kernel
theorem dX7_init_23 : decode cX7_init 23 = .ok (.newarray .int, 2) := by decide +kernel
theorem dX7_init_25 : decode cX7_init 25 = .ok (.putfield 18, 3) := by decide +kernel
theorem dX7_init_28 : decode cX7_init 28 = .ok (.aload_n 0, 1) := by decide +kernel
theorem dX7_init_29 : decode cX7_init 29 = .ok (.iconst 3, 1) := by decide +kernel
theorem dX7_init_30 : decode cX7_init 30 = .ok (.newarray .int, 2) := by decide +kernel
theorem dX7_init_32 : decode cX7_init 32 = .ok (.putfield 21, 3) := by decide +kernel
theorem dX7_init_35 : decode cX7_init 35 = .ok (.aload_n 0, 1) := by decide +kernel
theorem dX7_init_36 : decode cX7_init 36 = .ok (.bipush 6, 2) := by decide +kernel
theorem dX7_init_38 : decode cX7_init 38 = .ok (.newarray .int, 2) := by decide +kernel
theorem dX7_init_40 : decode cX7_init 40 = .ok (.putfield 24, 3) := by decide +kernel
theorem dX7_init_43 : decode cX7_init 43 = .ok (.aload_n 0, 1) := by decide +kernel
theorem dX7_init_44 : decode cX7_init 44 = .ok (.bipush 6, 2) := by decide +kernel
theorem dX7_init_46 : decode cX7_init 46 = .ok (.newarray .int, 2) := by decide +kernel
theorem dX7_init_48 : decode cX7_init 48 = .ok (.putfield 27, 3) := by decide +kernel
theorem dX7_init_51 : decode cX7_init 51 = .ok (.aload_n 0, 1) := by decide +kernel
theorem dX7_init_52 : decode cX7_init 52 = .ok (.bipush 8, 2) := by decide +kernel
theorem dX7_init_54 : decode cX7_init 54 = .ok (.newarray .int, 2) := by decide +kernel
theorem dX7_init_56 : decode cX7_init 56 = .ok (.putfield 30, 3) := by decide +kernel
theorem dX7_init_59 : decode cX7_init 59 = .ok (.aload_n 0, 1) := by decide +kernel
theorem dX7_init_60 : decode cX7_init 60 = .ok (.getfield 30, 3) := by decide +kernel
theorem dX7_init_63 : decode cX7_init 63 = .ok (.iconst (-1), 1) := by decide +kernel
theorem dX7_init_64 : decode cX7_init 64 = .ok (.invokestatic 33, 3) := by decide +kernel
theorem dX7_init_67 : decode cX7_init 67 = .ok (.return_, 1) := by decide +kernel
theorem dX7_begin_0 : decode cX7_begin 0 = .ok (.aload_n 0, 1) := by decide +kernel
theorem dX7_begin_1 : decode cX7_begin 1 = .ok (.iload_n 1, 1) := by decide +kernel
theorem dX7_begin_2 : decode cX7_begin 2 = .ok (.putfield 39, 3) := by decide +kernel
theorem dX7_begin_5 : decode cX7_begin 5 = .ok (.aload_n 0, 1) := by decide +kernel
theorem dX7_begin_6 : decode cX7_begin 6 = .ok (.getfield 21, 3) := by decide +kernel
theorem dX7_begin_9 : decode cX7_begin 9 = .ok (.iconst 0, 1) := by decide +kernel
theorem dX7_begin_10 : decode cX7_begin 10 = .ok (.iload_n 2, 1) := by decide +kernel
theorem dX7_begin_11 : decode cX7_begin 11 = .ok (.iastore, 1) := by decide +kernel
theorem dX7_begin_12 : decode cX7_begin 12 = .ok (.aload_n 0, 1) := by decide +kernel
theorem dX7_begin_13 : decode cX7_begin 13 = .ok (.getfield 21, 3) := by decide +kernel
theorem dX7_begin_16 : decode cX7_begin 16 = .ok (.iconst 1, 1) := by decide +kernel
theorem dX7_begin_17 : decode cX7_begin 17 = .ok (.iload_n 3, 1) := by decide +kernel
theorem dX7_begin_18 : decode cX7_begin 18 = .ok (.iastore, 1) := by decide +kernel
theorem dX7_begin_19 : decode cX7_begin 19 = .ok (.aload_n 0, 1) := by decide +kernel
theorem dX7_begin_20 : decode cX7_begin 20 = .ok (.getfield 21, 3) := by decide +kernel
theorem dX7_begin_23 : decode cX7_begin 23 = .ok (.iconst 2, 1) := by decide +kernel
theorem dX7_begin_24 : decode cX7_begin 24 = .ok (.iload 4, 2) := by decide +kernel
theorem dX7_begin_26 : decode cX7_begin 26 = .ok (.iastore, 1) := by decide +kernel
theorem dX7_begin_27 : decode cX7_begin 27 = .ok (.aload_n 0, 1) := by decide +kernel
theorem dX7_begin_28 : decode cX7_begin 28 = .ok (.iconst 0, 1) := by decide +kernel
theorem dX7_begin_29 : decode cX7_begin 29 = .ok (.putfield 43, 3) := by decide +kernel
theorem dX7_begin_32 : decode cX7_begin 32 = .ok (.aload_n 0, 1) := by decide +kernel
theorem dX7_begin_33 : decode cX7_begin 33 = .ok (.iconst (-1), 1) := by decide +kernel
theorem dX7_begin_34 : decode cX7_begin 34 = .ok (.putfield 46, 3) := by decide +kernel
theorem dX7_begin_37 : decode cX7_begin 37 = .ok (.aload_n 0, 1) := by decide +kernel
theorem dX7_begin_38 : decode cX7_begin 38 = .ok (.iconst 0, 1) := by decide +kernel
theorem dX7_begin_39 : decode cX7_begin 39 = .ok (.putfield 49, 3) := by decide +kernel
theorem dX7_begin_42 : decode cX7_begin 42 = .ok (.return_, 1) := by decide +kernel
theorem dX7_join_0 : decode cX7_join 0 = .ok (.aload_n 0, 1) := by decide +kernel
theorem dX7_join_1 : decode cX7_join 1 = .ok (.getfield 43, 3) := by decide +kernel
theorem dX7_join_4 : decode cX7_join 4 = .ok (.bipush 6, 2) := by decide +kernel
theorem dX7_join_6 : decode cX7_join 6 = .ok (.if_icmp .lt 4, 3) := by decide +kernel
theorem dX7_join_9 : decode cX7_join 9 = .ok (.return_, 1) := by decide +kernel
theorem dX7_join_10 : decode cX7_join 10 = .ok (.aload_n 0, 1) := by decide +kernel
theorem dX7_join_11 : decode cX7_join 11 = .ok (.getfield 9, 3) := by decide +kernel
theorem dX7_join_14 : decode cX7_join 14 = .ok (.aload_n 0, 1) := by decide +kernel
theorem dX7_join_15 : decode cX7_join 15 = .ok (.getfield 43, 3) := by decide +kernel
theorem dX7_join_18 : decode cX7_join 18 = .ok (.iload_n 1, 1) := by decide +kernel
theorem dX7_join_19 : decode cX7_join 19 = .ok (.iastore, 1) := by decide +kernel
theorem dX7_join_20 : decode cX7_join 20 = .ok (.iconst 0, 1) := by decide +kernel
theorem dX7_join_21 : decode cX7_join 21 = .ok (.istore 4, 2) := by decide +kernel
theorem dX7_join_23 : decode cX7_join 23 = .ok (.iload 4, 2) := by decide +kernel
theorem dX7_join_25 : decode cX7_join 25 = .ok (.aload_n 0, 1) := by decide +kernel
theorem dX7_join_26 : decode cX7_join 26 = .ok (.getfield 39, 3) := by decide +kernel
theorem dX7_join_29 : decode cX7_join 29 = .ok (.if_icmp .ge 54, 3) := by decide +kernel
theorem dX7_join_32 : decode cX7_join 32 = .ok (.aload_n 0, 1) := by decide +kernel
theorem dX7_join_33 : decode cX7_join 33 = .ok (.getfield 15, 3) := by decide +kernel
theorem dX7_join_36 : decode cX7_join 36 = .ok (.aload_n 0, 1) := by decide +kernel
theorem dX7_join_37 : decode cX7_join 37 = .ok (.getfield 43, 3) := by decide +kernel
theorem dX7_join_40 : decode cX7_join 40 = .ok (.iconst 3, 1) := by decide +kernel
theorem dX7_join_41 : decode cX7_join 41 = .ok (.imul, 1) := by decide +kernel
theorem dX7_join_42 : decode cX7_join 42 = .ok (.iload 4, 2) := by decide +kernel
theorem dX7_join_44 : decode cX7_join 44 = .ok (.iadd, 1) := by decide +kernel
theorem dX7_join_45 : decode cX7_join 45 = .ok (.aload_n 2, 1) := by decide +kernel
theorem dX7_join_46 : decode cX7_join 46 = .ok (.iload_n 3, 1) := by decide +kernel
theorem dX7_join_47 : decode cX7_join 47 = .ok (.iload 4, 2) := by decide +kernel
theorem dX7_join_49 : decode cX7_join 49 = .ok (.iadd, 1) := by decide +kernel
theorem dX7_join_50 : decode cX7_join 50 = .ok (.iload_n 3, 1) := by decide +kernel
theorem dX7_join_51 : decode cX7_join 51 = .ok (.invokevirtual 52, 3) := by decide +kernel
theorem dX7_join_54 : decode cX7_join 54 = .ok (.iastore, 1) := by decide +kernel
theorem dX7_join_55 : decode cX7_join 55 = .ok (.aload_n 0, 1) := by decide +kernel
theorem dX7_join_56 : decode cX7_join 56 = .ok (.getfield 18, 3) := by decide +kernel
theorem dX7_join_59 : decode cX7_join 59 = .ok (.aload_n 0, 1) := by decide +kernel
theorem dX7_join_60 : decode cX7_join 60 = .ok (.getfield 43, 3) := by decide +kernel
theorem dX7_join_63 : decode cX7_join 63 = .ok (.iconst 3, 1) := by decide +kernel
theorem dX7_join_64 : decode cX7_join 64 = .ok (.imul, 1) := by decide +kernel
theorem dX7_join_65 : decode cX7_join 65 = .ok (.iload 4, 2) := by decide +kernel
theorem dX7_join_67 : decode cX7_join 67 = .ok (.iadd, 1) := by decide +kernel
theorem dX7_join_68 : decode cX7_join 68 = .ok (.aload_n 2, 1) := by decide +kernel
theorem dX7_join_69 : decode cX7_join 69 = .ok (.iload_n 3, 1) := by decide +kernel
theorem dX7_join_70 : decode cX7_join 70 = .ok (.iload 4, 2) := by decide +kernel
theorem dX7_join_72 : decode cX7_join 72 = .ok (.iadd, 1) := by decide +kernel
theorem dX7_join_73 : decode cX7_join 73 = .ok (.invokevirtual 58, 3) := by decide +kernel
theorem dX7_join_76 : decode cX7_join 76 = .ok (.iastore, 1) := by decide +kernel
theorem dX7_join_77 : decode cX7_join 77 = .ok (.iinc 4 1, 3) := by decide +kernel
theorem dX7_join_80 : decode cX7_join 80 = .ok (.goto (-57), 3) := by decide +kernel
theorem dX7_join_83 : decode cX7_join 83 = .ok (.aload_n 0, 1) := by decide +kernel
theorem dX7_join_84 : decode cX7_join 84 = .ok (.dup, 1) := by decide +kernel
theorem dX7_join_85 : decode cX7_join 85 = .ok (.getfield 43, 3) := by decide +kernel
theorem dX7_join_88 : decode cX7_join 88 = .ok (.iconst 1, 1) := by decide +kernel
theorem dX7_join_89 : decode cX7_join 89 = .ok (.iadd, 1) := by decide +kernel
theorem dX7_join_90 : decode cX7_join 90 = .ok (.putfield 43, 3) := by decide +kernel
theorem dX7_join_93 : decode cX7_join 93 = .ok (.return_, 1) := by decide +kernel
theorem dX7_findBest_0 : decode cX7_findBest 0 = .ok (.aload_n 0, 1) := by decide +kernel
theorem dX7_findBest_1 : decode cX7_findBest 1 = .ok (.iconst 0, 1) := by decide +kernel
theorem dX7_findBest_2 : decode cX7_findBest 2 = .ok (.iconst 0, 1) := by decide +kernel
theorem dX7_findBest_3 : decode cX7_findBest 3 = .ok (.iconst 0, 1) := by decide +kernel
theorem dX7_findBest_4 : decode cX7_findBest 4 = .ok (.invokevirtual 62, 3) := by decide +kernel
theorem dX7_findBest_7 : decode cX7_findBest 7 = .ok (.aload_n 0, 1) := by decide +kernel
theorem dX7_findBest_8 : decode cX7_findBest 8 = .ok (.getfield 30, 3) := by decide +kernel
theorem dX7_findBest_11 : decode cX7_findBest 11 = .ok (.iconst (-1), 1) := by decide +kernel
theorem dX7_findBest_12 : decode cX7_findBest 12 = .ok (.invokestatic 33, 3) := by decide +kernel
theorem dX7_findBest_15 : decode cX7_findBest 15 = .ok (.iconst 0, 1) := by decide +kernel
theorem dX7_findBest_16 : decode cX7_findBest 16 = .ok (.istore_n 2, 1) := by decide +kernel
theorem dX7_findBest_17 : decode cX7_findBest 17 = .ok (.iload_n 2, 1) := by decide +kernel
theorem dX7_findBest_18 : decode cX7_findBest 18 = .ok (.aload_n 0, 1) := by decide +kernel
theorem dX7_findBest_19 : decode cX7_findBest 19 = .ok (.getfield 43, 3) := by decide +kernel
theorem dX7_findBest_22 : decode cX7_findBest 22 = .ok (.if_icmp .ge 46, 3) := by decide +kernel
theorem dX7_findBest_25 : decode cX7_findBest 25 = .ok (.aload_n 0, 1) := by decide +kernel
theorem dX7_findBest_26 : decode cX7_findBest 26 = .ok (.getfield 30, 3) := by decide +kernel
theorem dX7_findBest_29 : decode cX7_findBest 29 = .ok (.aload_n 0, 1) := by decide +kernel
theorem dX7_findBest_30 : decode cX7_findBest 30 = .ok (.getfield 9, 3) := by decide +kernel
theorem dX7_findBest_33 : decode cX7_findBest 33 = .ok (.iload_n 2, 1) := by decide +kernel
theorem dX7_findBest_34 : decode cX7_findBest 34 = .ok (.iaload, 1) := by decide +kernel
theorem dX7_findBest_35 : decode cX7_findBest 35 = .ok (.aload_n 0, 1) := by decide +kernel
theorem dX7_findBest_36 : decode cX7_findBest 36 = .ok (.getfield 27, 3) := by decide +kernel
theorem dX7_findBest_39 : decode cX7_findBest 39 = .ok (.iload_n 2, 1) := by decide +kernel
theorem dX7_findBest_40 : decode cX7_findBest 40 = .ok (.iaload, 1) := by decide +kernel
theorem dX7_findBest_41 : decode cX7_findBest 41 = .ok (.aload_n 0, 1) := by decide +kernel
theorem dX7_findBest_42 : decode cX7_findBest 42 = .ok (.getfield 39, 3) := by decide +kernel
theorem dX7_findBest_45 : decode cX7_findBest 45 = .ok (.if_icmp .ne 8, 3) := by decide +kernel
theorem dX7_findBest_48 : decode cX7_findBest 48 = .ok (.bipush (-2), 2) := by decide +kernel
theorem dX7_findBest_50 : decode cX7_findBest 50 = .ok (.goto 11, 3) := by decide +kernel
theorem dX7_findBest_53 : decode cX7_findBest 53 = .ok (.iload_n 1, 1) := by decide +kernel
theorem dX7_findBest_54 : decode cX7_findBest 54 = .ok (.aload_n 0, 1) := by decide +kernel
theorem dX7_findBest_55 : decode cX7_findBest 55 = .ok (.getfield 27, 3) := by decide +kernel
theorem dX7_findBest_58 : decode cX7_findBest 58 = .ok (.iload_n 2, 1) := by decide +kernel
theorem dX7_findBest_59 : decode cX7_findBest 59 = .ok (.iaload, 1) := by decide +kernel
theorem dX7_findBest_60 : decode cX7_findBest 60 = .ok (.iadd, 1) := by decide +kernel
theorem dX7_findBest_61 : decode cX7_findBest 61 = .ok (.iastore, 1) := by decide +kernel
theorem dX7_findBest_62 : decode cX7_findBest 62 = .ok (.iinc 2 1, 3) := by decide +kernel
theorem dX7_findBest_65 : decode cX7_findBest 65 = .ok (.goto (-48), 3) := by decide +kernel
theorem dX7_findBest_68 : decode cX7_findBest 68 = .ok (.aload_n 0, 1) := by decide +kernel
theorem dX7_findBest_69 : decode cX7_findBest 69 = .ok (.getfield 46, 3) := by decide +kernel
theorem dX7_findBest_72 : decode cX7_findBest 72 = .ok (.ireturn, 1) := by decide +kernel
theorem dX7_tryFrom_0 : decode cX7_tryFrom 0 = .ok (.iload_n 1, 1) := by decide +kernel
theorem dX7_tryFrom_1 : decode cX7_tryFrom 1 = .ok (.aload_n 0, 1) := by decide +kernel
theorem dX7_tryFrom_2 : decode cX7_tryFrom 2 = .ok (.getfield 43, 3) := by decide +kernel
theorem dX7_tryFrom_5 : decode cX7_tryFrom 5 = .ok (.if_icmp .ge 9, 3) := by decide +kernel
theorem dX7_tryFrom_8 : decode cX7_tryFrom 8 = .ok (.iload_n 1, 1) := by decide +kernel
theorem dX7_tryFrom_9 : decode cX7_tryFrom 9 = .ok (.bipush 6, 2) := by decide +kernel
theorem dX7_tryFrom_11 : decode cX7_tryFrom 11 = .ok (.if_icmp .lt 10, 3) := by decide +kernel
theorem dX7_tryFrom_14 : decode cX7_tryFrom 14 = .ok (.aload_n 0, 1) := by decide +kernel
theorem dX7_tryFrom_15 : decode cX7_tryFrom 15 = .ok (.iload_n 2, 1) := by decide +kernel
theorem dX7_tryFrom_16 : decode cX7_tryFrom 16 = .ok (.iload_n 3, 1) := by decide +kernel
theorem dX7_tryFrom_17 : decode cX7_tryFrom 17 = .ok (.invokevirtual 66, 3) := by decide +kernel
theorem dX7_tryFrom_20 : decode cX7_tryFrom 20 = .ok (.return_, 1) := by decide +kernel
theorem dX7_tryFrom_21 : decode cX7_tryFrom 21 = .ok (.iconst 0, 1) := by decide +kernel
theorem dX7_tryFrom_22 : decode cX7_tryFrom 22 = .ok (.istore 4, 2) := by decide +kernel
theorem dX7_tryFrom_24 : decode cX7_tryFrom 24 = .ok (.iload 4, 2) := by decide +kernel
theorem dX7_tryFrom_26 : decode cX7_tryFrom 26 = .ok (.aload_n 0, 1) := by decide +kernel
theorem dX7_tryFrom_27 : decode cX7_tryFrom 27 = .ok (.getfield 39, 3) := by decide +kernel
theorem dX7_tryFrom_30 : decode cX7_tryFrom 30 = .ok (.if_icmp .ge 90, 3) := by decide +kernel
theorem dX7_tryFrom_33 : decode cX7_tryFrom 33 = .ok (.aload_n 0, 1) := by decide +kernel
theorem dX7_tryFrom_34 : decode cX7_tryFrom 34 = .ok (.getfield 18, 3) := by decide +kernel
theorem dX7_tryFrom_37 : decode cX7_tryFrom 37 = .ok (.iload_n 1, 1) := by decide +kernel
theorem dX7_tryFrom_38 : decode cX7_tryFrom 38 = .ok (.iconst 3, 1) := by decide +kernel
theorem dX7_tryFrom_39 : decode cX7_tryFrom 39 = .ok (.imul, 1) := by decide +kernel
theorem dX7_tryFrom_40 : decode cX7_tryFrom 40 = .ok (.iload 4, 2) := by decide +kernel
theorem dX7_tryFrom_42 : decode cX7_tryFrom 42 = .ok (.iadd, 1) := by decide +kernel
theorem dX7_tryFrom_43 : decode cX7_tryFrom 43 = .ok (.iaload, 1) := by decide +kernel
theorem dX7_tryFrom_44 : decode cX7_tryFrom 44 = .ok (.istore 5, 2) := by decide +kernel
theorem dX7_tryFrom_46 : decode cX7_tryFrom 46 = .ok (.iload 5, 2) := by decide +kernel
theorem dX7_tryFrom_48 : decode cX7_tryFrom 48 = .ok (.aload_n 0, 1) := by decide +kernel
theorem dX7_tryFrom_49 : decode cX7_tryFrom 49 = .ok (.getfield 21, 3) := by decide +kernel
theorem dX7_tryFrom_52 : decode cX7_tryFrom 52 = .ok (.iload 4, 2) := by decide +kernel
theorem dX7_tryFrom_54 : decode cX7_tryFrom 54 = .ok (.iaload, 1) := by decide +kernel
theorem dX7_tryFrom_55 : decode cX7_tryFrom 55 = .ok (.if_icmp .gt 59, 3) := by decide +kernel
theorem dX7_tryFrom_58 : decode cX7_tryFrom 58 = .ok (.aload_n 0, 1) := by decide +kernel
theorem dX7_tryFrom_59 : decode cX7_tryFrom 59 = .ok (.getfield 21, 3) := by decide +kernel
theorem dX7_tryFrom_62 : decode cX7_tryFrom 62 = .ok (.iload 4, 2) := by decide +kernel
theorem dX7_tryFrom_64 : decode cX7_tryFrom 64 = .ok (.dup2, 1) := by decide +kernel
theorem dX7_tryFrom_65 : decode cX7_tryFrom 65 = .ok (.iaload, 1) := by decide +kernel
theorem dX7_tryFrom_66 : decode cX7_tryFrom 66 = .ok (.iload 5, 2) := by decide +kernel
theorem dX7_tryFrom_68 : decode cX7_tryFrom 68 = .ok (.isub, 1) := by decide +kernel
theorem dX7_tryFrom_69 : decode cX7_tryFrom 69 = .ok (.iastore, 1) := by decide +kernel
theorem dX7_tryFrom_70 : decode cX7_tryFrom 70 = .ok (.aload_n 0, 1) := by decide +kernel
theorem dX7_tryFrom_71 : decode cX7_tryFrom 71 = .ok (.getfield 24, 3) := by decide +kernel
theorem dX7_tryFrom_74 : decode cX7_tryFrom 74 = .ok (.iload_n 1, 1) := by decide +kernel
theorem dX7_tryFrom_75 : decode cX7_tryFrom 75 = .ok (.iload 4, 2) := by decide +kernel
theorem dX7_tryFrom_77 : decode cX7_tryFrom 77 = .ok (.iastore, 1) := by decide +kernel
theorem dX7_tryFrom_78 : decode cX7_tryFrom 78 = .ok (.aload_n 0, 1) := by decide +kernel
theorem dX7_tryFrom_79 : decode cX7_tryFrom 79 = .ok (.iload_n 1, 1) := by decide +kernel
theorem dX7_tryFrom_80 : decode cX7_tryFrom 80 = .ok (.iconst 1, 1) := by decide +kernel
theorem dX7_tryFrom_81 : decode cX7_tryFrom 81 = .ok (.iadd, 1) := by decide +kernel
theorem dX7_tryFrom_82 : decode cX7_tryFrom 82 = .ok (.iload_n 2, 1) := by decide +kernel
theorem dX7_tryFrom_83 : decode cX7_tryFrom 83 = .ok (.aload_n 0, 1) := by decide +kernel
theorem dX7_tryFrom_84 : decode cX7_tryFrom 84 = .ok (.getfield 15, 3) := by decide +kernel
theorem dX7_tryFrom_87 : decode cX7_tryFrom 87 = .ok (.iload_n 1, 1) := by decide +kernel
theorem dX7_tryFrom_88 : decode cX7_tryFrom 88 = .ok (.iconst 3, 1) := by decide +kernel
theorem dX7_tryFrom_89 : decode cX7_tryFrom 89 = .ok (.imul, 1) := by decide +kernel
theorem dX7_tryFrom_90 : decode cX7_tryFrom 90 = .ok (.iload 4, 2) := by decide +kernel
theorem dX7_tryFrom_92 : decode cX7_tryFrom 92 = .ok (.iadd, 1) := by decide +kernel
theorem dX7_tryFrom_93 : decode cX7_tryFrom 93 = .ok (.iaload, 1) := by decide +kernel
theorem dX7_tryFrom_94 : decode cX7_tryFrom 94 = .ok (.iadd, 1) := by decide +kernel
theorem dX7_tryFrom_95 : decode cX7_tryFrom 95 = .ok (.iload_n 3, 1) := by decide +kernel
theorem dX7_tryFrom_96 : decode cX7_tryFrom 96 = .ok (.iload 5, 2) := by decide +kernel
theorem dX7_tryFrom_98 : decode cX7_tryFrom 98 = .ok (.iadd, 1) := by decide +kernel
theorem dX7_tryFrom_99 : decode cX7_tryFrom 99 = .ok (.invokevirtual 62, 3) := by decide +kernel
theorem dX7_tryFrom_102 : decode cX7_tryFrom 102 = .ok (.aload_n 0, 1) := by decide +kernel
theorem dX7_tryFrom_103 : decode cX7_tryFrom 103 = .ok (.getfield 21, 3) := by decide +kernel
theorem dX7_tryFrom_106 : decode cX7_tryFrom 106 = .ok (.iload 4, 2) := by decide +kernel
theorem dX7_tryFrom_108 : decode cX7_tryFrom 108 = .ok (.dup2, 1) := by decide +kernel
theorem dX7_tryFrom_109 : decode cX7_tryFrom 109 = .ok (.iaload, 1) := by decide +kernel
theorem dX7_tryFrom_110 : decode cX7_tryFrom 110 = .ok (.iload 5, 2) := by decide +kernel
theorem dX7_tryFrom_112 : decode cX7_tryFrom 112 = .ok (.iadd, 1) := by decide +kernel
theorem dX7_tryFrom_113 : decode cX7_tryFrom 113 = .ok (.iastore, 1) := by decide +kernel
theorem dX7_tryFrom_114 : decode cX7_tryFrom 114 = .ok (.iinc 4 1, 3) := by decide +kernel
theorem dX7_tryFrom_117 : decode cX7_tryFrom 117 = .ok (.goto (-93), 3) := by decide +kernel
theorem dX7_tryFrom_120 : decode cX7_tryFrom 120 = .ok (.aload_n 0, 1) := by decide +kernel
theorem dX7_tryFrom_121 : decode cX7_tryFrom 121 = .ok (.getfield 24, 3) := by decide +kernel
theorem dX7_tryFrom_124 : decode cX7_tryFrom 124 = .ok (.iload_n 1, 1) := by decide +kernel
theorem dX7_tryFrom_125 : decode cX7_tryFrom 125 = .ok (.aload_n 0, 1) := by decide +kernel
theorem dX7_tryFrom_126 : decode cX7_tryFrom 126 = .ok (.getfield 39, 3) := by decide +kernel
theorem dX7_tryFrom_129 : decode cX7_tryFrom 129 = .ok (.iastore, 1) := by decide +kernel
theorem dX7_tryFrom_130 : decode cX7_tryFrom 130 = .ok (.aload_n 0, 1) := by decide +kernel
theorem dX7_tryFrom_131 : decode cX7_tryFrom 131 = .ok (.iload_n 1, 1) := by decide +kernel
theorem dX7_tryFrom_132 : decode cX7_tryFrom 132 = .ok (.iconst 1, 1) := by decide +kernel
theorem dX7_tryFrom_133 : decode cX7_tryFrom 133 = .ok (.iadd, 1) := by decide +kernel
theorem dX7_tryFrom_134 : decode cX7_tryFrom 134 = .ok (.iload_n 2, 1) := by decide +kernel
theorem dX7_tryFrom_135 : decode cX7_tryFrom 135 = .ok (.iload_n 3, 1) := by decide +kernel
theorem dX7_tryFrom_136 : decode cX7_tryFrom 136 = .ok (.invokevirtual 62, 3) := by decide +kernel
theorem dX7_tryFrom_139 : decode cX7_tryFrom 139 = .ok (.return_, 1) := by decide +kernel
theorem dX7_keepIfBetter_0 : decode cX7_keepIfBetter 0 = .ok (.iload_n 1, 1) := by decide +kernel
theorem dX7_keepIfBetter_1 : decode cX7_keepIfBetter 1 = .ok (.aload_n 0, 1) := by decide +kernel
theorem dX7_keepIfBetter_2 : decode cX7_keepIfBetter 2 = .ok (.getfield 46, 3) := by decide +kernel
theorem dX7_keepIfBetter_5 : decode cX7_keepIfBetter 5 = .ok (.if_icmp .gt 19, 3) := by decide +kernel
theorem dX7_keepIfBetter_8 : decode cX7_keepIfBetter 8 = .ok (.iload_n 1, 1) := by decide +kernel
theorem dX7_keepIfBetter_9 : decode cX7_keepIfBetter 9 = .ok (.aload_n 0, 1) := by decide +kernel
theorem dX7_keepIfBetter_10 : decode cX7_keepIfBetter 10 = .ok (.getfield 46, 3) := by decide +kernel
theorem dX7_keepIfBetter_13 : decode cX7_keepIfBetter 13 = .ok (.if_icmp .ne 36, 3) := by decide +kernel
theorem dX7_keepIfBetter_16 : decode cX7_keepIfBetter 16 = .ok (.iload_n 2, 1) := by decide +kernel
theorem dX7_keepIfBetter_17 : decode cX7_keepIfBetter 17 = .ok (.aload_n 0, 1) := by decide +kernel
theorem dX7_keepIfBetter_18 : decode cX7_keepIfBetter 18 = .ok (.getfield 49, 3) := by decide +kernel
theorem dX7_keepIfBetter_21 : decode cX7_keepIfBetter 21 = .ok (.if_icmp .ge 28, 3) := by decide +kernel
theorem dX7_keepIfBetter_24 : decode cX7_keepIfBetter 24 = .ok (.aload_n 0, 1) := by decide +kernel
theorem dX7_keepIfBetter_25 : decode cX7_keepIfBetter 25 = .ok (.iload_n 1, 1) := by decide +kernel
theorem dX7_keepIfBetter_26 : decode cX7_keepIfBetter 26 = .ok (.putfield 46, 3) := by decide +kernel
theorem dX7_keepIfBetter_29 : decode cX7_keepIfBetter 29 = .ok (.aload_n 0, 1) := by decide +kernel
theorem dX7_keepIfBetter_30 : decode cX7_keepIfBetter 30 = .ok (.iload_n 2, 1) := by decide +kernel
theorem dX7_keepIfBetter_31 : decode cX7_keepIfBetter 31 = .ok (.putfield 49, 3) := by decide +kernel
theorem dX7_keepIfBetter_34 : decode cX7_keepIfBetter 34 = .ok (.aload_n 0, 1) := by decide +kernel
theorem dX7_keepIfBetter_35 : decode cX7_keepIfBetter 35 = .ok (.getfield 24, 3) := by decide +kernel
theorem dX7_keepIfBetter_38 : decode cX7_keepIfBetter 38 = .ok (.iconst 0, 1) := by decide +kernel
theorem dX7_keepIfBetter_39 : decode cX7_keepIfBetter 39 = .ok (.aload_n 0, 1) := by decide +kernel
theorem dX7_keepIfBetter_40 : decode cX7_keepIfBetter 40 = .ok (.getfield 27, 3) := by decide +kernel
theorem dX7_keepIfBetter_43 : decode cX7_keepIfBetter 43 = .ok (.iconst 0, 1) := by decide +kernel
theorem dX7_keepIfBetter_44 : decode cX7_keepIfBetter 44 = .ok (.bipush 6, 2) := by decide +kernel
theorem dX7_keepIfBetter_46 : decode cX7_keepIfBetter 46 = .ok (.invokestatic 70, 3) := by decide +kernel
theorem dX7_keepIfBetter_49 : decode cX7_keepIfBetter 49 = .ok (.return_, 1) := by decide +kernel
theorem dX7_yearOf_0 : decode cX7_yearOf 0 = .ok (.iload_n 1, 1) := by decide +kernel
theorem dX7_yearOf_1 : decode cX7_yearOf 1 = .ok (.ifCond .lt 21, 3) := by decide +kernel
theorem dX7_yearOf_4 : decode cX7_yearOf 4 = .ok (.iload_n 1, 1) := by decide +kernel
theorem dX7_yearOf_5 : decode cX7_yearOf 5 = .ok (.aload_n 0, 1) := by decide +kernel
theorem dX7_yearOf_6 : decode cX7_yearOf 6 = .ok (.getfield 30, 3) := by decide +kernel
theorem dX7_yearOf_9 : decode cX7_yearOf 9 = .ok (.arraylength, 1) := by decide +kernel
theorem dX7_yearOf_10 : decode cX7_yearOf 10 = .ok (.if_icmp .ge 12, 3) := by decide +kernel
theorem dX7_yearOf_13 : decode cX7_yearOf 13 = .ok (.aload_n 0, 1) := by decide +kernel
theorem dX7_yearOf_14 : decode cX7_yearOf 14 = .ok (.getfield 30, 3) := by decide +kernel
theorem dX7_yearOf_17 : decode cX7_yearOf 17 = .ok (.iload_n 1, 1) := by decide +kernel
theorem dX7_yearOf_18 : decode cX7_yearOf 18 = .ok (.iaload, 1) := by decide +kernel
theorem dX7_yearOf_19 : decode cX7_yearOf 19 = .ok (.goto 4, 3) := by decide +kernel
theorem dX7_yearOf_22 : decode cX7_yearOf 22 = .ok (.iconst (-1), 1) := by decide +kernel
theorem dX7_yearOf_23 : decode cX7_yearOf 23 = .ok (.ireturn, 1) := by decide +kernel
theorem dX8_init_0 : decode cX8_init 0 = .ok (.aload_n 0, 1) := by decide +kernel
theorem dX8_init_1 : decode cX8_init 1 = .ok (.invokespecial 3, 3) := by decide +kernel
theorem dX8_init_4 : decode cX8_init 4 = .ok (.aload_n 0, 1) := by decide +kernel
theorem dX8_init_5 : decode cX8_init 5 = .ok (.iload_n 1, 1) := by decide +kernel
theorem dX8_init_6 : decode cX8_init 6 = .ok (.putfield 9, 3) := by decide +kernel
theorem dX8_init_9 : decode cX8_init 9 = .ok (.aload_n 0, 1) := by decide +kernel
theorem dX8_init_10 : decode cX8_init 10 = .ok (.iload_n 2, 1) := by decide +kernel
theorem dX8_init_11 : decode cX8_init 11 = .ok (.putfield 15, 3) := by decide +kernel
theorem dX8_init_14 : decode cX8_init 14 = .ok (.aload_n 0, 1) := by decide +kernel
theorem dX8_init_15 : decode cX8_init 15 = .ok (.iload_n 1, 1) := by decide +kernel
theorem dX8_init_16 : decode cX8_init 16 = .ok (.iload_n 2, 1) := by decide +kernel
theorem dX8_init_17 : decode cX8_init 17 = .ok (.imul, 1) := by decide +kernel
theorem dX8_init_18 : decode cX8_init 18 = .ok (.newarray .int, 2) := by decide +kernel
theorem dX8_init_20 : decode cX8_init 20 = .ok (.putfield 18, 3) := by decide +kernel
theorem dX8_init_23 : decode cX8_init 23 = .ok (.aload_n 0, 1) := by decide +kernel
theorem dX8_init_24 : decode cX8_init 24 = .ok (.getfield 18, 3) := by decide +kernel
theorem dX8_init_27 : decode cX8_init 27 = .ok (.iload_n 3, 1) := by decide +kernel
theorem dX8_init_28 : decode cX8_init 28 = .ok (.invokestatic 22, 3) := by decide +kernel
theorem dX8_init_31 : decode cX8_init 31 = .ok (.aload_n 0, 1) := by decide +kernel
theorem dX8_init_32 : decode cX8_init 32 = .ok (.iload_n 1, 1) := by decide +kernel
theorem dX8_init_33 : decode cX8_init 33 = .ok (.iload_n 2, 1) := by decide +kernel
theorem dX8_init_34 : decode cX8_init 34 = .ok (.imul, 1) := by decide +kernel
theorem dX8_init_35 : decode cX8_init 35 = .ok (.newarray .int, 2) := by decide +kernel
theorem dX8_init_37 : decode cX8_init 37 = .ok (.putfield 28, 3) := by decide +kernel
theorem dX8_init_40 : decode cX8_init 40 = .ok (.aload_n 0, 1) := by decide +kernel
theorem dX8_init_41 : decode cX8_init 41 = .ok (.bipush 31, 2) := by decide +kernel
theorem dX8_init_43 : decode cX8_init 43 = .ok (.newarray .int, 2) := by decide +kernel
theorem dX8_init_45 : decode cX8_init 45 = .ok (.putfield 31, 3) := by decide +kernel
theorem dX8_init_48 : decode cX8_init 48 = .ok (.aload_n 0, 1) := by decide +kernel
theorem dX8_init_49 : decode cX8_init 49 = .ok (.getfield 31, 3) := by decide +kernel
theorem dX8_init_52 : decode cX8_init 52 = .ok (.iconst (-1), 1) := by decide +kernel
theorem dX8_init_53 : decode cX8_init 53 = .ok (.invokestatic 22, 3) := by decide +kernel
theorem dX8_init_56 : decode cX8_init 56 = .ok (.return_, 1) := by decide +kernel
theorem dX8_has_0 : decode cX8_has 0 = .ok (.iload_n 1, 1) := by decide +kernel
theorem dX8_has_1 : decode cX8_has 1 = .ok (.ifCond .lt 27, 3) := by decide +kernel
theorem dX8_has_4 : decode cX8_has 4 = .ok (.iload_n 1, 1) := by decide +kernel
theorem dX8_has_5 : decode cX8_has 5 = .ok (.aload_n 0, 1) := by decide +kernel
theorem dX8_has_6 : decode cX8_has 6 = .ok (.getfield 9, 3) := by decide +kernel
theorem dX8_has_9 : decode cX8_has 9 = .ok (.if_icmp .ge 19, 3) := by decide +kernel
theorem dX8_has_12 : decode cX8_has 12 = .ok (.iload_n 2, 1) := by decide +kernel
theorem dX8_has_13 : decode cX8_has 13 = .ok (.ifCond .lt 15, 3) := by decide +kernel
theorem dX8_has_16 : decode cX8_has 16 = .ok (.iload_n 2, 1) := by decide +kernel
theorem dX8_has_17 : decode cX8_has 17 = .ok (.aload_n 0, 1) := by decide +kernel
theorem dX8_has_18 : decode cX8_has 18 = .ok (.getfield 15, 3) := by decide +kernel
theorem dX8_has_21 : decode cX8_has 21 = .ok (.if_icmp .ge 7, 3) := by decide +kernel
theorem dX8_has_24 : decode cX8_has 24 = .ok (.iconst 1, 1) := by decide +kernel
theorem dX8_has_25 : decode cX8_has 25 = .ok (.goto 4, 3) := by decide +kernel
theorem dX8_has_28 : decode cX8_has 28 = .ok (.iconst 0, 1) := by decide +kernel
theorem dX8_has_29 : decode cX8_has 29 = .ok (.ireturn, 1) := by decide +kernel
theorem dX8_placeOf_0 : decode cX8_placeOf 0 = .ok (.iload_n 1, 1) := by decide +kernel
theorem dX8_placeOf_1 : decode cX8_placeOf 1 = .ok (.aload_n 0, 1) := by decide +kernel
theorem dX8_placeOf_2 : decode cX8_placeOf 2 = .ok (.getfield 15, 3) := by decide +kernel
theorem dX8_placeOf_5 : decode cX8_placeOf 5 = .ok (.imul, 1) := by decide +kernel
theorem dX8_placeOf_6 : decode cX8_placeOf 6 = .ok (.iload_n 2, 1) := by decide +kernel
theorem dX8_placeOf_7 : decode cX8_placeOf 7 = .ok (.iadd, 1) := by decide +kernel
theorem dX8_placeOf_8 : decode cX8_placeOf 8 = .ok (.ireturn, 1) := by decide +kernel
theorem dX8_rowOf_0 : decode cX8_rowOf 0 = .ok (.aload_n 0, 1) := by decide +kernel
theorem dX8_rowOf_1 : decode cX8_rowOf 1 = .ok (.getfield 15, 3) := by decide +kernel
theorem dX8_rowOf_4 : decode cX8_rowOf 4 = .ok (.ifCond .ne 7, 3) := by decide +kernel
theorem dX8_rowOf_7 : decode cX8_rowOf 7 = .ok (.iconst 0, 1) := by decide +kernel
theorem dX8_rowOf_8 : decode cX8_rowOf 8 = .ok (.goto 9, 3) := by decide +kernel
theorem dX8_rowOf_11 : decode cX8_rowOf 11 = .ok (.iload_n 1, 1) := by decide +kernel
theorem dX8_rowOf_12 : decode cX8_rowOf 12 = .ok (.aload_n 0, 1) := by decide +kernel
theorem dX8_rowOf_13 : decode cX8_rowOf 13 = .ok (.getfield 15, 3) := by decide +kernel
theorem dX8_rowOf_16 : decode cX8_rowOf 16 = .ok (.idiv, 1) := by decide +kernel
theorem dX8_rowOf_17 : decode cX8_rowOf 17 = .ok (.ireturn, 1) := by decide +kernel
theorem dX8_columnOf_0 : decode cX8_columnOf 0 = .ok (.aload_n 0, 1) := by decide +kernel
theorem dX8_columnOf_1 : decode cX8_columnOf 1 = .ok (.getfield 15, 3) := by decide +kernel
theorem dX8_columnOf_4 : decode cX8_columnOf 4 = .ok (.ifCond .ne 7, 3) := by decide +kernel
theorem dX8_columnOf_7 : decode cX8_columnOf 7 = .ok (.iconst 0, 1) := by decide +kernel
theorem dX8_columnOf_8 : decode cX8_columnOf 8 = .ok (.goto 9, 3) := by decide +kernel
theorem dX8_columnOf_11 : decode cX8_columnOf 11 = .ok (.iload_n 1, 1) := by decide +kernel
theorem dX8_columnOf_12 : decode cX8_columnOf 12 = .ok (.aload_n 0, 1) := by decide +kernel
theorem dX8_columnOf_13 : decode cX8_columnOf 13 = .ok (.getfield 15, 3) := by decide +kernel
theorem dX8_columnOf_16 : decode cX8_columnOf 16 = .ok (.irem, 1) := by decide +kernel
theorem dX8_columnOf_17 : decode cX8_columnOf 17 = .ok (.ireturn, 1) := by decide +kernel
theorem dX8_nextOfWater_0 : decode cX8_nextOfWater 0 = .ok (.aload_n 0, 1) := by decide +kernel
theorem dX8_nextOfWater_1 : decode cX8_nextOfWater 1 = .ok (.getfield 28, 3) := by decide +kernel
theorem dX8_nextOfWater_4 : decode cX8_nextOfWater 4 = .ok (.iload_n 1, 1) := by decide +kernel
theorem dX8_nextOfWater_5 : decode cX8_nextOfWater 5 = .ok (.iaload, 1) := by decide +kernel
theorem dX8_nextOfWater_6 : decode cX8_nextOfWater 6 = .ok (.iconst 1, 1) := by decide +kernel
theorem dX8_nextOfWater_7 : decode cX8_nextOfWater 7 = .ok (.if_icmp .ne 5, 3) := by decide +kernel
theorem dX8_nextOfWater_10 : decode cX8_nextOfWater 10 = .ok (.iload_n 1, 1) := by decide +kernel
theorem dX8_nextOfWater_11 : decode cX8_nextOfWater 11 = .ok (.ireturn, 1) := by decide +kernel
theorem dX8_nextOfWater_12 : decode cX8_nextOfWater 12 = .ok (.aload_n 0, 1) := by decide +kernel
theorem dX8_nextOfWater_13 : decode cX8_nextOfWater 13 = .ok (.iload_n 1, 1) := by decide +kernel
theorem dX8_nextOfWater_14 : decode cX8_nextOfWater 14 = .ok (.invokevirtual 34, 3) := by decide +kernel
theorem dX8_nextOfWater_17 : decode cX8_nextOfWater 17 = .ok (.istore_n 2, 1) := by decide +kernel
theorem dX8_nextOfWater_18 : decode cX8_nextOfWater 18 = .ok (.aload_n 0, 1) := by decide +kernel
theorem dX8_nextOfWater_19 : decode cX8_nextOfWater 19 = .ok (.iload_n 1, 1) := by decide +kernel
theorem dX8_nextOfWater_20 : decode cX8_nextOfWater 20 = .ok (.invokevirtual 38, 3) := by decide +kernel
theorem dX8_nextOfWater_23 : decode cX8_nextOfWater 23 = .ok (.istore_n 3, 1) := by decide +kernel
theorem dX8_nextOfWater_24 : decode cX8_nextOfWater 24 = .ok (.aload_n 0, 1) := by decide +kernel
theorem dX8_nextOfWater_25 : decode cX8_nextOfWater 25 = .ok (.iload_n 1, 1) := by decide +kernel
theorem dX8_nextOfWater_26 : decode cX8_nextOfWater 26 = .ok (.iload_n 2, 1) := by decide +kernel
theorem dX8_nextOfWater_27 : decode cX8_nextOfWater 27 = .ok (.iconst 1, 1) := by decide +kernel
theorem dX8_nextOfWater_28 : decode cX8_nextOfWater 28 = .ok (.isub, 1) := by decide +kernel
theorem dX8_nextOfWater_29 : decode cX8_nextOfWater 29 = .ok (.iload_n 3, 1) := by decide +kernel
theorem dX8_nextOfWater_30 : decode cX8_nextOfWater 30 = .ok (.invokevirtual 41, 3) := by decide +kernel
theorem dX8_nextOfWater_33 : decode cX8_nextOfWater 33 = .ok (.istore 4, 2) := by decide +kernel
theorem dX8_nextOfWater_35 : decode cX8_nextOfWater 35 = .ok (.aload_n 0, 1) := by decide +kernel
theorem dX8_nextOfWater_36 : decode cX8_nextOfWater 36 = .ok (.iload 4, 2) := by decide +kernel
theorem dX8_nextOfWater_38 : decode cX8_nextOfWater 38 = .ok (.iload_n 2, 1) := by decide +kernel
theorem dX8_nextOfWater_39 : decode cX8_nextOfWater 39 = .ok (.iload_n 3, 1) := by decide +kernel
theorem dX8_nextOfWater_40 : decode cX8_nextOfWater 40 = .ok (.iconst 1, 1) := by decide +kernel
theorem dX8_nextOfWater_41 : decode cX8_nextOfWater 41 = .ok (.isub, 1) := by decide +kernel
theorem dX8_nextOfWater_42 : decode cX8_nextOfWater 42 = .ok (.invokevirtual 41, 3) := by decide +kernel
theorem dX8_nextOfWater_45 : decode cX8_nextOfWater 45 = .ok (.istore 4, 2) := by decide +kernel
theorem dX8_nextOfWater_47 : decode cX8_nextOfWater 47 = .ok (.aload_n 0, 1) := by decide +kernel
theorem dX8_nextOfWater_48 : decode cX8_nextOfWater 48 = .ok (.iload 4, 2) := by decide +kernel
theorem dX8_nextOfWater_50 : decode cX8_nextOfWater 50 = .ok (.iload_n 2, 1) := by decide +kernel
theorem dX8_nextOfWater_51 : decode cX8_nextOfWater 51 = .ok (.iload_n 3, 1) := by decide +kernel
theorem dX8_nextOfWater_52 : decode cX8_nextOfWater 52 = .ok (.iconst 1, 1) := by decide +kernel
theorem dX8_nextOfWater_53 : decode cX8_nextOfWater 53 = .ok (.iadd, 1) := by decide +kernel
theorem dX8_nextOfWater_54 : decode cX8_nextOfWater 54 = .ok (.invokevirtual 41, 3) := by decide +kernel
theorem dX8_nextOfWater_57 : decode cX8_nextOfWater 57 = .ok (.istore 4, 2) := by decide +kernel
theorem dX8_nextOfWater_59 : decode cX8_nextOfWater 59 = .ok (.aload_n 0, 1) := by decide +kernel
theorem dX8_nextOfWater_60 : decode cX8_nextOfWater 60 = .ok (.iload 4, 2) := by decide +kernel
end
section
theorem dX8_nextOfWater_62 : decode cX8_nextOfWater 62 = .ok (.iload_n 2, 1) := by decide +kernel
theorem dX8_nextOfWater_63 : decode cX8_nextOfWater 63 = .ok (.iconst 1, 1) := by decide +kernel
theorem dX8_nextOfWater_64 : decode cX8_nextOfWater 64 = .ok (.iadd, 1) := by decide +kernel
theorem dX8_nextOfWater_65 : decode cX8_nextOfWater 65 = .ok (.iload_n 3, 1) := by decide +kernel
theorem dX8_nextOfWater_66 : decode cX8_nextOfWater 66 = .ok (.invokevirtual 41, 3) := by decide +kernel
theorem dX8_nextOfWater_69 : decode cX8_nextOfWater 69 = .ok (.ireturn, 1) := by decide +kernel
theorem dX8_lowerOf_0 : decode cX8_lowerOf 0 = .ok (.aload_n 0, 1) := by decide +kernel
theorem dX8_lowerOf_1 : decode cX8_lowerOf 1 = .ok (.iload_n 2, 1) := by decide +kernel
theorem dX8_lowerOf_2 : decode cX8_lowerOf 2 = .ok (.iload_n 3, 1) := by decide +kernel
theorem dX8_lowerOf_3 : decode cX8_lowerOf 3 = .ok (.invokevirtual 45, 3) := by decide +kernel
theorem dX8_lowerOf_6 : decode cX8_lowerOf 6 = .ok (.ifCond .ne 5, 3) := by decide +kernel
theorem dX8_lowerOf_9 : decode cX8_lowerOf 9 = .ok (.iload_n 1, 1) := by decide +kernel
theorem dX8_lowerOf_10 : decode cX8_lowerOf 10 = .ok (.ireturn, 1) := by decide +kernel
theorem dX8_lowerOf_11 : decode cX8_lowerOf 11 = .ok (.aload_n 0, 1) := by decide +kernel
theorem dX8_lowerOf_12 : decode cX8_lowerOf 12 = .ok (.iload_n 2, 1) := by decide +kernel
theorem dX8_lowerOf_13 : decode cX8_lowerOf 13 = .ok (.iload_n 3, 1) := by decide +kernel
theorem dX8_lowerOf_14 : decode cX8_lowerOf 14 = .ok (.invokevirtual 49, 3) := by decide +kernel
theorem dX8_lowerOf_17 : decode cX8_lowerOf 17 = .ok (.istore 4, 2) := by decide +kernel
theorem dX8_lowerOf_19 : decode cX8_lowerOf 19 = .ok (.aload_n 0, 1) := by decide +kernel
theorem dX8_lowerOf_20 : decode cX8_lowerOf 20 = .ok (.getfield 18, 3) := by decide +kernel
theorem dX8_lowerOf_23 : decode cX8_lowerOf 23 = .ok (.iload 4, 2) := by decide +kernel
theorem dX8_lowerOf_25 : decode cX8_lowerOf 25 = .ok (.iaload, 1) := by decide +kernel
theorem dX8_lowerOf_26 : decode cX8_lowerOf 26 = .ok (.aload_n 0, 1) := by decide +kernel
theorem dX8_lowerOf_27 : decode cX8_lowerOf 27 = .ok (.getfield 18, 3) := by decide +kernel
theorem dX8_lowerOf_30 : decode cX8_lowerOf 30 = .ok (.iload_n 1, 1) := by decide +kernel
theorem dX8_lowerOf_31 : decode cX8_lowerOf 31 = .ok (.iaload, 1) := by decide +kernel
theorem dX8_lowerOf_32 : decode cX8_lowerOf 32 = .ok (.if_icmp .ge 8, 3) := by decide +kernel
theorem dX8_lowerOf_35 : decode cX8_lowerOf 35 = .ok (.iload 4, 2) := by decide +kernel
theorem dX8_lowerOf_37 : decode cX8_lowerOf 37 = .ok (.goto 4, 3) := by decide +kernel
theorem dX8_lowerOf_40 : decode cX8_lowerOf 40 = .ok (.iload_n 1, 1) := by decide +kernel
theorem dX8_lowerOf_41 : decode cX8_lowerOf 41 = .ok (.ireturn, 1) := by decide +kernel
theorem dX8_endOfWater_0 : decode cX8_endOfWater 0 = .ok (.iload_n 1, 1) := by decide +kernel
theorem dX8_endOfWater_1 : decode cX8_endOfWater 1 = .ok (.istore_n 2, 1) := by decide +kernel
theorem dX8_endOfWater_2 : decode cX8_endOfWater 2 = .ok (.iconst 0, 1) := by decide +kernel
theorem dX8_endOfWater_3 : decode cX8_endOfWater 3 = .ok (.istore_n 3, 1) := by decide +kernel
theorem dX8_endOfWater_4 : decode cX8_endOfWater 4 = .ok (.iload_n 3, 1) := by decide +kernel
theorem dX8_endOfWater_5 : decode cX8_endOfWater 5 = .ok (.sipush 144, 3) := by decide +kernel
theorem dX8_endOfWater_8 : decode cX8_endOfWater 8 = .ok (.if_icmp .ge 27, 3) := by decide +kernel
theorem dX8_endOfWater_11 : decode cX8_endOfWater 11 = .ok (.aload_n 0, 1) := by decide +kernel
theorem dX8_endOfWater_12 : decode cX8_endOfWater 12 = .ok (.iload_n 2, 1) := by decide +kernel
theorem dX8_endOfWater_13 : decode cX8_endOfWater 13 = .ok (.invokevirtual 53, 3) := by decide +kernel
theorem dX8_endOfWater_16 : decode cX8_endOfWater 16 = .ok (.istore 4, 2) := by decide +kernel
theorem dX8_endOfWater_18 : decode cX8_endOfWater 18 = .ok (.iload 4, 2) := by decide +kernel
theorem dX8_endOfWater_20 : decode cX8_endOfWater 20 = .ok (.iload_n 2, 1) := by decide +kernel
theorem dX8_endOfWater_21 : decode cX8_endOfWater 21 = .ok (.if_icmp .ne 5, 3) := by decide +kernel
theorem dX8_endOfWater_24 : decode cX8_endOfWater 24 = .ok (.iload_n 2, 1) := by decide +kernel
theorem dX8_endOfWater_25 : decode cX8_endOfWater 25 = .ok (.ireturn, 1) := by decide +kernel
theorem dX8_endOfWater_26 : decode cX8_endOfWater 26 = .ok (.iload 4, 2) := by decide +kernel
theorem dX8_endOfWater_28 : decode cX8_endOfWater 28 = .ok (.istore_n 2, 1) := by decide +kernel
theorem dX8_endOfWater_29 : decode cX8_endOfWater 29 = .ok (.iinc 3 1, 3) := by decide +kernel
theorem dX8_endOfWater_32 : decode cX8_endOfWater 32 = .ok (.goto (-28), 3) := by decide +kernel
theorem dX8_endOfWater_35 : decode cX8_endOfWater 35 = .ok (.iload_n 2, 1) := by decide +kernel
theorem dX8_endOfWater_36 : decode cX8_endOfWater 36 = .ok (.ireturn, 1) := by decide +kernel
theorem dX8_wearAt_0 : decode cX8_wearAt 0 = .ok (.aload_n 0, 1) := by decide +kernel
theorem dX8_wearAt_1 : decode cX8_wearAt 1 = .ok (.iload_n 2, 1) := by decide +kernel
theorem dX8_wearAt_2 : decode cX8_wearAt 2 = .ok (.invokevirtual 56, 3) := by decide +kernel
theorem dX8_wearAt_5 : decode cX8_wearAt 5 = .ok (.istore_n 3, 1) := by decide +kernel
theorem dX8_wearAt_6 : decode cX8_wearAt 6 = .ok (.iconst 0, 1) := by decide +kernel
theorem dX8_wearAt_7 : decode cX8_wearAt 7 = .ok (.istore 4, 2) := by decide +kernel
theorem dX8_wearAt_9 : decode cX8_wearAt 9 = .ok (.aload_n 0, 1) := by decide +kernel
theorem dX8_wearAt_10 : decode cX8_wearAt 10 = .ok (.getfield 59, 3) := by decide +kernel
theorem dX8_wearAt_13 : decode cX8_wearAt 13 = .ok (.istore 5, 2) := by decide +kernel
theorem dX8_wearAt_15 : decode cX8_wearAt 15 = .ok (.iload 5, 2) := by decide +kernel
theorem dX8_wearAt_17 : decode cX8_wearAt 17 = .ok (.iload_n 1, 1) := by decide +kernel
theorem dX8_wearAt_18 : decode cX8_wearAt 18 = .ok (.if_icmp .ge 63, 3) := by decide +kernel
theorem dX8_wearAt_21 : decode cX8_wearAt 21 = .ok (.iload 5, 2) := by decide +kernel
theorem dX8_wearAt_23 : decode cX8_wearAt 23 = .ok (.ifCond .lt 28, 3) := by decide +kernel
theorem dX8_wearAt_26 : decode cX8_wearAt 26 = .ok (.iload 5, 2) := by decide +kernel
theorem dX8_wearAt_28 : decode cX8_wearAt 28 = .ok (.aload_n 0, 1) := by decide +kernel
theorem dX8_wearAt_29 : decode cX8_wearAt 29 = .ok (.getfield 31, 3) := by decide +kernel
theorem dX8_wearAt_32 : decode cX8_wearAt 32 = .ok (.arraylength, 1) := by decide +kernel
theorem dX8_wearAt_33 : decode cX8_wearAt 33 = .ok (.if_icmp .ge 18, 3) := by decide +kernel
theorem dX8_wearAt_36 : decode cX8_wearAt 36 = .ok (.aload_n 0, 1) := by decide +kernel
theorem dX8_wearAt_37 : decode cX8_wearAt 37 = .ok (.getfield 31, 3) := by decide +kernel
theorem dX8_wearAt_40 : decode cX8_wearAt 40 = .ok (.iload 5, 2) := by decide +kernel
theorem dX8_wearAt_42 : decode cX8_wearAt 42 = .ok (.iaload, 1) := by decide +kernel
theorem dX8_wearAt_43 : decode cX8_wearAt 43 = .ok (.iconst (-1), 1) := by decide +kernel
theorem dX8_wearAt_44 : decode cX8_wearAt 44 = .ok (.if_icmp .eq 7, 3) := by decide +kernel
theorem dX8_wearAt_47 : decode cX8_wearAt 47 = .ok (.iconst 1, 1) := by decide +kernel
theorem dX8_wearAt_48 : decode cX8_wearAt 48 = .ok (.goto 4, 3) := by decide +kernel
theorem dX8_wearAt_51 : decode cX8_wearAt 51 = .ok (.iconst 0, 1) := by decide +kernel
theorem dX8_wearAt_52 : decode cX8_wearAt 52 = .ok (.istore 6, 2) := by decide +kernel
theorem dX8_wearAt_54 : decode cX8_wearAt 54 = .ok (.iload 4, 2) := by decide +kernel
theorem dX8_wearAt_56 : decode cX8_wearAt 56 = .ok (.iload 6, 2) := by decide +kernel
theorem dX8_wearAt_58 : decode cX8_wearAt 58 = .ok (.ifCond .eq 13, 3) := by decide +kernel
theorem dX8_wearAt_61 : decode cX8_wearAt 61 = .ok (.aload_n 0, 1) := by decide +kernel
theorem dX8_wearAt_62 : decode cX8_wearAt 62 = .ok (.getfield 31, 3) := by decide +kernel
theorem dX8_wearAt_65 : decode cX8_wearAt 65 = .ok (.iload 5, 2) := by decide +kernel
theorem dX8_wearAt_67 : decode cX8_wearAt 67 = .ok (.iaload, 1) := by decide +kernel
theorem dX8_wearAt_68 : decode cX8_wearAt 68 = .ok (.goto 4, 3) := by decide +kernel
theorem dX8_wearAt_71 : decode cX8_wearAt 71 = .ok (.iload_n 3, 1) := by decide +kernel
theorem dX8_wearAt_72 : decode cX8_wearAt 72 = .ok (.iadd, 1) := by decide +kernel
theorem dX8_wearAt_73 : decode cX8_wearAt 73 = .ok (.istore 4, 2) := by decide +kernel
theorem dX8_wearAt_75 : decode cX8_wearAt 75 = .ok (.iinc 5 1, 3) := by decide +kernel
theorem dX8_wearAt_78 : decode cX8_wearAt 78 = .ok (.goto (-63), 3) := by decide +kernel
theorem dX8_wearAt_81 : decode cX8_wearAt 81 = .ok (.iload 4, 2) := by decide +kernel
theorem dX8_wearAt_83 : decode cX8_wearAt 83 = .ok (.ireturn, 1) := by decide +kernel
theorem dX8_meanWheels_0 : decode cX8_meanWheels 0 = .ok (.iconst 0, 1) := by decide +kernel
theorem dX8_meanWheels_1 : decode cX8_meanWheels 1 = .ok (.istore_n 2, 1) := by decide +kernel
theorem dX8_meanWheels_2 : decode cX8_meanWheels 2 = .ok (.iconst 0, 1) := by decide +kernel
theorem dX8_meanWheels_3 : decode cX8_meanWheels 3 = .ok (.istore_n 3, 1) := by decide +kernel
theorem dX8_meanWheels_4 : decode cX8_meanWheels 4 = .ok (.iconst 0, 1) := by decide +kernel
theorem dX8_meanWheels_5 : decode cX8_meanWheels 5 = .ok (.istore 4, 2) := by decide +kernel
theorem dX8_meanWheels_7 : decode cX8_meanWheels 7 = .ok (.iload 4, 2) := by decide +kernel
theorem dX8_meanWheels_9 : decode cX8_meanWheels 9 = .ok (.iload_n 1, 1) := by decide +kernel
theorem dX8_meanWheels_10 : decode cX8_meanWheels 10 = .ok (.if_icmp .ge 43, 3) := by decide +kernel
theorem dX8_meanWheels_13 : decode cX8_meanWheels 13 = .ok (.iload 4, 2) := by decide +kernel
theorem dX8_meanWheels_15 : decode cX8_meanWheels 15 = .ok (.aload_n 0, 1) := by decide +kernel
theorem dX8_meanWheels_16 : decode cX8_meanWheels 16 = .ok (.getfield 31, 3) := by decide +kernel
theorem dX8_meanWheels_19 : decode cX8_meanWheels 19 = .ok (.arraylength, 1) := by decide +kernel
theorem dX8_meanWheels_20 : decode cX8_meanWheels 20 = .ok (.if_icmp .ge 33, 3) := by decide +kernel
theorem dX8_meanWheels_23 : decode cX8_meanWheels 23 = .ok (.aload_n 0, 1) := by decide +kernel
theorem dX8_meanWheels_24 : decode cX8_meanWheels 24 = .ok (.getfield 31, 3) := by decide +kernel
theorem dX8_meanWheels_27 : decode cX8_meanWheels 27 = .ok (.iload 4, 2) := by decide +kernel
theorem dX8_meanWheels_29 : decode cX8_meanWheels 29 = .ok (.iaload, 1) := by decide +kernel
theorem dX8_meanWheels_30 : decode cX8_meanWheels 30 = .ok (.iconst (-1), 1) := by decide +kernel
theorem dX8_meanWheels_31 : decode cX8_meanWheels 31 = .ok (.if_icmp .eq 16, 3) := by decide +kernel
theorem dX8_meanWheels_34 : decode cX8_meanWheels 34 = .ok (.iload_n 2, 1) := by decide +kernel
theorem dX8_meanWheels_35 : decode cX8_meanWheels 35 = .ok (.aload_n 0, 1) := by decide +kernel
theorem dX8_meanWheels_36 : decode cX8_meanWheels 36 = .ok (.getfield 31, 3) := by decide +kernel
theorem dX8_meanWheels_39 : decode cX8_meanWheels 39 = .ok (.iload 4, 2) := by decide +kernel
theorem dX8_meanWheels_41 : decode cX8_meanWheels 41 = .ok (.iaload, 1) := by decide +kernel
theorem dX8_meanWheels_42 : decode cX8_meanWheels 42 = .ok (.iadd, 1) := by decide +kernel
theorem dX8_meanWheels_43 : decode cX8_meanWheels 43 = .ok (.istore_n 2, 1) := by decide +kernel
theorem dX8_meanWheels_44 : decode cX8_meanWheels 44 = .ok (.iinc 3 1, 3) := by decide +kernel
theorem dX8_meanWheels_47 : decode cX8_meanWheels 47 = .ok (.iinc 4 1, 3) := by decide +kernel
theorem dX8_meanWheels_50 : decode cX8_meanWheels 50 = .ok (.goto (-43), 3) := by decide +kernel
theorem dX8_meanWheels_53 : decode cX8_meanWheels 53 = .ok (.iload_n 3, 1) := by decide +kernel
theorem dX8_meanWheels_54 : decode cX8_meanWheels 54 = .ok (.ifCond .ne 7, 3) := by decide +kernel
theorem dX8_meanWheels_57 : decode cX8_meanWheels 57 = .ok (.iconst 0, 1) := by decide +kernel
theorem dX8_meanWheels_58 : decode cX8_meanWheels 58 = .ok (.goto 6, 3) := by decide +kernel
theorem dX8_meanWheels_61 : decode cX8_meanWheels 61 = .ok (.iload_n 2, 1) := by decide +kernel
theorem dX8_meanWheels_62 : decode cX8_meanWheels 62 = .ok (.iload_n 3, 1) := by decide +kernel
theorem dX8_meanWheels_63 : decode cX8_meanWheels 63 = .ok (.idiv, 1) := by decide +kernel
theorem dX8_meanWheels_64 : decode cX8_meanWheels 64 = .ok (.ireturn, 1) := by decide +kernel
theorem dX8_costIn_0 : decode cX8_costIn 0 = .ok (.iload_n 1, 1) := by decide +kernel
theorem dX8_costIn_1 : decode cX8_costIn 1 = .ok (.aload_n 0, 1) := by decide +kernel
theorem dX8_costIn_2 : decode cX8_costIn 2 = .ok (.getfield 62, 3) := by decide +kernel
theorem dX8_costIn_5 : decode cX8_costIn 5 = .ok (.if_icmp .ne 15, 3) := by decide +kernel
theorem dX8_costIn_8 : decode cX8_costIn 8 = .ok (.aload_n 0, 1) := by decide +kernel
theorem dX8_costIn_9 : decode cX8_costIn 9 = .ok (.getfield 65, 3) := by decide +kernel
theorem dX8_costIn_12 : decode cX8_costIn 12 = .ok (.aload_n 0, 1) := by decide +kernel
theorem dX8_costIn_13 : decode cX8_costIn 13 = .ok (.getfield 68, 3) := by decide +kernel
theorem dX8_costIn_16 : decode cX8_costIn 16 = .ok (.isub, 1) := by decide +kernel
theorem dX8_costIn_17 : decode cX8_costIn 17 = .ok (.goto 7, 3) := by decide +kernel
theorem dX8_costIn_20 : decode cX8_costIn 20 = .ok (.aload_n 0, 1) := by decide +kernel
theorem dX8_costIn_21 : decode cX8_costIn 21 = .ok (.getfield 65, 3) := by decide +kernel
theorem dX8_costIn_24 : decode cX8_costIn 24 = .ok (.ireturn, 1) := by decide +kernel
theorem dX9_init_0 : decode cX9_init 0 = .ok (.aload_n 0, 1) := by decide +kernel
theorem dX9_init_1 : decode cX9_init 1 = .ok (.invokespecial 3, 3) := by decide +kernel
theorem dX9_init_4 : decode cX9_init 4 = .ok (.aload_n 0, 1) := by decide +kernel
theorem dX9_init_5 : decode cX9_init 5 = .ok (.bipush 6, 2) := by decide +kernel
theorem dX9_init_7 : decode cX9_init 7 = .ok (.newarray .int, 2) := by decide +kernel
theorem dX9_init_9 : decode cX9_init 9 = .ok (.putfield 11, 3) := by decide +kernel
theorem dX9_init_12 : decode cX9_init 12 = .ok (.aload_n 0, 1) := by decide +kernel
theorem dX9_init_13 : decode cX9_init 13 = .ok (.iconst 0, 1) := by decide +kernel
theorem dX9_init_14 : decode cX9_init 14 = .ok (.newarray .byte, 2) := by decide +kernel
theorem dX9_init_16 : decode cX9_init 16 = .ok (.putfield 15, 3) := by decide +kernel
theorem dX9_init_19 : decode cX9_init 19 = .ok (.aload_n 0, 1) := by decide +kernel
theorem dX9_init_20 : decode cX9_init 20 = .ok (.ldc 19, 2) := by decide +kernel
theorem dX9_init_22 : decode cX9_init 22 = .ok (.putfield 21, 3) := by decide +kernel
theorem dX9_init_25 : decode cX9_init 25 = .ok (.return_, 1) := by decide +kernel
theorem dX9_readText_0 : decode cX9_readText 0 = .ok (.aload_n 0, 1) := by decide +kernel
theorem dX9_readText_1 : decode cX9_readText 1 = .ok (.aload_n 1, 1) := by decide +kernel
theorem dX9_readText_2 : decode cX9_readText 2 = .ok (.putfield 15, 3) := by decide +kernel
theorem dX9_readText_5 : decode cX9_readText 5 = .ok (.aload_n 0, 1) := by decide +kernel
theorem dX9_readText_6 : decode cX9_readText 6 = .ok (.iload_n 2, 1) := by decide +kernel
theorem dX9_readText_7 : decode cX9_readText 7 = .ok (.aload_n 1, 1) := by decide +kernel
theorem dX9_readText_8 : decode cX9_readText 8 = .ok (.arraylength, 1) := by decide +kernel
theorem dX9_readText_9 : decode cX9_readText 9 = .ok (.invokestatic 25, 3) := by decide +kernel
theorem dX9_readText_12 : decode cX9_readText 12 = .ok (.putfield 31, 3) := by decide +kernel
theorem dX9_readText_15 : decode cX9_readText 15 = .ok (.aload_n 0, 1) := by decide +kernel
theorem dX9_readText_16 : decode cX9_readText 16 = .ok (.iconst 0, 1) := by decide +kernel
theorem dX9_readText_17 : decode cX9_readText 17 = .ok (.putfield 35, 3) := by decide +kernel
theorem dX9_readText_20 : decode cX9_readText 20 = .ok (.aload_n 0, 1) := by decide +kernel
theorem dX9_readText_21 : decode cX9_readText 21 = .ok (.iload_n 3, 1) := by decide +kernel
theorem dX9_readText_22 : decode cX9_readText 22 = .ok (.ifCond .ne 8, 3) := by decide +kernel
theorem dX9_readText_25 : decode cX9_readText 25 = .ok (.ldc 19, 2) := by decide +kernel
theorem dX9_readText_27 : decode cX9_readText 27 = .ok (.goto 5, 3) := by decide +kernel
theorem dX9_readText_30 : decode cX9_readText 30 = .ok (.ldc 38, 2) := by decide +kernel
theorem dX9_readText_32 : decode cX9_readText 32 = .ok (.putfield 21, 3) := by decide +kernel
theorem dX9_readText_35 : decode cX9_readText 35 = .ok (.aload_n 0, 1) := by decide +kernel
theorem dX9_readText_36 : decode cX9_readText 36 = .ok (.iconst (-1), 1) := by decide +kernel
theorem dX9_readText_37 : decode cX9_readText 37 = .ok (.putfield 40, 3) := by decide +kernel
theorem dX9_readText_40 : decode cX9_readText 40 = .ok (.aload_n 0, 1) := by decide +kernel
theorem dX9_readText_41 : decode cX9_readText 41 = .ok (.iconst (-1), 1) := by decide +kernel
theorem dX9_readText_42 : decode cX9_readText 42 = .ok (.putfield 43, 3) := by decide +kernel
theorem dX9_readText_45 : decode cX9_readText 45 = .ok (.iconst 0, 1) := by decide +kernel
theorem dX9_readText_46 : decode cX9_readText 46 = .ok (.istore 4, 2) := by decide +kernel
theorem dX9_readText_48 : decode cX9_readText 48 = .ok (.iconst 0, 1) := by decide +kernel
theorem dX9_readText_49 : decode cX9_readText 49 = .ok (.istore 5, 2) := by decide +kernel
theorem dX9_readText_51 : decode cX9_readText 51 = .ok (.iload 5, 2) := by decide +kernel
theorem dX9_readText_53 : decode cX9_readText 53 = .ok (.sipush 160, 3) := by decide +kernel
theorem dX9_readText_56 : decode cX9_readText 56 = .ok (.if_icmp .gt 86, 3) := by decide +kernel
theorem dX9_readText_59 : decode cX9_readText 59 = .ok (.aload_n 0, 1) := by decide +kernel
theorem dX9_readText_60 : decode cX9_readText 60 = .ok (.iload 5, 2) := by decide +kernel
theorem dX9_readText_62 : decode cX9_readText 62 = .ok (.invokevirtual 46, 3) := by decide +kernel
theorem dX9_readText_65 : decode cX9_readText 65 = .ok (.istore 6, 2) := by decide +kernel
theorem dX9_readText_67 : decode cX9_readText 67 = .ok (.aload_n 0, 1) := by decide +kernel
theorem dX9_readText_68 : decode cX9_readText 68 = .ok (.getfield 43, 3) := by decide +kernel
theorem dX9_readText_71 : decode cX9_readText 71 = .ok (.iload 5, 2) := by decide +kernel
theorem dX9_readText_73 : decode cX9_readText 73 = .ok (.if_icmp .ne 7, 3) := by decide +kernel
theorem dX9_readText_76 : decode cX9_readText 76 = .ok (.iload 6, 2) := by decide +kernel
theorem dX9_readText_78 : decode cX9_readText 78 = .ok (.istore 4, 2) := by decide +kernel
theorem dX9_readText_80 : decode cX9_readText 80 = .ok (.aload_n 0, 1) := by decide +kernel
theorem dX9_readText_81 : decode cX9_readText 81 = .ok (.getfield 40, 3) := by decide +kernel
theorem dX9_readText_84 : decode cX9_readText 84 = .ok (.iconst (-1), 1) := by decide +kernel
theorem dX9_readText_85 : decode cX9_readText 85 = .ok (.if_icmp .ne 11, 3) := by decide +kernel
theorem dX9_readText_88 : decode cX9_readText 88 = .ok (.aload_n 0, 1) := by decide +kernel
theorem dX9_readText_89 : decode cX9_readText 89 = .ok (.invokevirtual 50, 3) := by decide +kernel
theorem dX9_readText_92 : decode cX9_readText 92 = .ok (.iconst (-1), 1) := by decide +kernel
theorem dX9_readText_93 : decode cX9_readText 93 = .ok (.if_icmp .ne 6, 3) := by decide +kernel
theorem dX9_readText_96 : decode cX9_readText 96 = .ok (.iload 4, 2) := by decide +kernel
theorem dX9_readText_98 : decode cX9_readText 98 = .ok (.ireturn, 1) := by decide +kernel
theorem dX9_readText_99 : decode cX9_readText 99 = .ok (.aload_n 0, 1) := by decide +kernel
theorem dX9_readText_100 : decode cX9_readText 100 = .ok (.invokevirtual 50, 3) := by decide +kernel
theorem dX9_readText_103 : decode cX9_readText 103 = .ok (.bipush 59, 2) := by decide +kernel
theorem dX9_readText_105 : decode cX9_readText 105 = .ok (.if_icmp .eq 10, 3) := by decide +kernel
theorem dX9_readText_108 : decode cX9_readText 108 = .ok (.aload_n 0, 1) := by decide +kernel
theorem dX9_readText_109 : decode cX9_readText 109 = .ok (.invokevirtual 54, 3) := by decide +kernel
theorem dX9_readText_112 : decode cX9_readText 112 = .ok (.iload 4, 2) := by decide +kernel
theorem dX9_readText_114 : decode cX9_readText 114 = .ok (.ireturn, 1) := by decide +kernel
theorem dX9_readText_115 : decode cX9_readText 115 = .ok (.aload_n 0, 1) := by decide +kernel
theorem dX9_readText_116 : decode cX9_readText 116 = .ok (.dup, 1) := by decide +kernel
theorem dX9_readText_117 : decode cX9_readText 117 = .ok (.getfield 35, 3) := by decide +kernel
theorem dX9_readText_120 : decode cX9_readText 120 = .ok (.iconst 1, 1) := by decide +kernel
theorem dX9_readText_121 : decode cX9_readText 121 = .ok (.iadd, 1) := by decide +kernel
theorem dX9_readText_122 : decode cX9_readText 122 = .ok (.putfield 35, 3) := by decide +kernel
theorem dX9_readText_125 : decode cX9_readText 125 = .ok (.aload_n 0, 1) := by decide +kernel
theorem dX9_readText_126 : decode cX9_readText 126 = .ok (.invokevirtual 50, 3) := by decide +kernel
theorem dX9_readText_129 : decode cX9_readText 129 = .ok (.iconst (-1), 1) := by decide +kernel
theorem dX9_readText_130 : decode cX9_readText 130 = .ok (.if_icmp .ne 6, 3) := by decide +kernel
theorem dX9_readText_133 : decode cX9_readText 133 = .ok (.iload 4, 2) := by decide +kernel
theorem dX9_readText_135 : decode cX9_readText 135 = .ok (.ireturn, 1) := by decide +kernel
theorem dX9_readText_136 : decode cX9_readText 136 = .ok (.iinc 5 1, 3) := by decide +kernel
theorem dX9_readText_139 : decode cX9_readText 139 = .ok (.goto (-88), 3) := by decide +kernel
theorem dX9_readText_142 : decode cX9_readText 142 = .ok (.iload 4, 2) := by decide +kernel
theorem dX9_readText_144 : decode cX9_readText 144 = .ok (.ireturn, 1) := by decide +kernel
theorem dX9_readClause_0 : decode cX9_readClause 0 = .ok (.aload_n 0, 1) := by decide +kernel
theorem dX9_readClause_1 : decode cX9_readClause 1 = .ok (.iconst 0, 1) := by decide +kernel
theorem dX9_readClause_2 : decode cX9_readClause 2 = .ok (.invokevirtual 57, 3) := by decide +kernel
theorem dX9_readClause_5 : decode cX9_readClause 5 = .ok (.istore_n 2, 1) := by decide +kernel
theorem dX9_readClause_6 : decode cX9_readClause 6 = .ok (.iconst 1, 1) := by decide +kernel
theorem dX9_readClause_7 : decode cX9_readClause 7 = .ok (.istore_n 3, 1) := by decide +kernel
theorem dX9_readClause_8 : decode cX9_readClause 8 = .ok (.aload_n 0, 1) := by decide +kernel
theorem dX9_readClause_9 : decode cX9_readClause 9 = .ok (.getfield 40, 3) := by decide +kernel
theorem dX9_readClause_12 : decode cX9_readClause 12 = .ok (.iconst (-1), 1) := by decide +kernel
theorem dX9_readClause_13 : decode cX9_readClause 13 = .ok (.if_icmp .ne 38, 3) := by decide +kernel
theorem dX9_readClause_16 : decode cX9_readClause 16 = .ok (.aload_n 0, 1) := by decide +kernel
theorem dX9_readClause_17 : decode cX9_readClause 17 = .ok (.invokevirtual 50, 3) := by decide +kernel
theorem dX9_readClause_20 : decode cX9_readClause 20 = .ok (.bipush 63, 2) := by decide +kernel
theorem dX9_readClause_22 : decode cX9_readClause 22 = .ok (.if_icmp .ne 29, 3) := by decide +kernel
theorem dX9_readClause_25 : decode cX9_readClause 25 = .ok (.aload_n 0, 1) := by decide +kernel
theorem dX9_readClause_26 : decode cX9_readClause 26 = .ok (.dup, 1) := by decide +kernel
theorem dX9_readClause_27 : decode cX9_readClause 27 = .ok (.getfield 35, 3) := by decide +kernel
theorem dX9_readClause_30 : decode cX9_readClause 30 = .ok (.iconst 1, 1) := by decide +kernel
theorem dX9_readClause_31 : decode cX9_readClause 31 = .ok (.iadd, 1) := by decide +kernel
theorem dX9_readClause_32 : decode cX9_readClause 32 = .ok (.putfield 35, 3) := by decide +kernel
theorem dX9_readClause_35 : decode cX9_readClause 35 = .ok (.iload_n 2, 1) := by decide +kernel
theorem dX9_readClause_36 : decode cX9_readClause 36 = .ok (.ifCond .eq 7, 3) := by decide +kernel
theorem dX9_readClause_39 : decode cX9_readClause 39 = .ok (.iconst 1, 1) := by decide +kernel
theorem dX9_readClause_40 : decode cX9_readClause 40 = .ok (.goto 4, 3) := by decide +kernel
theorem dX9_readClause_43 : decode cX9_readClause 43 = .ok (.iconst 0, 1) := by decide +kernel
theorem dX9_readClause_44 : decode cX9_readClause 44 = .ok (.istore_n 3, 1) := by decide +kernel
theorem dX9_readClause_45 : decode cX9_readClause 45 = .ok (.aload_n 0, 1) := by decide +kernel
theorem dX9_readClause_46 : decode cX9_readClause 46 = .ok (.iconst 0, 1) := by decide +kernel
theorem dX9_readClause_47 : decode cX9_readClause 47 = .ok (.invokevirtual 57, 3) := by decide +kernel
theorem dX9_readClause_50 : decode cX9_readClause 50 = .ok (.istore_n 2, 1) := by decide +kernel
theorem dX9_readClause_51 : decode cX9_readClause 51 = .ok (.iload_n 3, 1) := by decide +kernel
theorem dX9_readClause_52 : decode cX9_readClause 52 = .ok (.ifCond .eq 16, 3) := by decide +kernel
theorem dX9_readClause_55 : decode cX9_readClause 55 = .ok (.aload_n 0, 1) := by decide +kernel
theorem dX9_readClause_56 : decode cX9_readClause 56 = .ok (.getfield 43, 3) := by decide +kernel
theorem dX9_readClause_59 : decode cX9_readClause 59 = .ok (.iconst (-1), 1) := by decide +kernel
theorem dX9_readClause_60 : decode cX9_readClause 60 = .ok (.if_icmp .ne 8, 3) := by decide +kernel
theorem dX9_readClause_63 : decode cX9_readClause 63 = .ok (.aload_n 0, 1) := by decide +kernel
theorem dX9_readClause_64 : decode cX9_readClause 64 = .ok (.iload_n 1, 1) := by decide +kernel
theorem dX9_readClause_65 : decode cX9_readClause 65 = .ok (.putfield 43, 3) := by decide +kernel
theorem dX9_readClause_68 : decode cX9_readClause 68 = .ok (.iload_n 2, 1) := by decide +kernel
theorem dX9_readClause_69 : decode cX9_readClause 69 = .ok (.ireturn, 1) := by decide +kernel
theorem dX9_readExpression_0 : decode cX9_readExpression 0 = .ok (.aload_n 0, 1) := by decide +kernel
theorem dX9_readExpression_1 : decode cX9_readExpression 1 = .ok (.iload_n 1, 1) := by decide +kernel
theorem dX9_readExpression_2 : decode cX9_readExpression 2 = .ok (.invokevirtual 60, 3) := by decide +kernel
theorem dX9_readExpression_5 : decode cX9_readExpression 5 = .ok (.istore_n 2, 1) := by decide +kernel
theorem dX9_readExpression_6 : decode cX9_readExpression 6 = .ok (.aload_n 0, 1) := by decide +kernel
theorem dX9_readExpression_7 : decode cX9_readExpression 7 = .ok (.invokevirtual 50, 3) := by decide +kernel
theorem dX9_readExpression_10 : decode cX9_readExpression 10 = .ok (.istore_n 3, 1) := by decide +kernel
theorem dX9_readExpression_11 : decode cX9_readExpression 11 = .ok (.aload_n 0, 1) := by decide +kernel
theorem dX9_readExpression_12 : decode cX9_readExpression 12 = .ok (.getfield 40, 3) := by decide +kernel
theorem dX9_readExpression_15 : decode cX9_readExpression 15 = .ok (.iconst (-1), 1) := by decide +kernel
theorem dX9_readExpression_16 : decode cX9_readExpression 16 = .ok (.if_icmp .ne 21, 3) := by decide +kernel
theorem dX9_readExpression_19 : decode cX9_readExpression 19 = .ok (.iload_n 3, 1) := by decide +kernel
theorem dX9_readExpression_20 : decode cX9_readExpression 20 = .ok (.bipush 60, 2) := by decide +kernel
theorem dX9_readExpression_22 : decode cX9_readExpression 22 = .ok (.if_icmp .eq 17, 3) := by decide +kernel
theorem dX9_readExpression_25 : decode cX9_readExpression 25 = .ok (.iload_n 3, 1) := by decide +kernel
theorem dX9_readExpression_26 : decode cX9_readExpression 26 = .ok (.bipush 61, 2) := by decide +kernel
theorem dX9_readExpression_28 : decode cX9_readExpression 28 = .ok (.if_icmp .eq 11, 3) := by decide +kernel
theorem dX9_readExpression_31 : decode cX9_readExpression 31 = .ok (.iload_n 3, 1) := by decide +kernel
theorem dX9_readExpression_32 : decode cX9_readExpression 32 = .ok (.bipush 62, 2) := by decide +kernel
theorem dX9_readExpression_34 : decode cX9_readExpression 34 = .ok (.if_icmp .eq 5, 3) := by decide +kernel
theorem dX9_readExpression_37 : decode cX9_readExpression 37 = .ok (.iload_n 2, 1) := by decide +kernel
theorem dX9_readExpression_38 : decode cX9_readExpression 38 = .ok (.ireturn, 1) := by decide +kernel
theorem dX9_readExpression_39 : decode cX9_readExpression 39 = .ok (.aload_n 0, 1) := by decide +kernel
theorem dX9_readExpression_40 : decode cX9_readExpression 40 = .ok (.dup, 1) := by decide +kernel
theorem dX9_readExpression_41 : decode cX9_readExpression 41 = .ok (.getfield 35, 3) := by decide +kernel
theorem dX9_readExpression_44 : decode cX9_readExpression 44 = .ok (.iconst 1, 1) := by decide +kernel
theorem dX9_readExpression_45 : decode cX9_readExpression 45 = .ok (.iadd, 1) := by decide +kernel
theorem dX9_readExpression_46 : decode cX9_readExpression 46 = .ok (.putfield 35, 3) := by decide +kernel
theorem dX9_readExpression_49 : decode cX9_readExpression 49 = .ok (.aload_n 0, 1) := by decide +kernel
theorem dX9_readExpression_50 : decode cX9_readExpression 50 = .ok (.iload_n 1, 1) := by decide +kernel
theorem dX9_readExpression_51 : decode cX9_readExpression 51 = .ok (.invokevirtual 60, 3) := by decide +kernel
theorem dX9_readExpression_54 : decode cX9_readExpression 54 = .ok (.istore 4, 2) := by decide +kernel
theorem dX9_readExpression_56 : decode cX9_readExpression 56 = .ok (.iload_n 3, 1) := by decide +kernel
theorem dX9_readExpression_57 : decode cX9_readExpression 57 = .ok (.bipush 60, 2) := by decide +kernel
theorem dX9_readExpression_59 : decode cX9_readExpression 59 = .ok (.if_icmp .ne 17, 3) := by decide +kernel
theorem dX9_readExpression_62 : decode cX9_readExpression 62 = .ok (.iload_n 2, 1) := by decide +kernel
theorem dX9_readExpression_63 : decode cX9_readExpression 63 = .ok (.iload 4, 2) := by decide +kernel
theorem dX9_readExpression_65 : decode cX9_readExpression 65 = .ok (.if_icmp .ge 7, 3) := by decide +kernel
theorem dX9_readExpression_68 : decode cX9_readExpression 68 = .ok (.iconst 1, 1) := by decide +kernel
theorem dX9_readExpression_69 : decode cX9_readExpression 69 = .ok (.goto 38, 3) := by decide +kernel
theorem dX9_readExpression_72 : decode cX9_readExpression 72 = .ok (.iconst 0, 1) := by decide +kernel
theorem dX9_readExpression_73 : decode cX9_readExpression 73 = .ok (.goto 34, 3) := by decide +kernel
theorem dX9_readExpression_76 : decode cX9_readExpression 76 = .ok (.iload_n 3, 1) := by decide +kernel
theorem dX9_readExpression_77 : decode cX9_readExpression 77 = .ok (.bipush 62, 2) := by decide +kernel
theorem dX9_readExpression_79 : decode cX9_readExpression 79 = .ok (.if_icmp .ne 17, 3) := by decide +kernel
theorem dX9_readExpression_82 : decode cX9_readExpression 82 = .ok (.iload_n 2, 1) := by decide +kernel
theorem dX9_readExpression_83 : decode cX9_readExpression 83 = .ok (.iload 4, 2) := by decide +kernel
theorem dX9_readExpression_85 : decode cX9_readExpression 85 = .ok (.if_icmp .le 7, 3) := by decide +kernel
theorem dX9_readExpression_88 : decode cX9_readExpression 88 = .ok (.iconst 1, 1) := by decide +kernel
theorem dX9_readExpression_89 : decode cX9_readExpression 89 = .ok (.goto 18, 3) := by decide +kernel
theorem dX9_readExpression_92 : decode cX9_readExpression 92 = .ok (.iconst 0, 1) := by decide +kernel
theorem dX9_readExpression_93 : decode cX9_readExpression 93 = .ok (.goto 14, 3) := by decide +kernel
theorem dX9_readExpression_96 : decode cX9_readExpression 96 = .ok (.iload_n 2, 1) := by decide +kernel
theorem dX9_readExpression_97 : decode cX9_readExpression 97 = .ok (.iload 4, 2) := by decide +kernel
theorem dX9_readExpression_99 : decode cX9_readExpression 99 = .ok (.if_icmp .ne 7, 3) := by decide +kernel
theorem dX9_readExpression_102 : decode cX9_readExpression 102 = .ok (.iconst 1, 1) := by decide +kernel
theorem dX9_readExpression_103 : decode cX9_readExpression 103 = .ok (.goto 4, 3) := by decide +kernel
theorem dX9_readExpression_106 : decode cX9_readExpression 106 = .ok (.iconst 0, 1) := by decide +kernel
theorem dX9_readExpression_107 : decode cX9_readExpression 107 = .ok (.istore 5, 2) := by decide +kernel
theorem dX9_readExpression_109 : decode cX9_readExpression 109 = .ok (.iload 5, 2) := by decide +kernel
theorem dX9_readExpression_111 : decode cX9_readExpression 111 = .ok (.ifCond .eq 7, 3) := by decide +kernel
theorem dX9_readExpression_114 : decode cX9_readExpression 114 = .ok (.iconst 1, 1) := by decide +kernel
theorem dX9_readExpression_115 : decode cX9_readExpression 115 = .ok (.goto 4, 3) := by decide +kernel
theorem dX9_readExpression_118 : decode cX9_readExpression 118 = .ok (.iconst 0, 1) := by decide +kernel
theorem dX9_readExpression_119 : decode cX9_readExpression 119 = .ok (.ireturn, 1) := by decide +kernel
theorem dX9_readSum_0 : decode cX9_readSum 0 = .ok (.aload_n 0, 1) := by decide +kernel
theorem dX9_readSum_1 : decode cX9_readSum 1 = .ok (.iload_n 1, 1) := by decide +kernel
theorem dX9_readSum_2 : decode cX9_readSum 2 = .ok (.invokevirtual 63, 3) := by decide +kernel
theorem dX9_readSum_5 : decode cX9_readSum 5 = .ok (.istore_n 2, 1) := by decide +kernel
theorem dX9_readSum_6 : decode cX9_readSum 6 = .ok (.iconst 0, 1) := by decide +kernel
theorem dX9_readSum_7 : decode cX9_readSum 7 = .ok (.istore_n 3, 1) := by decide +kernel
theorem dX9_readSum_8 : decode cX9_readSum 8 = .ok (.iload_n 3, 1) := by decide +kernel
theorem dX9_readSum_9 : decode cX9_readSum 9 = .ok (.sipush 160, 3) := by decide +kernel
theorem dX9_readSum_12 : decode cX9_readSum 12 = .ok (.if_icmp .ge 75, 3) := by decide +kernel
theorem dX9_readSum_15 : decode cX9_readSum 15 = .ok (.aload_n 0, 1) := by decide +kernel
theorem dX9_readSum_16 : decode cX9_readSum 16 = .ok (.getfield 40, 3) := by decide +kernel
theorem dX9_readSum_19 : decode cX9_readSum 19 = .ok (.iconst (-1), 1) := by decide +kernel
theorem dX9_readSum_20 : decode cX9_readSum 20 = .ok (.if_icmp .ne 67, 3) := by decide +kernel
theorem dX9_readSum_23 : decode cX9_readSum 23 = .ok (.aload_n 0, 1) := by decide +kernel
theorem dX9_readSum_24 : decode cX9_readSum 24 = .ok (.invokevirtual 50, 3) := by decide +kernel
theorem dX9_readSum_27 : decode cX9_readSum 27 = .ok (.istore 4, 2) := by decide +kernel
theorem dX9_readSum_29 : decode cX9_readSum 29 = .ok (.iload 4, 2) := by decide +kernel
theorem dX9_readSum_31 : decode cX9_readSum 31 = .ok (.bipush 43, 2) := by decide +kernel
theorem dX9_readSum_33 : decode cX9_readSum 33 = .ok (.if_icmp .eq 12, 3) := by decide +kernel
theorem dX9_readSum_36 : decode cX9_readSum 36 = .ok (.iload 4, 2) := by decide +kernel
theorem dX9_readSum_38 : decode cX9_readSum 38 = .ok (.bipush 45, 2) := by decide +kernel
theorem dX9_readSum_40 : decode cX9_readSum 40 = .ok (.if_icmp .eq 5, 3) := by decide +kernel
theorem dX9_readSum_43 : decode cX9_readSum 43 = .ok (.iload_n 2, 1) := by decide +kernel
theorem dX9_readSum_44 : decode cX9_readSum 44 = .ok (.ireturn, 1) := by decide +kernel
theorem dX9_readSum_45 : decode cX9_readSum 45 = .ok (.aload_n 0, 1) := by decide +kernel
theorem dX9_readSum_46 : decode cX9_readSum 46 = .ok (.dup, 1) := by decide +kernel
theorem dX9_readSum_47 : decode cX9_readSum 47 = .ok (.getfield 35, 3) := by decide +kernel
theorem dX9_readSum_50 : decode cX9_readSum 50 = .ok (.iconst 1, 1) := by decide +kernel
theorem dX9_readSum_51 : decode cX9_readSum 51 = .ok (.iadd, 1) := by decide +kernel
theorem dX9_readSum_52 : decode cX9_readSum 52 = .ok (.putfield 35, 3) := by decide +kernel
theorem dX9_readSum_55 : decode cX9_readSum 55 = .ok (.aload_n 0, 1) := by decide +kernel
theorem dX9_readSum_56 : decode cX9_readSum 56 = .ok (.iload_n 1, 1) := by decide +kernel
theorem dX9_readSum_57 : decode cX9_readSum 57 = .ok (.invokevirtual 63, 3) := by decide +kernel
theorem dX9_readSum_60 : decode cX9_readSum 60 = .ok (.istore 5, 2) := by decide +kernel
theorem dX9_readSum_62 : decode cX9_readSum 62 = .ok (.iload 4, 2) := by decide +kernel
theorem dX9_readSum_64 : decode cX9_readSum 64 = .ok (.bipush 43, 2) := by decide +kernel
theorem dX9_readSum_66 : decode cX9_readSum 66 = .ok (.if_icmp .ne 10, 3) := by decide +kernel
theorem dX9_readSum_69 : decode cX9_readSum 69 = .ok (.iload_n 2, 1) := by decide +kernel
theorem dX9_readSum_70 : decode cX9_readSum 70 = .ok (.iload 5, 2) := by decide +kernel
theorem dX9_readSum_72 : decode cX9_readSum 72 = .ok (.iadd, 1) := by decide +kernel
theorem dX9_readSum_73 : decode cX9_readSum 73 = .ok (.goto 7, 3) := by decide +kernel
theorem dX9_readSum_76 : decode cX9_readSum 76 = .ok (.iload_n 2, 1) := by decide +kernel
theorem dX9_readSum_77 : decode cX9_readSum 77 = .ok (.iload 5, 2) := by decide +kernel
theorem dX9_readSum_79 : decode cX9_readSum 79 = .ok (.isub, 1) := by decide +kernel
theorem dX9_readSum_80 : decode cX9_readSum 80 = .ok (.istore_n 2, 1) := by decide +kernel
theorem dX9_readSum_81 : decode cX9_readSum 81 = .ok (.iinc 3 1, 3) := by decide +kernel
theorem dX9_readSum_84 : decode cX9_readSum 84 = .ok (.goto (-76), 3) := by decide +kernel
theorem dX9_readSum_87 : decode cX9_readSum 87 = .ok (.iload_n 2, 1) := by decide +kernel
theorem dX9_readSum_88 : decode cX9_readSum 88 = .ok (.ireturn, 1) := by decide +kernel
theorem dX9_readProduct_0 : decode cX9_readProduct 0 = .ok (.aload_n 0, 1) := by decide +kernel
theorem dX9_readProduct_1 : decode cX9_readProduct 1 = .ok (.iload_n 1, 1) := by decide +kernel
theorem dX9_readProduct_2 : decode cX9_readProduct 2 = .ok (.invokevirtual 66, 3) := by decide +kernel
theorem dX9_readProduct_5 : decode cX9_readProduct 5 = .ok (.istore_n 2, 1) := by decide +kernel
theorem dX9_readProduct_6 : decode cX9_readProduct 6 = .ok (.iconst 0, 1) := by decide +kernel
theorem dX9_readProduct_7 : decode cX9_readProduct 7 = .ok (.istore_n 3, 1) := by decide +kernel
theorem dX9_readProduct_8 : decode cX9_readProduct 8 = .ok (.iload_n 3, 1) := by decide +kernel
theorem dX9_readProduct_9 : decode cX9_readProduct 9 = .ok (.sipush 160, 3) := by decide +kernel
theorem dX9_readProduct_12 : decode cX9_readProduct 12 = .ok (.if_icmp .ge 68, 3) := by decide +kernel
theorem dX9_readProduct_15 : decode cX9_readProduct 15 = .ok (.aload_n 0, 1) := by decide +kernel
theorem dX9_readProduct_16 : decode cX9_readProduct 16 = .ok (.getfield 40, 3) := by decide +kernel
theorem dX9_readProduct_19 : decode cX9_readProduct 19 = .ok (.iconst (-1), 1) := by decide +kernel
theorem dX9_readProduct_20 : decode cX9_readProduct 20 = .ok (.if_icmp .ne 60, 3) := by decide +kernel
theorem dX9_readProduct_23 : decode cX9_readProduct 23 = .ok (.aload_n 0, 1) := by decide +kernel
theorem dX9_readProduct_24 : decode cX9_readProduct 24 = .ok (.invokevirtual 50, 3) := by decide +kernel
theorem dX9_readProduct_27 : decode cX9_readProduct 27 = .ok (.istore 4, 2) := by decide +kernel
theorem dX9_readProduct_29 : decode cX9_readProduct 29 = .ok (.iload 4, 2) := by decide +kernel
theorem dX9_readProduct_31 : decode cX9_readProduct 31 = .ok (.bipush 42, 2) := by decide +kernel
theorem dX9_readProduct_33 : decode cX9_readProduct 33 = .ok (.if_icmp .eq 19, 3) := by decide +kernel
theorem dX9_readProduct_36 : decode cX9_readProduct 36 = .ok (.iload 4, 2) := by decide +kernel
theorem dX9_readProduct_38 : decode cX9_readProduct 38 = .ok (.bipush 47, 2) := by decide +kernel
theorem dX9_readProduct_40 : decode cX9_readProduct 40 = .ok (.if_icmp .eq 12, 3) := by decide +kernel
theorem dX9_readProduct_43 : decode cX9_readProduct 43 = .ok (.iload 4, 2) := by decide +kernel
theorem dX9_readProduct_45 : decode cX9_readProduct 45 = .ok (.bipush 37, 2) := by decide +kernel
theorem dX9_readProduct_47 : decode cX9_readProduct 47 = .ok (.if_icmp .eq 5, 3) := by decide +kernel
theorem dX9_readProduct_50 : decode cX9_readProduct 50 = .ok (.iload_n 2, 1) := by decide +kernel
theorem dX9_readProduct_51 : decode cX9_readProduct 51 = .ok (.ireturn, 1) := by decide +kernel
theorem dX9_readProduct_52 : decode cX9_readProduct 52 = .ok (.aload_n 0, 1) := by decide +kernel
theorem dX9_readProduct_53 : decode cX9_readProduct 53 = .ok (.dup, 1) := by decide +kernel
theorem dX9_readProduct_54 : decode cX9_readProduct 54 = .ok (.getfield 35, 3) := by decide +kernel
theorem dX9_readProduct_57 : decode cX9_readProduct 57 = .ok (.iconst 1, 1) := by decide +kernel
theorem dX9_readProduct_58 : decode cX9_readProduct 58 = .ok (.iadd, 1) := by decide +kernel
theorem dX9_readProduct_59 : decode cX9_readProduct 59 = .ok (.putfield 35, 3) := by decide +kernel
theorem dX9_readProduct_62 : decode cX9_readProduct 62 = .ok (.iload 4, 2) := by decide +kernel
theorem dX9_readProduct_64 : decode cX9_readProduct 64 = .ok (.iload_n 2, 1) := by decide +kernel
theorem dX9_readProduct_65 : decode cX9_readProduct 65 = .ok (.aload_n 0, 1) := by decide +kernel
theorem dX9_readProduct_66 : decode cX9_readProduct 66 = .ok (.iload_n 1, 1) := by decide +kernel
theorem dX9_readProduct_67 : decode cX9_readProduct 67 = .ok (.invokevirtual 66, 3) := by decide +kernel
theorem dX9_readProduct_70 : decode cX9_readProduct 70 = .ok (.invokestatic 69, 3) := by decide +kernel
theorem dX9_readProduct_73 : decode cX9_readProduct 73 = .ok (.istore_n 2, 1) := by decide +kernel
theorem dX9_readProduct_74 : decode cX9_readProduct 74 = .ok (.iinc 3 1, 3) := by decide +kernel
theorem dX9_readProduct_77 : decode cX9_readProduct 77 = .ok (.goto (-69), 3) := by decide +kernel
theorem dX9_readProduct_80 : decode cX9_readProduct 80 = .ok (.iload_n 2, 1) := by decide +kernel
theorem dX9_readProduct_81 : decode cX9_readProduct 81 = .ok (.ireturn, 1) := by decide +kernel
theorem dX9_multiply_0 : decode cX9_multiply 0 = .ok (.iload_n 0, 1) := by decide +kernel
theorem dX9_multiply_1 : decode cX9_multiply 1 = .ok (.bipush 42, 2) := by decide +kernel
theorem dX9_multiply_3 : decode cX9_multiply 3 = .ok (.if_icmp .ne 7, 3) := by decide +kernel
theorem dX9_multiply_6 : decode cX9_multiply 6 = .ok (.iload_n 1, 1) := by decide +kernel
theorem dX9_multiply_7 : decode cX9_multiply 7 = .ok (.iload_n 2, 1) := by decide +kernel
theorem dX9_multiply_8 : decode cX9_multiply 8 = .ok (.imul, 1) := by decide +kernel
theorem dX9_multiply_9 : decode cX9_multiply 9 = .ok (.ireturn, 1) := by decide +kernel
theorem dX9_multiply_10 : decode cX9_multiply 10 = .ok (.iload_n 2, 1) := by decide +kernel
theorem dX9_multiply_11 : decode cX9_multiply 11 = .ok (.ifCond .ne 5, 3) := by decide +kernel
theorem dX9_multiply_14 : decode cX9_multiply 14 = .ok (.iconst 0, 1) := by decide +kernel
theorem dX9_multiply_15 : decode cX9_multiply 15 = .ok (.ireturn, 1) := by decide +kernel
theorem dX9_multiply_16 : decode cX9_multiply 16 = .ok (.iload_n 0, 1) := by decide +kernel
theorem dX9_multiply_17 : decode cX9_multiply 17 = .ok (.bipush 47, 2) := by decide +kernel
theorem dX9_multiply_19 : decode cX9_multiply 19 = .ok (.if_icmp .ne 9, 3) := by decide +kernel
theorem dX9_multiply_22 : decode cX9_multiply 22 = .ok (.iload_n 1, 1) := by decide +kernel
theorem dX9_multiply_23 : decode cX9_multiply 23 = .ok (.iload_n 2, 1) := by decide +kernel
theorem dX9_multiply_24 : decode cX9_multiply 24 = .ok (.idiv, 1) := by decide +kernel
theorem dX9_multiply_25 : decode cX9_multiply 25 = .ok (.goto 6, 3) := by decide +kernel
theorem dX9_multiply_28 : decode cX9_multiply 28 = .ok (.iload_n 1, 1) := by decide +kernel
theorem dX9_multiply_29 : decode cX9_multiply 29 = .ok (.iload_n 2, 1) := by decide +kernel
theorem dX9_multiply_30 : decode cX9_multiply 30 = .ok (.irem, 1) := by decide +kernel
theorem dX9_multiply_31 : decode cX9_multiply 31 = .ok (.ireturn, 1) := by decide +kernel
theorem dX9_readOperand_0 : decode cX9_readOperand 0 = .ok (.aload_n 0, 1) := by decide +kernel
theorem dX9_readOperand_1 : decode cX9_readOperand 1 = .ok (.invokevirtual 50, 3) := by decide +kernel
theorem dX9_readOperand_4 : decode cX9_readOperand 4 = .ok (.istore_n 2, 1) := by decide +kernel
theorem dX9_readOperand_5 : decode cX9_readOperand 5 = .ok (.iload_n 2, 1) := by decide +kernel
theorem dX9_readOperand_6 : decode cX9_readOperand 6 = .ok (.invokestatic 73, 3) := by decide +kernel
theorem dX9_readOperand_9 : decode cX9_readOperand 9 = .ok (.ifCond .eq 8, 3) := by decide +kernel
theorem dX9_readOperand_12 : decode cX9_readOperand 12 = .ok (.aload_n 0, 1) := by decide +kernel
theorem dX9_readOperand_13 : decode cX9_readOperand 13 = .ok (.invokevirtual 77, 3) := by decide +kernel
theorem dX9_readOperand_16 : decode cX9_readOperand 16 = .ok (.ireturn, 1) := by decide +kernel
theorem dX9_readOperand_17 : decode cX9_readOperand 17 = .ok (.iload_n 2, 1) := by decide +kernel
theorem dX9_readOperand_18 : decode cX9_readOperand 18 = .ok (.bipush 40, 2) := by decide +kernel
theorem dX9_readOperand_20 : decode cX9_readOperand 20 = .ok (.if_icmp .ne 17, 3) := by decide +kernel
theorem dX9_readOperand_23 : decode cX9_readOperand 23 = .ok (.iload_n 1, 1) := by decide +kernel
theorem dX9_readOperand_24 : decode cX9_readOperand 24 = .ok (.bipush 10, 2) := by decide +kernel
theorem dX9_readOperand_26 : decode cX9_readOperand 26 = .ok (.if_icmp .ge 11, 3) := by decide +kernel
theorem dX9_readOperand_29 : decode cX9_readOperand 29 = .ok (.aload_n 0, 1) := by decide +kernel
theorem dX9_readOperand_30 : decode cX9_readOperand 30 = .ok (.iload_n 1, 1) := by decide +kernel
theorem dX9_readOperand_31 : decode cX9_readOperand 31 = .ok (.iconst 1, 1) := by decide +kernel
theorem dX9_readOperand_32 : decode cX9_readOperand 32 = .ok (.iadd, 1) := by decide +kernel
theorem dX9_readOperand_33 : decode cX9_readOperand 33 = .ok (.invokevirtual 80, 3) := by decide +kernel
theorem dX9_readOperand_36 : decode cX9_readOperand 36 = .ok (.ireturn, 1) := by decide +kernel
theorem dX9_readOperand_37 : decode cX9_readOperand 37 = .ok (.iload_n 2, 1) := by decide +kernel
theorem dX9_readOperand_38 : decode cX9_readOperand 38 = .ok (.iconst (-1), 1) := by decide +kernel
theorem dX9_readOperand_39 : decode cX9_readOperand 39 = .ok (.if_icmp .ne 7, 3) := by decide +kernel
theorem dX9_readOperand_42 : decode cX9_readOperand 42 = .ok (.iconst (-1), 1) := by decide +kernel
theorem dX9_readOperand_43 : decode cX9_readOperand 43 = .ok (.goto 12, 3) := by decide +kernel
theorem dX9_readOperand_46 : decode cX9_readOperand 46 = .ok (.aload_n 0, 1) := by decide +kernel
theorem dX9_readOperand_47 : decode cX9_readOperand 47 = .ok (.getfield 21, 3) := by decide +kernel
theorem dX9_readOperand_50 : decode cX9_readOperand 50 = .ok (.iload_n 2, 1) := by decide +kernel
theorem dX9_readOperand_51 : decode cX9_readOperand 51 = .ok (.i2c, 1) := by decide +kernel
theorem dX9_readOperand_52 : decode cX9_readOperand 52 = .ok (.invokevirtual 83, 3) := by decide +kernel
theorem dX9_readOperand_55 : decode cX9_readOperand 55 = .ok (.istore_n 3, 1) := by decide +kernel
theorem dX9_readOperand_56 : decode cX9_readOperand 56 = .ok (.iload_n 3, 1) := by decide +kernel
theorem dX9_readOperand_57 : decode cX9_readOperand 57 = .ok (.ifCond .lt 12, 3) := by decide +kernel
theorem dX9_readOperand_60 : decode cX9_readOperand 60 = .ok (.iload_n 3, 1) := by decide +kernel
theorem dX9_readOperand_61 : decode cX9_readOperand 61 = .ok (.aload_n 0, 1) := by decide +kernel
theorem dX9_readOperand_62 : decode cX9_readOperand 62 = .ok (.getfield 11, 3) := by decide +kernel
theorem dX9_readOperand_65 : decode cX9_readOperand 65 = .ok (.arraylength, 1) := by decide +kernel
theorem dX9_readOperand_66 : decode cX9_readOperand 66 = .ok (.if_icmp .lt 9, 3) := by decide +kernel
theorem dX9_readOperand_69 : decode cX9_readOperand 69 = .ok (.aload_n 0, 1) := by decide +kernel
theorem dX9_readOperand_70 : decode cX9_readOperand 70 = .ok (.invokevirtual 54, 3) := by decide +kernel
theorem dX9_readOperand_73 : decode cX9_readOperand 73 = .ok (.iconst 0, 1) := by decide +kernel
theorem dX9_readOperand_74 : decode cX9_readOperand 74 = .ok (.ireturn, 1) := by decide +kernel
theorem dX9_readOperand_75 : decode cX9_readOperand 75 = .ok (.aload_n 0, 1) := by decide +kernel
theorem dX9_readOperand_76 : decode cX9_readOperand 76 = .ok (.dup, 1) := by decide +kernel
theorem dX9_readOperand_77 : decode cX9_readOperand 77 = .ok (.getfield 35, 3) := by decide +kernel
theorem dX9_readOperand_80 : decode cX9_readOperand 80 = .ok (.iconst 1, 1) := by decide +kernel
theorem dX9_readOperand_81 : decode cX9_readOperand 81 = .ok (.iadd, 1) := by decide +kernel
theorem dX9_readOperand_82 : decode cX9_readOperand 82 = .ok (.putfield 35, 3) := by decide +kernel
theorem dX9_readOperand_85 : decode cX9_readOperand 85 = .ok (.aload_n 0, 1) := by decide +kernel
theorem dX9_readOperand_86 : decode cX9_readOperand 86 = .ok (.getfield 11, 3) := by decide +kernel
theorem dX9_readOperand_89 : decode cX9_readOperand 89 = .ok (.iload_n 3, 1) := by decide +kernel
theorem dX9_readOperand_90 : decode cX9_readOperand 90 = .ok (.iaload, 1) := by decide +kernel
theorem dX9_readOperand_91 : decode cX9_readOperand 91 = .ok (.ireturn, 1) := by decide +kernel
theorem dX9_readParenthesis_0 : decode cX9_readParenthesis 0 = .ok (.aload_n 0, 1) := by decide +kernel
theorem dX9_readParenthesis_1 : decode cX9_readParenthesis 1 = .ok (.dup, 1) := by decide +kernel
theorem dX9_readParenthesis_2 : decode cX9_readParenthesis 2 = .ok (.getfield 35, 3) := by decide +kernel
theorem dX9_readParenthesis_5 : decode cX9_readParenthesis 5 = .ok (.iconst 1, 1) := by decide +kernel
theorem dX9_readParenthesis_6 : decode cX9_readParenthesis 6 = .ok (.iadd, 1) := by decide +kernel
theorem dX9_readParenthesis_7 : decode cX9_readParenthesis 7 = .ok (.putfield 35, 3) := by decide +kernel
theorem dX9_readParenthesis_10 : decode cX9_readParenthesis 10 = .ok (.aload_n 0, 1) := by decide +kernel
theorem dX9_readParenthesis_11 : decode cX9_readParenthesis 11 = .ok (.iload_n 1, 1) := by decide +kernel
theorem dX9_readParenthesis_12 : decode cX9_readParenthesis 12 = .ok (.invokevirtual 57, 3) := by decide +kernel
theorem dX9_readParenthesis_15 : decode cX9_readParenthesis 15 = .ok (.istore_n 2, 1) := by decide +kernel
theorem dX9_readParenthesis_16 : decode cX9_readParenthesis 16 = .ok (.aload_n 0, 1) := by decide +kernel
theorem dX9_readParenthesis_17 : decode cX9_readParenthesis 17 = .ok (.getfield 40, 3) := by decide +kernel
theorem dX9_readParenthesis_20 : decode cX9_readParenthesis 20 = .ok (.iconst (-1), 1) := by decide +kernel
theorem dX9_readParenthesis_21 : decode cX9_readParenthesis 21 = .ok (.if_icmp .ne 16, 3) := by decide +kernel
theorem dX9_readParenthesis_24 : decode cX9_readParenthesis 24 = .ok (.aload_n 0, 1) := by decide +kernel
theorem dX9_readParenthesis_25 : decode cX9_readParenthesis 25 = .ok (.invokevirtual 50, 3) := by decide +kernel
theorem dX9_readParenthesis_28 : decode cX9_readParenthesis 28 = .ok (.bipush 41, 2) := by decide +kernel
theorem dX9_readParenthesis_30 : decode cX9_readParenthesis 30 = .ok (.if_icmp .eq 7, 3) := by decide +kernel
theorem dX9_readParenthesis_33 : decode cX9_readParenthesis 33 = .ok (.aload_n 0, 1) := by decide +kernel
theorem dX9_readParenthesis_34 : decode cX9_readParenthesis 34 = .ok (.invokevirtual 54, 3) := by decide +kernel
theorem dX9_readParenthesis_37 : decode cX9_readParenthesis 37 = .ok (.aload_n 0, 1) := by decide +kernel
theorem dX9_readParenthesis_38 : decode cX9_readParenthesis 38 = .ok (.dup, 1) := by decide +kernel
theorem dX9_readParenthesis_39 : decode cX9_readParenthesis 39 = .ok (.getfield 35, 3) := by decide +kernel
theorem dX9_readParenthesis_42 : decode cX9_readParenthesis 42 = .ok (.iconst 1, 1) := by decide +kernel
theorem dX9_readParenthesis_43 : decode cX9_readParenthesis 43 = .ok (.iadd, 1) := by decide +kernel
theorem dX9_readParenthesis_44 : decode cX9_readParenthesis 44 = .ok (.putfield 35, 3) := by decide +kernel
theorem dX9_readParenthesis_47 : decode cX9_readParenthesis 47 = .ok (.iload_n 2, 1) := by decide +kernel
theorem dX9_readParenthesis_48 : decode cX9_readParenthesis 48 = .ok (.ireturn, 1) := by decide +kernel
theorem dX9_readNumber_0 : decode cX9_readNumber 0 = .ok (.iconst 0, 1) := by decide +kernel
theorem dX9_readNumber_1 : decode cX9_readNumber 1 = .ok (.istore_n 1, 1) := by decide +kernel
theorem dX9_readNumber_2 : decode cX9_readNumber 2 = .ok (.iconst 0, 1) := by decide +kernel
theorem dX9_readNumber_3 : decode cX9_readNumber 3 = .ok (.istore_n 2, 1) := by decide +kernel
theorem dX9_readNumber_4 : decode cX9_readNumber 4 = .ok (.iload_n 2, 1) := by decide +kernel
theorem dX9_readNumber_5 : decode cX9_readNumber 5 = .ok (.bipush 6, 2) := by decide +kernel
theorem dX9_readNumber_7 : decode cX9_readNumber 7 = .ok (.if_icmp .ge 42, 3) := by decide +kernel
theorem dX9_readNumber_10 : decode cX9_readNumber 10 = .ok (.aload_n 0, 1) := by decide +kernel
theorem dX9_readNumber_11 : decode cX9_readNumber 11 = .ok (.invokevirtual 50, 3) := by decide +kernel
theorem dX9_readNumber_14 : decode cX9_readNumber 14 = .ok (.invokestatic 73, 3) := by decide +kernel
theorem dX9_readNumber_17 : decode cX9_readNumber 17 = .ok (.ifCond .eq 32, 3) := by decide +kernel
theorem dX9_readNumber_20 : decode cX9_readNumber 20 = .ok (.iload_n 1, 1) := by decide +kernel
theorem dX9_readNumber_21 : decode cX9_readNumber 21 = .ok (.bipush 10, 2) := by decide +kernel
theorem dX9_readNumber_23 : decode cX9_readNumber 23 = .ok (.imul, 1) := by decide +kernel
theorem dX9_readNumber_24 : decode cX9_readNumber 24 = .ok (.aload_n 0, 1) := by decide +kernel
theorem dX9_readNumber_25 : decode cX9_readNumber 25 = .ok (.invokevirtual 50, 3) := by decide +kernel
theorem dX9_readNumber_28 : decode cX9_readNumber 28 = .ok (.iadd, 1) := by decide +kernel
theorem dX9_readNumber_29 : decode cX9_readNumber 29 = .ok (.bipush 48, 2) := by decide +kernel
theorem dX9_readNumber_31 : decode cX9_readNumber 31 = .ok (.isub, 1) := by decide +kernel
theorem dX9_readNumber_32 : decode cX9_readNumber 32 = .ok (.istore_n 1, 1) := by decide +kernel
theorem dX9_readNumber_33 : decode cX9_readNumber 33 = .ok (.aload_n 0, 1) := by decide +kernel
theorem dX9_readNumber_34 : decode cX9_readNumber 34 = .ok (.dup, 1) := by decide +kernel
theorem dX9_readNumber_35 : decode cX9_readNumber 35 = .ok (.getfield 35, 3) := by decide +kernel
theorem dX9_readNumber_38 : decode cX9_readNumber 38 = .ok (.iconst 1, 1) := by decide +kernel
theorem dX9_readNumber_39 : decode cX9_readNumber 39 = .ok (.iadd, 1) := by decide +kernel
theorem dX9_readNumber_40 : decode cX9_readNumber 40 = .ok (.putfield 35, 3) := by decide +kernel
theorem dX9_readNumber_43 : decode cX9_readNumber 43 = .ok (.iinc 2 1, 3) := by decide +kernel
theorem dX9_readNumber_46 : decode cX9_readNumber 46 = .ok (.goto (-42), 3) := by decide +kernel
theorem dX9_readNumber_49 : decode cX9_readNumber 49 = .ok (.aload_n 0, 1) := by decide +kernel
theorem dX9_readNumber_50 : decode cX9_readNumber 50 = .ok (.invokevirtual 50, 3) := by decide +kernel
theorem dX9_readNumber_53 : decode cX9_readNumber 53 = .ok (.invokestatic 73, 3) := by decide +kernel
theorem dX9_readNumber_56 : decode cX9_readNumber 56 = .ok (.ifCond .eq 7, 3) := by decide +kernel
theorem dX9_readNumber_59 : decode cX9_readNumber 59 = .ok (.aload_n 0, 1) := by decide +kernel
theorem dX9_readNumber_60 : decode cX9_readNumber 60 = .ok (.invokevirtual 54, 3) := by decide +kernel
theorem dX9_readNumber_63 : decode cX9_readNumber 63 = .ok (.iload_n 1, 1) := by decide +kernel
theorem dX9_readNumber_64 : decode cX9_readNumber 64 = .ok (.ireturn, 1) := by decide +kernel
theorem dX9_isDigit_0 : decode cX9_isDigit 0 = .ok (.iload_n 0, 1) := by decide +kernel
theorem dX9_isDigit_1 : decode cX9_isDigit 1 = .ok (.bipush 48, 2) := by decide +kernel
theorem dX9_isDigit_3 : decode cX9_isDigit 3 = .ok (.if_icmp .lt 13, 3) := by decide +kernel
theorem dX9_isDigit_6 : decode cX9_isDigit 6 = .ok (.iload_n 0, 1) := by decide +kernel
theorem dX9_isDigit_7 : decode cX9_isDigit 7 = .ok (.bipush 57, 2) := by decide +kernel
theorem dX9_isDigit_9 : decode cX9_isDigit 9 = .ok (.if_icmp .gt 7, 3) := by decide +kernel
theorem dX9_isDigit_12 : decode cX9_isDigit 12 = .ok (.iconst 1, 1) := by decide +kernel
theorem dX9_isDigit_13 : decode cX9_isDigit 13 = .ok (.goto 4, 3) := by decide +kernel
theorem dX9_isDigit_16 : decode cX9_isDigit 16 = .ok (.iconst 0, 1) := by decide +kernel
theorem dX9_isDigit_17 : decode cX9_isDigit 17 = .ok (.ireturn, 1) := by decide +kernel
theorem dX9_peek_0 : decode cX9_peek 0 = .ok (.aload_n 0, 1) := by decide +kernel
theorem dX9_peek_1 : decode cX9_peek 1 = .ok (.getfield 35, 3) := by decide +kernel
theorem dX9_peek_4 : decode cX9_peek 4 = .ok (.aload_n 0, 1) := by decide +kernel
theorem dX9_peek_5 : decode cX9_peek 5 = .ok (.getfield 31, 3) := by decide +kernel
theorem dX9_peek_8 : decode cX9_peek 8 = .ok (.if_icmp .ge 19, 3) := by decide +kernel
theorem dX9_peek_11 : decode cX9_peek 11 = .ok (.aload_n 0, 1) := by decide +kernel
theorem dX9_peek_12 : decode cX9_peek 12 = .ok (.getfield 15, 3) := by decide +kernel
theorem dX9_peek_15 : decode cX9_peek 15 = .ok (.aload_n 0, 1) := by decide +kernel
theorem dX9_peek_16 : decode cX9_peek 16 = .ok (.getfield 35, 3) := by decide +kernel
theorem dX9_peek_19 : decode cX9_peek 19 = .ok (.baload, 1) := by decide +kernel
theorem dX9_peek_20 : decode cX9_peek 20 = .ok (.sipush 255, 3) := by decide +kernel
theorem dX9_peek_23 : decode cX9_peek 23 = .ok (.iand, 1) := by decide +kernel
theorem dX9_peek_24 : decode cX9_peek 24 = .ok (.goto 4, 3) := by decide +kernel
theorem dX9_peek_27 : decode cX9_peek 27 = .ok (.iconst (-1), 1) := by decide +kernel
theorem dX9_peek_28 : decode cX9_peek 28 = .ok (.ireturn, 1) := by decide +kernel
theorem dX9_markFault_0 : decode cX9_markFault 0 = .ok (.aload_n 0, 1) := by decide +kernel
theorem dX9_markFault_1 : decode cX9_markFault 1 = .ok (.getfield 40, 3) := by decide +kernel
theorem dX9_markFault_4 : decode cX9_markFault 4 = .ok (.iconst (-1), 1) := by decide +kernel
theorem dX9_markFault_5 : decode cX9_markFault 5 = .ok (.if_icmp .ne 11, 3) := by decide +kernel
theorem dX9_markFault_8 : decode cX9_markFault 8 = .ok (.aload_n 0, 1) := by decide +kernel
theorem dX9_markFault_9 : decode cX9_markFault 9 = .ok (.aload_n 0, 1) := by decide +kernel
theorem dX9_markFault_10 : decode cX9_markFault 10 = .ok (.getfield 35, 3) := by decide +kernel
theorem dX9_markFault_13 : decode cX9_markFault 13 = .ok (.putfield 40, 3) := by decide +kernel
theorem dX9_markFault_16 : decode cX9_markFault 16 = .ok (.return_, 1) := by decide +kernel
theorem dX10_init_0 : decode cX10_init 0 = .ok (.aload_n 0, 1) := by decide +kernel
theorem dX10_init_1 : decode cX10_init 1 = .ok (.invokespecial 3, 3) := by decide +kernel
theorem dX10_init_4 : decode cX10_init 4 = .ok (.aload_n 0, 1) := by decide +kernel
theorem dX10_init_5 : decode cX10_init 5 = .ok (.bipush 10, 2) := by decide +kernel
theorem dX10_init_7 : decode cX10_init 7 = .ok (.newarray .int, 2) := by decide +kernel
theorem dX10_init_9 : decode cX10_init 9 = .ok (.putfield 9, 3) := by decide +kernel
theorem dX10_init_12 : decode cX10_init 12 = .ok (.aload_n 0, 1) := by decide +kernel
theorem dX10_init_13 : decode cX10_init 13 = .ok (.sipush 610, 3) := by decide +kernel
theorem dX10_init_16 : decode cX10_init 16 = .ok (.newarray .int, 2) := by decide +kernel
theorem dX10_init_18 : decode cX10_init 18 = .ok (.putfield 15, 3) := by decide +kernel
theorem dX10_init_21 : decode cX10_init 21 = .ok (.aload_n 0, 1) := by decide +kernel
theorem dX10_init_22 : decode cX10_init 22 = .ok (.bipush 10, 2) := by decide +kernel
theorem dX10_init_24 : decode cX10_init 24 = .ok (.newarray .int, 2) := by decide +kernel
theorem dX10_init_26 : decode cX10_init 26 = .ok (.putfield 18, 3) := by decide +kernel
theorem dX10_init_29 : decode cX10_init 29 = .ok (.aload_n 0, 1) := by decide +kernel
theorem dX10_init_30 : decode cX10_init 30 = .ok (.bipush 10, 2) := by decide +kernel
theorem dX10_init_32 : decode cX10_init 32 = .ok (.newarray .int, 2) := by decide +kernel
theorem dX10_init_34 : decode cX10_init 34 = .ok (.putfield 21, 3) := by decide +kernel
theorem dX10_init_37 : decode cX10_init 37 = .ok (.return_, 1) := by decide +kernel
theorem dX10_bring_0 : decode cX10_bring 0 = .ok (.aload_n 0, 1) := by decide +kernel
theorem dX10_bring_1 : decode cX10_bring 1 = .ok (.getfield 9, 3) := by decide +kernel
theorem dX10_bring_4 : decode cX10_bring 4 = .ok (.iload_n 1, 1) := by decide +kernel
theorem dX10_bring_5 : decode cX10_bring 5 = .ok (.iaload, 1) := by decide +kernel
theorem dX10_bring_6 : decode cX10_bring 6 = .ok (.iload_n 2, 1) := by decide +kernel
theorem dX10_bring_7 : decode cX10_bring 7 = .ok (.iadd, 1) := by decide +kernel
theorem dX10_bring_8 : decode cX10_bring 8 = .ok (.sipush 999, 3) := by decide +kernel
theorem dX10_bring_11 : decode cX10_bring 11 = .ok (.if_icmp .le 6, 3) := by decide +kernel
theorem dX10_bring_14 : decode cX10_bring 14 = .ok (.bipush (-2), 2) := by decide +kernel
theorem dX10_bring_16 : decode cX10_bring 16 = .ok (.ireturn, 1) := by decide +kernel
theorem dX10_bring_17 : decode cX10_bring 17 = .ok (.aload_n 0, 1) := by decide +kernel
theorem dX10_bring_18 : decode cX10_bring 18 = .ok (.getfield 9, 3) := by decide +kernel
theorem dX10_bring_21 : decode cX10_bring 21 = .ok (.iload_n 1, 1) := by decide +kernel
theorem dX10_bring_22 : decode cX10_bring 22 = .ok (.dup2, 1) := by decide +kernel
theorem dX10_bring_23 : decode cX10_bring 23 = .ok (.iaload, 1) := by decide +kernel
theorem dX10_bring_24 : decode cX10_bring 24 = .ok (.iload_n 2, 1) := by decide +kernel
theorem dX10_bring_25 : decode cX10_bring 25 = .ok (.iadd, 1) := by decide +kernel
theorem dX10_bring_26 : decode cX10_bring 26 = .ok (.iastore, 1) := by decide +kernel
theorem dX10_bring_27 : decode cX10_bring 27 = .ok (.aload_n 0, 1) := by decide +kernel
theorem dX10_bring_28 : decode cX10_bring 28 = .ok (.getfield 9, 3) := by decide +kernel
theorem dX10_bring_31 : decode cX10_bring 31 = .ok (.iload_n 1, 1) := by decide +kernel
theorem dX10_bring_32 : decode cX10_bring 32 = .ok (.iaload, 1) := by decide +kernel
theorem dX10_bring_33 : decode cX10_bring 33 = .ok (.ireturn, 1) := by decide +kernel
theorem dX10_tellCourse_0 : decode cX10_tellCourse 0 = .ok (.aload_n 0, 1) := by decide +kernel
theorem dX10_tellCourse_1 : decode cX10_tellCourse 1 = .ok (.iload_n 1, 1) := by decide +kernel
theorem dX10_tellCourse_2 : decode cX10_tellCourse 2 = .ok (.invokevirtual 24, 3) := by decide +kernel
theorem dX10_tellCourse_5 : decode cX10_tellCourse 5 = .ok (.istore_n 2, 1) := by decide +kernel
theorem dX10_tellCourse_6 : decode cX10_tellCourse 6 = .ok (.iload_n 2, 1) := by decide +kernel
theorem dX10_tellCourse_7 : decode cX10_tellCourse 7 = .ok (.bipush (-2), 2) := by decide +kernel
theorem dX10_tellCourse_9 : decode cX10_tellCourse 9 = .ok (.if_icmp .ne 6, 3) := by decide +kernel
theorem dX10_tellCourse_12 : decode cX10_tellCourse 12 = .ok (.bipush (-2), 2) := by decide +kernel
theorem dX10_tellCourse_14 : decode cX10_tellCourse 14 = .ok (.ireturn, 1) := by decide +kernel
theorem dX10_tellCourse_15 : decode cX10_tellCourse 15 = .ok (.iconst 1, 1) := by decide +kernel
theorem dX10_tellCourse_16 : decode cX10_tellCourse 16 = .ok (.istore_n 3, 1) := by decide +kernel
theorem dX10_tellCourse_17 : decode cX10_tellCourse 17 = .ok (.iload_n 3, 1) := by decide +kernel
theorem dX10_tellCourse_18 : decode cX10_tellCourse 18 = .ok (.bipush 9, 2) := by decide +kernel
theorem dX10_tellCourse_20 : decode cX10_tellCourse 20 = .ok (.if_icmp .gt 21, 3) := by decide +kernel
theorem dX10_tellCourse_23 : decode cX10_tellCourse 23 = .ok (.aload_n 0, 1) := by decide +kernel
theorem dX10_tellCourse_24 : decode cX10_tellCourse 24 = .ok (.getfield 21, 3) := by decide +kernel
theorem dX10_tellCourse_27 : decode cX10_tellCourse 27 = .ok (.iload_n 3, 1) := by decide +kernel
theorem dX10_tellCourse_28 : decode cX10_tellCourse 28 = .ok (.aload_n 0, 1) := by decide +kernel
theorem dX10_tellCourse_29 : decode cX10_tellCourse 29 = .ok (.getfield 18, 3) := by decide +kernel
theorem dX10_tellCourse_32 : decode cX10_tellCourse 32 = .ok (.iload_n 3, 1) := by decide +kernel
theorem dX10_tellCourse_33 : decode cX10_tellCourse 33 = .ok (.iaload, 1) := by decide +kernel
theorem dX10_tellCourse_34 : decode cX10_tellCourse 34 = .ok (.iastore, 1) := by decide +kernel
theorem dX10_tellCourse_35 : decode cX10_tellCourse 35 = .ok (.iinc 3 1, 3) := by decide +kernel
theorem dX10_tellCourse_38 : decode cX10_tellCourse 38 = .ok (.goto (-21), 3) := by decide +kernel
theorem dX10_tellCourse_41 : decode cX10_tellCourse 41 = .ok (.aload_n 0, 1) := by decide +kernel
theorem dX10_tellCourse_42 : decode cX10_tellCourse 42 = .ok (.iconst 1, 1) := by decide +kernel
theorem dX10_tellCourse_43 : decode cX10_tellCourse 43 = .ok (.putfield 28, 3) := by decide +kernel
theorem dX10_tellCourse_46 : decode cX10_tellCourse 46 = .ok (.iload_n 2, 1) := by decide +kernel
theorem dX10_tellCourse_47 : decode cX10_tellCourse 47 = .ok (.ireturn, 1) := by decide +kernel
theorem dX10_toldOf_0 : decode cX10_toldOf 0 = .ok (.aload_n 0, 1) := by decide +kernel
theorem dX10_toldOf_1 : decode cX10_toldOf 1 = .ok (.getfield 28, 3) := by decide +kernel
theorem dX10_toldOf_4 : decode cX10_toldOf 4 = .ok (.ifCond .eq 12, 3) := by decide +kernel
theorem dX10_toldOf_7 : decode cX10_toldOf 7 = .ok (.aload_n 0, 1) := by decide +kernel
theorem dX10_toldOf_8 : decode cX10_toldOf 8 = .ok (.getfield 21, 3) := by decide +kernel
theorem dX10_toldOf_11 : decode cX10_toldOf 11 = .ok (.iload_n 1, 1) := by decide +kernel
theorem dX10_toldOf_12 : decode cX10_toldOf 12 = .ok (.iaload, 1) := by decide +kernel
theorem dX10_toldOf_13 : decode cX10_toldOf 13 = .ok (.goto 4, 3) := by decide +kernel
theorem dX10_toldOf_16 : decode cX10_toldOf 16 = .ok (.iconst (-1), 1) := by decide +kernel
theorem dX10_toldOf_17 : decode cX10_toldOf 17 = .ok (.ireturn, 1) := by decide +kernel
theorem dX10_layCourse_0 : decode cX10_layCourse 0 = .ok (.aload_n 0, 1) := by decide +kernel
theorem dX10_layCourse_1 : decode cX10_layCourse 1 = .ok (.iload_n 1, 1) := by decide +kernel
theorem dX10_layCourse_2 : decode cX10_layCourse 2 = .ok (.invokevirtual 24, 3) := by decide +kernel
theorem dX10_layCourse_5 : decode cX10_layCourse 5 = .ok (.istore_n 2, 1) := by decide +kernel
theorem dX10_layCourse_6 : decode cX10_layCourse 6 = .ok (.iload_n 2, 1) := by decide +kernel
theorem dX10_layCourse_7 : decode cX10_layCourse 7 = .ok (.bipush (-2), 2) := by decide +kernel
theorem dX10_layCourse_9 : decode cX10_layCourse 9 = .ok (.if_icmp .ne 6, 3) := by decide +kernel
theorem dX10_layCourse_12 : decode cX10_layCourse 12 = .ok (.bipush (-2), 2) := by decide +kernel
theorem dX10_layCourse_14 : decode cX10_layCourse 14 = .ok (.ireturn, 1) := by decide +kernel
theorem dX10_layCourse_15 : decode cX10_layCourse 15 = .ok (.iconst 1, 1) := by decide +kernel
theorem dX10_layCourse_16 : decode cX10_layCourse 16 = .ok (.istore_n 3, 1) := by decide +kernel
theorem dX10_layCourse_17 : decode cX10_layCourse 17 = .ok (.iload_n 3, 1) := by decide +kernel
theorem dX10_layCourse_18 : decode cX10_layCourse 18 = .ok (.bipush 9, 2) := by decide +kernel
theorem dX10_layCourse_20 : decode cX10_layCourse 20 = .ok (.if_icmp .gt 24, 3) := by decide +kernel
theorem dX10_layCourse_23 : decode cX10_layCourse 23 = .ok (.aload_n 0, 1) := by decide +kernel
theorem dX10_layCourse_24 : decode cX10_layCourse 24 = .ok (.getfield 9, 3) := by decide +kernel
theorem dX10_layCourse_27 : decode cX10_layCourse 27 = .ok (.iload_n 3, 1) := by decide +kernel
theorem dX10_layCourse_28 : decode cX10_layCourse 28 = .ok (.dup2, 1) := by decide +kernel
theorem dX10_layCourse_29 : decode cX10_layCourse 29 = .ok (.iaload, 1) := by decide +kernel
theorem dX10_layCourse_30 : decode cX10_layCourse 30 = .ok (.aload_n 0, 1) := by decide +kernel
theorem dX10_layCourse_31 : decode cX10_layCourse 31 = .ok (.getfield 18, 3) := by decide +kernel
theorem dX10_layCourse_34 : decode cX10_layCourse 34 = .ok (.iload_n 3, 1) := by decide +kernel
theorem dX10_layCourse_35 : decode cX10_layCourse 35 = .ok (.iaload, 1) := by decide +kernel
theorem dX10_layCourse_36 : decode cX10_layCourse 36 = .ok (.isub, 1) := by decide +kernel
theorem dX10_layCourse_37 : decode cX10_layCourse 37 = .ok (.iastore, 1) := by decide +kernel
theorem dX10_layCourse_38 : decode cX10_layCourse 38 = .ok (.iinc 3 1, 3) := by decide +kernel
theorem dX10_layCourse_41 : decode cX10_layCourse 41 = .ok (.goto (-24), 3) := by decide +kernel
theorem dX10_layCourse_44 : decode cX10_layCourse 44 = .ok (.iload_n 2, 1) := by decide +kernel
theorem dX10_layCourse_45 : decode cX10_layCourse 45 = .ok (.ireturn, 1) := by decide +kernel
theorem dX10_chooseCourse_0 : decode cX10_chooseCourse 0 = .ok (.iconst 0, 1) := by decide +kernel
theorem dX10_chooseCourse_1 : decode cX10_chooseCourse 1 = .ok (.istore_n 2, 1) := by decide +kernel
theorem dX10_chooseCourse_2 : decode cX10_chooseCourse 2 = .ok (.iload_n 2, 1) := by decide +kernel
theorem dX10_chooseCourse_3 : decode cX10_chooseCourse 3 = .ok (.iload_n 1, 1) := by decide +kernel
theorem dX10_chooseCourse_4 : decode cX10_chooseCourse 4 = .ok (.if_icmp .gt 25, 3) := by decide +kernel
theorem dX10_chooseCourse_7 : decode cX10_chooseCourse 7 = .ok (.aload_n 0, 1) := by decide +kernel
theorem dX10_chooseCourse_8 : decode cX10_chooseCourse 8 = .ok (.getfield 15, 3) := by decide +kernel
theorem dX10_chooseCourse_11 : decode cX10_chooseCourse 11 = .ok (.iload_n 2, 1) := by decide +kernel
theorem dX10_chooseCourse_12 : decode cX10_chooseCourse 12 = .ok (.iload_n 2, 1) := by decide +kernel
theorem dX10_chooseCourse_13 : decode cX10_chooseCourse 13 = .ok (.ifCond .ne 7, 3) := by decide +kernel
theorem dX10_chooseCourse_16 : decode cX10_chooseCourse 16 = .ok (.iconst 0, 1) := by decide +kernel
theorem dX10_chooseCourse_17 : decode cX10_chooseCourse 17 = .ok (.goto 5, 3) := by decide +kernel
theorem dX10_chooseCourse_20 : decode cX10_chooseCourse 20 = .ok (.ldc 32, 2) := by decide +kernel
theorem dX10_chooseCourse_22 : decode cX10_chooseCourse 22 = .ok (.iastore, 1) := by decide +kernel
theorem dX10_chooseCourse_23 : decode cX10_chooseCourse 23 = .ok (.iinc 2 1, 3) := by decide +kernel
theorem dX10_chooseCourse_26 : decode cX10_chooseCourse 26 = .ok (.goto (-24), 3) := by decide +kernel
theorem dX10_chooseCourse_29 : decode cX10_chooseCourse 29 = .ok (.iconst 1, 1) := by decide +kernel
theorem dX10_chooseCourse_30 : decode cX10_chooseCourse 30 = .ok (.istore_n 2, 1) := by decide +kernel
theorem dX10_chooseCourse_31 : decode cX10_chooseCourse 31 = .ok (.iload_n 2, 1) := by decide +kernel
theorem dX10_chooseCourse_32 : decode cX10_chooseCourse 32 = .ok (.bipush 9, 2) := by decide +kernel
theorem dX10_chooseCourse_34 : decode cX10_chooseCourse 34 = .ok (.if_icmp .gt 62, 3) := by decide +kernel
theorem dX10_chooseCourse_37 : decode cX10_chooseCourse 37 = .ok (.iconst 0, 1) := by decide +kernel
theorem dX10_chooseCourse_38 : decode cX10_chooseCourse 38 = .ok (.istore_n 3, 1) := by decide +kernel
theorem dX10_chooseCourse_39 : decode cX10_chooseCourse 39 = .ok (.iload_n 3, 1) := by decide +kernel
theorem dX10_chooseCourse_40 : decode cX10_chooseCourse 40 = .ok (.iload_n 1, 1) := by decide +kernel
theorem dX10_chooseCourse_41 : decode cX10_chooseCourse 41 = .ok (.if_icmp .gt 49, 3) := by decide +kernel
theorem dX10_chooseCourse_44 : decode cX10_chooseCourse 44 = .ok (.aload_n 0, 1) := by decide +kernel
theorem dX10_chooseCourse_45 : decode cX10_chooseCourse 45 = .ok (.iload_n 2, 1) := by decide +kernel
theorem dX10_chooseCourse_46 : decode cX10_chooseCourse 46 = .ok (.iload_n 3, 1) := by decide +kernel
theorem dX10_chooseCourse_47 : decode cX10_chooseCourse 47 = .ok (.invokevirtual 33, 3) := by decide +kernel
theorem dX10_chooseCourse_50 : decode cX10_chooseCourse 50 = .ok (.istore 4, 2) := by decide +kernel
theorem dX10_chooseCourse_52 : decode cX10_chooseCourse 52 = .ok (.aload_n 0, 1) := by decide +kernel
theorem dX10_chooseCourse_53 : decode cX10_chooseCourse 53 = .ok (.getfield 15, 3) := by decide +kernel
theorem dX10_chooseCourse_56 : decode cX10_chooseCourse 56 = .ok (.iload_n 2, 1) := by decide +kernel
theorem dX10_chooseCourse_57 : decode cX10_chooseCourse 57 = .ok (.bipush 61, 2) := by decide +kernel
theorem dX10_chooseCourse_59 : decode cX10_chooseCourse 59 = .ok (.imul, 1) := by decide +kernel
theorem dX10_chooseCourse_60 : decode cX10_chooseCourse 60 = .ok (.iload_n 3, 1) := by decide +kernel
theorem dX10_chooseCourse_61 : decode cX10_chooseCourse 61 = .ok (.iadd, 1) := by decide +kernel
theorem dX10_chooseCourse_62 : decode cX10_chooseCourse 62 = .ok (.iload 4, 2) := by decide +kernel
theorem dX10_chooseCourse_64 : decode cX10_chooseCourse 64 = .ok (.aload_n 0, 1) := by decide +kernel
theorem dX10_chooseCourse_65 : decode cX10_chooseCourse 65 = .ok (.getfield 15, 3) := by decide +kernel
theorem dX10_chooseCourse_68 : decode cX10_chooseCourse 68 = .ok (.iload_n 2, 1) := by decide +kernel
theorem dX10_chooseCourse_69 : decode cX10_chooseCourse 69 = .ok (.iconst 1, 1) := by decide +kernel
theorem dX10_chooseCourse_70 : decode cX10_chooseCourse 70 = .ok (.isub, 1) := by decide +kernel
theorem dX10_chooseCourse_71 : decode cX10_chooseCourse 71 = .ok (.bipush 61, 2) := by decide +kernel
theorem dX10_chooseCourse_73 : decode cX10_chooseCourse 73 = .ok (.imul, 1) := by decide +kernel
theorem dX10_chooseCourse_74 : decode cX10_chooseCourse 74 = .ok (.iload_n 3, 1) := by decide +kernel
theorem dX10_chooseCourse_75 : decode cX10_chooseCourse 75 = .ok (.iadd, 1) := by decide +kernel
theorem dX10_chooseCourse_76 : decode cX10_chooseCourse 76 = .ok (.iload 4, 2) := by decide +kernel
theorem dX10_chooseCourse_78 : decode cX10_chooseCourse 78 = .ok (.iload_n 2, 1) := by decide +kernel
theorem dX10_chooseCourse_79 : decode cX10_chooseCourse 79 = .ok (.imul, 1) := by decide +kernel
theorem dX10_chooseCourse_80 : decode cX10_chooseCourse 80 = .ok (.isub, 1) := by decide +kernel
theorem dX10_chooseCourse_81 : decode cX10_chooseCourse 81 = .ok (.iaload, 1) := by decide +kernel
theorem dX10_chooseCourse_82 : decode cX10_chooseCourse 82 = .ok (.iadd, 1) := by decide +kernel
theorem dX10_chooseCourse_83 : decode cX10_chooseCourse 83 = .ok (.iastore, 1) := by decide +kernel
theorem dX10_chooseCourse_84 : decode cX10_chooseCourse 84 = .ok (.iinc 3 1, 3) := by decide +kernel
theorem dX10_chooseCourse_87 : decode cX10_chooseCourse 87 = .ok (.goto (-48), 3) := by decide +kernel
theorem dX10_chooseCourse_90 : decode cX10_chooseCourse 90 = .ok (.iinc 2 1, 3) := by decide +kernel
theorem dX10_chooseCourse_93 : decode cX10_chooseCourse 93 = .ok (.goto (-62), 3) := by decide +kernel
theorem dX10_chooseCourse_96 : decode cX10_chooseCourse 96 = .ok (.aload_n 0, 1) := by decide +kernel
theorem dX10_chooseCourse_97 : decode cX10_chooseCourse 97 = .ok (.getfield 15, 3) := by decide +kernel
theorem dX10_chooseCourse_100 : decode cX10_chooseCourse 100 = .ok (.sipush 549, 3) := by decide +kernel
theorem dX10_chooseCourse_103 : decode cX10_chooseCourse 103 = .ok (.iload_n 1, 1) := by decide +kernel
theorem dX10_chooseCourse_104 : decode cX10_chooseCourse 104 = .ok (.iadd, 1) := by decide +kernel
theorem dX10_chooseCourse_105 : decode cX10_chooseCourse 105 = .ok (.iaload, 1) := by decide +kernel
theorem dX10_chooseCourse_106 : decode cX10_chooseCourse 106 = .ok (.ldc 32, 2) := by decide +kernel
theorem dX10_chooseCourse_108 : decode cX10_chooseCourse 108 = .ok (.if_icmp .lt 6, 3) := by decide +kernel
theorem dX10_chooseCourse_111 : decode cX10_chooseCourse 111 = .ok (.bipush (-2), 2) := by decide +kernel
theorem dX10_chooseCourse_113 : decode cX10_chooseCourse 113 = .ok (.ireturn, 1) := by decide +kernel
theorem dX10_chooseCourse_114 : decode cX10_chooseCourse 114 = .ok (.iload_n 1, 1) := by decide +kernel
theorem dX10_chooseCourse_115 : decode cX10_chooseCourse 115 = .ok (.istore_n 2, 1) := by decide +kernel
theorem dX10_chooseCourse_116 : decode cX10_chooseCourse 116 = .ok (.bipush 9, 2) := by decide +kernel
theorem dX10_chooseCourse_118 : decode cX10_chooseCourse 118 = .ok (.istore_n 3, 1) := by decide +kernel
theorem dX10_chooseCourse_119 : decode cX10_chooseCourse 119 = .ok (.iload_n 3, 1) := by decide +kernel
theorem dX10_chooseCourse_120 : decode cX10_chooseCourse 120 = .ok (.iconst 1, 1) := by decide +kernel
theorem dX10_chooseCourse_121 : decode cX10_chooseCourse 121 = .ok (.if_icmp .lt 32, 3) := by decide +kernel
theorem dX10_chooseCourse_124 : decode cX10_chooseCourse 124 = .ok (.aload_n 0, 1) := by decide +kernel
theorem dX10_chooseCourse_125 : decode cX10_chooseCourse 125 = .ok (.getfield 18, 3) := by decide +kernel
theorem dX10_chooseCourse_128 : decode cX10_chooseCourse 128 = .ok (.iload_n 3, 1) := by decide +kernel
theorem dX10_chooseCourse_129 : decode cX10_chooseCourse 129 = .ok (.aload_n 0, 1) := by decide +kernel
theorem dX10_chooseCourse_130 : decode cX10_chooseCourse 130 = .ok (.iload_n 3, 1) := by decide +kernel
theorem dX10_chooseCourse_131 : decode cX10_chooseCourse 131 = .ok (.iload_n 2, 1) := by decide +kernel
theorem dX10_chooseCourse_132 : decode cX10_chooseCourse 132 = .ok (.invokevirtual 33, 3) := by decide +kernel
theorem dX10_chooseCourse_135 : decode cX10_chooseCourse 135 = .ok (.iastore, 1) := by decide +kernel
theorem dX10_chooseCourse_136 : decode cX10_chooseCourse 136 = .ok (.iload_n 2, 1) := by decide +kernel
theorem dX10_chooseCourse_137 : decode cX10_chooseCourse 137 = .ok (.aload_n 0, 1) := by decide +kernel
theorem dX10_chooseCourse_138 : decode cX10_chooseCourse 138 = .ok (.getfield 18, 3) := by decide +kernel
theorem dX10_chooseCourse_141 : decode cX10_chooseCourse 141 = .ok (.iload_n 3, 1) := by decide +kernel
theorem dX10_chooseCourse_142 : decode cX10_chooseCourse 142 = .ok (.iaload, 1) := by decide +kernel
theorem dX10_chooseCourse_143 : decode cX10_chooseCourse 143 = .ok (.iload_n 3, 1) := by decide +kernel
theorem dX10_chooseCourse_144 : decode cX10_chooseCourse 144 = .ok (.imul, 1) := by decide +kernel
theorem dX10_chooseCourse_145 : decode cX10_chooseCourse 145 = .ok (.isub, 1) := by decide +kernel
theorem dX10_chooseCourse_146 : decode cX10_chooseCourse 146 = .ok (.istore_n 2, 1) := by decide +kernel
theorem dX10_chooseCourse_147 : decode cX10_chooseCourse 147 = .ok (.iinc 3 (-1), 3) := by decide +kernel
theorem dX10_chooseCourse_150 : decode cX10_chooseCourse 150 = .ok (.goto (-31), 3) := by decide +kernel
theorem dX10_chooseCourse_153 : decode cX10_chooseCourse 153 = .ok (.aload_n 0, 1) := by decide +kernel
theorem dX10_chooseCourse_154 : decode cX10_chooseCourse 154 = .ok (.getfield 15, 3) := by decide +kernel
theorem dX10_chooseCourse_157 : decode cX10_chooseCourse 157 = .ok (.sipush 549, 3) := by decide +kernel
theorem dX10_chooseCourse_160 : decode cX10_chooseCourse 160 = .ok (.iload_n 1, 1) := by decide +kernel
theorem dX10_chooseCourse_161 : decode cX10_chooseCourse 161 = .ok (.iadd, 1) := by decide +kernel
theorem dX10_chooseCourse_162 : decode cX10_chooseCourse 162 = .ok (.iaload, 1) := by decide +kernel
theorem dX10_chooseCourse_163 : decode cX10_chooseCourse 163 = .ok (.ireturn, 1) := by decide +kernel
theorem dX10_countFor_0 : decode cX10_countFor 0 = .ok (.iconst 0, 1) := by decide +kernel
theorem dX10_countFor_1 : decode cX10_countFor 1 = .ok (.istore_n 3, 1) := by decide +kernel
theorem dX10_countFor_2 : decode cX10_countFor 2 = .ok (.ldc 32, 2) := by decide +kernel
theorem dX10_countFor_4 : decode cX10_countFor 4 = .ok (.istore 4, 2) := by decide +kernel
theorem dX10_countFor_6 : decode cX10_countFor 6 = .ok (.iconst 0, 1) := by decide +kernel
theorem dX10_countFor_7 : decode cX10_countFor 7 = .ok (.istore 5, 2) := by decide +kernel
theorem dX10_countFor_9 : decode cX10_countFor 9 = .ok (.iload 5, 2) := by decide +kernel
theorem dX10_countFor_11 : decode cX10_countFor 11 = .ok (.aload_n 0, 1) := by decide +kernel
theorem dX10_countFor_12 : decode cX10_countFor 12 = .ok (.getfield 9, 3) := by decide +kernel
theorem dX10_countFor_15 : decode cX10_countFor 15 = .ok (.iload_n 1, 1) := by decide +kernel
theorem dX10_countFor_16 : decode cX10_countFor 16 = .ok (.iaload, 1) := by decide +kernel
theorem dX10_countFor_17 : decode cX10_countFor 17 = .ok (.if_icmp .gt 54, 3) := by decide +kernel
theorem dX10_countFor_20 : decode cX10_countFor 20 = .ok (.iload 5, 2) := by decide +kernel
theorem dX10_countFor_22 : decode cX10_countFor 22 = .ok (.iload_n 1, 1) := by decide +kernel
theorem dX10_countFor_23 : decode cX10_countFor 23 = .ok (.imul, 1) := by decide +kernel
theorem dX10_countFor_24 : decode cX10_countFor 24 = .ok (.iload_n 2, 1) := by decide +kernel
theorem dX10_countFor_25 : decode cX10_countFor 25 = .ok (.if_icmp .gt 46, 3) := by decide +kernel
theorem dX10_countFor_28 : decode cX10_countFor 28 = .ok (.iload 5, 2) := by decide +kernel
theorem dX10_countFor_30 : decode cX10_countFor 30 = .ok (.aload_n 0, 1) := by decide +kernel
theorem dX10_countFor_31 : decode cX10_countFor 31 = .ok (.getfield 15, 3) := by decide +kernel
theorem dX10_countFor_34 : decode cX10_countFor 34 = .ok (.iload_n 1, 1) := by decide +kernel
theorem dX10_countFor_35 : decode cX10_countFor 35 = .ok (.iconst 1, 1) := by decide +kernel
theorem dX10_countFor_36 : decode cX10_countFor 36 = .ok (.isub, 1) := by decide +kernel
theorem dX10_countFor_37 : decode cX10_countFor 37 = .ok (.bipush 61, 2) := by decide +kernel
theorem dX10_countFor_39 : decode cX10_countFor 39 = .ok (.imul, 1) := by decide +kernel
theorem dX10_countFor_40 : decode cX10_countFor 40 = .ok (.iload_n 2, 1) := by decide +kernel
theorem dX10_countFor_41 : decode cX10_countFor 41 = .ok (.iadd, 1) := by decide +kernel
theorem dX10_countFor_42 : decode cX10_countFor 42 = .ok (.iload 5, 2) := by decide +kernel
theorem dX10_countFor_44 : decode cX10_countFor 44 = .ok (.iload_n 1, 1) := by decide +kernel
theorem dX10_countFor_45 : decode cX10_countFor 45 = .ok (.imul, 1) := by decide +kernel
theorem dX10_countFor_46 : decode cX10_countFor 46 = .ok (.isub, 1) := by decide +kernel
theorem dX10_countFor_47 : decode cX10_countFor 47 = .ok (.iaload, 1) := by decide +kernel
theorem dX10_countFor_48 : decode cX10_countFor 48 = .ok (.iadd, 1) := by decide +kernel
theorem dX10_countFor_49 : decode cX10_countFor 49 = .ok (.istore 6, 2) := by decide +kernel
theorem dX10_countFor_51 : decode cX10_countFor 51 = .ok (.iload 6, 2) := by decide +kernel
theorem dX10_countFor_53 : decode cX10_countFor 53 = .ok (.iload 4, 2) := by decide +kernel
theorem dX10_countFor_55 : decode cX10_countFor 55 = .ok (.if_icmp .gt 10, 3) := by decide +kernel
theorem dX10_countFor_58 : decode cX10_countFor 58 = .ok (.iload 5, 2) := by decide +kernel
theorem dX10_countFor_60 : decode cX10_countFor 60 = .ok (.istore_n 3, 1) := by decide +kernel
theorem dX10_countFor_61 : decode cX10_countFor 61 = .ok (.iload 6, 2) := by decide +kernel
theorem dX10_countFor_63 : decode cX10_countFor 63 = .ok (.istore 4, 2) := by decide +kernel
theorem dX10_countFor_65 : decode cX10_countFor 65 = .ok (.iinc 5 1, 3) := by decide +kernel
theorem dX10_countFor_68 : decode cX10_countFor 68 = .ok (.goto (-59), 3) := by decide +kernel
theorem dX10_countFor_71 : decode cX10_countFor 71 = .ok (.iload_n 3, 1) := by decide +kernel
theorem dX10_countFor_72 : decode cX10_countFor 72 = .ok (.ireturn, 1) := by decide +kernel
theorem dX10_countAll_0 : decode cX10_countAll 0 = .ok (.iconst 0, 1) := by decide +kernel
theorem dX10_countAll_1 : decode cX10_countAll 1 = .ok (.istore_n 1, 1) := by decide +kernel
theorem dX10_countAll_2 : decode cX10_countAll 2 = .ok (.iconst 1, 1) := by decide +kernel
theorem dX10_countAll_3 : decode cX10_countAll 3 = .ok (.istore_n 2, 1) := by decide +kernel
theorem dX10_countAll_4 : decode cX10_countAll 4 = .ok (.iload_n 2, 1) := by decide +kernel
theorem dX10_countAll_5 : decode cX10_countAll 5 = .ok (.bipush 9, 2) := by decide +kernel
theorem dX10_countAll_7 : decode cX10_countAll 7 = .ok (.if_icmp .gt 18, 3) := by decide +kernel
theorem dX10_countAll_10 : decode cX10_countAll 10 = .ok (.iload_n 1, 1) := by decide +kernel
theorem dX10_countAll_11 : decode cX10_countAll 11 = .ok (.aload_n 0, 1) := by decide +kernel
theorem dX10_countAll_12 : decode cX10_countAll 12 = .ok (.getfield 9, 3) := by decide +kernel
theorem dX10_countAll_15 : decode cX10_countAll 15 = .ok (.iload_n 2, 1) := by decide +kernel
theorem dX10_countAll_16 : decode cX10_countAll 16 = .ok (.iaload, 1) := by decide +kernel
theorem dX10_countAll_17 : decode cX10_countAll 17 = .ok (.iadd, 1) := by decide +kernel
theorem dX10_countAll_18 : decode cX10_countAll 18 = .ok (.istore_n 1, 1) := by decide +kernel
theorem dX10_countAll_19 : decode cX10_countAll 19 = .ok (.iinc 2 1, 3) := by decide +kernel
theorem dX10_countAll_22 : decode cX10_countAll 22 = .ok (.goto (-18), 3) := by decide +kernel
theorem dX10_countAll_25 : decode cX10_countAll 25 = .ok (.iload_n 1, 1) := by decide +kernel
theorem dX10_countAll_26 : decode cX10_countAll 26 = .ok (.ireturn, 1) := by decide +kernel
theorem dX11_init_0 : decode cX11_init 0 = .ok (.aload_n 0, 1) := by decide +kernel
theorem dX11_init_1 : decode cX11_init 1 = .ok (.invokespecial 3, 3) := by decide +kernel
theorem dX11_init_4 : decode cX11_init 4 = .ok (.aload_n 0, 1) := by decide +kernel
theorem dX11_init_5 : decode cX11_init 5 = .ok (.bipush 8, 2) := by decide +kernel
theorem dX11_init_7 : decode cX11_init 7 = .ok (.anewarray 9, 3) := by decide +kernel
theorem dX11_init_10 : decode cX11_init 10 = .ok (.putfield 11, 3) := by decide +kernel
theorem dX11_init_13 : decode cX11_init 13 = .ok (.aload_n 0, 1) := by decide +kernel
theorem dX11_init_14 : decode cX11_init 14 = .ok (.new 15, 3) := by decide +kernel
theorem dX11_init_17 : decode cX11_init 17 = .ok (.dup, 1) := by decide +kernel
theorem dX11_init_18 : decode cX11_init 18 = .ok (.invokespecial 17, 3) := by decide +kernel
theorem dX11_init_21 : decode cX11_init 21 = .ok (.putfield 18, 3) := by decide +kernel
theorem dX11_init_24 : decode cX11_init 24 = .ok (.aload_n 0, 1) := by decide +kernel
theorem dX11_init_25 : decode cX11_init 25 = .ok (.new 22, 3) := by decide +kernel
theorem dX11_init_28 : decode cX11_init 28 = .ok (.dup, 1) := by decide +kernel
theorem dX11_init_29 : decode cX11_init 29 = .ok (.invokespecial 24, 3) := by decide +kernel
theorem dX11_init_32 : decode cX11_init 32 = .ok (.putfield 25, 3) := by decide +kernel
theorem dX11_init_35 : decode cX11_init 35 = .ok (.aload_n 0, 1) := by decide +kernel
theorem dX11_init_36 : decode cX11_init 36 = .ok (.new 29, 3) := by decide +kernel
theorem dX11_init_39 : decode cX11_init 39 = .ok (.dup, 1) := by decide +kernel
theorem dX11_init_40 : decode cX11_init 40 = .ok (.invokespecial 31, 3) := by decide +kernel
theorem dX11_init_43 : decode cX11_init 43 = .ok (.putfield 32, 3) := by decide +kernel
theorem dX11_init_46 : decode cX11_init 46 = .ok (.aload_n 0, 1) := by decide +kernel
theorem dX11_init_47 : decode cX11_init 47 = .ok (.new 36, 3) := by decide +kernel
theorem dX11_init_50 : decode cX11_init 50 = .ok (.dup, 1) := by decide +kernel
theorem dX11_init_51 : decode cX11_init 51 = .ok (.invokespecial 38, 3) := by decide +kernel
theorem dX11_init_54 : decode cX11_init 54 = .ok (.putfield 39, 3) := by decide +kernel
theorem dX11_init_57 : decode cX11_init 57 = .ok (.aload_n 0, 1) := by decide +kernel
theorem dX11_init_58 : decode cX11_init 58 = .ok (.bipush 60, 2) := by decide +kernel
theorem dX11_init_60 : decode cX11_init 60 = .ok (.anewarray 43, 3) := by decide +kernel
theorem dX11_init_63 : decode cX11_init 63 = .ok (.putfield 45, 3) := by decide +kernel
theorem dX11_init_66 : decode cX11_init 66 = .ok (.aload_n 0, 1) := by decide +kernel
theorem dX11_init_67 : decode cX11_init 67 = .ok (.new 49, 3) := by decide +kernel
theorem dX11_init_70 : decode cX11_init 70 = .ok (.dup, 1) := by decide +kernel
theorem dX11_init_71 : decode cX11_init 71 = .ok (.invokespecial 51, 3) := by decide +kernel
theorem dX11_init_74 : decode cX11_init 74 = .ok (.putfield 52, 3) := by decide +kernel
theorem dX11_init_77 : decode cX11_init 77 = .ok (.aload_n 0, 1) := by decide +kernel
theorem dX11_init_78 : decode cX11_init 78 = .ok (.sipush 200, 3) := by decide +kernel
theorem dX11_init_81 : decode cX11_init 81 = .ok (.anewarray 56, 3) := by decide +kernel
theorem dX11_init_84 : decode cX11_init 84 = .ok (.putfield 58, 3) := by decide +kernel
theorem dX11_init_87 : decode cX11_init 87 = .ok (.aload_n 0, 1) := by decide +kernel
theorem dX11_init_88 : decode cX11_init 88 = .ok (.new 62, 3) := by decide +kernel
theorem dX11_init_91 : decode cX11_init 91 = .ok (.dup, 1) := by decide +kernel
theorem dX11_init_92 : decode cX11_init 92 = .ok (.invokespecial 64, 3) := by decide +kernel
theorem dX11_init_95 : decode cX11_init 95 = .ok (.putfield 65, 3) := by decide +kernel
theorem dX11_init_98 : decode cX11_init 98 = .ok (.return_, 1) := by decide +kernel
theorem dX11_street_0 : decode cX11_street 0 = .ok (.iload_n 1, 1) := by decide +kernel
theorem dX11_street_1 : decode cX11_street 1 = .ok (.iconst 1, 1) := by decide +kernel
theorem dX11_street_2 : decode cX11_street 2 = .ok (.bipush 16, 2) := by decide +kernel
theorem dX11_street_4 : decode cX11_street 4 = .ok (.invokestatic 69, 3) := by decide +kernel
theorem dX11_street_7 : decode cX11_street 7 = .ok (.ifCond .eq 23, 3) := by decide +kernel
theorem dX11_street_10 : decode cX11_street 10 = .ok (.iload_n 2, 1) := by decide +kernel
theorem dX11_street_11 : decode cX11_street 11 = .ok (.iconst 1, 1) := by decide +kernel
theorem dX11_street_12 : decode cX11_street 12 = .ok (.bipush 9, 2) := by decide +kernel
theorem dX11_street_14 : decode cX11_street 14 = .ok (.invokestatic 69, 3) := by decide +kernel
theorem dX11_street_17 : decode cX11_street 17 = .ok (.ifCond .eq 13, 3) := by decide +kernel
theorem dX11_street_20 : decode cX11_street 20 = .ok (.iload_n 3, 1) := by decide +kernel
theorem dX11_street_21 : decode cX11_street 21 = .ok (.iconst 0, 1) := by decide +kernel
theorem dX11_street_22 : decode cX11_street 22 = .ok (.bipush 99, 2) := by decide +kernel
theorem dX11_street_24 : decode cX11_street 24 = .ok (.invokestatic 69, 3) := by decide +kernel
theorem dX11_street_27 : decode cX11_street 27 = .ok (.ifCond .ne 5, 3) := by decide +kernel
theorem dX11_street_30 : decode cX11_street 30 = .ok (.iconst (-1), 1) := by decide +kernel
theorem dX11_street_31 : decode cX11_street 31 = .ok (.ireturn, 1) := by decide +kernel
theorem dX11_street_32 : decode cX11_street 32 = .ok (.aload_n 0, 1) := by decide +kernel
theorem dX11_street_33 : decode cX11_street 33 = .ok (.getfield 73, 3) := by decide +kernel
theorem dX11_street_36 : decode cX11_street 36 = .ok (.bipush 8, 2) := by decide +kernel
theorem dX11_street_38 : decode cX11_street 38 = .ok (.if_icmp .lt 6, 3) := by decide +kernel
theorem dX11_street_41 : decode cX11_street 41 = .ok (.bipush (-3), 2) := by decide +kernel
theorem dX11_street_43 : decode cX11_street 43 = .ok (.ireturn, 1) := by decide +kernel
theorem dX11_street_44 : decode cX11_street 44 = .ok (.aload_n 0, 1) := by decide +kernel
theorem dX11_street_45 : decode cX11_street 45 = .ok (.getfield 11, 3) := by decide +kernel
theorem dX11_street_48 : decode cX11_street 48 = .ok (.aload_n 0, 1) := by decide +kernel
theorem dX11_street_49 : decode cX11_street 49 = .ok (.getfield 73, 3) := by decide +kernel
theorem dX11_street_52 : decode cX11_street 52 = .ok (.new 9, 3) := by decide +kernel
theorem dX11_street_55 : decode cX11_street 55 = .ok (.dup, 1) := by decide +kernel
theorem dX11_street_56 : decode cX11_street 56 = .ok (.iload_n 1, 1) := by decide +kernel
theorem dX11_street_57 : decode cX11_street 57 = .ok (.iload_n 2, 1) := by decide +kernel
theorem dX11_street_58 : decode cX11_street 58 = .ok (.iload_n 3, 1) := by decide +kernel
theorem dX11_street_59 : decode cX11_street 59 = .ok (.invokespecial 77, 3) := by decide +kernel
theorem dX11_street_62 : decode cX11_street 62 = .ok (.aastore, 1) := by decide +kernel
theorem dX11_street_63 : decode cX11_street 63 = .ok (.aload_n 0, 1) := by decide +kernel
theorem dX11_street_64 : decode cX11_street 64 = .ok (.dup, 1) := by decide +kernel
theorem dX11_street_65 : decode cX11_street 65 = .ok (.getfield 73, 3) := by decide +kernel
theorem dX11_street_68 : decode cX11_street 68 = .ok (.iconst 1, 1) := by decide +kernel
theorem dX11_street_69 : decode cX11_street 69 = .ok (.iadd, 1) := by decide +kernel
theorem dX11_street_70 : decode cX11_street 70 = .ok (.putfield 73, 3) := by decide +kernel
theorem dX11_street_73 : decode cX11_street 73 = .ok (.aload_n 0, 1) := by decide +kernel
theorem dX11_street_74 : decode cX11_street 74 = .ok (.getfield 73, 3) := by decide +kernel
theorem dX11_street_77 : decode cX11_street 77 = .ok (.iconst 1, 1) := by decide +kernel
theorem dX11_street_78 : decode cX11_street 78 = .ok (.isub, 1) := by decide +kernel
theorem dX11_street_79 : decode cX11_street 79 = .ok (.ireturn, 1) := by decide +kernel
theorem dX11_height_0 : decode cX11_height 0 = .ok (.aload_n 0, 1) := by decide +kernel
theorem dX11_height_1 : decode cX11_height 1 = .ok (.iload_n 1, 1) := by decide +kernel
theorem dX11_height_2 : decode cX11_height 2 = .ok (.invokevirtual 80, 3) := by decide +kernel
theorem dX11_height_5 : decode cX11_height 5 = .ok (.astore 5, 2) := by decide +kernel
theorem dX11_height_7 : decode cX11_height 7 = .ok (.aload 5, 2) := by decide +kernel
theorem dX11_height_9 : decode cX11_height 9 = .ok (.ifnull 24, 3) := by decide +kernel
theorem dX11_height_12 : decode cX11_height 12 = .ok (.aload 5, 2) := by decide +kernel
theorem dX11_height_14 : decode cX11_height 14 = .ok (.iload_n 2, 1) := by decide +kernel
theorem dX11_height_15 : decode cX11_height 15 = .ok (.iload_n 3, 1) := by decide +kernel
theorem dX11_height_16 : decode cX11_height 16 = .ok (.invokevirtual 84, 3) := by decide +kernel
theorem dX11_height_19 : decode cX11_height 19 = .ok (.ifCond .eq 14, 3) := by decide +kernel
theorem dX11_height_22 : decode cX11_height 22 = .ok (.iload 4, 2) := by decide +kernel
theorem dX11_height_24 : decode cX11_height 24 = .ok (.iconst 0, 1) := by decide +kernel
theorem dX11_height_25 : decode cX11_height 25 = .ok (.bipush 99, 2) := by decide +kernel
theorem dX11_height_27 : decode cX11_height 27 = .ok (.invokestatic 69, 3) := by decide +kernel
theorem dX11_height_30 : decode cX11_height 30 = .ok (.ifCond .ne 5, 3) := by decide +kernel
theorem dX11_height_33 : decode cX11_height 33 = .ok (.iconst (-1), 1) := by decide +kernel
theorem dX11_height_34 : decode cX11_height 34 = .ok (.ireturn, 1) := by decide +kernel
theorem dX11_height_35 : decode cX11_height 35 = .ok (.aload 5, 2) := by decide +kernel
theorem dX11_height_37 : decode cX11_height 37 = .ok (.iload_n 2, 1) := by decide +kernel
theorem dX11_height_38 : decode cX11_height 38 = .ok (.iload_n 3, 1) := by decide +kernel
theorem dX11_height_39 : decode cX11_height 39 = .ok (.invokevirtual 88, 3) := by decide +kernel
theorem dX11_height_42 : decode cX11_height 42 = .ok (.istore 6, 2) := by decide +kernel
theorem dX11_height_44 : decode cX11_height 44 = .ok (.aload 5, 2) := by decide +kernel
theorem dX11_height_46 : decode cX11_height 46 = .ok (.getfield 92, 3) := by decide +kernel
theorem dX11_height_49 : decode cX11_height 49 = .ok (.iload 6, 2) := by decide +kernel
theorem dX11_height_51 : decode cX11_height 51 = .ok (.iaload, 1) := by decide +kernel
theorem dX11_height_52 : decode cX11_height 52 = .ok (.istore 7, 2) := by decide +kernel
theorem dX11_height_54 : decode cX11_height 54 = .ok (.aload 5, 2) := by decide +kernel
theorem dX11_height_56 : decode cX11_height 56 = .ok (.getfield 92, 3) := by decide +kernel
theorem dX11_height_59 : decode cX11_height 59 = .ok (.iload 6, 2) := by decide +kernel
theorem dX11_height_61 : decode cX11_height 61 = .ok (.iload 4, 2) := by decide +kernel
theorem dX11_height_63 : decode cX11_height 63 = .ok (.iastore, 1) := by decide +kernel
theorem dX11_height_64 : decode cX11_height 64 = .ok (.iload 7, 2) := by decide +kernel
theorem dX11_height_66 : decode cX11_height 66 = .ok (.ireturn, 1) := by decide +kernel
theorem dX11_read_0 : decode cX11_read 0 = .ok (.aload_n 0, 1) := by decide +kernel
theorem dX11_read_1 : decode cX11_read 1 = .ok (.iload_n 1, 1) := by decide +kernel
theorem dX11_read_2 : decode cX11_read 2 = .ok (.invokevirtual 80, 3) := by decide +kernel
theorem dX11_read_5 : decode cX11_read 5 = .ok (.astore 4, 2) := by decide +kernel
theorem dX11_read_7 : decode cX11_read 7 = .ok (.aload 4, 2) := by decide +kernel
theorem dX11_read_9 : decode cX11_read 9 = .ok (.ifnull 13, 3) := by decide +kernel
theorem dX11_read_12 : decode cX11_read 12 = .ok (.aload 4, 2) := by decide +kernel
theorem dX11_read_14 : decode cX11_read 14 = .ok (.iload_n 2, 1) := by decide +kernel
theorem dX11_read_15 : decode cX11_read 15 = .ok (.iload_n 3, 1) := by decide +kernel
theorem dX11_read_16 : decode cX11_read 16 = .ok (.invokevirtual 84, 3) := by decide +kernel
theorem dX11_read_19 : decode cX11_read 19 = .ok (.ifCond .ne 5, 3) := by decide +kernel
theorem dX11_read_22 : decode cX11_read 22 = .ok (.iconst (-1), 1) := by decide +kernel
theorem dX11_read_23 : decode cX11_read 23 = .ok (.ireturn, 1) := by decide +kernel
theorem dX11_read_24 : decode cX11_read 24 = .ok (.aload 4, 2) := by decide +kernel
theorem dX11_read_26 : decode cX11_read 26 = .ok (.getfield 92, 3) := by decide +kernel
theorem dX11_read_29 : decode cX11_read 29 = .ok (.aload 4, 2) := by decide +kernel
theorem dX11_read_31 : decode cX11_read 31 = .ok (.iload_n 2, 1) := by decide +kernel
theorem dX11_read_32 : decode cX11_read 32 = .ok (.iload_n 3, 1) := by decide +kernel
theorem dX11_read_33 : decode cX11_read 33 = .ok (.invokevirtual 88, 3) := by decide +kernel
theorem dX11_read_36 : decode cX11_read 36 = .ok (.iaload, 1) := by decide +kernel
theorem dX11_read_37 : decode cX11_read 37 = .ok (.ireturn, 1) := by decide +kernel
theorem dX11_drain_0 : decode cX11_drain 0 = .ok (.aload_n 0, 1) := by decide +kernel
theorem dX11_drain_1 : decode cX11_drain 1 = .ok (.iload_n 1, 1) := by decide +kernel
theorem dX11_drain_2 : decode cX11_drain 2 = .ok (.invokevirtual 80, 3) := by decide +kernel
theorem dX11_drain_5 : decode cX11_drain 5 = .ok (.astore 5, 2) := by decide +kernel
theorem dX11_drain_7 : decode cX11_drain 7 = .ok (.aload 5, 2) := by decide +kernel
theorem dX11_drain_9 : decode cX11_drain 9 = .ok (.ifnull 23, 3) := by decide +kernel
theorem dX11_drain_12 : decode cX11_drain 12 = .ok (.aload 5, 2) := by decide +kernel
theorem dX11_drain_14 : decode cX11_drain 14 = .ok (.iload_n 2, 1) := by decide +kernel
theorem dX11_drain_15 : decode cX11_drain 15 = .ok (.iload_n 3, 1) := by decide +kernel
theorem dX11_drain_16 : decode cX11_drain 16 = .ok (.invokevirtual 84, 3) := by decide +kernel
theorem dX11_drain_19 : decode cX11_drain 19 = .ok (.ifCond .eq 13, 3) := by decide +kernel
theorem dX11_drain_22 : decode cX11_drain 22 = .ok (.iload 4, 2) := by decide +kernel
theorem dX11_drain_24 : decode cX11_drain 24 = .ok (.iconst 0, 1) := by decide +kernel
theorem dX11_drain_25 : decode cX11_drain 25 = .ok (.iconst 1, 1) := by decide +kernel
theorem dX11_drain_26 : decode cX11_drain 26 = .ok (.invokestatic 69, 3) := by decide +kernel
theorem dX11_drain_29 : decode cX11_drain 29 = .ok (.ifCond .ne 5, 3) := by decide +kernel
theorem dX11_drain_32 : decode cX11_drain 32 = .ok (.iconst (-1), 1) := by decide +kernel
theorem dX11_drain_33 : decode cX11_drain 33 = .ok (.ireturn, 1) := by decide +kernel
theorem dX11_drain_34 : decode cX11_drain 34 = .ok (.aload 5, 2) := by decide +kernel
theorem dX11_drain_36 : decode cX11_drain 36 = .ok (.iload_n 2, 1) := by decide +kernel
theorem dX11_drain_37 : decode cX11_drain 37 = .ok (.iload_n 3, 1) := by decide +kernel
theorem dX11_drain_38 : decode cX11_drain 38 = .ok (.invokevirtual 88, 3) := by decide +kernel
theorem dX11_drain_41 : decode cX11_drain 41 = .ok (.istore 6, 2) := by decide +kernel
theorem dX11_drain_43 : decode cX11_drain 43 = .ok (.aload 5, 2) := by decide +kernel
theorem dX11_drain_45 : decode cX11_drain 45 = .ok (.getfield 96, 3) := by decide +kernel
theorem dX11_drain_48 : decode cX11_drain 48 = .ok (.iload 6, 2) := by decide +kernel
theorem dX11_drain_50 : decode cX11_drain 50 = .ok (.iaload, 1) := by decide +kernel
theorem dX11_drain_51 : decode cX11_drain 51 = .ok (.istore 7, 2) := by decide +kernel
theorem dX11_drain_53 : decode cX11_drain 53 = .ok (.aload 5, 2) := by decide +kernel
theorem dX11_drain_55 : decode cX11_drain 55 = .ok (.getfield 96, 3) := by decide +kernel
theorem dX11_drain_58 : decode cX11_drain 58 = .ok (.iload 6, 2) := by decide +kernel
theorem dX11_drain_60 : decode cX11_drain 60 = .ok (.iload 4, 2) := by decide +kernel
theorem dX11_drain_62 : decode cX11_drain 62 = .ok (.iastore, 1) := by decide +kernel
theorem dX11_drain_63 : decode cX11_drain 63 = .ok (.iload 7, 2) := by decide +kernel
theorem dX11_drain_65 : decode cX11_drain 65 = .ok (.ireturn, 1) := by decide +kernel
theorem dX11_water_0 : decode cX11_water 0 = .ok (.aload_n 0, 1) := by decide +kernel
theorem dX11_water_1 : decode cX11_water 1 = .ok (.iload_n 1, 1) := by decide +kernel
theorem dX11_water_2 : decode cX11_water 2 = .ok (.invokevirtual 80, 3) := by decide +kernel
theorem dX11_water_5 : decode cX11_water 5 = .ok (.astore 4, 2) := by decide +kernel
theorem dX11_water_7 : decode cX11_water 7 = .ok (.aload 4, 2) := by decide +kernel
theorem dX11_water_9 : decode cX11_water 9 = .ok (.ifnull 13, 3) := by decide +kernel
theorem dX11_water_12 : decode cX11_water 12 = .ok (.aload 4, 2) := by decide +kernel
theorem dX11_water_14 : decode cX11_water 14 = .ok (.iload_n 2, 1) := by decide +kernel
theorem dX11_water_15 : decode cX11_water 15 = .ok (.iload_n 3, 1) := by decide +kernel
theorem dX11_water_16 : decode cX11_water 16 = .ok (.invokevirtual 84, 3) := by decide +kernel
theorem dX11_water_19 : decode cX11_water 19 = .ok (.ifCond .ne 5, 3) := by decide +kernel
theorem dX11_water_22 : decode cX11_water 22 = .ok (.iconst (-1), 1) := by decide +kernel
theorem dX11_water_23 : decode cX11_water 23 = .ok (.ireturn, 1) := by decide +kernel
theorem dX11_water_24 : decode cX11_water 24 = .ok (.aload 4, 2) := by decide +kernel
theorem dX11_water_26 : decode cX11_water 26 = .ok (.aload 4, 2) := by decide +kernel
theorem dX11_water_28 : decode cX11_water 28 = .ok (.iload_n 2, 1) := by decide +kernel
theorem dX11_water_29 : decode cX11_water 29 = .ok (.iload_n 3, 1) := by decide +kernel
theorem dX11_water_30 : decode cX11_water 30 = .ok (.invokevirtual 88, 3) := by decide +kernel
theorem dX11_water_33 : decode cX11_water 33 = .ok (.invokevirtual 99, 3) := by decide +kernel
theorem dX11_water_36 : decode cX11_water 36 = .ok (.istore 5, 2) := by decide +kernel
theorem dX11_water_38 : decode cX11_water 38 = .ok (.bipush 16, 2) := by decide +kernel
theorem dX11_water_40 : decode cX11_water 40 = .ok (.aload 4, 2) := by decide +kernel
theorem dX11_water_42 : decode cX11_water 42 = .ok (.iload 5, 2) := by decide +kernel
theorem dX11_water_44 : decode cX11_water 44 = .ok (.invokevirtual 103, 3) := by decide +kernel
theorem dX11_water_47 : decode cX11_water 47 = .ok (.imul, 1) := by decide +kernel
theorem dX11_water_48 : decode cX11_water 48 = .ok (.aload 4, 2) := by decide +kernel
theorem dX11_water_50 : decode cX11_water 50 = .ok (.iload 5, 2) := by decide +kernel
theorem dX11_water_52 : decode cX11_water 52 = .ok (.invokevirtual 106, 3) := by decide +kernel
theorem dX11_water_55 : decode cX11_water 55 = .ok (.iadd, 1) := by decide +kernel
theorem dX11_water_56 : decode cX11_water 56 = .ok (.istore 6, 2) := by decide +kernel
theorem dX11_water_58 : decode cX11_water 58 = .ok (.aload 4, 2) := by decide +kernel
theorem dX11_water_60 : decode cX11_water 60 = .ok (.getfield 96, 3) := by decide +kernel
theorem dX11_water_63 : decode cX11_water 63 = .ok (.iload 5, 2) := by decide +kernel
theorem dX11_water_65 : decode cX11_water 65 = .ok (.iaload, 1) := by decide +kernel
theorem dX11_water_66 : decode cX11_water 66 = .ok (.iconst 1, 1) := by decide +kernel
theorem dX11_water_67 : decode cX11_water 67 = .ok (.if_icmp .ne 12, 3) := by decide +kernel
theorem dX11_water_70 : decode cX11_water 70 = .ok (.iload 6, 2) := by decide +kernel
theorem dX11_water_72 : decode cX11_water 72 = .ok (.sipush 1000, 3) := by decide +kernel
theorem dX11_water_75 : decode cX11_water 75 = .ok (.iadd, 1) := by decide +kernel
theorem dX11_water_76 : decode cX11_water 76 = .ok (.goto 5, 3) := by decide +kernel
theorem dX11_water_79 : decode cX11_water 79 = .ok (.iload 6, 2) := by decide +kernel
theorem dX11_water_81 : decode cX11_water 81 = .ok (.ireturn, 1) := by decide +kernel
theorem dX11_standing_0 : decode cX11_standing 0 = .ok (.aload_n 0, 1) := by decide +kernel
theorem dX11_standing_1 : decode cX11_standing 1 = .ok (.iload_n 1, 1) := by decide +kernel
theorem dX11_standing_2 : decode cX11_standing 2 = .ok (.invokevirtual 80, 3) := by decide +kernel
theorem dX11_standing_5 : decode cX11_standing 5 = .ok (.astore_n 2, 1) := by decide +kernel
theorem dX11_standing_6 : decode cX11_standing 6 = .ok (.aload_n 2, 1) := by decide +kernel
theorem dX11_standing_7 : decode cX11_standing 7 = .ok (.ifnonnull 7, 3) := by decide +kernel
theorem dX11_standing_10 : decode cX11_standing 10 = .ok (.iconst (-1), 1) := by decide +kernel
theorem dX11_standing_11 : decode cX11_standing 11 = .ok (.goto 11, 3) := by decide +kernel
theorem dX11_standing_14 : decode cX11_standing 14 = .ok (.aload_n 0, 1) := by decide +kernel
theorem dX11_standing_15 : decode cX11_standing 15 = .ok (.getfield 18, 3) := by decide +kernel
theorem dX11_standing_18 : decode cX11_standing 18 = .ok (.aload_n 2, 1) := by decide +kernel
theorem dX11_standing_19 : decode cX11_standing 19 = .ok (.invokevirtual 109, 3) := by decide +kernel
theorem dX11_standing_22 : decode cX11_standing 22 = .ok (.ireturn, 1) := by decide +kernel
theorem dX11_most_0 : decode cX11_most 0 = .ok (.aload_n 0, 1) := by decide +kernel
theorem dX11_most_1 : decode cX11_most 1 = .ok (.iload_n 1, 1) := by decide +kernel
theorem dX11_most_2 : decode cX11_most 2 = .ok (.invokevirtual 80, 3) := by decide +kernel
theorem dX11_most_5 : decode cX11_most 5 = .ok (.astore_n 2, 1) := by decide +kernel
theorem dX11_most_6 : decode cX11_most 6 = .ok (.aload_n 2, 1) := by decide +kernel
theorem dX11_most_7 : decode cX11_most 7 = .ok (.ifnonnull 7, 3) := by decide +kernel
theorem dX11_most_10 : decode cX11_most 10 = .ok (.iconst (-1), 1) := by decide +kernel
theorem dX11_most_11 : decode cX11_most 11 = .ok (.goto 11, 3) := by decide +kernel
theorem dX11_most_14 : decode cX11_most 14 = .ok (.aload_n 0, 1) := by decide +kernel
theorem dX11_most_15 : decode cX11_most 15 = .ok (.getfield 18, 3) := by decide +kernel
theorem dX11_most_18 : decode cX11_most 18 = .ok (.aload_n 2, 1) := by decide +kernel
theorem dX11_most_19 : decode cX11_most 19 = .ok (.invokevirtual 113, 3) := by decide +kernel
theorem dX11_most_22 : decode cX11_most 22 = .ok (.ireturn, 1) := by decide +kernel
theorem dX11_level_0 : decode cX11_level 0 = .ok (.aload_n 0, 1) := by decide +kernel
theorem dX11_level_1 : decode cX11_level 1 = .ok (.iload_n 1, 1) := by decide +kernel
theorem dX11_level_2 : decode cX11_level 2 = .ok (.invokevirtual 80, 3) := by decide +kernel
theorem dX11_level_5 : decode cX11_level 5 = .ok (.astore 5, 2) := by decide +kernel
theorem dX11_level_7 : decode cX11_level 7 = .ok (.aload 5, 2) := by decide +kernel
theorem dX11_level_9 : decode cX11_level 9 = .ok (.ifnull 37, 3) := by decide +kernel
theorem dX11_level_12 : decode cX11_level 12 = .ok (.aload 5, 2) := by decide +kernel
theorem dX11_level_14 : decode cX11_level 14 = .ok (.iload_n 2, 1) := by decide +kernel
theorem dX11_level_15 : decode cX11_level 15 = .ok (.iload_n 3, 1) := by decide +kernel
theorem dX11_level_16 : decode cX11_level 16 = .ok (.invokevirtual 84, 3) := by decide +kernel
theorem dX11_level_19 : decode cX11_level 19 = .ok (.ifCond .eq 27, 3) := by decide +kernel
theorem dX11_level_22 : decode cX11_level 22 = .ok (.iload 4, 2) := by decide +kernel
theorem dX11_level_24 : decode cX11_level 24 = .ok (.iconst 0, 1) := by decide +kernel
theorem dX11_level_25 : decode cX11_level 25 = .ok (.bipush 99, 2) := by decide +kernel
theorem dX11_level_27 : decode cX11_level 27 = .ok (.invokestatic 69, 3) := by decide +kernel
theorem dX11_level_30 : decode cX11_level 30 = .ok (.ifCond .eq 16, 3) := by decide +kernel
theorem dX11_level_33 : decode cX11_level 33 = .ok (.iload 4, 2) := by decide +kernel
theorem dX11_level_35 : decode cX11_level 35 = .ok (.bipush 10, 2) := by decide +kernel
theorem dX11_level_37 : decode cX11_level 37 = .ok (.idiv, 1) := by decide +kernel
theorem dX11_level_38 : decode cX11_level 38 = .ok (.iload 4, 2) := by decide +kernel
theorem dX11_level_40 : decode cX11_level 40 = .ok (.bipush 10, 2) := by decide +kernel
theorem dX11_level_42 : decode cX11_level 42 = .ok (.irem, 1) := by decide +kernel
theorem dX11_level_43 : decode cX11_level 43 = .ok (.if_icmp .le 5, 3) := by decide +kernel
theorem dX11_level_46 : decode cX11_level 46 = .ok (.iconst (-1), 1) := by decide +kernel
theorem dX11_level_47 : decode cX11_level 47 = .ok (.ireturn, 1) := by decide +kernel
theorem dX11_level_48 : decode cX11_level 48 = .ok (.aload_n 0, 1) := by decide +kernel
theorem dX11_level_49 : decode cX11_level 49 = .ok (.getfield 25, 3) := by decide +kernel
theorem dX11_level_52 : decode cX11_level 52 = .ok (.aload 5, 2) := by decide +kernel
theorem dX11_level_54 : decode cX11_level 54 = .ok (.iload_n 2, 1) := by decide +kernel
theorem dX11_level_55 : decode cX11_level 55 = .ok (.iload_n 3, 1) := by decide +kernel
theorem dX11_level_56 : decode cX11_level 56 = .ok (.iload 4, 2) := by decide +kernel
theorem dX11_level_58 : decode cX11_level 58 = .ok (.bipush 10, 2) := by decide +kernel
theorem dX11_level_60 : decode cX11_level 60 = .ok (.idiv, 1) := by decide +kernel
theorem dX11_level_61 : decode cX11_level 61 = .ok (.iload 4, 2) := by decide +kernel
theorem dX11_level_63 : decode cX11_level 63 = .ok (.bipush 10, 2) := by decide +kernel
theorem dX11_level_65 : decode cX11_level 65 = .ok (.irem, 1) := by decide +kernel
theorem dX11_level_66 : decode cX11_level 66 = .ok (.invokevirtual 116, 3) := by decide +kernel
theorem dX11_level_69 : decode cX11_level 69 = .ok (.ireturn, 1) := by decide +kernel
theorem dX11_levelled_0 : decode cX11_levelled 0 = .ok (.aload_n 0, 1) := by decide +kernel
theorem dX11_levelled_1 : decode cX11_levelled 1 = .ok (.getfield 25, 3) := by decide +kernel
theorem dX11_levelled_4 : decode cX11_levelled 4 = .ok (.iload_n 1, 1) := by decide +kernel
theorem dX11_levelled_5 : decode cX11_levelled 5 = .ok (.invokevirtual 120, 3) := by decide +kernel
theorem dX11_levelled_8 : decode cX11_levelled 8 = .ok (.ireturn, 1) := by decide +kernel
theorem dX11_move_0 : decode cX11_move 0 = .ok (.aload_n 0, 1) := by decide +kernel
theorem dX11_move_1 : decode cX11_move 1 = .ok (.getfield 25, 3) := by decide +kernel
theorem dX11_move_4 : decode cX11_move 4 = .ok (.invokevirtual 123, 3) := by decide +kernel
theorem dX11_move_7 : decode cX11_move 7 = .ok (.ireturn, 1) := by decide +kernel
theorem dX11_stones_0 : decode cX11_stones 0 = .ok (.iload_n 1, 1) := by decide +kernel
theorem dX11_stones_1 : decode cX11_stones 1 = .ok (.iconst 1, 1) := by decide +kernel
theorem dX11_stones_2 : decode cX11_stones 2 = .ok (.bipush 9, 2) := by decide +kernel
theorem dX11_stones_4 : decode cX11_stones 4 = .ok (.invokestatic 69, 3) := by decide +kernel
theorem dX11_stones_7 : decode cX11_stones 7 = .ok (.ifCond .eq 13, 3) := by decide +kernel
theorem dX11_stones_10 : decode cX11_stones 10 = .ok (.iload_n 2, 1) := by decide +kernel
theorem dX11_stones_11 : decode cX11_stones 11 = .ok (.iconst 1, 1) := by decide +kernel
theorem dX11_stones_12 : decode cX11_stones 12 = .ok (.bipush 99, 2) := by decide +kernel
theorem dX11_stones_14 : decode cX11_stones 14 = .ok (.invokestatic 69, 3) := by decide +kernel
theorem dX11_stones_17 : decode cX11_stones 17 = .ok (.ifCond .ne 5, 3) := by decide +kernel
theorem dX11_stones_20 : decode cX11_stones 20 = .ok (.iconst (-1), 1) := by decide +kernel
theorem dX11_stones_21 : decode cX11_stones 21 = .ok (.ireturn, 1) := by decide +kernel
theorem dX11_stones_22 : decode cX11_stones 22 = .ok (.aload_n 0, 1) := by decide +kernel
theorem dX11_stones_23 : decode cX11_stones 23 = .ok (.getfield 32, 3) := by decide +kernel
theorem dX11_stones_26 : decode cX11_stones 26 = .ok (.iload_n 1, 1) := by decide +kernel
theorem dX11_stones_27 : decode cX11_stones 27 = .ok (.iload_n 2, 1) := by decide +kernel
theorem dX11_stones_28 : decode cX11_stones 28 = .ok (.invokevirtual 127, 3) := by decide +kernel
theorem dX11_stones_31 : decode cX11_stones 31 = .ok (.ireturn, 1) := by decide +kernel
theorem dX11_course_0 : decode cX11_course 0 = .ok (.iload_n 1, 1) := by decide +kernel
theorem dX11_course_1 : decode cX11_course 1 = .ok (.iconst 1, 1) := by decide +kernel
theorem dX11_course_2 : decode cX11_course 2 = .ok (.bipush 60, 2) := by decide +kernel
theorem dX11_course_4 : decode cX11_course 4 = .ok (.invokestatic 69, 3) := by decide +kernel
theorem dX11_course_7 : decode cX11_course 7 = .ok (.ifCond .eq 14, 3) := by decide +kernel
theorem dX11_course_10 : decode cX11_course 10 = .ok (.aload_n 0, 1) := by decide +kernel
theorem dX11_course_11 : decode cX11_course 11 = .ok (.getfield 32, 3) := by decide +kernel
theorem dX11_course_14 : decode cX11_course 14 = .ok (.iload_n 1, 1) := by decide +kernel
theorem dX11_course_15 : decode cX11_course 15 = .ok (.invokevirtual 130, 3) := by decide +kernel
theorem dX11_course_18 : decode cX11_course 18 = .ok (.goto 4, 3) := by decide +kernel
theorem dX11_course_21 : decode cX11_course 21 = .ok (.iconst (-1), 1) := by decide +kernel
theorem dX11_course_22 : decode cX11_course 22 = .ok (.ireturn, 1) := by decide +kernel
theorem dX11_of_0 : decode cX11_of 0 = .ok (.iload_n 1, 1) := by decide +kernel
theorem dX11_of_1 : decode cX11_of 1 = .ok (.iconst 1, 1) := by decide +kernel
theorem dX11_of_2 : decode cX11_of 2 = .ok (.bipush 9, 2) := by decide +kernel
theorem dX11_of_4 : decode cX11_of 4 = .ok (.invokestatic 69, 3) := by decide +kernel
theorem dX11_of_7 : decode cX11_of 7 = .ok (.ifCond .eq 14, 3) := by decide +kernel
theorem dX11_of_10 : decode cX11_of 10 = .ok (.aload_n 0, 1) := by decide +kernel
theorem dX11_of_11 : decode cX11_of 11 = .ok (.getfield 32, 3) := by decide +kernel
theorem dX11_of_14 : decode cX11_of 14 = .ok (.iload_n 1, 1) := by decide +kernel
theorem dX11_of_15 : decode cX11_of 15 = .ok (.invokevirtual 133, 3) := by decide +kernel
theorem dX11_of_18 : decode cX11_of 18 = .ok (.goto 4, 3) := by decide +kernel
theorem dX11_of_21 : decode cX11_of 21 = .ok (.iconst (-1), 1) := by decide +kernel
theorem dX11_of_22 : decode cX11_of 22 = .ok (.ireturn, 1) := by decide +kernel
theorem dX11_lay_0 : decode cX11_lay 0 = .ok (.iload_n 1, 1) := by decide +kernel
theorem dX11_lay_1 : decode cX11_lay 1 = .ok (.iconst 1, 1) := by decide +kernel
theorem dX11_lay_2 : decode cX11_lay 2 = .ok (.bipush 60, 2) := by decide +kernel
theorem dX11_lay_4 : decode cX11_lay 4 = .ok (.invokestatic 69, 3) := by decide +kernel
theorem dX11_lay_7 : decode cX11_lay 7 = .ok (.ifCond .eq 14, 3) := by decide +kernel
theorem dX11_lay_10 : decode cX11_lay 10 = .ok (.aload_n 0, 1) := by decide +kernel
theorem dX11_lay_11 : decode cX11_lay 11 = .ok (.getfield 32, 3) := by decide +kernel
theorem dX11_lay_14 : decode cX11_lay 14 = .ok (.iload_n 1, 1) := by decide +kernel
theorem dX11_lay_15 : decode cX11_lay 15 = .ok (.invokevirtual 136, 3) := by decide +kernel
theorem dX11_lay_18 : decode cX11_lay 18 = .ok (.goto 4, 3) := by decide +kernel
theorem dX11_lay_21 : decode cX11_lay 21 = .ok (.iconst (-1), 1) := by decide +kernel
theorem dX11_lay_22 : decode cX11_lay 22 = .ok (.ireturn, 1) := by decide +kernel
theorem dX11_year_0 : decode cX11_year 0 = .ok (.aload_n 0, 1) := by decide +kernel
theorem dX11_year_1 : decode cX11_year 1 = .ok (.getfield 139, 3) := by decide +kernel
theorem dX11_year_4 : decode cX11_year 4 = .ok (.bipush 30, 2) := by decide +kernel
theorem dX11_year_6 : decode cX11_year 6 = .ok (.if_icmp .lt 6, 3) := by decide +kernel
theorem dX11_year_9 : decode cX11_year 9 = .ok (.bipush (-2), 2) := by decide +kernel
theorem dX11_year_11 : decode cX11_year 11 = .ok (.ireturn, 1) := by decide +kernel
theorem dX11_year_12 : decode cX11_year 12 = .ok (.aload_n 0, 1) := by decide +kernel
theorem dX11_year_13 : decode cX11_year 13 = .ok (.dup, 1) := by decide +kernel
theorem dX11_year_14 : decode cX11_year 14 = .ok (.getfield 139, 3) := by decide +kernel
theorem dX11_year_17 : decode cX11_year 17 = .ok (.iconst 1, 1) := by decide +kernel
theorem dX11_year_18 : decode cX11_year 18 = .ok (.iadd, 1) := by decide +kernel
theorem dX11_year_19 : decode cX11_year 19 = .ok (.putfield 139, 3) := by decide +kernel
theorem dX11_year_22 : decode cX11_year 22 = .ok (.aload_n 0, 1) := by decide +kernel
theorem dX11_year_23 : decode cX11_year 23 = .ok (.getfield 139, 3) := by decide +kernel
theorem dX11_year_26 : decode cX11_year 26 = .ok (.ireturn, 1) := by decide +kernel
theorem dX11_wheels_0 : decode cX11_wheels 0 = .ok (.aload_n 0, 1) := by decide +kernel
theorem dX11_wheels_1 : decode cX11_wheels 1 = .ok (.iload_n 1, 1) := by decide +kernel
theorem dX11_wheels_2 : decode cX11_wheels 2 = .ok (.invokevirtual 80, 3) := by decide +kernel
theorem dX11_wheels_5 : decode cX11_wheels 5 = .ok (.astore 4, 2) := by decide +kernel
theorem dX11_wheels_7 : decode cX11_wheels 7 = .ok (.aload 4, 2) := by decide +kernel
theorem dX11_wheels_9 : decode cX11_wheels 9 = .ok (.ifnull 26, 3) := by decide +kernel
theorem dX11_wheels_12 : decode cX11_wheels 12 = .ok (.iload_n 2, 1) := by decide +kernel
theorem dX11_wheels_13 : decode cX11_wheels 13 = .ok (.iconst 0, 1) := by decide +kernel
theorem dX11_wheels_14 : decode cX11_wheels 14 = .ok (.aload_n 0, 1) := by decide +kernel
theorem dX11_wheels_15 : decode cX11_wheels 15 = .ok (.getfield 139, 3) := by decide +kernel
theorem dX11_wheels_18 : decode cX11_wheels 18 = .ok (.invokestatic 69, 3) := by decide +kernel
theorem dX11_wheels_21 : decode cX11_wheels 21 = .ok (.ifCond .eq 14, 3) := by decide +kernel
theorem dX11_wheels_24 : decode cX11_wheels 24 = .ok (.iload_n 3, 1) := by decide +kernel
theorem dX11_wheels_25 : decode cX11_wheels 25 = .ok (.iconst (-1), 1) := by decide +kernel
theorem dX11_wheels_26 : decode cX11_wheels 26 = .ok (.sipush 9999, 3) := by decide +kernel
theorem dX11_wheels_29 : decode cX11_wheels 29 = .ok (.invokestatic 69, 3) := by decide +kernel
theorem dX11_wheels_32 : decode cX11_wheels 32 = .ok (.ifCond .ne 5, 3) := by decide +kernel
theorem dX11_wheels_35 : decode cX11_wheels 35 = .ok (.iconst (-1), 1) := by decide +kernel
theorem dX11_wheels_36 : decode cX11_wheels 36 = .ok (.ireturn, 1) := by decide +kernel
theorem dX11_wheels_37 : decode cX11_wheels 37 = .ok (.aload 4, 2) := by decide +kernel
theorem dX11_wheels_39 : decode cX11_wheels 39 = .ok (.getfield 142, 3) := by decide +kernel
theorem dX11_wheels_42 : decode cX11_wheels 42 = .ok (.iload_n 2, 1) := by decide +kernel
theorem dX11_wheels_43 : decode cX11_wheels 43 = .ok (.iload_n 3, 1) := by decide +kernel
theorem dX11_wheels_44 : decode cX11_wheels 44 = .ok (.iastore, 1) := by decide +kernel
theorem dX11_wheels_45 : decode cX11_wheels 45 = .ok (.iconst 1, 1) := by decide +kernel
theorem dX11_wheels_46 : decode cX11_wheels 46 = .ok (.ireturn, 1) := by decide +kernel
theorem dX11_pave_0 : decode cX11_pave 0 = .ok (.aload_n 0, 1) := by decide +kernel
theorem dX11_pave_1 : decode cX11_pave 1 = .ok (.iload_n 1, 1) := by decide +kernel
theorem dX11_pave_2 : decode cX11_pave 2 = .ok (.invokevirtual 80, 3) := by decide +kernel
theorem dX11_pave_5 : decode cX11_pave 5 = .ok (.astore_n 2, 1) := by decide +kernel
theorem dX11_pave_6 : decode cX11_pave 6 = .ok (.aload_n 2, 1) := by decide +kernel
theorem dX11_pave_7 : decode cX11_pave 7 = .ok (.ifnonnull 5, 3) := by decide +kernel
theorem dX11_pave_10 : decode cX11_pave 10 = .ok (.iconst (-1), 1) := by decide +kernel
theorem dX11_pave_11 : decode cX11_pave 11 = .ok (.ireturn, 1) := by decide +kernel
theorem dX11_pave_12 : decode cX11_pave 12 = .ok (.aload_n 2, 1) := by decide +kernel
theorem dX11_pave_13 : decode cX11_pave 13 = .ok (.aload_n 0, 1) := by decide +kernel
theorem dX11_pave_14 : decode cX11_pave 14 = .ok (.getfield 139, 3) := by decide +kernel
theorem dX11_pave_17 : decode cX11_pave 17 = .ok (.aload_n 0, 1) := by decide +kernel
theorem dX11_pave_18 : decode cX11_pave 18 = .ok (.getfield 139, 3) := by decide +kernel
theorem dX11_pave_21 : decode cX11_pave 21 = .ok (.invokevirtual 145, 3) := by decide +kernel
theorem dX11_pave_24 : decode cX11_pave 24 = .ok (.istore_n 3, 1) := by decide +kernel
theorem dX11_pave_25 : decode cX11_pave 25 = .ok (.aload_n 2, 1) := by decide +kernel
theorem dX11_pave_26 : decode cX11_pave 26 = .ok (.aload_n 0, 1) := by decide +kernel
theorem dX11_pave_27 : decode cX11_pave 27 = .ok (.getfield 139, 3) := by decide +kernel
theorem dX11_pave_30 : decode cX11_pave 30 = .ok (.putfield 148, 3) := by decide +kernel
theorem dX11_pave_33 : decode cX11_pave 33 = .ok (.iload_n 3, 1) := by decide +kernel
theorem dX11_pave_34 : decode cX11_pave 34 = .ok (.ireturn, 1) := by decide +kernel
theorem dX11_wear_0 : decode cX11_wear 0 = .ok (.aload_n 0, 1) := by decide +kernel
theorem dX11_wear_1 : decode cX11_wear 1 = .ok (.iload_n 1, 1) := by decide +kernel
theorem dX11_wear_2 : decode cX11_wear 2 = .ok (.invokevirtual 80, 3) := by decide +kernel
theorem dX11_wear_5 : decode cX11_wear 5 = .ok (.astore_n 3, 1) := by decide +kernel
theorem dX11_wear_6 : decode cX11_wear 6 = .ok (.aload_n 3, 1) := by decide +kernel
theorem dX11_wear_7 : decode cX11_wear 7 = .ok (.ifnull 13, 3) := by decide +kernel
theorem dX11_wear_10 : decode cX11_wear 10 = .ok (.iload_n 2, 1) := by decide +kernel
theorem dX11_wear_11 : decode cX11_wear 11 = .ok (.iconst 0, 1) := by decide +kernel
theorem dX11_wear_12 : decode cX11_wear 12 = .ok (.bipush 40, 2) := by decide +kernel
theorem dX11_wear_14 : decode cX11_wear 14 = .ok (.invokestatic 69, 3) := by decide +kernel
theorem dX11_wear_17 : decode cX11_wear 17 = .ok (.ifCond .ne 5, 3) := by decide +kernel
theorem dX11_wear_20 : decode cX11_wear 20 = .ok (.iconst (-1), 1) := by decide +kernel
theorem dX11_wear_21 : decode cX11_wear 21 = .ok (.ireturn, 1) := by decide +kernel
theorem dX11_wear_22 : decode cX11_wear 22 = .ok (.aload_n 3, 1) := by decide +kernel
theorem dX11_wear_23 : decode cX11_wear 23 = .ok (.iload_n 2, 1) := by decide +kernel
theorem dX11_wear_24 : decode cX11_wear 24 = .ok (.aload_n 0, 1) := by decide +kernel
theorem dX11_wear_25 : decode cX11_wear 25 = .ok (.getfield 139, 3) := by decide +kernel
theorem dX11_wear_28 : decode cX11_wear 28 = .ok (.invokevirtual 145, 3) := by decide +kernel
theorem dX11_wear_31 : decode cX11_wear 31 = .ok (.ireturn, 1) := by decide +kernel
theorem dX11_cost_0 : decode cX11_cost 0 = .ok (.aload_n 0, 1) := by decide +kernel
theorem dX11_cost_1 : decode cX11_cost 1 = .ok (.iload_n 1, 1) := by decide +kernel
theorem dX11_cost_2 : decode cX11_cost 2 = .ok (.invokevirtual 80, 3) := by decide +kernel
theorem dX11_cost_5 : decode cX11_cost 5 = .ok (.astore 5, 2) := by decide +kernel
theorem dX11_cost_7 : decode cX11_cost 7 = .ok (.aload 5, 2) := by decide +kernel
theorem dX11_cost_9 : decode cX11_cost 9 = .ok (.ifnull 34, 3) := by decide +kernel
theorem dX11_cost_12 : decode cX11_cost 12 = .ok (.iload_n 2, 1) := by decide +kernel
theorem dX11_cost_13 : decode cX11_cost 13 = .ok (.iconst 1, 1) := by decide +kernel
theorem dX11_cost_14 : decode cX11_cost 14 = .ok (.sipush 9999, 3) := by decide +kernel
theorem dX11_cost_17 : decode cX11_cost 17 = .ok (.invokestatic 69, 3) := by decide +kernel
theorem dX11_cost_20 : decode cX11_cost 20 = .ok (.ifCond .eq 23, 3) := by decide +kernel
theorem dX11_cost_23 : decode cX11_cost 23 = .ok (.iload_n 3, 1) := by decide +kernel
theorem dX11_cost_24 : decode cX11_cost 24 = .ok (.iconst 0, 1) := by decide +kernel
theorem dX11_cost_25 : decode cX11_cost 25 = .ok (.iload_n 2, 1) := by decide +kernel
theorem dX11_cost_26 : decode cX11_cost 26 = .ok (.invokestatic 69, 3) := by decide +kernel
theorem dX11_cost_29 : decode cX11_cost 29 = .ok (.ifCond .eq 14, 3) := by decide +kernel
theorem dX11_cost_32 : decode cX11_cost 32 = .ok (.iload 4, 2) := by decide +kernel
theorem dX11_cost_34 : decode cX11_cost 34 = .ok (.iconst 0, 1) := by decide +kernel
theorem dX11_cost_35 : decode cX11_cost 35 = .ok (.bipush 40, 2) := by decide +kernel
theorem dX11_cost_37 : decode cX11_cost 37 = .ok (.invokestatic 69, 3) := by decide +kernel
theorem dX11_cost_40 : decode cX11_cost 40 = .ok (.ifCond .ne 5, 3) := by decide +kernel
theorem dX11_cost_43 : decode cX11_cost 43 = .ok (.iconst (-1), 1) := by decide +kernel
theorem dX11_cost_44 : decode cX11_cost 44 = .ok (.ireturn, 1) := by decide +kernel
theorem dX11_cost_45 : decode cX11_cost 45 = .ok (.aload 5, 2) := by decide +kernel
theorem dX11_cost_47 : decode cX11_cost 47 = .ok (.iload_n 2, 1) := by decide +kernel
theorem dX11_cost_48 : decode cX11_cost 48 = .ok (.putfield 151, 3) := by decide +kernel
theorem dX11_cost_51 : decode cX11_cost 51 = .ok (.aload 5, 2) := by decide +kernel
theorem dX11_cost_53 : decode cX11_cost 53 = .ok (.iload_n 3, 1) := by decide +kernel
theorem dX11_cost_54 : decode cX11_cost 54 = .ok (.putfield 154, 3) := by decide +kernel
theorem dX11_cost_57 : decode cX11_cost 57 = .ok (.aload 5, 2) := by decide +kernel
theorem dX11_cost_59 : decode cX11_cost 59 = .ok (.iload 4, 2) := by decide +kernel
theorem dX11_cost_61 : decode cX11_cost 61 = .ok (.putfield 157, 3) := by decide +kernel
theorem dX11_cost_64 : decode cX11_cost 64 = .ok (.iconst 1, 1) := by decide +kernel
theorem dX11_cost_65 : decode cX11_cost 65 = .ok (.ireturn, 1) := by decide +kernel
theorem dX11_plan_0 : decode cX11_plan 0 = .ok (.aload_n 0, 1) := by decide +kernel
theorem dX11_plan_1 : decode cX11_plan 1 = .ok (.iload_n 1, 1) := by decide +kernel
theorem dX11_plan_2 : decode cX11_plan 2 = .ok (.invokevirtual 160, 3) := by decide +kernel
theorem dX11_plan_5 : decode cX11_plan 5 = .ok (.ifCond .eq 62, 3) := by decide +kernel
theorem dX11_plan_8 : decode cX11_plan 8 = .ok (.iload_n 2, 1) := by decide +kernel
theorem dX11_plan_9 : decode cX11_plan 9 = .ok (.iconst 1, 1) := by decide +kernel
theorem dX11_plan_10 : decode cX11_plan 10 = .ok (.iconst 3, 1) := by decide +kernel
theorem dX11_plan_11 : decode cX11_plan 11 = .ok (.invokestatic 69, 3) := by decide +kernel
theorem dX11_plan_14 : decode cX11_plan 14 = .ok (.ifCond .eq 53, 3) := by decide +kernel
theorem dX11_plan_17 : decode cX11_plan 17 = .ok (.iload_n 3, 1) := by decide +kernel
theorem dX11_plan_18 : decode cX11_plan 18 = .ok (.iconst 0, 1) := by decide +kernel
theorem dX11_plan_19 : decode cX11_plan 19 = .ok (.ldc 164, 2) := by decide +kernel
theorem dX11_plan_21 : decode cX11_plan 21 = .ok (.invokestatic 69, 3) := by decide +kernel
theorem dX11_plan_24 : decode cX11_plan 24 = .ok (.ifCond .eq 43, 3) := by decide +kernel
theorem dX11_plan_27 : decode cX11_plan 27 = .ok (.iload 4, 2) := by decide +kernel
theorem dX11_plan_29 : decode cX11_plan 29 = .ok (.iconst 0, 1) := by decide +kernel
theorem dX11_plan_30 : decode cX11_plan 30 = .ok (.iload_n 2, 1) := by decide +kernel
theorem dX11_plan_31 : decode cX11_plan 31 = .ok (.iconst 2, 1) := by decide +kernel
theorem dX11_plan_32 : decode cX11_plan 32 = .ok (.if_icmp .lt 8, 3) := by decide +kernel
theorem dX11_plan_35 : decode cX11_plan 35 = .ok (.ldc 164, 2) := by decide +kernel
theorem dX11_plan_37 : decode cX11_plan 37 = .ok (.goto 4, 3) := by decide +kernel
theorem dX11_plan_40 : decode cX11_plan 40 = .ok (.iconst 0, 1) := by decide +kernel
theorem dX11_plan_41 : decode cX11_plan 41 = .ok (.invokestatic 69, 3) := by decide +kernel
theorem dX11_plan_44 : decode cX11_plan 44 = .ok (.ifCond .eq 23, 3) := by decide +kernel
theorem dX11_plan_47 : decode cX11_plan 47 = .ok (.iload 5, 2) := by decide +kernel
theorem dX11_plan_49 : decode cX11_plan 49 = .ok (.iconst 0, 1) := by decide +kernel
theorem dX11_plan_50 : decode cX11_plan 50 = .ok (.iload_n 2, 1) := by decide +kernel
theorem dX11_plan_51 : decode cX11_plan 51 = .ok (.iconst 3, 1) := by decide +kernel
theorem dX11_plan_52 : decode cX11_plan 52 = .ok (.if_icmp .lt 8, 3) := by decide +kernel
theorem dX11_plan_55 : decode cX11_plan 55 = .ok (.ldc 164, 2) := by decide +kernel
theorem dX11_plan_57 : decode cX11_plan 57 = .ok (.goto 4, 3) := by decide +kernel
theorem dX11_plan_60 : decode cX11_plan 60 = .ok (.iconst 0, 1) := by decide +kernel
theorem dX11_plan_61 : decode cX11_plan 61 = .ok (.invokestatic 69, 3) := by decide +kernel
theorem dX11_plan_64 : decode cX11_plan 64 = .ok (.ifCond .ne 5, 3) := by decide +kernel
theorem dX11_plan_67 : decode cX11_plan 67 = .ok (.iconst (-1), 1) := by decide +kernel
theorem dX11_plan_68 : decode cX11_plan 68 = .ok (.ireturn, 1) := by decide +kernel
theorem dX11_plan_69 : decode cX11_plan 69 = .ok (.aload_n 0, 1) := by decide +kernel
theorem dX11_plan_70 : decode cX11_plan 70 = .ok (.getfield 39, 3) := by decide +kernel
theorem dX11_plan_73 : decode cX11_plan 73 = .ok (.iload_n 2, 1) := by decide +kernel
theorem dX11_plan_74 : decode cX11_plan 74 = .ok (.iload_n 3, 1) := by decide +kernel
theorem dX11_plan_75 : decode cX11_plan 75 = .ok (.iload 4, 2) := by decide +kernel
theorem dX11_plan_77 : decode cX11_plan 77 = .ok (.iload 5, 2) := by decide +kernel
theorem dX11_plan_79 : decode cX11_plan 79 = .ok (.invokevirtual 165, 3) := by decide +kernel
theorem dX11_plan_82 : decode cX11_plan 82 = .ok (.iconst 0, 1) := by decide +kernel
theorem dX11_plan_83 : decode cX11_plan 83 = .ok (.istore 6, 2) := by decide +kernel
theorem dX11_plan_85 : decode cX11_plan 85 = .ok (.iload 6, 2) := by decide +kernel
theorem dX11_plan_87 : decode cX11_plan 87 = .ok (.aload_n 0, 1) := by decide +kernel
theorem dX11_plan_88 : decode cX11_plan 88 = .ok (.getfield 73, 3) := by decide +kernel
theorem dX11_plan_91 : decode cX11_plan 91 = .ok (.if_icmp .ge 48, 3) := by decide +kernel
theorem dX11_plan_94 : decode cX11_plan 94 = .ok (.aload_n 0, 1) := by decide +kernel
theorem dX11_plan_95 : decode cX11_plan 95 = .ok (.getfield 11, 3) := by decide +kernel
theorem dX11_plan_98 : decode cX11_plan 98 = .ok (.iload 6, 2) := by decide +kernel
theorem dX11_plan_100 : decode cX11_plan 100 = .ok (.aaload, 1) := by decide +kernel
theorem dX11_plan_101 : decode cX11_plan 101 = .ok (.astore 7, 2) := by decide +kernel
theorem dX11_plan_103 : decode cX11_plan 103 = .ok (.iload_n 1, 1) := by decide +kernel
theorem dX11_plan_104 : decode cX11_plan 104 = .ok (.iload 6, 2) := by decide +kernel
theorem dX11_plan_106 : decode cX11_plan 106 = .ok (.ishr, 1) := by decide +kernel
theorem dX11_plan_107 : decode cX11_plan 107 = .ok (.iconst 1, 1) := by decide +kernel
theorem dX11_plan_108 : decode cX11_plan 108 = .ok (.iand, 1) := by decide +kernel
theorem dX11_plan_109 : decode cX11_plan 109 = .ok (.iconst 1, 1) := by decide +kernel
theorem dX11_plan_110 : decode cX11_plan 110 = .ok (.if_icmp .ne 23, 3) := by decide +kernel
theorem dX11_plan_113 : decode cX11_plan 113 = .ok (.aload 7, 2) := by decide +kernel
theorem dX11_plan_115 : decode cX11_plan 115 = .ok (.ifnull 18, 3) := by decide +kernel
theorem dX11_plan_118 : decode cX11_plan 118 = .ok (.aload_n 0, 1) := by decide +kernel
theorem dX11_plan_119 : decode cX11_plan 119 = .ok (.getfield 39, 3) := by decide +kernel
theorem dX11_plan_122 : decode cX11_plan 122 = .ok (.iload 6, 2) := by decide +kernel
theorem dX11_plan_124 : decode cX11_plan 124 = .ok (.aload 7, 2) := by decide +kernel
theorem dX11_plan_126 : decode cX11_plan 126 = .ok (.aload_n 0, 1) := by decide +kernel
theorem dX11_plan_127 : decode cX11_plan 127 = .ok (.getfield 139, 3) := by decide +kernel
theorem dX11_plan_130 : decode cX11_plan 130 = .ok (.invokevirtual 169, 3) := by decide +kernel
theorem dX11_plan_133 : decode cX11_plan 133 = .ok (.iinc 6 1, 3) := by decide +kernel
theorem dX11_plan_136 : decode cX11_plan 136 = .ok (.goto (-51), 3) := by decide +kernel
theorem dX11_plan_139 : decode cX11_plan 139 = .ok (.aload_n 0, 1) := by decide +kernel
theorem dX11_plan_140 : decode cX11_plan 140 = .ok (.getfield 39, 3) := by decide +kernel
theorem dX11_plan_143 : decode cX11_plan 143 = .ok (.aload_n 0, 1) := by decide +kernel
theorem dX11_plan_144 : decode cX11_plan 144 = .ok (.getfield 139, 3) := by decide +kernel
theorem dX11_plan_147 : decode cX11_plan 147 = .ok (.invokevirtual 173, 3) := by decide +kernel
theorem dX11_plan_150 : decode cX11_plan 150 = .ok (.ireturn, 1) := by decide +kernel
theorem dX11_planned_0 : decode cX11_planned 0 = .ok (.aload_n 0, 1) := by decide +kernel
theorem dX11_planned_1 : decode cX11_planned 1 = .ok (.getfield 39, 3) := by decide +kernel
theorem dX11_planned_4 : decode cX11_planned 4 = .ok (.iload_n 1, 1) := by decide +kernel
theorem dX11_planned_5 : decode cX11_planned 5 = .ok (.invokevirtual 176, 3) := by decide +kernel
theorem dX11_planned_8 : decode cX11_planned 8 = .ok (.ireturn, 1) := by decide +kernel
theorem dX11_house_0 : decode cX11_house 0 = .ok (.aload_n 0, 1) := by decide +kernel
theorem dX11_house_1 : decode cX11_house 1 = .ok (.iload_n 1, 1) := by decide +kernel
theorem dX11_house_2 : decode cX11_house 2 = .ok (.invokevirtual 179, 3) := by decide +kernel
theorem dX11_house_5 : decode cX11_house 5 = .ok (.ifCond .eq 14, 3) := by decide +kernel
theorem dX11_house_8 : decode cX11_house 8 = .ok (.iload_n 3, 1) := by decide +kernel
theorem dX11_house_9 : decode cX11_house 9 = .ok (.iconst 0, 1) := by decide +kernel
theorem dX11_house_10 : decode cX11_house 10 = .ok (.sipush 999, 3) := by decide +kernel
theorem dX11_house_13 : decode cX11_house 13 = .ok (.invokestatic 69, 3) := by decide +kernel
theorem dX11_house_16 : decode cX11_house 16 = .ok (.ifCond .ne 5, 3) := by decide +kernel
theorem dX11_house_19 : decode cX11_house 19 = .ok (.iconst (-1), 1) := by decide +kernel
theorem dX11_house_20 : decode cX11_house 20 = .ok (.ireturn, 1) := by decide +kernel
theorem dX11_house_21 : decode cX11_house 21 = .ok (.iload_n 2, 1) := by decide +kernel
theorem dX11_house_22 : decode cX11_house 22 = .ok (.iconst (-1), 1) := by decide +kernel
theorem dX11_house_23 : decode cX11_house 23 = .ok (.if_icmp .eq 24, 3) := by decide +kernel
theorem dX11_house_26 : decode cX11_house 26 = .ok (.aload_n 0, 1) := by decide +kernel
theorem dX11_house_27 : decode cX11_house 27 = .ok (.iload_n 2, 1) := by decide +kernel
theorem dX11_house_28 : decode cX11_house 28 = .ok (.invokevirtual 179, 3) := by decide +kernel
theorem dX11_house_31 : decode cX11_house 31 = .ok (.ifCond .eq 14, 3) := by decide +kernel
theorem dX11_house_34 : decode cX11_house 34 = .ok (.iload_n 2, 1) := by decide +kernel
theorem dX11_house_35 : decode cX11_house 35 = .ok (.bipush 100, 2) := by decide +kernel
theorem dX11_house_37 : decode cX11_house 37 = .ok (.idiv, 1) := by decide +kernel
theorem dX11_house_38 : decode cX11_house 38 = .ok (.iload_n 1, 1) := by decide +kernel
theorem dX11_house_39 : decode cX11_house 39 = .ok (.bipush 100, 2) := by decide +kernel
theorem dX11_house_41 : decode cX11_house 41 = .ok (.idiv, 1) := by decide +kernel
theorem dX11_house_42 : decode cX11_house 42 = .ok (.if_icmp .ne 5, 3) := by decide +kernel
theorem dX11_house_45 : decode cX11_house 45 = .ok (.iconst (-1), 1) := by decide +kernel
theorem dX11_house_46 : decode cX11_house 46 = .ok (.ireturn, 1) := by decide +kernel
theorem dX11_house_47 : decode cX11_house 47 = .ok (.aload_n 0, 1) := by decide +kernel
theorem dX11_house_48 : decode cX11_house 48 = .ok (.getfield 182, 3) := by decide +kernel
theorem dX11_house_51 : decode cX11_house 51 = .ok (.bipush 60, 2) := by decide +kernel
theorem dX11_house_53 : decode cX11_house 53 = .ok (.if_icmp .lt 6, 3) := by decide +kernel
theorem dX11_house_56 : decode cX11_house 56 = .ok (.bipush (-3), 2) := by decide +kernel
theorem dX11_house_58 : decode cX11_house 58 = .ok (.ireturn, 1) := by decide +kernel
theorem dX11_house_59 : decode cX11_house 59 = .ok (.aload_n 0, 1) := by decide +kernel
theorem dX11_house_60 : decode cX11_house 60 = .ok (.getfield 45, 3) := by decide +kernel
theorem dX11_house_63 : decode cX11_house 63 = .ok (.aload_n 0, 1) := by decide +kernel
theorem dX11_house_64 : decode cX11_house 64 = .ok (.getfield 182, 3) := by decide +kernel
theorem dX11_house_67 : decode cX11_house 67 = .ok (.new 43, 3) := by decide +kernel
theorem dX11_house_70 : decode cX11_house 70 = .ok (.dup, 1) := by decide +kernel
theorem dX11_house_71 : decode cX11_house 71 = .ok (.iload_n 1, 1) := by decide +kernel
theorem dX11_house_72 : decode cX11_house 72 = .ok (.iload_n 2, 1) := by decide +kernel
theorem dX11_house_73 : decode cX11_house 73 = .ok (.iload_n 3, 1) := by decide +kernel
theorem dX11_house_74 : decode cX11_house 74 = .ok (.invokespecial 185, 3) := by decide +kernel
theorem dX11_house_77 : decode cX11_house 77 = .ok (.aastore, 1) := by decide +kernel
theorem dX11_house_78 : decode cX11_house 78 = .ok (.aload_n 0, 1) := by decide +kernel
theorem dX11_house_79 : decode cX11_house 79 = .ok (.dup, 1) := by decide +kernel
theorem dX11_house_80 : decode cX11_house 80 = .ok (.getfield 182, 3) := by decide +kernel
theorem dX11_house_83 : decode cX11_house 83 = .ok (.iconst 1, 1) := by decide +kernel
theorem dX11_house_84 : decode cX11_house 84 = .ok (.iadd, 1) := by decide +kernel
theorem dX11_house_85 : decode cX11_house 85 = .ok (.putfield 182, 3) := by decide +kernel
theorem dX11_house_88 : decode cX11_house 88 = .ok (.aload_n 0, 1) := by decide +kernel
theorem dX11_house_89 : decode cX11_house 89 = .ok (.getfield 182, 3) := by decide +kernel
theorem dX11_house_92 : decode cX11_house 92 = .ok (.iconst 1, 1) := by decide +kernel
theorem dX11_house_93 : decode cX11_house 93 = .ok (.isub, 1) := by decide +kernel
theorem dX11_house_94 : decode cX11_house 94 = .ok (.ireturn, 1) := by decide +kernel
theorem dX11_days_0 : decode cX11_days 0 = .ok (.iload_n 1, 1) := by decide +kernel
theorem dX11_days_1 : decode cX11_days 1 = .ok (.iconst 1, 1) := by decide +kernel
theorem dX11_days_2 : decode cX11_days 2 = .ok (.bipush 100, 2) := by decide +kernel
theorem dX11_days_4 : decode cX11_days 4 = .ok (.invokestatic 69, 3) := by decide +kernel
theorem dX11_days_7 : decode cX11_days 7 = .ok (.ifCond .eq 15, 3) := by decide +kernel
theorem dX11_days_10 : decode cX11_days 10 = .ok (.aload_n 0, 1) := by decide +kernel
theorem dX11_days_11 : decode cX11_days 11 = .ok (.getfield 186, 3) := by decide +kernel
theorem dX11_days_14 : decode cX11_days 14 = .ok (.iload_n 1, 1) := by decide +kernel
theorem dX11_days_15 : decode cX11_days 15 = .ok (.iadd, 1) := by decide +kernel
theorem dX11_days_16 : decode cX11_days 16 = .ok (.sipush 9999, 3) := by decide +kernel
theorem dX11_days_19 : decode cX11_days 19 = .ok (.if_icmp .le 5, 3) := by decide +kernel
end
section
theorem dX11_days_22 : decode cX11_days 22 = .ok (.iconst (-1), 1) := by decide +kernel
theorem dX11_days_23 : decode cX11_days 23 = .ok (.ireturn, 1) := by decide +kernel
theorem dX11_days_24 : decode cX11_days 24 = .ok (.aload_n 0, 1) := by decide +kernel
theorem dX11_days_25 : decode cX11_days 25 = .ok (.dup, 1) := by decide +kernel
theorem dX11_days_26 : decode cX11_days 26 = .ok (.getfield 186, 3) := by decide +kernel
theorem dX11_days_29 : decode cX11_days 29 = .ok (.iload_n 1, 1) := by decide +kernel
theorem dX11_days_30 : decode cX11_days 30 = .ok (.iadd, 1) := by decide +kernel
theorem dX11_days_31 : decode cX11_days 31 = .ok (.putfield 186, 3) := by decide +kernel
theorem dX11_days_34 : decode cX11_days 34 = .ok (.aload_n 0, 1) := by decide +kernel
theorem dX11_days_35 : decode cX11_days 35 = .ok (.getfield 186, 3) := by decide +kernel
theorem dX11_days_38 : decode cX11_days 38 = .ok (.ireturn, 1) := by decide +kernel
theorem dX11_feed_0 : decode cX11_feed 0 = .ok (.iload_n 1, 1) := by decide +kernel
theorem dX11_feed_1 : decode cX11_feed 1 = .ok (.iconst 1, 1) := by decide +kernel
theorem dX11_feed_2 : decode cX11_feed 2 = .ok (.iconst 4, 1) := by decide +kernel
theorem dX11_feed_3 : decode cX11_feed 3 = .ok (.invokestatic 69, 3) := by decide +kernel
theorem dX11_feed_6 : decode cX11_feed 6 = .ok (.ifCond .eq 15, 3) := by decide +kernel
theorem dX11_feed_9 : decode cX11_feed 9 = .ok (.aload_n 0, 1) := by decide +kernel
theorem dX11_feed_10 : decode cX11_feed 10 = .ok (.getfield 52, 3) := by decide +kernel
theorem dX11_feed_13 : decode cX11_feed 13 = .ok (.iload_n 1, 1) := by decide +kernel
theorem dX11_feed_14 : decode cX11_feed 14 = .ok (.iload_n 2, 1) := by decide +kernel
theorem dX11_feed_15 : decode cX11_feed 15 = .ok (.invokevirtual 189, 3) := by decide +kernel
theorem dX11_feed_18 : decode cX11_feed 18 = .ok (.goto 4, 3) := by decide +kernel
theorem dX11_feed_21 : decode cX11_feed 21 = .ok (.iconst (-1), 1) := by decide +kernel
theorem dX11_feed_22 : decode cX11_feed 22 = .ok (.ireturn, 1) := by decide +kernel
theorem dX11_act_0 : decode cX11_act 0 = .ok (.iload_n 1, 1) := by decide +kernel
theorem dX11_act_1 : decode cX11_act 1 = .ok (.invokestatic 192, 3) := by decide +kernel
theorem dX11_act_4 : decode cX11_act 4 = .ok (.ifCond .eq 10, 3) := by decide +kernel
theorem dX11_act_7 : decode cX11_act 7 = .ok (.iload_n 2, 1) := by decide +kernel
theorem dX11_act_8 : decode cX11_act 8 = .ok (.invokestatic 195, 3) := by decide +kernel
theorem dX11_act_11 : decode cX11_act 11 = .ok (.ifCond .ne 5, 3) := by decide +kernel
theorem dX11_act_14 : decode cX11_act 14 = .ok (.iconst (-1), 1) := by decide +kernel
theorem dX11_act_15 : decode cX11_act 15 = .ok (.ireturn, 1) := by decide +kernel
theorem dX11_act_16 : decode cX11_act 16 = .ok (.aload_n 0, 1) := by decide +kernel
theorem dX11_act_17 : decode cX11_act 17 = .ok (.getfield 52, 3) := by decide +kernel
theorem dX11_act_20 : decode cX11_act 20 = .ok (.iload_n 1, 1) := by decide +kernel
theorem dX11_act_21 : decode cX11_act 21 = .ok (.iload_n 2, 1) := by decide +kernel
theorem dX11_act_22 : decode cX11_act 22 = .ok (.aload_n 0, 1) := by decide +kernel
theorem dX11_act_23 : decode cX11_act 23 = .ok (.getfield 186, 3) := by decide +kernel
theorem dX11_act_26 : decode cX11_act 26 = .ok (.invokevirtual 198, 3) := by decide +kernel
theorem dX11_act_29 : decode cX11_act 29 = .ok (.ireturn, 1) := by decide +kernel
theorem dX11_inForce_0 : decode cX11_inForce 0 = .ok (.iload_n 1, 1) := by decide +kernel
theorem dX11_inForce_1 : decode cX11_inForce 1 = .ok (.invokestatic 192, 3) := by decide +kernel
theorem dX11_inForce_4 : decode cX11_inForce 4 = .ok (.ifCond .eq 17, 3) := by decide +kernel
theorem dX11_inForce_7 : decode cX11_inForce 7 = .ok (.iload_n 2, 1) := by decide +kernel
theorem dX11_inForce_8 : decode cX11_inForce 8 = .ok (.invokestatic 195, 3) := by decide +kernel
theorem dX11_inForce_11 : decode cX11_inForce 11 = .ok (.ifCond .eq 10, 3) := by decide +kernel
theorem dX11_inForce_14 : decode cX11_inForce 14 = .ok (.iload_n 3, 1) := by decide +kernel
theorem dX11_inForce_15 : decode cX11_inForce 15 = .ok (.invokestatic 195, 3) := by decide +kernel
theorem dX11_inForce_18 : decode cX11_inForce 18 = .ok (.ifCond .ne 5, 3) := by decide +kernel
theorem dX11_inForce_21 : decode cX11_inForce 21 = .ok (.iconst (-1), 1) := by decide +kernel
theorem dX11_inForce_22 : decode cX11_inForce 22 = .ok (.ireturn, 1) := by decide +kernel
theorem dX11_inForce_23 : decode cX11_inForce 23 = .ok (.aload_n 0, 1) := by decide +kernel
theorem dX11_inForce_24 : decode cX11_inForce 24 = .ok (.getfield 52, 3) := by decide +kernel
theorem dX11_inForce_27 : decode cX11_inForce 27 = .ok (.iload_n 1, 1) := by decide +kernel
theorem dX11_inForce_28 : decode cX11_inForce 28 = .ok (.iload_n 2, 1) := by decide +kernel
theorem dX11_inForce_29 : decode cX11_inForce 29 = .ok (.iload_n 3, 1) := by decide +kernel
theorem dX11_inForce_30 : decode cX11_inForce 30 = .ok (.invokevirtual 202, 3) := by decide +kernel
theorem dX11_inForce_33 : decode cX11_inForce 33 = .ok (.istore 4, 2) := by decide +kernel
theorem dX11_inForce_35 : decode cX11_inForce 35 = .ok (.iload 4, 2) := by decide +kernel
theorem dX11_inForce_37 : decode cX11_inForce 37 = .ok (.iconst (-1), 1) := by decide +kernel
theorem dX11_inForce_38 : decode cX11_inForce 38 = .ok (.if_icmp .ne 8, 3) := by decide +kernel
theorem dX11_inForce_41 : decode cX11_inForce 41 = .ok (.bipush (-2), 2) := by decide +kernel
theorem dX11_inForce_43 : decode cX11_inForce 43 = .ok (.goto 5, 3) := by decide +kernel
theorem dX11_inForce_46 : decode cX11_inForce 46 = .ok (.iload 4, 2) := by decide +kernel
theorem dX11_inForce_48 : decode cX11_inForce 48 = .ok (.ireturn, 1) := by decide +kernel
theorem dX11_rate_0 : decode cX11_rate 0 = .ok (.aload_n 0, 1) := by decide +kernel
theorem dX11_rate_1 : decode cX11_rate 1 = .ok (.iload_n 1, 1) := by decide +kernel
theorem dX11_rate_2 : decode cX11_rate 2 = .ok (.invokevirtual 205, 3) := by decide +kernel
theorem dX11_rate_5 : decode cX11_rate 5 = .ok (.astore 4, 2) := by decide +kernel
theorem dX11_rate_7 : decode cX11_rate 7 = .ok (.aload 4, 2) := by decide +kernel
theorem dX11_rate_9 : decode cX11_rate 9 = .ok (.ifnull 17, 3) := by decide +kernel
theorem dX11_rate_12 : decode cX11_rate 12 = .ok (.iload_n 2, 1) := by decide +kernel
theorem dX11_rate_13 : decode cX11_rate 13 = .ok (.invokestatic 195, 3) := by decide +kernel
theorem dX11_rate_16 : decode cX11_rate 16 = .ok (.ifCond .eq 10, 3) := by decide +kernel
theorem dX11_rate_19 : decode cX11_rate 19 = .ok (.iload_n 3, 1) := by decide +kernel
theorem dX11_rate_20 : decode cX11_rate 20 = .ok (.invokestatic 195, 3) := by decide +kernel
theorem dX11_rate_23 : decode cX11_rate 23 = .ok (.ifCond .ne 6, 3) := by decide +kernel
theorem dX11_rate_26 : decode cX11_rate 26 = .ok (.ldc 209, 2) := by decide +kernel
theorem dX11_rate_28 : decode cX11_rate 28 = .ok (.ireturn, 1) := by decide +kernel
theorem dX11_rate_29 : decode cX11_rate 29 = .ok (.aload_n 0, 1) := by decide +kernel
theorem dX11_rate_30 : decode cX11_rate 30 = .ok (.getfield 52, 3) := by decide +kernel
theorem dX11_rate_33 : decode cX11_rate 33 = .ok (.iconst 0, 1) := by decide +kernel
theorem dX11_rate_34 : decode cX11_rate 34 = .ok (.iload_n 2, 1) := by decide +kernel
theorem dX11_rate_35 : decode cX11_rate 35 = .ok (.iload_n 3, 1) := by decide +kernel
theorem dX11_rate_36 : decode cX11_rate 36 = .ok (.invokevirtual 210, 3) := by decide +kernel
theorem dX11_rate_39 : decode cX11_rate 39 = .ok (.astore 5, 2) := by decide +kernel
theorem dX11_rate_41 : decode cX11_rate 41 = .ok (.aload_n 0, 1) := by decide +kernel
theorem dX11_rate_42 : decode cX11_rate 42 = .ok (.getfield 52, 3) := by decide +kernel
theorem dX11_rate_45 : decode cX11_rate 45 = .ok (.aload 5, 2) := by decide +kernel
theorem dX11_rate_47 : decode cX11_rate 47 = .ok (.aload 4, 2) := by decide +kernel
theorem dX11_rate_49 : decode cX11_rate 49 = .ok (.iconst 0, 1) := by decide +kernel
theorem dX11_rate_50 : decode cX11_rate 50 = .ok (.iload_n 2, 1) := by decide +kernel
theorem dX11_rate_51 : decode cX11_rate 51 = .ok (.invokevirtual 214, 3) := by decide +kernel
theorem dX11_rate_54 : decode cX11_rate 54 = .ok (.istore 6, 2) := by decide +kernel
theorem dX11_rate_56 : decode cX11_rate 56 = .ok (.aload 4, 2) := by decide +kernel
theorem dX11_rate_58 : decode cX11_rate 58 = .ok (.invokevirtual 218, 3) := by decide +kernel
theorem dX11_rate_61 : decode cX11_rate 61 = .ok (.ifCond .eq 21, 3) := by decide +kernel
theorem dX11_rate_64 : decode cX11_rate 64 = .ok (.iload 6, 2) := by decide +kernel
theorem dX11_rate_66 : decode cX11_rate 66 = .ok (.aload_n 0, 1) := by decide +kernel
theorem dX11_rate_67 : decode cX11_rate 67 = .ok (.getfield 52, 3) := by decide +kernel
theorem dX11_rate_70 : decode cX11_rate 70 = .ok (.aload 5, 2) := by decide +kernel
theorem dX11_rate_72 : decode cX11_rate 72 = .ok (.aload 4, 2) := by decide +kernel
theorem dX11_rate_74 : decode cX11_rate 74 = .ok (.iconst 1, 1) := by decide +kernel
theorem dX11_rate_75 : decode cX11_rate 75 = .ok (.iload_n 2, 1) := by decide +kernel
theorem dX11_rate_76 : decode cX11_rate 76 = .ok (.invokevirtual 214, 3) := by decide +kernel
theorem dX11_rate_79 : decode cX11_rate 79 = .ok (.iadd, 1) := by decide +kernel
theorem dX11_rate_80 : decode cX11_rate 80 = .ok (.istore 6, 2) := by decide +kernel
theorem dX11_rate_82 : decode cX11_rate 82 = .ok (.iload 6, 2) := by decide +kernel
theorem dX11_rate_84 : decode cX11_rate 84 = .ok (.ireturn, 1) := by decide +kernel
theorem dX11_rates_0 : decode cX11_rates 0 = .ok (.aload_n 0, 1) := by decide +kernel
theorem dX11_rates_1 : decode cX11_rates 1 = .ok (.iload_n 1, 1) := by decide +kernel
theorem dX11_rates_2 : decode cX11_rates 2 = .ok (.invokevirtual 80, 3) := by decide +kernel
theorem dX11_rates_5 : decode cX11_rates 5 = .ok (.ifnull 10, 3) := by decide +kernel
theorem dX11_rates_8 : decode cX11_rates 8 = .ok (.iload_n 2, 1) := by decide +kernel
theorem dX11_rates_9 : decode cX11_rates 9 = .ok (.invokestatic 195, 3) := by decide +kernel
theorem dX11_rates_12 : decode cX11_rates 12 = .ok (.ifCond .ne 6, 3) := by decide +kernel
theorem dX11_rates_15 : decode cX11_rates 15 = .ok (.ldc 209, 2) := by decide +kernel
theorem dX11_rates_17 : decode cX11_rates 17 = .ok (.ireturn, 1) := by decide +kernel
theorem dX11_rates_18 : decode cX11_rates 18 = .ok (.aload_n 0, 1) := by decide +kernel
theorem dX11_rates_19 : decode cX11_rates 19 = .ok (.getfield 52, 3) := by decide +kernel
theorem dX11_rates_22 : decode cX11_rates 22 = .ok (.iconst 0, 1) := by decide +kernel
theorem dX11_rates_23 : decode cX11_rates 23 = .ok (.iload_n 2, 1) := by decide +kernel
theorem dX11_rates_24 : decode cX11_rates 24 = .ok (.iload_n 2, 1) := by decide +kernel
theorem dX11_rates_25 : decode cX11_rates 25 = .ok (.invokevirtual 210, 3) := by decide +kernel
theorem dX11_rates_28 : decode cX11_rates 28 = .ok (.astore_n 3, 1) := by decide +kernel
theorem dX11_rates_29 : decode cX11_rates 29 = .ok (.iconst 0, 1) := by decide +kernel
theorem dX11_rates_30 : decode cX11_rates 30 = .ok (.istore 4, 2) := by decide +kernel
theorem dX11_rates_32 : decode cX11_rates 32 = .ok (.iconst 0, 1) := by decide +kernel
theorem dX11_rates_33 : decode cX11_rates 33 = .ok (.istore 5, 2) := by decide +kernel
theorem dX11_rates_35 : decode cX11_rates 35 = .ok (.iload 5, 2) := by decide +kernel
theorem dX11_rates_37 : decode cX11_rates 37 = .ok (.aload_n 0, 1) := by decide +kernel
theorem dX11_rates_38 : decode cX11_rates 38 = .ok (.getfield 182, 3) := by decide +kernel
theorem dX11_rates_41 : decode cX11_rates 41 = .ok (.if_icmp .ge 62, 3) := by decide +kernel
theorem dX11_rates_44 : decode cX11_rates 44 = .ok (.aload_n 0, 1) := by decide +kernel
theorem dX11_rates_45 : decode cX11_rates 45 = .ok (.getfield 45, 3) := by decide +kernel
theorem dX11_rates_48 : decode cX11_rates 48 = .ok (.iload 5, 2) := by decide +kernel
theorem dX11_rates_50 : decode cX11_rates 50 = .ok (.aaload, 1) := by decide +kernel
theorem dX11_rates_51 : decode cX11_rates 51 = .ok (.astore 6, 2) := by decide +kernel
theorem dX11_rates_53 : decode cX11_rates 53 = .ok (.aload 6, 2) := by decide +kernel
theorem dX11_rates_55 : decode cX11_rates 55 = .ok (.ifnull 42, 3) := by decide +kernel
theorem dX11_rates_58 : decode cX11_rates 58 = .ok (.aload 6, 2) := by decide +kernel
theorem dX11_rates_60 : decode cX11_rates 60 = .ok (.iload_n 1, 1) := by decide +kernel
theorem dX11_rates_61 : decode cX11_rates 61 = .ok (.invokevirtual 222, 3) := by decide +kernel
theorem dX11_rates_64 : decode cX11_rates 64 = .ok (.ifCond .eq 33, 3) := by decide +kernel
theorem dX11_rates_67 : decode cX11_rates 67 = .ok (.iload 4, 2) := by decide +kernel
theorem dX11_rates_69 : decode cX11_rates 69 = .ok (.aload_n 0, 1) := by decide +kernel
theorem dX11_rates_70 : decode cX11_rates 70 = .ok (.getfield 52, 3) := by decide +kernel
theorem dX11_rates_73 : decode cX11_rates 73 = .ok (.aload_n 3, 1) := by decide +kernel
theorem dX11_rates_74 : decode cX11_rates 74 = .ok (.aload 6, 2) := by decide +kernel
theorem dX11_rates_76 : decode cX11_rates 76 = .ok (.aload 6, 2) := by decide +kernel
theorem dX11_rates_78 : decode cX11_rates 78 = .ok (.getfield 225, 3) := by decide +kernel
theorem dX11_rates_81 : decode cX11_rates 81 = .ok (.iload_n 1, 1) := by decide +kernel
theorem dX11_rates_82 : decode cX11_rates 82 = .ok (.if_icmp .eq 7, 3) := by decide +kernel
theorem dX11_rates_85 : decode cX11_rates 85 = .ok (.iconst 1, 1) := by decide +kernel
theorem dX11_rates_86 : decode cX11_rates 86 = .ok (.goto 4, 3) := by decide +kernel
theorem dX11_rates_89 : decode cX11_rates 89 = .ok (.iconst 0, 1) := by decide +kernel
theorem dX11_rates_90 : decode cX11_rates 90 = .ok (.iload_n 2, 1) := by decide +kernel
theorem dX11_rates_91 : decode cX11_rates 91 = .ok (.invokevirtual 214, 3) := by decide +kernel
theorem dX11_rates_94 : decode cX11_rates 94 = .ok (.iadd, 1) := by decide +kernel
theorem dX11_rates_95 : decode cX11_rates 95 = .ok (.istore 4, 2) := by decide +kernel
theorem dX11_rates_97 : decode cX11_rates 97 = .ok (.iinc 5 1, 3) := by decide +kernel
theorem dX11_rates_100 : decode cX11_rates 100 = .ok (.goto (-65), 3) := by decide +kernel
theorem dX11_rates_103 : decode cX11_rates 103 = .ok (.iload 4, 2) := by decide +kernel
theorem dX11_rates_105 : decode cX11_rates 105 = .ok (.ireturn, 1) := by decide +kernel
theorem dX11_clause_0 : decode cX11_clause 0 = .ok (.aload_n 0, 1) := by decide +kernel
theorem dX11_clause_1 : decode cX11_clause 1 = .ok (.iload_n 1, 1) := by decide +kernel
theorem dX11_clause_2 : decode cX11_clause 2 = .ok (.invokevirtual 205, 3) := by decide +kernel
theorem dX11_clause_5 : decode cX11_clause 5 = .ok (.astore_n 3, 1) := by decide +kernel
theorem dX11_clause_6 : decode cX11_clause 6 = .ok (.aload_n 3, 1) := by decide +kernel
theorem dX11_clause_7 : decode cX11_clause 7 = .ok (.ifnull 10, 3) := by decide +kernel
theorem dX11_clause_10 : decode cX11_clause 10 = .ok (.iload_n 2, 1) := by decide +kernel
theorem dX11_clause_11 : decode cX11_clause 11 = .ok (.invokestatic 195, 3) := by decide +kernel
theorem dX11_clause_14 : decode cX11_clause 14 = .ok (.ifCond .ne 5, 3) := by decide +kernel
theorem dX11_clause_17 : decode cX11_clause 17 = .ok (.iconst (-1), 1) := by decide +kernel
theorem dX11_clause_18 : decode cX11_clause 18 = .ok (.ireturn, 1) := by decide +kernel
theorem dX11_clause_19 : decode cX11_clause 19 = .ok (.aload_n 0, 1) := by decide +kernel
theorem dX11_clause_20 : decode cX11_clause 20 = .ok (.getfield 52, 3) := by decide +kernel
theorem dX11_clause_23 : decode cX11_clause 23 = .ok (.aload_n 0, 1) := by decide +kernel
theorem dX11_clause_24 : decode cX11_clause 24 = .ok (.getfield 52, 3) := by decide +kernel
theorem dX11_clause_27 : decode cX11_clause 27 = .ok (.iconst 0, 1) := by decide +kernel
theorem dX11_clause_28 : decode cX11_clause 28 = .ok (.iload_n 2, 1) := by decide +kernel
theorem dX11_clause_29 : decode cX11_clause 29 = .ok (.iload_n 2, 1) := by decide +kernel
theorem dX11_clause_30 : decode cX11_clause 30 = .ok (.invokevirtual 210, 3) := by decide +kernel
theorem dX11_clause_33 : decode cX11_clause 33 = .ok (.aload_n 3, 1) := by decide +kernel
theorem dX11_clause_34 : decode cX11_clause 34 = .ok (.iload_n 2, 1) := by decide +kernel
theorem dX11_clause_35 : decode cX11_clause 35 = .ok (.invokevirtual 228, 3) := by decide +kernel
theorem dX11_clause_38 : decode cX11_clause 38 = .ok (.istore 4, 2) := by decide +kernel
theorem dX11_clause_40 : decode cX11_clause 40 = .ok (.iload 4, 2) := by decide +kernel
theorem dX11_clause_42 : decode cX11_clause 42 = .ok (.iconst (-1), 1) := by decide +kernel
theorem dX11_clause_43 : decode cX11_clause 43 = .ok (.if_icmp .ne 8, 3) := by decide +kernel
theorem dX11_clause_46 : decode cX11_clause 46 = .ok (.bipush (-2), 2) := by decide +kernel
theorem dX11_clause_48 : decode cX11_clause 48 = .ok (.goto 5, 3) := by decide +kernel
theorem dX11_clause_51 : decode cX11_clause 51 = .ok (.iload 4, 2) := by decide +kernel
theorem dX11_clause_53 : decode cX11_clause 53 = .ok (.ireturn, 1) := by decide +kernel
theorem dX11_open_0 : decode cX11_open 0 = .ok (.iload_n 1, 1) := by decide +kernel
theorem dX11_open_1 : decode cX11_open 1 = .ok (.iconst 0, 1) := by decide +kernel
theorem dX11_open_2 : decode cX11_open 2 = .ok (.iconst 3, 1) := by decide +kernel
theorem dX11_open_3 : decode cX11_open 3 = .ok (.invokestatic 69, 3) := by decide +kernel
theorem dX11_open_6 : decode cX11_open 6 = .ok (.ifCond .eq 23, 3) := by decide +kernel
theorem dX11_open_9 : decode cX11_open 9 = .ok (.aload_n 0, 1) := by decide +kernel
theorem dX11_open_10 : decode cX11_open 10 = .ok (.iload_n 2, 1) := by decide +kernel
theorem dX11_open_11 : decode cX11_open 11 = .ok (.iload_n 3, 1) := by decide +kernel
theorem dX11_open_12 : decode cX11_open 12 = .ok (.invokevirtual 232, 3) := by decide +kernel
theorem dX11_open_15 : decode cX11_open 15 = .ok (.ifCond .eq 14, 3) := by decide +kernel
theorem dX11_open_18 : decode cX11_open 18 = .ok (.iload 4, 2) := by decide +kernel
theorem dX11_open_20 : decode cX11_open 20 = .ok (.iconst 1, 1) := by decide +kernel
theorem dX11_open_21 : decode cX11_open 21 = .ok (.bipush 99, 2) := by decide +kernel
theorem dX11_open_23 : decode cX11_open 23 = .ok (.invokestatic 69, 3) := by decide +kernel
theorem dX11_open_26 : decode cX11_open 26 = .ok (.ifCond .ne 5, 3) := by decide +kernel
theorem dX11_open_29 : decode cX11_open 29 = .ok (.iconst (-1), 1) := by decide +kernel
theorem dX11_open_30 : decode cX11_open 30 = .ok (.ireturn, 1) := by decide +kernel
theorem dX11_open_31 : decode cX11_open 31 = .ok (.aload_n 0, 1) := by decide +kernel
theorem dX11_open_32 : decode cX11_open 32 = .ok (.iload_n 2, 1) := by decide +kernel
theorem dX11_open_33 : decode cX11_open 33 = .ok (.iload_n 3, 1) := by decide +kernel
theorem dX11_open_34 : decode cX11_open 34 = .ok (.invokevirtual 235, 3) := by decide +kernel
theorem dX11_open_37 : decode cX11_open 37 = .ok (.iconst (-1), 1) := by decide +kernel
theorem dX11_open_38 : decode cX11_open 38 = .ok (.if_icmp .eq 6, 3) := by decide +kernel
theorem dX11_open_41 : decode cX11_open 41 = .ok (.bipush (-2), 2) := by decide +kernel
theorem dX11_open_43 : decode cX11_open 43 = .ok (.ireturn, 1) := by decide +kernel
theorem dX11_open_44 : decode cX11_open 44 = .ok (.aload_n 0, 1) := by decide +kernel
theorem dX11_open_45 : decode cX11_open 45 = .ok (.getfield 238, 3) := by decide +kernel
theorem dX11_open_48 : decode cX11_open 48 = .ok (.sipush 200, 3) := by decide +kernel
theorem dX11_open_51 : decode cX11_open 51 = .ok (.if_icmp .lt 6, 3) := by decide +kernel
theorem dX11_open_54 : decode cX11_open 54 = .ok (.bipush (-3), 2) := by decide +kernel
theorem dX11_open_56 : decode cX11_open 56 = .ok (.ireturn, 1) := by decide +kernel
theorem dX11_open_57 : decode cX11_open 57 = .ok (.aload_n 0, 1) := by decide +kernel
theorem dX11_open_58 : decode cX11_open 58 = .ok (.getfield 58, 3) := by decide +kernel
theorem dX11_open_61 : decode cX11_open 61 = .ok (.aload_n 0, 1) := by decide +kernel
theorem dX11_open_62 : decode cX11_open 62 = .ok (.getfield 238, 3) := by decide +kernel
theorem dX11_open_65 : decode cX11_open 65 = .ok (.new 56, 3) := by decide +kernel
theorem dX11_open_68 : decode cX11_open 68 = .ok (.dup, 1) := by decide +kernel
theorem dX11_open_69 : decode cX11_open 69 = .ok (.iload_n 1, 1) := by decide +kernel
theorem dX11_open_70 : decode cX11_open 70 = .ok (.iload_n 2, 1) := by decide +kernel
theorem dX11_open_71 : decode cX11_open 71 = .ok (.iload_n 3, 1) := by decide +kernel
theorem dX11_open_72 : decode cX11_open 72 = .ok (.aload_n 0, 1) := by decide +kernel
theorem dX11_open_73 : decode cX11_open 73 = .ok (.getfield 186, 3) := by decide +kernel
theorem dX11_open_76 : decode cX11_open 76 = .ok (.iload 4, 2) := by decide +kernel
theorem dX11_open_78 : decode cX11_open 78 = .ok (.invokespecial 241, 3) := by decide +kernel
theorem dX11_open_81 : decode cX11_open 81 = .ok (.aastore, 1) := by decide +kernel
theorem dX11_open_82 : decode cX11_open 82 = .ok (.aload_n 0, 1) := by decide +kernel
theorem dX11_open_83 : decode cX11_open 83 = .ok (.dup, 1) := by decide +kernel
theorem dX11_open_84 : decode cX11_open 84 = .ok (.getfield 238, 3) := by decide +kernel
theorem dX11_open_87 : decode cX11_open 87 = .ok (.iconst 1, 1) := by decide +kernel
theorem dX11_open_88 : decode cX11_open 88 = .ok (.iadd, 1) := by decide +kernel
theorem dX11_open_89 : decode cX11_open 89 = .ok (.putfield 238, 3) := by decide +kernel
theorem dX11_open_92 : decode cX11_open 92 = .ok (.aload_n 0, 1) := by decide +kernel
theorem dX11_open_93 : decode cX11_open 93 = .ok (.getfield 238, 3) := by decide +kernel
theorem dX11_open_96 : decode cX11_open 96 = .ok (.iconst 1, 1) := by decide +kernel
theorem dX11_open_97 : decode cX11_open 97 = .ok (.isub, 1) := by decide +kernel
theorem dX11_open_98 : decode cX11_open 98 = .ok (.ireturn, 1) := by decide +kernel
theorem dX11_back_0 : decode cX11_back 0 = .ok (.aload_n 0, 1) := by decide +kernel
theorem dX11_back_1 : decode cX11_back 1 = .ok (.iload_n 1, 1) := by decide +kernel
theorem dX11_back_2 : decode cX11_back 2 = .ok (.invokevirtual 244, 3) := by decide +kernel
theorem dX11_back_5 : decode cX11_back 5 = .ok (.astore_n 2, 1) := by decide +kernel
theorem dX11_back_6 : decode cX11_back 6 = .ok (.aload_n 2, 1) := by decide +kernel
theorem dX11_back_7 : decode cX11_back 7 = .ok (.ifnonnull 5, 3) := by decide +kernel
theorem dX11_back_10 : decode cX11_back 10 = .ok (.iconst (-1), 1) := by decide +kernel
theorem dX11_back_11 : decode cX11_back 11 = .ok (.ireturn, 1) := by decide +kernel
theorem dX11_back_12 : decode cX11_back 12 = .ok (.aload_n 2, 1) := by decide +kernel
theorem dX11_back_13 : decode cX11_back 13 = .ok (.invokevirtual 248, 3) := by decide +kernel
theorem dX11_back_16 : decode cX11_back 16 = .ok (.ifCond .ne 6, 3) := by decide +kernel
theorem dX11_back_19 : decode cX11_back 19 = .ok (.bipush (-2), 2) := by decide +kernel
theorem dX11_back_21 : decode cX11_back 21 = .ok (.ireturn, 1) := by decide +kernel
theorem dX11_back_22 : decode cX11_back 22 = .ok (.aload_n 2, 1) := by decide +kernel
theorem dX11_back_23 : decode cX11_back 23 = .ok (.aload_n 0, 1) := by decide +kernel
theorem dX11_back_24 : decode cX11_back 24 = .ok (.getfield 186, 3) := by decide +kernel
theorem dX11_back_27 : decode cX11_back 27 = .ok (.putfield 251, 3) := by decide +kernel
theorem dX11_back_30 : decode cX11_back 30 = .ok (.aload_n 0, 1) := by decide +kernel
theorem dX11_back_31 : decode cX11_back 31 = .ok (.getfield 186, 3) := by decide +kernel
theorem dX11_back_34 : decode cX11_back 34 = .ok (.aload_n 2, 1) := by decide +kernel
theorem dX11_back_35 : decode cX11_back 35 = .ok (.getfield 254, 3) := by decide +kernel
theorem dX11_back_38 : decode cX11_back 38 = .ok (.isub, 1) := by decide +kernel
theorem dX11_back_39 : decode cX11_back 39 = .ok (.ireturn, 1) := by decide +kernel
theorem dX11_penalty_0 : decode cX11_penalty 0 = .ok (.aload_n 0, 1) := by decide +kernel
theorem dX11_penalty_1 : decode cX11_penalty 1 = .ok (.iload_n 1, 1) := by decide +kernel
theorem dX11_penalty_2 : decode cX11_penalty 2 = .ok (.invokevirtual 244, 3) := by decide +kernel
theorem dX11_penalty_5 : decode cX11_penalty 5 = .ok (.astore 4, 2) := by decide +kernel
theorem dX11_penalty_7 : decode cX11_penalty 7 = .ok (.aload 4, 2) := by decide +kernel
theorem dX11_penalty_9 : decode cX11_penalty 9 = .ok (.ifnull 22, 3) := by decide +kernel
theorem dX11_penalty_12 : decode cX11_penalty 12 = .ok (.iload_n 2, 1) := by decide +kernel
theorem dX11_penalty_13 : decode cX11_penalty 13 = .ok (.iconst 0, 1) := by decide +kernel
theorem dX11_penalty_14 : decode cX11_penalty 14 = .ok (.aload_n 0, 1) := by decide +kernel
theorem dX11_penalty_15 : decode cX11_penalty 15 = .ok (.getfield 186, 3) := by decide +kernel
theorem dX11_penalty_18 : decode cX11_penalty 18 = .ok (.invokestatic 69, 3) := by decide +kernel
theorem dX11_penalty_21 : decode cX11_penalty 21 = .ok (.ifCond .eq 10, 3) := by decide +kernel
theorem dX11_penalty_24 : decode cX11_penalty 24 = .ok (.iload_n 3, 1) := by decide +kernel
theorem dX11_penalty_25 : decode cX11_penalty 25 = .ok (.invokestatic 195, 3) := by decide +kernel
theorem dX11_penalty_28 : decode cX11_penalty 28 = .ok (.ifCond .ne 6, 3) := by decide +kernel
theorem dX11_penalty_31 : decode cX11_penalty 31 = .ok (.ldc 209, 2) := by decide +kernel
theorem dX11_penalty_33 : decode cX11_penalty 33 = .ok (.ireturn, 1) := by decide +kernel
theorem dX11_penalty_34 : decode cX11_penalty 34 = .ok (.iload_n 2, 1) := by decide +kernel
theorem dX11_penalty_35 : decode cX11_penalty 35 = .ok (.aload 4, 2) := by decide +kernel
theorem dX11_penalty_37 : decode cX11_penalty 37 = .ok (.getfield 254, 3) := by decide +kernel
theorem dX11_penalty_40 : decode cX11_penalty 40 = .ok (.if_icmp .ge 5, 3) := by decide +kernel
theorem dX11_penalty_43 : decode cX11_penalty 43 = .ok (.iconst 0, 1) := by decide +kernel
theorem dX11_penalty_44 : decode cX11_penalty 44 = .ok (.ireturn, 1) := by decide +kernel
theorem dX11_penalty_45 : decode cX11_penalty 45 = .ok (.aload_n 0, 1) := by decide +kernel
theorem dX11_penalty_46 : decode cX11_penalty 46 = .ok (.getfield 52, 3) := by decide +kernel
theorem dX11_penalty_49 : decode cX11_penalty 49 = .ok (.iconst 1, 1) := by decide +kernel
theorem dX11_penalty_50 : decode cX11_penalty 50 = .ok (.iload_n 2, 1) := by decide +kernel
theorem dX11_penalty_51 : decode cX11_penalty 51 = .ok (.iload_n 3, 1) := by decide +kernel
theorem dX11_penalty_52 : decode cX11_penalty 52 = .ok (.invokevirtual 210, 3) := by decide +kernel
theorem dX11_penalty_55 : decode cX11_penalty 55 = .ok (.astore 5, 2) := by decide +kernel
theorem dX11_penalty_57 : decode cX11_penalty 57 = .ok (.aload_n 0, 1) := by decide +kernel
theorem dX11_penalty_58 : decode cX11_penalty 58 = .ok (.getfield 52, 3) := by decide +kernel
theorem dX11_penalty_61 : decode cX11_penalty 61 = .ok (.aload 5, 2) := by decide +kernel
theorem dX11_penalty_63 : decode cX11_penalty 63 = .ok (.aload 4, 2) := by decide +kernel
theorem dX11_penalty_65 : decode cX11_penalty 65 = .ok (.iload_n 2, 1) := by decide +kernel
theorem dX11_penalty_66 : decode cX11_penalty 66 = .ok (.aload_n 0, 1) := by decide +kernel
theorem dX11_penalty_67 : decode cX11_penalty 67 = .ok (.aload 4, 2) := by decide +kernel
theorem dX11_penalty_69 : decode cX11_penalty 69 = .ok (.getfield 257, 3) := by decide +kernel
theorem dX11_penalty_72 : decode cX11_penalty 72 = .ok (.invokevirtual 260, 3) := by decide +kernel
theorem dX11_penalty_75 : decode cX11_penalty 75 = .ok (.invokevirtual 263, 3) := by decide +kernel
theorem dX11_penalty_78 : decode cX11_penalty 78 = .ok (.ireturn, 1) := by decide +kernel
theorem dX11_sink_0 : decode cX11_sink 0 = .ok (.aload_n 0, 1) := by decide +kernel
theorem dX11_sink_1 : decode cX11_sink 1 = .ok (.iload_n 1, 1) := by decide +kernel
theorem dX11_sink_2 : decode cX11_sink 2 = .ok (.iload_n 2, 1) := by decide +kernel
theorem dX11_sink_3 : decode cX11_sink 3 = .ok (.invokevirtual 232, 3) := by decide +kernel
theorem dX11_sink_6 : decode cX11_sink 6 = .ok (.ifCond .ne 5, 3) := by decide +kernel
theorem dX11_sink_9 : decode cX11_sink 9 = .ok (.iconst (-1), 1) := by decide +kernel
theorem dX11_sink_10 : decode cX11_sink 10 = .ok (.ireturn, 1) := by decide +kernel
theorem dX11_sink_11 : decode cX11_sink 11 = .ok (.aload_n 0, 1) := by decide +kernel
theorem dX11_sink_12 : decode cX11_sink 12 = .ok (.iload_n 1, 1) := by decide +kernel
theorem dX11_sink_13 : decode cX11_sink 13 = .ok (.iload_n 2, 1) := by decide +kernel
theorem dX11_sink_14 : decode cX11_sink 14 = .ok (.invokevirtual 235, 3) := by decide +kernel
theorem dX11_sink_17 : decode cX11_sink 17 = .ok (.istore_n 3, 1) := by decide +kernel
theorem dX11_sink_18 : decode cX11_sink 18 = .ok (.iload_n 3, 1) := by decide +kernel
theorem dX11_sink_19 : decode cX11_sink 19 = .ok (.iconst (-1), 1) := by decide +kernel
theorem dX11_sink_20 : decode cX11_sink 20 = .ok (.if_icmp .eq 7, 3) := by decide +kernel
theorem dX11_sink_23 : decode cX11_sink 23 = .ok (.iload_n 3, 1) := by decide +kernel
theorem dX11_sink_24 : decode cX11_sink 24 = .ok (.goto 9, 3) := by decide +kernel
theorem dX11_sink_27 : decode cX11_sink 27 = .ok (.aload_n 0, 1) := by decide +kernel
theorem dX11_sink_28 : decode cX11_sink 28 = .ok (.iload_n 1, 1) := by decide +kernel
theorem dX11_sink_29 : decode cX11_sink 29 = .ok (.iload_n 2, 1) := by decide +kernel
theorem dX11_sink_30 : decode cX11_sink 30 = .ok (.invokevirtual 267, 3) := by decide +kernel
theorem dX11_sink_33 : decode cX11_sink 33 = .ok (.istore 4, 2) := by decide +kernel
theorem dX11_sink_35 : decode cX11_sink 35 = .ok (.iload 4, 2) := by decide +kernel
theorem dX11_sink_37 : decode cX11_sink 37 = .ok (.iconst (-1), 1) := by decide +kernel
theorem dX11_sink_38 : decode cX11_sink 38 = .ok (.if_icmp .ne 8, 3) := by decide +kernel
theorem dX11_sink_41 : decode cX11_sink 41 = .ok (.bipush (-2), 2) := by decide +kernel
theorem dX11_sink_43 : decode cX11_sink 43 = .ok (.goto 5, 3) := by decide +kernel
theorem dX11_sink_46 : decode cX11_sink 46 = .ok (.iload 4, 2) := by decide +kernel
theorem dX11_sink_48 : decode cX11_sink 48 = .ok (.ireturn, 1) := by decide +kernel
theorem dX11_opening_0 : decode cX11_opening 0 = .ok (.aload_n 0, 1) := by decide +kernel
theorem dX11_opening_1 : decode cX11_opening 1 = .ok (.iload_n 1, 1) := by decide +kernel
theorem dX11_opening_2 : decode cX11_opening 2 = .ok (.invokevirtual 244, 3) := by decide +kernel
theorem dX11_opening_5 : decode cX11_opening 5 = .ok (.astore_n 3, 1) := by decide +kernel
theorem dX11_opening_6 : decode cX11_opening 6 = .ok (.aload_n 3, 1) := by decide +kernel
theorem dX11_opening_7 : decode cX11_opening 7 = .ok (.ifnonnull 6, 3) := by decide +kernel
theorem dX11_opening_10 : decode cX11_opening 10 = .ok (.bipush (-2), 2) := by decide +kernel
theorem dX11_opening_12 : decode cX11_opening 12 = .ok (.ireturn, 1) := by decide +kernel
theorem dX11_opening_13 : decode cX11_opening 13 = .ok (.iload_n 2, 1) := by decide +kernel
theorem dX11_opening_14 : decode cX11_opening 14 = .ok (.tableswitch 68 0 5 #[38, 43, 48, 53, 58, 63], 38) := by decide +kernel
theorem dX11_opening_52 : decode cX11_opening 52 = .ok (.aload_n 3, 1) := by decide +kernel
theorem dX11_opening_53 : decode cX11_opening 53 = .ok (.getfield 257, 3) := by decide +kernel
theorem dX11_opening_56 : decode cX11_opening 56 = .ok (.ireturn, 1) := by decide +kernel
theorem dX11_opening_57 : decode cX11_opening 57 = .ok (.aload_n 3, 1) := by decide +kernel
theorem dX11_opening_58 : decode cX11_opening 58 = .ok (.getfield 270, 3) := by decide +kernel
theorem dX11_opening_61 : decode cX11_opening 61 = .ok (.ireturn, 1) := by decide +kernel
theorem dX11_opening_62 : decode cX11_opening 62 = .ok (.aload_n 3, 1) := by decide +kernel
theorem dX11_opening_63 : decode cX11_opening 63 = .ok (.getfield 273, 3) := by decide +kernel
theorem dX11_opening_66 : decode cX11_opening 66 = .ok (.ireturn, 1) := by decide +kernel
theorem dX11_opening_67 : decode cX11_opening 67 = .ok (.aload_n 3, 1) := by decide +kernel
theorem dX11_opening_68 : decode cX11_opening 68 = .ok (.getfield 254, 3) := by decide +kernel
theorem dX11_opening_71 : decode cX11_opening 71 = .ok (.ireturn, 1) := by decide +kernel
theorem dX11_opening_72 : decode cX11_opening 72 = .ok (.aload_n 3, 1) := by decide +kernel
theorem dX11_opening_73 : decode cX11_opening 73 = .ok (.getfield 276, 3) := by decide +kernel
theorem dX11_opening_76 : decode cX11_opening 76 = .ok (.ireturn, 1) := by decide +kernel
theorem dX11_opening_77 : decode cX11_opening 77 = .ok (.aload_n 3, 1) := by decide +kernel
theorem dX11_opening_78 : decode cX11_opening 78 = .ok (.getfield 251, 3) := by decide +kernel
theorem dX11_opening_81 : decode cX11_opening 81 = .ok (.ireturn, 1) := by decide +kernel
theorem dX11_opening_82 : decode cX11_opening 82 = .ok (.bipush (-2), 2) := by decide +kernel
theorem dX11_opening_84 : decode cX11_opening 84 = .ok (.ireturn, 1) := by decide +kernel
theorem dX11_draw_0 : decode cX11_draw 0 = .ok (.iload_n 1, 1) := by decide +kernel
theorem dX11_draw_1 : decode cX11_draw 1 = .ok (.iconst 1, 1) := by decide +kernel
theorem dX11_draw_2 : decode cX11_draw 2 = .ok (.bipush 40, 2) := by decide +kernel
theorem dX11_draw_4 : decode cX11_draw 4 = .ok (.invokestatic 69, 3) := by decide +kernel
theorem dX11_draw_7 : decode cX11_draw 7 = .ok (.ifCond .eq 12, 3) := by decide +kernel
theorem dX11_draw_10 : decode cX11_draw 10 = .ok (.iload_n 2, 1) := by decide +kernel
theorem dX11_draw_11 : decode cX11_draw 11 = .ok (.iconst 1, 1) := by decide +kernel
theorem dX11_draw_12 : decode cX11_draw 12 = .ok (.iload_n 1, 1) := by decide +kernel
theorem dX11_draw_13 : decode cX11_draw 13 = .ok (.invokestatic 69, 3) := by decide +kernel
theorem dX11_draw_16 : decode cX11_draw 16 = .ok (.ifCond .ne 5, 3) := by decide +kernel
theorem dX11_draw_19 : decode cX11_draw 19 = .ok (.iconst (-1), 1) := by decide +kernel
theorem dX11_draw_20 : decode cX11_draw 20 = .ok (.ireturn, 1) := by decide +kernel
theorem dX11_draw_21 : decode cX11_draw 21 = .ok (.aload_n 0, 1) := by decide +kernel
theorem dX11_draw_22 : decode cX11_draw 22 = .ok (.getfield 65, 3) := by decide +kernel
theorem dX11_draw_25 : decode cX11_draw 25 = .ok (.iload_n 1, 1) := by decide +kernel
theorem dX11_draw_26 : decode cX11_draw 26 = .ok (.iload_n 2, 1) := by decide +kernel
theorem dX11_draw_27 : decode cX11_draw 27 = .ok (.iload_n 3, 1) := by decide +kernel
theorem dX11_draw_28 : decode cX11_draw 28 = .ok (.invokevirtual 279, 3) := by decide +kernel
theorem dX11_draw_31 : decode cX11_draw 31 = .ok (.ireturn, 1) := by decide +kernel
theorem dX11_drawn_0 : decode cX11_drawn 0 = .ok (.aload_n 0, 1) := by decide +kernel
theorem dX11_drawn_1 : decode cX11_drawn 1 = .ok (.getfield 65, 3) := by decide +kernel
theorem dX11_drawn_4 : decode cX11_drawn 4 = .ok (.iload_n 1, 1) := by decide +kernel
theorem dX11_drawn_5 : decode cX11_drawn 5 = .ok (.invokevirtual 282, 3) := by decide +kernel
theorem dX11_drawn_8 : decode cX11_drawn 8 = .ok (.ireturn, 1) := by decide +kernel
theorem dX11_bad_0 : decode cX11_bad 0 = .ok (.iload_n 1, 1) := by decide +kernel
theorem dX11_bad_1 : decode cX11_bad 1 = .ok (.iconst 1, 1) := by decide +kernel
theorem dX11_bad_2 : decode cX11_bad 2 = .ok (.bipush 40, 2) := by decide +kernel
theorem dX11_bad_4 : decode cX11_bad 4 = .ok (.invokestatic 69, 3) := by decide +kernel
theorem dX11_bad_7 : decode cX11_bad 7 = .ok (.ifCond .eq 33, 3) := by decide +kernel
theorem dX11_bad_10 : decode cX11_bad 10 = .ok (.iload_n 2, 1) := by decide +kernel
theorem dX11_bad_11 : decode cX11_bad 11 = .ok (.iconst 1, 1) := by decide +kernel
theorem dX11_bad_12 : decode cX11_bad 12 = .ok (.iload_n 1, 1) := by decide +kernel
theorem dX11_bad_13 : decode cX11_bad 13 = .ok (.invokestatic 69, 3) := by decide +kernel
theorem dX11_bad_16 : decode cX11_bad 16 = .ok (.ifCond .eq 24, 3) := by decide +kernel
theorem dX11_bad_19 : decode cX11_bad 19 = .ok (.iload_n 3, 1) := by decide +kernel
theorem dX11_bad_20 : decode cX11_bad 20 = .ok (.iconst 0, 1) := by decide +kernel
theorem dX11_bad_21 : decode cX11_bad 21 = .ok (.iload_n 2, 1) := by decide +kernel
theorem dX11_bad_22 : decode cX11_bad 22 = .ok (.invokestatic 69, 3) := by decide +kernel
theorem dX11_bad_25 : decode cX11_bad 25 = .ok (.ifCond .eq 15, 3) := by decide +kernel
theorem dX11_bad_28 : decode cX11_bad 28 = .ok (.iload 4, 2) := by decide +kernel
theorem dX11_bad_30 : decode cX11_bad 30 = .ok (.iconst 1, 1) := by decide +kernel
theorem dX11_bad_31 : decode cX11_bad 31 = .ok (.sipush 9999, 3) := by decide +kernel
theorem dX11_bad_34 : decode cX11_bad 34 = .ok (.invokestatic 69, 3) := by decide +kernel
theorem dX11_bad_37 : decode cX11_bad 37 = .ok (.ifCond .ne 5, 3) := by decide +kernel
theorem dX11_bad_40 : decode cX11_bad 40 = .ok (.iconst (-1), 1) := by decide +kernel
theorem dX11_bad_41 : decode cX11_bad 41 = .ok (.ireturn, 1) := by decide +kernel
theorem dX11_bad_42 : decode cX11_bad 42 = .ok (.aload_n 0, 1) := by decide +kernel
theorem dX11_bad_43 : decode cX11_bad 43 = .ok (.getfield 65, 3) := by decide +kernel
theorem dX11_bad_46 : decode cX11_bad 46 = .ok (.iload_n 1, 1) := by decide +kernel
theorem dX11_bad_47 : decode cX11_bad 47 = .ok (.iload_n 2, 1) := by decide +kernel
theorem dX11_bad_48 : decode cX11_bad 48 = .ok (.iload_n 3, 1) := by decide +kernel
theorem dX11_bad_49 : decode cX11_bad 49 = .ok (.iload 4, 2) := by decide +kernel
theorem dX11_bad_51 : decode cX11_bad 51 = .ok (.invokevirtual 285, 3) := by decide +kernel
theorem dX11_bad_54 : decode cX11_bad 54 = .ok (.ireturn, 1) := by decide +kernel
theorem dX11_count_0 : decode cX11_count 0 = .ok (.iload_n 1, 1) := by decide +kernel
theorem dX11_count_1 : decode cX11_count 1 = .ok (.tableswitch 105 0 8 #[51, 56, 61, 69, 74, 79, 84, 89, 97], 51) := by decide +kernel
theorem dX11_count_52 : decode cX11_count 52 = .ok (.aload_n 0, 1) := by decide +kernel
theorem dX11_count_53 : decode cX11_count 53 = .ok (.getfield 73, 3) := by decide +kernel
theorem dX11_count_56 : decode cX11_count 56 = .ok (.ireturn, 1) := by decide +kernel
theorem dX11_count_57 : decode cX11_count 57 = .ok (.aload_n 0, 1) := by decide +kernel
theorem dX11_count_58 : decode cX11_count 58 = .ok (.getfield 182, 3) := by decide +kernel
theorem dX11_count_61 : decode cX11_count 61 = .ok (.ireturn, 1) := by decide +kernel
theorem dX11_count_62 : decode cX11_count 62 = .ok (.aload_n 0, 1) := by decide +kernel
theorem dX11_count_63 : decode cX11_count 63 = .ok (.getfield 52, 3) := by decide +kernel
theorem dX11_count_66 : decode cX11_count 66 = .ok (.getfield 289, 3) := by decide +kernel
theorem dX11_count_69 : decode cX11_count 69 = .ok (.ireturn, 1) := by decide +kernel
theorem dX11_count_70 : decode cX11_count 70 = .ok (.aload_n 0, 1) := by decide +kernel
theorem dX11_count_71 : decode cX11_count 71 = .ok (.getfield 238, 3) := by decide +kernel
theorem dX11_count_74 : decode cX11_count 74 = .ok (.ireturn, 1) := by decide +kernel
theorem dX11_count_75 : decode cX11_count 75 = .ok (.aload_n 0, 1) := by decide +kernel
theorem dX11_count_76 : decode cX11_count 76 = .ok (.invokevirtual 292, 3) := by decide +kernel
theorem dX11_count_79 : decode cX11_count 79 = .ok (.ireturn, 1) := by decide +kernel
theorem dX11_count_80 : decode cX11_count 80 = .ok (.aload_n 0, 1) := by decide +kernel
theorem dX11_count_81 : decode cX11_count 81 = .ok (.getfield 186, 3) := by decide +kernel
theorem dX11_count_84 : decode cX11_count 84 = .ok (.ireturn, 1) := by decide +kernel
theorem dX11_count_85 : decode cX11_count 85 = .ok (.aload_n 0, 1) := by decide +kernel
theorem dX11_count_86 : decode cX11_count 86 = .ok (.getfield 139, 3) := by decide +kernel
theorem dX11_count_89 : decode cX11_count 89 = .ok (.ireturn, 1) := by decide +kernel
theorem dX11_count_90 : decode cX11_count 90 = .ok (.aload_n 0, 1) := by decide +kernel
theorem dX11_count_91 : decode cX11_count 91 = .ok (.getfield 52, 3) := by decide +kernel
theorem dX11_count_94 : decode cX11_count 94 = .ok (.getfield 295, 3) := by decide +kernel
theorem dX11_count_97 : decode cX11_count 97 = .ok (.ireturn, 1) := by decide +kernel
theorem dX11_count_98 : decode cX11_count 98 = .ok (.aload_n 0, 1) := by decide +kernel
theorem dX11_count_99 : decode cX11_count 99 = .ok (.getfield 32, 3) := by decide +kernel
theorem dX11_count_102 : decode cX11_count 102 = .ok (.invokevirtual 298, 3) := by decide +kernel
theorem dX11_count_105 : decode cX11_count 105 = .ok (.ireturn, 1) := by decide +kernel
theorem dX11_count_106 : decode cX11_count 106 = .ok (.iconst (-1), 1) := by decide +kernel
theorem dX11_count_107 : decode cX11_count 107 = .ok (.ireturn, 1) := by decide +kernel
theorem dX11_within_0 : decode cX11_within 0 = .ok (.iload_n 0, 1) := by decide +kernel
theorem dX11_within_1 : decode cX11_within 1 = .ok (.iload_n 1, 1) := by decide +kernel
theorem dX11_within_2 : decode cX11_within 2 = .ok (.if_icmp .lt 12, 3) := by decide +kernel
theorem dX11_within_5 : decode cX11_within 5 = .ok (.iload_n 0, 1) := by decide +kernel
theorem dX11_within_6 : decode cX11_within 6 = .ok (.iload_n 2, 1) := by decide +kernel
theorem dX11_within_7 : decode cX11_within 7 = .ok (.if_icmp .gt 7, 3) := by decide +kernel
theorem dX11_within_10 : decode cX11_within 10 = .ok (.iconst 1, 1) := by decide +kernel
theorem dX11_within_11 : decode cX11_within 11 = .ok (.goto 4, 3) := by decide +kernel
theorem dX11_within_14 : decode cX11_within 14 = .ok (.iconst 0, 1) := by decide +kernel
theorem dX11_within_15 : decode cX11_within 15 = .ok (.ireturn, 1) := by decide +kernel
theorem dX11_isDay_0 : decode cX11_isDay 0 = .ok (.iload_n 0, 1) := by decide +kernel
theorem dX11_isDay_1 : decode cX11_isDay 1 = .ok (.iconst 0, 1) := by decide +kernel
theorem dX11_isDay_2 : decode cX11_isDay 2 = .ok (.sipush 9999, 3) := by decide +kernel
theorem dX11_isDay_5 : decode cX11_isDay 5 = .ok (.invokestatic 69, 3) := by decide +kernel
theorem dX11_isDay_8 : decode cX11_isDay 8 = .ok (.ireturn, 1) := by decide +kernel
theorem dX11_isKind_0 : decode cX11_isKind 0 = .ok (.iload_n 0, 1) := by decide +kernel
theorem dX11_isKind_1 : decode cX11_isKind 1 = .ok (.ifCond .eq 8, 3) := by decide +kernel
theorem dX11_isKind_4 : decode cX11_isKind 4 = .ok (.iload_n 0, 1) := by decide +kernel
theorem dX11_isKind_5 : decode cX11_isKind 5 = .ok (.iconst 1, 1) := by decide +kernel
theorem dX11_isKind_6 : decode cX11_isKind 6 = .ok (.if_icmp .ne 7, 3) := by decide +kernel
theorem dX11_isKind_9 : decode cX11_isKind 9 = .ok (.iconst 1, 1) := by decide +kernel
theorem dX11_isKind_10 : decode cX11_isKind 10 = .ok (.goto 4, 3) := by decide +kernel
theorem dX11_isKind_13 : decode cX11_isKind 13 = .ok (.iconst 0, 1) := by decide +kernel
theorem dX11_isKind_14 : decode cX11_isKind 14 = .ok (.ireturn, 1) := by decide +kernel
theorem dX11_findStreet_0 : decode cX11_findStreet 0 = .ok (.iload_n 1, 1) := by decide +kernel
theorem dX11_findStreet_1 : decode cX11_findStreet 1 = .ok (.ifCond .lt 20, 3) := by decide +kernel
theorem dX11_findStreet_4 : decode cX11_findStreet 4 = .ok (.iload_n 1, 1) := by decide +kernel
theorem dX11_findStreet_5 : decode cX11_findStreet 5 = .ok (.aload_n 0, 1) := by decide +kernel
theorem dX11_findStreet_6 : decode cX11_findStreet 6 = .ok (.getfield 73, 3) := by decide +kernel
theorem dX11_findStreet_9 : decode cX11_findStreet 9 = .ok (.if_icmp .ge 12, 3) := by decide +kernel
theorem dX11_findStreet_12 : decode cX11_findStreet 12 = .ok (.aload_n 0, 1) := by decide +kernel
theorem dX11_findStreet_13 : decode cX11_findStreet 13 = .ok (.getfield 11, 3) := by decide +kernel
theorem dX11_findStreet_16 : decode cX11_findStreet 16 = .ok (.iload_n 1, 1) := by decide +kernel
theorem dX11_findStreet_17 : decode cX11_findStreet 17 = .ok (.aaload, 1) := by decide +kernel
theorem dX11_findStreet_18 : decode cX11_findStreet 18 = .ok (.goto 4, 3) := by decide +kernel
theorem dX11_findStreet_21 : decode cX11_findStreet 21 = .ok (.aconst_null, 1) := by decide +kernel
theorem dX11_findStreet_22 : decode cX11_findStreet 22 = .ok (.areturn, 1) := by decide +kernel
theorem dX11_findHouse_0 : decode cX11_findHouse 0 = .ok (.iload_n 1, 1) := by decide +kernel
theorem dX11_findHouse_1 : decode cX11_findHouse 1 = .ok (.ifCond .lt 20, 3) := by decide +kernel
theorem dX11_findHouse_4 : decode cX11_findHouse 4 = .ok (.iload_n 1, 1) := by decide +kernel
theorem dX11_findHouse_5 : decode cX11_findHouse 5 = .ok (.aload_n 0, 1) := by decide +kernel
theorem dX11_findHouse_6 : decode cX11_findHouse 6 = .ok (.getfield 182, 3) := by decide +kernel
theorem dX11_findHouse_9 : decode cX11_findHouse 9 = .ok (.if_icmp .ge 12, 3) := by decide +kernel
theorem dX11_findHouse_12 : decode cX11_findHouse 12 = .ok (.aload_n 0, 1) := by decide +kernel
theorem dX11_findHouse_13 : decode cX11_findHouse 13 = .ok (.getfield 45, 3) := by decide +kernel
theorem dX11_findHouse_16 : decode cX11_findHouse 16 = .ok (.iload_n 1, 1) := by decide +kernel
theorem dX11_findHouse_17 : decode cX11_findHouse 17 = .ok (.aaload, 1) := by decide +kernel
theorem dX11_findHouse_18 : decode cX11_findHouse 18 = .ok (.goto 4, 3) := by decide +kernel
theorem dX11_findHouse_21 : decode cX11_findHouse 21 = .ok (.aconst_null, 1) := by decide +kernel
theorem dX11_findHouse_22 : decode cX11_findHouse 22 = .ok (.areturn, 1) := by decide +kernel
theorem dX11_findOpening_0 : decode cX11_findOpening 0 = .ok (.iload_n 1, 1) := by decide +kernel
theorem dX11_findOpening_1 : decode cX11_findOpening 1 = .ok (.ifCond .lt 20, 3) := by decide +kernel
theorem dX11_findOpening_4 : decode cX11_findOpening 4 = .ok (.iload_n 1, 1) := by decide +kernel
theorem dX11_findOpening_5 : decode cX11_findOpening 5 = .ok (.aload_n 0, 1) := by decide +kernel
theorem dX11_findOpening_6 : decode cX11_findOpening 6 = .ok (.getfield 238, 3) := by decide +kernel
theorem dX11_findOpening_9 : decode cX11_findOpening 9 = .ok (.if_icmp .ge 12, 3) := by decide +kernel
theorem dX11_findOpening_12 : decode cX11_findOpening 12 = .ok (.aload_n 0, 1) := by decide +kernel
theorem dX11_findOpening_13 : decode cX11_findOpening 13 = .ok (.getfield 58, 3) := by decide +kernel
theorem dX11_findOpening_16 : decode cX11_findOpening 16 = .ok (.iload_n 1, 1) := by decide +kernel
theorem dX11_findOpening_17 : decode cX11_findOpening 17 = .ok (.aaload, 1) := by decide +kernel
theorem dX11_findOpening_18 : decode cX11_findOpening 18 = .ok (.goto 4, 3) := by decide +kernel
theorem dX11_findOpening_21 : decode cX11_findOpening 21 = .ok (.aconst_null, 1) := by decide +kernel
theorem dX11_findOpening_22 : decode cX11_findOpening 22 = .ok (.areturn, 1) := by decide +kernel
theorem dX11_isFrontage_0 : decode cX11_isFrontage 0 = .ok (.iload_n 1, 1) := by decide +kernel
theorem dX11_isFrontage_1 : decode cX11_isFrontage 1 = .ok (.ifCond .lt 25, 3) := by decide +kernel
theorem dX11_isFrontage_4 : decode cX11_isFrontage 4 = .ok (.aload_n 0, 1) := by decide +kernel
theorem dX11_isFrontage_5 : decode cX11_isFrontage 5 = .ok (.iload_n 1, 1) := by decide +kernel
theorem dX11_isFrontage_6 : decode cX11_isFrontage 6 = .ok (.bipush 100, 2) := by decide +kernel
theorem dX11_isFrontage_8 : decode cX11_isFrontage 8 = .ok (.idiv, 1) := by decide +kernel
theorem dX11_isFrontage_9 : decode cX11_isFrontage 9 = .ok (.invokevirtual 80, 3) := by decide +kernel
theorem dX11_isFrontage_12 : decode cX11_isFrontage 12 = .ok (.ifnull 14, 3) := by decide +kernel
theorem dX11_isFrontage_15 : decode cX11_isFrontage 15 = .ok (.iload_n 1, 1) := by decide +kernel
theorem dX11_isFrontage_16 : decode cX11_isFrontage 16 = .ok (.bipush 100, 2) := by decide +kernel
theorem dX11_isFrontage_18 : decode cX11_isFrontage 18 = .ok (.irem, 1) := by decide +kernel
theorem dX11_isFrontage_19 : decode cX11_isFrontage 19 = .ok (.ifCond .eq 7, 3) := by decide +kernel
theorem dX11_isFrontage_22 : decode cX11_isFrontage 22 = .ok (.iconst 1, 1) := by decide +kernel
theorem dX11_isFrontage_23 : decode cX11_isFrontage 23 = .ok (.goto 4, 3) := by decide +kernel
theorem dX11_isFrontage_26 : decode cX11_isFrontage 26 = .ok (.iconst 0, 1) := by decide +kernel
theorem dX11_isFrontage_27 : decode cX11_isFrontage 27 = .ok (.ireturn, 1) := by decide +kernel
theorem dX11_isSquare_0 : decode cX11_isSquare 0 = .ok (.aload_n 0, 1) := by decide +kernel
theorem dX11_isSquare_1 : decode cX11_isSquare 1 = .ok (.iload_n 1, 1) := by decide +kernel
theorem dX11_isSquare_2 : decode cX11_isSquare 2 = .ok (.invokevirtual 80, 3) := by decide +kernel
theorem dX11_isSquare_5 : decode cX11_isSquare 5 = .ok (.astore_n 3, 1) := by decide +kernel
theorem dX11_isSquare_6 : decode cX11_isSquare 6 = .ok (.aload_n 3, 1) := by decide +kernel
theorem dX11_isSquare_7 : decode cX11_isSquare 7 = .ok (.ifnull 26, 3) := by decide +kernel
theorem dX11_isSquare_10 : decode cX11_isSquare 10 = .ok (.iload_n 2, 1) := by decide +kernel
theorem dX11_isSquare_11 : decode cX11_isSquare 11 = .ok (.ifCond .lt 22, 3) := by decide +kernel
theorem dX11_isSquare_14 : decode cX11_isSquare 14 = .ok (.aload_n 3, 1) := by decide +kernel
theorem dX11_isSquare_15 : decode cX11_isSquare 15 = .ok (.iload_n 2, 1) := by decide +kernel
theorem dX11_isSquare_16 : decode cX11_isSquare 16 = .ok (.bipush 16, 2) := by decide +kernel
theorem dX11_isSquare_18 : decode cX11_isSquare 18 = .ok (.idiv, 1) := by decide +kernel
theorem dX11_isSquare_19 : decode cX11_isSquare 19 = .ok (.iload_n 2, 1) := by decide +kernel
theorem dX11_isSquare_20 : decode cX11_isSquare 20 = .ok (.bipush 16, 2) := by decide +kernel
theorem dX11_isSquare_22 : decode cX11_isSquare 22 = .ok (.irem, 1) := by decide +kernel
theorem dX11_isSquare_23 : decode cX11_isSquare 23 = .ok (.invokevirtual 84, 3) := by decide +kernel
theorem dX11_isSquare_26 : decode cX11_isSquare 26 = .ok (.ifCond .eq 7, 3) := by decide +kernel
theorem dX11_isSquare_29 : decode cX11_isSquare 29 = .ok (.iconst 1, 1) := by decide +kernel
theorem dX11_isSquare_30 : decode cX11_isSquare 30 = .ok (.goto 4, 3) := by decide +kernel
theorem dX11_isSquare_33 : decode cX11_isSquare 33 = .ok (.iconst 0, 1) := by decide +kernel
theorem dX11_isSquare_34 : decode cX11_isSquare 34 = .ok (.ireturn, 1) := by decide +kernel
theorem dX11_isPlanSet_0 : decode cX11_isPlanSet 0 = .ok (.iload_n 1, 1) := by decide +kernel
theorem dX11_isPlanSet_1 : decode cX11_isPlanSet 1 = .ok (.ifCond .lt 25, 3) := by decide +kernel
theorem dX11_isPlanSet_4 : decode cX11_isPlanSet 4 = .ok (.iload_n 1, 1) := by decide +kernel
theorem dX11_isPlanSet_5 : decode cX11_isPlanSet 5 = .ok (.aload_n 0, 1) := by decide +kernel
theorem dX11_isPlanSet_6 : decode cX11_isPlanSet 6 = .ok (.getfield 73, 3) := by decide +kernel
theorem dX11_isPlanSet_9 : decode cX11_isPlanSet 9 = .ok (.ishr, 1) := by decide +kernel
theorem dX11_isPlanSet_10 : decode cX11_isPlanSet 10 = .ok (.ifCond .ne 16, 3) := by decide +kernel
theorem dX11_isPlanSet_13 : decode cX11_isPlanSet 13 = .ok (.iload_n 1, 1) := by decide +kernel
theorem dX11_isPlanSet_14 : decode cX11_isPlanSet 14 = .ok (.invokestatic 301, 3) := by decide +kernel
theorem dX11_isPlanSet_17 : decode cX11_isPlanSet 17 = .ok (.iconst 1, 1) := by decide +kernel
theorem dX11_isPlanSet_18 : decode cX11_isPlanSet 18 = .ok (.bipush 6, 2) := by decide +kernel
theorem dX11_isPlanSet_20 : decode cX11_isPlanSet 20 = .ok (.invokestatic 69, 3) := by decide +kernel
theorem dX11_isPlanSet_23 : decode cX11_isPlanSet 23 = .ok (.ifCond .ne 5, 3) := by decide +kernel
theorem dX11_isPlanSet_26 : decode cX11_isPlanSet 26 = .ok (.iconst 0, 1) := by decide +kernel
theorem dX11_isPlanSet_27 : decode cX11_isPlanSet 27 = .ok (.ireturn, 1) := by decide +kernel
theorem dX11_isPlanSet_28 : decode cX11_isPlanSet 28 = .ok (.iconst 0, 1) := by decide +kernel
theorem dX11_isPlanSet_29 : decode cX11_isPlanSet 29 = .ok (.istore_n 2, 1) := by decide +kernel
theorem dX11_isPlanSet_30 : decode cX11_isPlanSet 30 = .ok (.iload_n 2, 1) := by decide +kernel
theorem dX11_isPlanSet_31 : decode cX11_isPlanSet 31 = .ok (.aload_n 0, 1) := by decide +kernel
theorem dX11_isPlanSet_32 : decode cX11_isPlanSet 32 = .ok (.getfield 73, 3) := by decide +kernel
theorem dX11_isPlanSet_35 : decode cX11_isPlanSet 35 = .ok (.if_icmp .ge 38, 3) := by decide +kernel
theorem dX11_isPlanSet_38 : decode cX11_isPlanSet 38 = .ok (.aload_n 0, 1) := by decide +kernel
theorem dX11_isPlanSet_39 : decode cX11_isPlanSet 39 = .ok (.getfield 11, 3) := by decide +kernel
theorem dX11_isPlanSet_42 : decode cX11_isPlanSet 42 = .ok (.iload_n 2, 1) := by decide +kernel
theorem dX11_isPlanSet_43 : decode cX11_isPlanSet 43 = .ok (.aaload, 1) := by decide +kernel
theorem dX11_isPlanSet_44 : decode cX11_isPlanSet 44 = .ok (.astore_n 3, 1) := by decide +kernel
theorem dX11_isPlanSet_45 : decode cX11_isPlanSet 45 = .ok (.iload_n 1, 1) := by decide +kernel
theorem dX11_isPlanSet_46 : decode cX11_isPlanSet 46 = .ok (.iload_n 2, 1) := by decide +kernel
theorem dX11_isPlanSet_47 : decode cX11_isPlanSet 47 = .ok (.ishr, 1) := by decide +kernel
theorem dX11_isPlanSet_48 : decode cX11_isPlanSet 48 = .ok (.iconst 1, 1) := by decide +kernel
theorem dX11_isPlanSet_49 : decode cX11_isPlanSet 49 = .ok (.iand, 1) := by decide +kernel
theorem dX11_isPlanSet_50 : decode cX11_isPlanSet 50 = .ok (.iconst 1, 1) := by decide +kernel
theorem dX11_isPlanSet_51 : decode cX11_isPlanSet 51 = .ok (.if_icmp .ne 16, 3) := by decide +kernel
theorem dX11_isPlanSet_54 : decode cX11_isPlanSet 54 = .ok (.aload_n 3, 1) := by decide +kernel
theorem dX11_isPlanSet_55 : decode cX11_isPlanSet 55 = .ok (.ifnull 10, 3) := by decide +kernel
theorem dX11_isPlanSet_58 : decode cX11_isPlanSet 58 = .ok (.aload_n 3, 1) := by decide +kernel
theorem dX11_isPlanSet_59 : decode cX11_isPlanSet 59 = .ok (.getfield 151, 3) := by decide +kernel
theorem dX11_isPlanSet_62 : decode cX11_isPlanSet 62 = .ok (.ifCond .ne 5, 3) := by decide +kernel
theorem dX11_isPlanSet_65 : decode cX11_isPlanSet 65 = .ok (.iconst 0, 1) := by decide +kernel
theorem dX11_isPlanSet_66 : decode cX11_isPlanSet 66 = .ok (.ireturn, 1) := by decide +kernel
theorem dX11_isPlanSet_67 : decode cX11_isPlanSet 67 = .ok (.iinc 2 1, 3) := by decide +kernel
theorem dX11_isPlanSet_70 : decode cX11_isPlanSet 70 = .ok (.goto (-40), 3) := by decide +kernel
theorem dX11_isPlanSet_73 : decode cX11_isPlanSet 73 = .ok (.iconst 1, 1) := by decide +kernel
theorem dX11_isPlanSet_74 : decode cX11_isPlanSet 74 = .ok (.ireturn, 1) := by decide +kernel
theorem dX11_openNowAt_0 : decode cX11_openNowAt 0 = .ok (.iconst 0, 1) := by decide +kernel
theorem dX11_openNowAt_1 : decode cX11_openNowAt 1 = .ok (.istore_n 3, 1) := by decide +kernel
theorem dX11_openNowAt_2 : decode cX11_openNowAt 2 = .ok (.iload_n 3, 1) := by decide +kernel
theorem dX11_openNowAt_3 : decode cX11_openNowAt 3 = .ok (.aload_n 0, 1) := by decide +kernel
theorem dX11_openNowAt_4 : decode cX11_openNowAt 4 = .ok (.getfield 238, 3) := by decide +kernel
theorem dX11_openNowAt_7 : decode cX11_openNowAt 7 = .ok (.if_icmp .ge 42, 3) := by decide +kernel
theorem dX11_openNowAt_10 : decode cX11_openNowAt 10 = .ok (.aload_n 0, 1) := by decide +kernel
theorem dX11_openNowAt_11 : decode cX11_openNowAt 11 = .ok (.getfield 58, 3) := by decide +kernel
theorem dX11_openNowAt_14 : decode cX11_openNowAt 14 = .ok (.iload_n 3, 1) := by decide +kernel
theorem dX11_openNowAt_15 : decode cX11_openNowAt 15 = .ok (.aaload, 1) := by decide +kernel
theorem dX11_openNowAt_16 : decode cX11_openNowAt 16 = .ok (.astore 4, 2) := by decide +kernel
theorem dX11_openNowAt_18 : decode cX11_openNowAt 18 = .ok (.aload 4, 2) := by decide +kernel
theorem dX11_openNowAt_20 : decode cX11_openNowAt 20 = .ok (.ifnull 23, 3) := by decide +kernel
theorem dX11_openNowAt_23 : decode cX11_openNowAt 23 = .ok (.aload 4, 2) := by decide +kernel
theorem dX11_openNowAt_25 : decode cX11_openNowAt 25 = .ok (.iload_n 1, 1) := by decide +kernel
theorem dX11_openNowAt_26 : decode cX11_openNowAt 26 = .ok (.iload_n 2, 1) := by decide +kernel
theorem dX11_openNowAt_27 : decode cX11_openNowAt 27 = .ok (.invokevirtual 306, 3) := by decide +kernel
theorem dX11_openNowAt_30 : decode cX11_openNowAt 30 = .ok (.ifCond .eq 13, 3) := by decide +kernel
theorem dX11_openNowAt_33 : decode cX11_openNowAt 33 = .ok (.aload 4, 2) := by decide +kernel
theorem dX11_openNowAt_35 : decode cX11_openNowAt 35 = .ok (.invokevirtual 248, 3) := by decide +kernel
theorem dX11_openNowAt_38 : decode cX11_openNowAt 38 = .ok (.ifCond .eq 5, 3) := by decide +kernel
theorem dX11_openNowAt_41 : decode cX11_openNowAt 41 = .ok (.iload_n 3, 1) := by decide +kernel
theorem dX11_openNowAt_42 : decode cX11_openNowAt 42 = .ok (.ireturn, 1) := by decide +kernel
theorem dX11_openNowAt_43 : decode cX11_openNowAt 43 = .ok (.iinc 3 1, 3) := by decide +kernel
theorem dX11_openNowAt_46 : decode cX11_openNowAt 46 = .ok (.goto (-44), 3) := by decide +kernel
theorem dX11_openNowAt_49 : decode cX11_openNowAt 49 = .ok (.iconst (-1), 1) := by decide +kernel
theorem dX11_openNowAt_50 : decode cX11_openNowAt 50 = .ok (.ireturn, 1) := by decide +kernel
theorem dX11_lastPutBackAt_0 : decode cX11_lastPutBackAt 0 = .ok (.iconst (-1), 1) := by decide +kernel
theorem dX11_lastPutBackAt_1 : decode cX11_lastPutBackAt 1 = .ok (.istore_n 3, 1) := by decide +kernel
theorem dX11_lastPutBackAt_2 : decode cX11_lastPutBackAt 2 = .ok (.iconst (-1), 1) := by decide +kernel
theorem dX11_lastPutBackAt_3 : decode cX11_lastPutBackAt 3 = .ok (.istore 4, 2) := by decide +kernel
theorem dX11_lastPutBackAt_5 : decode cX11_lastPutBackAt 5 = .ok (.iconst 0, 1) := by decide +kernel
theorem dX11_lastPutBackAt_6 : decode cX11_lastPutBackAt 6 = .ok (.istore 5, 2) := by decide +kernel
theorem dX11_lastPutBackAt_8 : decode cX11_lastPutBackAt 8 = .ok (.iload 5, 2) := by decide +kernel
theorem dX11_lastPutBackAt_10 : decode cX11_lastPutBackAt 10 = .ok (.aload_n 0, 1) := by decide +kernel
theorem dX11_lastPutBackAt_11 : decode cX11_lastPutBackAt 11 = .ok (.getfield 238, 3) := by decide +kernel
theorem dX11_lastPutBackAt_14 : decode cX11_lastPutBackAt 14 = .ok (.if_icmp .ge 61, 3) := by decide +kernel
theorem dX11_lastPutBackAt_17 : decode cX11_lastPutBackAt 17 = .ok (.aload_n 0, 1) := by decide +kernel
theorem dX11_lastPutBackAt_18 : decode cX11_lastPutBackAt 18 = .ok (.getfield 58, 3) := by decide +kernel
theorem dX11_lastPutBackAt_21 : decode cX11_lastPutBackAt 21 = .ok (.iload 5, 2) := by decide +kernel
theorem dX11_lastPutBackAt_23 : decode cX11_lastPutBackAt 23 = .ok (.aaload, 1) := by decide +kernel
theorem dX11_lastPutBackAt_24 : decode cX11_lastPutBackAt 24 = .ok (.astore 6, 2) := by decide +kernel
theorem dX11_lastPutBackAt_26 : decode cX11_lastPutBackAt 26 = .ok (.aload 6, 2) := by decide +kernel
theorem dX11_lastPutBackAt_28 : decode cX11_lastPutBackAt 28 = .ok (.ifnull 41, 3) := by decide +kernel
theorem dX11_lastPutBackAt_31 : decode cX11_lastPutBackAt 31 = .ok (.aload 6, 2) := by decide +kernel
theorem dX11_lastPutBackAt_33 : decode cX11_lastPutBackAt 33 = .ok (.iload_n 1, 1) := by decide +kernel
theorem dX11_lastPutBackAt_34 : decode cX11_lastPutBackAt 34 = .ok (.iload_n 2, 1) := by decide +kernel
theorem dX11_lastPutBackAt_35 : decode cX11_lastPutBackAt 35 = .ok (.invokevirtual 306, 3) := by decide +kernel
theorem dX11_lastPutBackAt_38 : decode cX11_lastPutBackAt 38 = .ok (.ifCond .eq 31, 3) := by decide +kernel
theorem dX11_lastPutBackAt_41 : decode cX11_lastPutBackAt 41 = .ok (.aload 6, 2) := by decide +kernel
theorem dX11_lastPutBackAt_43 : decode cX11_lastPutBackAt 43 = .ok (.invokevirtual 248, 3) := by decide +kernel
theorem dX11_lastPutBackAt_46 : decode cX11_lastPutBackAt 46 = .ok (.ifCond .ne 23, 3) := by decide +kernel
theorem dX11_lastPutBackAt_49 : decode cX11_lastPutBackAt 49 = .ok (.aload 6, 2) := by decide +kernel
theorem dX11_lastPutBackAt_51 : decode cX11_lastPutBackAt 51 = .ok (.getfield 251, 3) := by decide +kernel
theorem dX11_lastPutBackAt_54 : decode cX11_lastPutBackAt 54 = .ok (.iload 4, 2) := by decide +kernel
theorem dX11_lastPutBackAt_56 : decode cX11_lastPutBackAt 56 = .ok (.if_icmp .lt 13, 3) := by decide +kernel
theorem dX11_lastPutBackAt_59 : decode cX11_lastPutBackAt 59 = .ok (.iload 5, 2) := by decide +kernel
theorem dX11_lastPutBackAt_61 : decode cX11_lastPutBackAt 61 = .ok (.istore_n 3, 1) := by decide +kernel
theorem dX11_lastPutBackAt_62 : decode cX11_lastPutBackAt 62 = .ok (.aload 6, 2) := by decide +kernel
theorem dX11_lastPutBackAt_64 : decode cX11_lastPutBackAt 64 = .ok (.getfield 251, 3) := by decide +kernel
theorem dX11_lastPutBackAt_67 : decode cX11_lastPutBackAt 67 = .ok (.istore 4, 2) := by decide +kernel
theorem dX11_lastPutBackAt_69 : decode cX11_lastPutBackAt 69 = .ok (.iinc 5 1, 3) := by decide +kernel
theorem dX11_lastPutBackAt_72 : decode cX11_lastPutBackAt 72 = .ok (.goto (-64), 3) := by decide +kernel
theorem dX11_lastPutBackAt_75 : decode cX11_lastPutBackAt 75 = .ok (.iload_n 3, 1) := by decide +kernel
theorem dX11_lastPutBackAt_76 : decode cX11_lastPutBackAt 76 = .ok (.ireturn, 1) := by decide +kernel
theorem dX11_countOpen_0 : decode cX11_countOpen 0 = .ok (.iconst 0, 1) := by decide +kernel
theorem dX11_countOpen_1 : decode cX11_countOpen 1 = .ok (.istore_n 2, 1) := by decide +kernel
theorem dX11_countOpen_2 : decode cX11_countOpen 2 = .ok (.iconst 0, 1) := by decide +kernel
theorem dX11_countOpen_3 : decode cX11_countOpen 3 = .ok (.istore_n 3, 1) := by decide +kernel
theorem dX11_countOpen_4 : decode cX11_countOpen 4 = .ok (.iload_n 3, 1) := by decide +kernel
theorem dX11_countOpen_5 : decode cX11_countOpen 5 = .ok (.aload_n 0, 1) := by decide +kernel
theorem dX11_countOpen_6 : decode cX11_countOpen 6 = .ok (.getfield 238, 3) := by decide +kernel
theorem dX11_countOpen_9 : decode cX11_countOpen 9 = .ok (.if_icmp .ge 42, 3) := by decide +kernel
theorem dX11_countOpen_12 : decode cX11_countOpen 12 = .ok (.aload_n 0, 1) := by decide +kernel
theorem dX11_countOpen_13 : decode cX11_countOpen 13 = .ok (.getfield 58, 3) := by decide +kernel
theorem dX11_countOpen_16 : decode cX11_countOpen 16 = .ok (.iload_n 3, 1) := by decide +kernel
theorem dX11_countOpen_17 : decode cX11_countOpen 17 = .ok (.aaload, 1) := by decide +kernel
theorem dX11_countOpen_18 : decode cX11_countOpen 18 = .ok (.astore 4, 2) := by decide +kernel
theorem dX11_countOpen_20 : decode cX11_countOpen 20 = .ok (.aload 4, 2) := by decide +kernel
theorem dX11_countOpen_22 : decode cX11_countOpen 22 = .ok (.ifnull 23, 3) := by decide +kernel
theorem dX11_countOpen_25 : decode cX11_countOpen 25 = .ok (.aload 4, 2) := by decide +kernel
theorem dX11_countOpen_27 : decode cX11_countOpen 27 = .ok (.getfield 257, 3) := by decide +kernel
theorem dX11_countOpen_30 : decode cX11_countOpen 30 = .ok (.iload_n 1, 1) := by decide +kernel
theorem dX11_countOpen_31 : decode cX11_countOpen 31 = .ok (.if_icmp .ne 14, 3) := by decide +kernel
theorem dX11_countOpen_34 : decode cX11_countOpen 34 = .ok (.aload 4, 2) := by decide +kernel
theorem dX11_countOpen_36 : decode cX11_countOpen 36 = .ok (.invokevirtual 248, 3) := by decide +kernel
theorem dX11_countOpen_39 : decode cX11_countOpen 39 = .ok (.ifCond .eq 6, 3) := by decide +kernel
theorem dX11_countOpen_42 : decode cX11_countOpen 42 = .ok (.iinc 2 1, 3) := by decide +kernel
theorem dX11_countOpen_45 : decode cX11_countOpen 45 = .ok (.iinc 3 1, 3) := by decide +kernel
theorem dX11_countOpen_48 : decode cX11_countOpen 48 = .ok (.goto (-44), 3) := by decide +kernel
theorem dX11_countOpen_51 : decode cX11_countOpen 51 = .ok (.iload_n 2, 1) := by decide +kernel
theorem dX11_countOpen_52 : decode cX11_countOpen 52 = .ok (.ireturn, 1) := by decide +kernel
theorem dX11_countAllOpen_0 : decode cX11_countAllOpen 0 = .ok (.iconst 0, 1) := by decide +kernel
theorem dX11_countAllOpen_1 : decode cX11_countAllOpen 1 = .ok (.istore_n 1, 1) := by decide +kernel
theorem dX11_countAllOpen_2 : decode cX11_countAllOpen 2 = .ok (.iconst 0, 1) := by decide +kernel
theorem dX11_countAllOpen_3 : decode cX11_countAllOpen 3 = .ok (.istore_n 2, 1) := by decide +kernel
theorem dX11_countAllOpen_4 : decode cX11_countAllOpen 4 = .ok (.iload_n 2, 1) := by decide +kernel
theorem dX11_countAllOpen_5 : decode cX11_countAllOpen 5 = .ok (.iconst 3, 1) := by decide +kernel
theorem dX11_countAllOpen_6 : decode cX11_countAllOpen 6 = .ok (.if_icmp .gt 17, 3) := by decide +kernel
theorem dX11_countAllOpen_9 : decode cX11_countAllOpen 9 = .ok (.iload_n 1, 1) := by decide +kernel
theorem dX11_countAllOpen_10 : decode cX11_countAllOpen 10 = .ok (.aload_n 0, 1) := by decide +kernel
theorem dX11_countAllOpen_11 : decode cX11_countAllOpen 11 = .ok (.iload_n 2, 1) := by decide +kernel
theorem dX11_countAllOpen_12 : decode cX11_countAllOpen 12 = .ok (.invokevirtual 260, 3) := by decide +kernel
theorem dX11_countAllOpen_15 : decode cX11_countAllOpen 15 = .ok (.iadd, 1) := by decide +kernel
theorem dX11_countAllOpen_16 : decode cX11_countAllOpen 16 = .ok (.istore_n 1, 1) := by decide +kernel
theorem dX11_countAllOpen_17 : decode cX11_countAllOpen 17 = .ok (.iinc 2 1, 3) := by decide +kernel
theorem dX11_countAllOpen_20 : decode cX11_countAllOpen 20 = .ok (.goto (-16), 3) := by decide +kernel
theorem dX11_countAllOpen_23 : decode cX11_countAllOpen 23 = .ok (.iload_n 1, 1) := by decide +kernel
theorem dX11_countAllOpen_24 : decode cX11_countAllOpen 24 = .ok (.ireturn, 1) := by decide +kernel
theorem dX12_init_0 : decode cX12_init 0 = .ok (.aload_n 0, 1) := by decide +kernel
theorem dX12_init_1 : decode cX12_init 1 = .ok (.invokespecial 1, 3) := by decide +kernel
theorem dX12_init_4 : decode cX12_init 4 = .ok (.aload_n 0, 1) := by decide +kernel
theorem dX12_init_5 : decode cX12_init 5 = .ok (.bipush 8, 2) := by decide +kernel
theorem dX12_init_7 : decode cX12_init 7 = .ok (.newarray .int, 2) := by decide +kernel
theorem dX12_init_9 : decode cX12_init 9 = .ok (.putfield 7, 3) := by decide +kernel
theorem dX12_init_12 : decode cX12_init 12 = .ok (.aload_n 0, 1) := by decide +kernel
theorem dX12_init_13 : decode cX12_init 13 = .ok (.bipush 8, 2) := by decide +kernel
theorem dX12_init_15 : decode cX12_init 15 = .ok (.newarray .int, 2) := by decide +kernel
theorem dX12_init_17 : decode cX12_init 17 = .ok (.putfield 13, 3) := by decide +kernel
theorem dX12_init_20 : decode cX12_init 20 = .ok (.aload_n 0, 1) := by decide +kernel
theorem dX12_init_21 : decode cX12_init 21 = .ok (.sipush 1152, 3) := by decide +kernel
theorem dX12_init_24 : decode cX12_init 24 = .ok (.newarray .int, 2) := by decide +kernel
theorem dX12_init_26 : decode cX12_init 26 = .ok (.putfield 16, 3) := by decide +kernel
theorem dX12_init_29 : decode cX12_init 29 = .ok (.aload_n 0, 1) := by decide +kernel
theorem dX12_init_30 : decode cX12_init 30 = .ok (.sipush 1152, 3) := by decide +kernel
theorem dX12_init_33 : decode cX12_init 33 = .ok (.newarray .boolean, 2) := by decide +kernel
theorem dX12_init_35 : decode cX12_init 35 = .ok (.putfield 19, 3) := by decide +kernel
theorem dX12_init_38 : decode cX12_init 38 = .ok (.aload_n 0, 1) := by decide +kernel
theorem dX12_init_39 : decode cX12_init 39 = .ok (.sipush 256, 3) := by decide +kernel
theorem dX12_init_42 : decode cX12_init 42 = .ok (.newarray .int, 2) := by decide +kernel
theorem dX12_init_44 : decode cX12_init 44 = .ok (.putfield 23, 3) := by decide +kernel
theorem dX12_init_47 : decode cX12_init 47 = .ok (.aload_n 0, 1) := by decide +kernel
theorem dX12_init_48 : decode cX12_init 48 = .ok (.iconst (-1), 1) := by decide +kernel
theorem dX12_init_49 : decode cX12_init 49 = .ok (.putfield 26, 3) := by decide +kernel
theorem dX12_init_52 : decode cX12_init 52 = .ok (.aload_n 0, 1) := by decide +kernel
theorem dX12_init_53 : decode cX12_init 53 = .ok (.iconst (-1), 1) := by decide +kernel
theorem dX12_init_54 : decode cX12_init 54 = .ok (.putfield 30, 3) := by decide +kernel
theorem dX12_init_57 : decode cX12_init 57 = .ok (.aload_n 0, 1) := by decide +kernel
theorem dX12_init_58 : decode cX12_init 58 = .ok (.bipush 9, 2) := by decide +kernel
theorem dX12_init_60 : decode cX12_init 60 = .ok (.newarray .int, 2) := by decide +kernel
theorem dX12_init_62 : decode cX12_init 62 = .ok (.putfield 33, 3) := by decide +kernel
theorem dX12_init_65 : decode cX12_init 65 = .ok (.aload_n 0, 1) := by decide +kernel
theorem dX12_init_66 : decode cX12_init 66 = .ok (.bipush 9, 2) := by decide +kernel
theorem dX12_init_68 : decode cX12_init 68 = .ok (.newarray .int, 2) := by decide +kernel
theorem dX12_init_70 : decode cX12_init 70 = .ok (.putfield 36, 3) := by decide +kernel
theorem dX12_init_73 : decode cX12_init 73 = .ok (.aload_n 0, 1) := by decide +kernel
theorem dX12_init_74 : decode cX12_init 74 = .ok (.sipush 900, 3) := by decide +kernel
theorem dX12_init_77 : decode cX12_init 77 = .ok (.newarray .int, 2) := by decide +kernel
theorem dX12_init_79 : decode cX12_init 79 = .ok (.putfield 39, 3) := by decide +kernel
theorem dX12_init_82 : decode cX12_init 82 = .ok (.aload_n 0, 1) := by decide +kernel
theorem dX12_init_83 : decode cX12_init 83 = .ok (.bipush 10, 2) := by decide +kernel
theorem dX12_init_85 : decode cX12_init 85 = .ok (.newarray .int, 2) := by decide +kernel
theorem dX12_init_87 : decode cX12_init 87 = .ok (.putfield 42, 3) := by decide +kernel
theorem dX12_init_90 : decode cX12_init 90 = .ok (.aload_n 0, 1) := by decide +kernel
theorem dX12_init_91 : decode cX12_init 91 = .ok (.bipush 10, 2) := by decide +kernel
theorem dX12_init_93 : decode cX12_init 93 = .ok (.newarray .int, 2) := by decide +kernel
theorem dX12_init_95 : decode cX12_init 95 = .ok (.putfield 45, 3) := by decide +kernel
theorem dX12_init_98 : decode cX12_init 98 = .ok (.aload_n 0, 1) := by decide +kernel
theorem dX12_init_99 : decode cX12_init 99 = .ok (.bipush 10, 2) := by decide +kernel
theorem dX12_init_101 : decode cX12_init 101 = .ok (.newarray .int, 2) := by decide +kernel
theorem dX12_init_103 : decode cX12_init 103 = .ok (.putfield 48, 3) := by decide +kernel
theorem dX12_init_106 : decode cX12_init 106 = .ok (.aload_n 0, 1) := by decide +kernel
theorem dX12_init_107 : decode cX12_init 107 = .ok (.sipush 610, 3) := by decide +kernel
theorem dX12_init_110 : decode cX12_init 110 = .ok (.newarray .int, 2) := by decide +kernel
theorem dX12_init_112 : decode cX12_init 112 = .ok (.putfield 51, 3) := by decide +kernel
theorem dX12_init_115 : decode cX12_init 115 = .ok (.aload_n 0, 1) := by decide +kernel
theorem dX12_init_116 : decode cX12_init 116 = .ok (.sipush 248, 3) := by decide +kernel
theorem dX12_init_119 : decode cX12_init 119 = .ok (.newarray .boolean, 2) := by decide +kernel
theorem dX12_init_121 : decode cX12_init 121 = .ok (.putfield 54, 3) := by decide +kernel
theorem dX12_init_124 : decode cX12_init 124 = .ok (.aload_n 0, 1) := by decide +kernel
theorem dX12_init_125 : decode cX12_init 125 = .ok (.sipush 248, 3) := by decide +kernel
theorem dX12_init_128 : decode cX12_init 128 = .ok (.newarray .int, 2) := by decide +kernel
theorem dX12_init_130 : decode cX12_init 130 = .ok (.putfield 57, 3) := by decide +kernel
theorem dX12_init_133 : decode cX12_init 133 = .ok (.aload_n 0, 1) := by decide +kernel
theorem dX12_init_134 : decode cX12_init 134 = .ok (.bipush 8, 2) := by decide +kernel
theorem dX12_init_136 : decode cX12_init 136 = .ok (.newarray .int, 2) := by decide +kernel
theorem dX12_init_138 : decode cX12_init 138 = .ok (.putfield 60, 3) := by decide +kernel
theorem dX12_init_141 : decode cX12_init 141 = .ok (.aload_n 0, 1) := by decide +kernel
theorem dX12_init_142 : decode cX12_init 142 = .ok (.bipush 8, 2) := by decide +kernel
theorem dX12_init_144 : decode cX12_init 144 = .ok (.newarray .int, 2) := by decide +kernel
theorem dX12_init_146 : decode cX12_init 146 = .ok (.putfield 63, 3) := by decide +kernel
theorem dX12_init_149 : decode cX12_init 149 = .ok (.aload_n 0, 1) := by decide +kernel
theorem dX12_init_150 : decode cX12_init 150 = .ok (.bipush 8, 2) := by decide +kernel
theorem dX12_init_152 : decode cX12_init 152 = .ok (.newarray .int, 2) := by decide +kernel
theorem dX12_init_154 : decode cX12_init 154 = .ok (.putfield 66, 3) := by decide +kernel
theorem dX12_init_157 : decode cX12_init 157 = .ok (.aload_n 0, 1) := by decide +kernel
theorem dX12_init_158 : decode cX12_init 158 = .ok (.bipush 8, 2) := by decide +kernel
theorem dX12_init_160 : decode cX12_init 160 = .ok (.newarray .int, 2) := by decide +kernel
theorem dX12_init_162 : decode cX12_init 162 = .ok (.putfield 69, 3) := by decide +kernel
theorem dX12_init_165 : decode cX12_init 165 = .ok (.aload_n 0, 1) := by decide +kernel
theorem dX12_init_166 : decode cX12_init 166 = .ok (.bipush 8, 2) := by decide +kernel
theorem dX12_init_168 : decode cX12_init 168 = .ok (.newarray .int, 2) := by decide +kernel
theorem dX12_init_170 : decode cX12_init 170 = .ok (.putfield 72, 3) := by decide +kernel
theorem dX12_init_173 : decode cX12_init 173 = .ok (.aload_n 0, 1) := by decide +kernel
theorem dX12_init_174 : decode cX12_init 174 = .ok (.bipush 8, 2) := by decide +kernel
theorem dX12_init_176 : decode cX12_init 176 = .ok (.newarray .int, 2) := by decide +kernel
theorem dX12_init_178 : decode cX12_init 178 = .ok (.putfield 75, 3) := by decide +kernel
theorem dX12_init_181 : decode cX12_init 181 = .ok (.aload_n 0, 1) := by decide +kernel
theorem dX12_init_182 : decode cX12_init 182 = .ok (.iconst 3, 1) := by decide +kernel
theorem dX12_init_183 : decode cX12_init 183 = .ok (.newarray .int, 2) := by decide +kernel
theorem dX12_init_185 : decode cX12_init 185 = .ok (.putfield 78, 3) := by decide +kernel
theorem dX12_init_188 : decode cX12_init 188 = .ok (.aload_n 0, 1) := by decide +kernel
theorem dX12_init_189 : decode cX12_init 189 = .ok (.iconst 3, 1) := by decide +kernel
theorem dX12_init_190 : decode cX12_init 190 = .ok (.newarray .int, 2) := by decide +kernel
theorem dX12_init_192 : decode cX12_init 192 = .ok (.putfield 81, 3) := by decide +kernel
theorem dX12_init_195 : decode cX12_init 195 = .ok (.aload_n 0, 1) := by decide +kernel
theorem dX12_init_196 : decode cX12_init 196 = .ok (.bipush 60, 2) := by decide +kernel
theorem dX12_init_198 : decode cX12_init 198 = .ok (.newarray .int, 2) := by decide +kernel
theorem dX12_init_200 : decode cX12_init 200 = .ok (.putfield 84, 3) := by decide +kernel
theorem dX12_init_203 : decode cX12_init 203 = .ok (.aload_n 0, 1) := by decide +kernel
theorem dX12_init_204 : decode cX12_init 204 = .ok (.bipush 60, 2) := by decide +kernel
theorem dX12_init_206 : decode cX12_init 206 = .ok (.newarray .int, 2) := by decide +kernel
theorem dX12_init_208 : decode cX12_init 208 = .ok (.putfield 87, 3) := by decide +kernel
theorem dX12_init_211 : decode cX12_init 211 = .ok (.aload_n 0, 1) := by decide +kernel
theorem dX12_init_212 : decode cX12_init 212 = .ok (.bipush 60, 2) := by decide +kernel
theorem dX12_init_214 : decode cX12_init 214 = .ok (.newarray .int, 2) := by decide +kernel
theorem dX12_init_216 : decode cX12_init 216 = .ok (.putfield 90, 3) := by decide +kernel
theorem dX12_init_219 : decode cX12_init 219 = .ok (.aload_n 0, 1) := by decide +kernel
theorem dX12_init_220 : decode cX12_init 220 = .ok (.bipush 60, 2) := by decide +kernel
theorem dX12_init_222 : decode cX12_init 222 = .ok (.newarray .int, 2) := by decide +kernel
theorem dX12_init_224 : decode cX12_init 224 = .ok (.putfield 93, 3) := by decide +kernel
theorem dX12_init_227 : decode cX12_init 227 = .ok (.aload_n 0, 1) := by decide +kernel
theorem dX12_init_228 : decode cX12_init 228 = .ok (.bipush 60, 2) := by decide +kernel
theorem dX12_init_230 : decode cX12_init 230 = .ok (.newarray .int, 2) := by decide +kernel
theorem dX12_init_232 : decode cX12_init 232 = .ok (.putfield 96, 3) := by decide +kernel
theorem dX12_init_235 : decode cX12_init 235 = .ok (.aload_n 0, 1) := by decide +kernel
theorem dX12_init_236 : decode cX12_init 236 = .ok (.sipush 160, 3) := by decide +kernel
theorem dX12_init_239 : decode cX12_init 239 = .ok (.newarray .byte, 2) := by decide +kernel
theorem dX12_init_241 : decode cX12_init 241 = .ok (.putfield 99, 3) := by decide +kernel
theorem dX12_init_244 : decode cX12_init 244 = .ok (.aload_n 0, 1) := by decide +kernel
theorem dX12_init_245 : decode cX12_init 245 = .ok (.bipush 20, 2) := by decide +kernel
theorem dX12_init_247 : decode cX12_init 247 = .ok (.newarray .int, 2) := by decide +kernel
theorem dX12_init_249 : decode cX12_init 249 = .ok (.putfield 103, 3) := by decide +kernel
theorem dX12_init_252 : decode cX12_init 252 = .ok (.aload_n 0, 1) := by decide +kernel
theorem dX12_init_253 : decode cX12_init 253 = .ok (.bipush 20, 2) := by decide +kernel
theorem dX12_init_255 : decode cX12_init 255 = .ok (.newarray .int, 2) := by decide +kernel
theorem dX12_init_257 : decode cX12_init 257 = .ok (.putfield 106, 3) := by decide +kernel
theorem dX12_init_260 : decode cX12_init 260 = .ok (.aload_n 0, 1) := by decide +kernel
theorem dX12_init_261 : decode cX12_init 261 = .ok (.bipush 20, 2) := by decide +kernel
theorem dX12_init_263 : decode cX12_init 263 = .ok (.newarray .int, 2) := by decide +kernel
theorem dX12_init_265 : decode cX12_init 265 = .ok (.putfield 109, 3) := by decide +kernel
theorem dX12_init_268 : decode cX12_init 268 = .ok (.aload_n 0, 1) := by decide +kernel
theorem dX12_init_269 : decode cX12_init 269 = .ok (.bipush 20, 2) := by decide +kernel
theorem dX12_init_271 : decode cX12_init 271 = .ok (.newarray .int, 2) := by decide +kernel
theorem dX12_init_273 : decode cX12_init 273 = .ok (.putfield 112, 3) := by decide +kernel
theorem dX12_init_276 : decode cX12_init 276 = .ok (.aload_n 0, 1) := by decide +kernel
theorem dX12_init_277 : decode cX12_init 277 = .ok (.sipush 3400, 3) := by decide +kernel
theorem dX12_init_280 : decode cX12_init 280 = .ok (.newarray .int, 2) := by decide +kernel
theorem dX12_init_282 : decode cX12_init 282 = .ok (.putfield 115, 3) := by decide +kernel
theorem dX12_init_285 : decode cX12_init 285 = .ok (.aload_n 0, 1) := by decide +kernel
theorem dX12_init_286 : decode cX12_init 286 = .ok (.sipush 3400, 3) := by decide +kernel
theorem dX12_init_289 : decode cX12_init 289 = .ok (.newarray .int, 2) := by decide +kernel
theorem dX12_init_291 : decode cX12_init 291 = .ok (.putfield 118, 3) := by decide +kernel
theorem dX12_init_294 : decode cX12_init 294 = .ok (.aload_n 0, 1) := by decide +kernel
theorem dX12_init_295 : decode cX12_init 295 = .ok (.sipush 170, 3) := by decide +kernel
theorem dX12_init_298 : decode cX12_init 298 = .ok (.newarray .int, 2) := by decide +kernel
theorem dX12_init_300 : decode cX12_init 300 = .ok (.putfield 121, 3) := by decide +kernel
theorem dX12_init_303 : decode cX12_init 303 = .ok (.aload_n 0, 1) := by decide +kernel
theorem dX12_init_304 : decode cX12_init 304 = .ok (.sipush 128, 3) := by decide +kernel
theorem dX12_init_307 : decode cX12_init 307 = .ok (.newarray .int, 2) := by decide +kernel
theorem dX12_init_309 : decode cX12_init 309 = .ok (.putfield 124, 3) := by decide +kernel
theorem dX12_init_312 : decode cX12_init 312 = .ok (.aload_n 0, 1) := by decide +kernel
theorem dX12_init_313 : decode cX12_init 313 = .ok (.sipush 170, 3) := by decide +kernel
theorem dX12_init_316 : decode cX12_init 316 = .ok (.newarray .int, 2) := by decide +kernel
theorem dX12_init_318 : decode cX12_init 318 = .ok (.putfield 127, 3) := by decide +kernel
theorem dX12_init_321 : decode cX12_init 321 = .ok (.aload_n 0, 1) := by decide +kernel
theorem dX12_init_322 : decode cX12_init 322 = .ok (.sipush 200, 3) := by decide +kernel
theorem dX12_init_325 : decode cX12_init 325 = .ok (.newarray .int, 2) := by decide +kernel
theorem dX12_init_327 : decode cX12_init 327 = .ok (.putfield 130, 3) := by decide +kernel
theorem dX12_init_330 : decode cX12_init 330 = .ok (.aload_n 0, 1) := by decide +kernel
theorem dX12_init_331 : decode cX12_init 331 = .ok (.sipush 200, 3) := by decide +kernel
theorem dX12_init_334 : decode cX12_init 334 = .ok (.newarray .int, 2) := by decide +kernel
theorem dX12_init_336 : decode cX12_init 336 = .ok (.putfield 133, 3) := by decide +kernel
theorem dX12_init_339 : decode cX12_init 339 = .ok (.aload_n 0, 1) := by decide +kernel
theorem dX12_init_340 : decode cX12_init 340 = .ok (.sipush 200, 3) := by decide +kernel
theorem dX12_init_343 : decode cX12_init 343 = .ok (.newarray .int, 2) := by decide +kernel
theorem dX12_init_345 : decode cX12_init 345 = .ok (.putfield 136, 3) := by decide +kernel
theorem dX12_init_348 : decode cX12_init 348 = .ok (.aload_n 0, 1) := by decide +kernel
theorem dX12_init_349 : decode cX12_init 349 = .ok (.sipush 200, 3) := by decide +kernel
theorem dX12_init_352 : decode cX12_init 352 = .ok (.newarray .int, 2) := by decide +kernel
theorem dX12_init_354 : decode cX12_init 354 = .ok (.putfield 139, 3) := by decide +kernel
theorem dX12_init_357 : decode cX12_init 357 = .ok (.aload_n 0, 1) := by decide +kernel
theorem dX12_init_358 : decode cX12_init 358 = .ok (.sipush 200, 3) := by decide +kernel
theorem dX12_init_361 : decode cX12_init 361 = .ok (.newarray .int, 2) := by decide +kernel
theorem dX12_init_363 : decode cX12_init 363 = .ok (.putfield 142, 3) := by decide +kernel
theorem dX12_init_366 : decode cX12_init 366 = .ok (.aload_n 0, 1) := by decide +kernel
theorem dX12_init_367 : decode cX12_init 367 = .ok (.sipush 200, 3) := by decide +kernel
theorem dX12_init_370 : decode cX12_init 370 = .ok (.newarray .int, 2) := by decide +kernel
theorem dX12_init_372 : decode cX12_init 372 = .ok (.putfield 145, 3) := by decide +kernel
theorem dX12_init_375 : decode cX12_init 375 = .ok (.aload_n 0, 1) := by decide +kernel
theorem dX12_init_376 : decode cX12_init 376 = .ok (.bipush 40, 2) := by decide +kernel
theorem dX12_init_378 : decode cX12_init 378 = .ok (.newarray .int, 2) := by decide +kernel
theorem dX12_init_380 : decode cX12_init 380 = .ok (.putfield 148, 3) := by decide +kernel
theorem dX12_init_383 : decode cX12_init 383 = .ok (.aload_n 0, 1) := by decide +kernel
theorem dX12_init_384 : decode cX12_init 384 = .ok (.bipush 40, 2) := by decide +kernel
theorem dX12_init_386 : decode cX12_init 386 = .ok (.newarray .boolean, 2) := by decide +kernel
theorem dX12_init_388 : decode cX12_init 388 = .ok (.putfield 151, 3) := by decide +kernel
theorem dX12_init_391 : decode cX12_init 391 = .ok (.aload_n 0, 1) := by decide +kernel
theorem dX12_init_392 : decode cX12_init 392 = .ok (.sipush 1681, 3) := by decide +kernel
theorem dX12_init_395 : decode cX12_init 395 = .ok (.newarray .long, 2) := by decide +kernel
theorem dX12_init_397 : decode cX12_init 397 = .ok (.putfield 154, 3) := by decide +kernel
theorem dX12_init_400 : decode cX12_init 400 = .ok (.return_, 1) := by decide +kernel
theorem dX12_in_0 : decode cX12_in 0 = .ok (.iload_n 0, 1) := by decide +kernel
theorem dX12_in_1 : decode cX12_in 1 = .ok (.iload_n 1, 1) := by decide +kernel
theorem dX12_in_2 : decode cX12_in 2 = .ok (.if_icmp .lt 12, 3) := by decide +kernel
theorem dX12_in_5 : decode cX12_in 5 = .ok (.iload_n 0, 1) := by decide +kernel
theorem dX12_in_6 : decode cX12_in 6 = .ok (.iload_n 2, 1) := by decide +kernel
theorem dX12_in_7 : decode cX12_in 7 = .ok (.if_icmp .gt 7, 3) := by decide +kernel
theorem dX12_in_10 : decode cX12_in 10 = .ok (.iconst 1, 1) := by decide +kernel
theorem dX12_in_11 : decode cX12_in 11 = .ok (.goto 4, 3) := by decide +kernel
theorem dX12_in_14 : decode cX12_in 14 = .ok (.iconst 0, 1) := by decide +kernel
theorem dX12_in_15 : decode cX12_in 15 = .ok (.ireturn, 1) := by decide +kernel
theorem dX12_size_0 : decode cX12_size 0 = .ok (.iload_n 0, 1) := by decide +kernel
theorem dX12_size_1 : decode cX12_size 1 = .ok (.ifCond .ge 8, 3) := by decide +kernel
theorem dX12_size_4 : decode cX12_size 4 = .ok (.iload_n 0, 1) := by decide +kernel
theorem dX12_size_5 : decode cX12_size 5 = .ok (.ineg, 1) := by decide +kernel
theorem dX12_size_6 : decode cX12_size 6 = .ok (.goto 4, 3) := by decide +kernel
theorem dX12_size_9 : decode cX12_size 9 = .ok (.iload_n 0, 1) := by decide +kernel
theorem dX12_size_10 : decode cX12_size 10 = .ok (.ireturn, 1) := by decide +kernel
theorem dX12_isStreet_0 : decode cX12_isStreet 0 = .ok (.iload_n 1, 1) := by decide +kernel
theorem dX12_isStreet_1 : decode cX12_isStreet 1 = .ok (.iconst 0, 1) := by decide +kernel
theorem dX12_isStreet_2 : decode cX12_isStreet 2 = .ok (.aload_n 0, 1) := by decide +kernel
theorem dX12_isStreet_3 : decode cX12_isStreet 3 = .ok (.getfield 161, 3) := by decide +kernel
theorem dX12_isStreet_6 : decode cX12_isStreet 6 = .ok (.iconst 1, 1) := by decide +kernel
theorem dX12_isStreet_7 : decode cX12_isStreet 7 = .ok (.isub, 1) := by decide +kernel
theorem dX12_isStreet_8 : decode cX12_isStreet 8 = .ok (.invokestatic 164, 3) := by decide +kernel
theorem dX12_isStreet_11 : decode cX12_isStreet 11 = .ok (.ireturn, 1) := by decide +kernel
theorem dX12_isSquare_0 : decode cX12_isSquare 0 = .ok (.aload_n 0, 1) := by decide +kernel
theorem dX12_isSquare_1 : decode cX12_isSquare 1 = .ok (.iload_n 1, 1) := by decide +kernel
theorem dX12_isSquare_2 : decode cX12_isSquare 2 = .ok (.invokevirtual 168, 3) := by decide +kernel
theorem dX12_isSquare_5 : decode cX12_isSquare 5 = .ok (.ifCond .eq 39, 3) := by decide +kernel
theorem dX12_isSquare_8 : decode cX12_isSquare 8 = .ok (.iload_n 2, 1) := by decide +kernel
theorem dX12_isSquare_9 : decode cX12_isSquare 9 = .ok (.iconst 0, 1) := by decide +kernel
theorem dX12_isSquare_10 : decode cX12_isSquare 10 = .ok (.aload_n 0, 1) := by decide +kernel
theorem dX12_isSquare_11 : decode cX12_isSquare 11 = .ok (.getfield 7, 3) := by decide +kernel
theorem dX12_isSquare_14 : decode cX12_isSquare 14 = .ok (.iload_n 1, 1) := by decide +kernel
theorem dX12_isSquare_15 : decode cX12_isSquare 15 = .ok (.iaload, 1) := by decide +kernel
theorem dX12_isSquare_16 : decode cX12_isSquare 16 = .ok (.iconst 1, 1) := by decide +kernel
theorem dX12_isSquare_17 : decode cX12_isSquare 17 = .ok (.isub, 1) := by decide +kernel
theorem dX12_isSquare_18 : decode cX12_isSquare 18 = .ok (.invokestatic 164, 3) := by decide +kernel
theorem dX12_isSquare_21 : decode cX12_isSquare 21 = .ok (.ifCond .eq 23, 3) := by decide +kernel
theorem dX12_isSquare_24 : decode cX12_isSquare 24 = .ok (.iload_n 3, 1) := by decide +kernel
theorem dX12_isSquare_25 : decode cX12_isSquare 25 = .ok (.iconst 0, 1) := by decide +kernel
theorem dX12_isSquare_26 : decode cX12_isSquare 26 = .ok (.aload_n 0, 1) := by decide +kernel
theorem dX12_isSquare_27 : decode cX12_isSquare 27 = .ok (.getfield 13, 3) := by decide +kernel
theorem dX12_isSquare_30 : decode cX12_isSquare 30 = .ok (.iload_n 1, 1) := by decide +kernel
theorem dX12_isSquare_31 : decode cX12_isSquare 31 = .ok (.iaload, 1) := by decide +kernel
theorem dX12_isSquare_32 : decode cX12_isSquare 32 = .ok (.iconst 1, 1) := by decide +kernel
theorem dX12_isSquare_33 : decode cX12_isSquare 33 = .ok (.isub, 1) := by decide +kernel
theorem dX12_isSquare_34 : decode cX12_isSquare 34 = .ok (.invokestatic 164, 3) := by decide +kernel
theorem dX12_isSquare_37 : decode cX12_isSquare 37 = .ok (.ifCond .eq 7, 3) := by decide +kernel
theorem dX12_isSquare_40 : decode cX12_isSquare 40 = .ok (.iconst 1, 1) := by decide +kernel
theorem dX12_isSquare_41 : decode cX12_isSquare 41 = .ok (.goto 4, 3) := by decide +kernel
theorem dX12_isSquare_44 : decode cX12_isSquare 44 = .ok (.iconst 0, 1) := by decide +kernel
theorem dX12_isSquare_45 : decode cX12_isSquare 45 = .ok (.ireturn, 1) := by decide +kernel
theorem dX12_place_0 : decode cX12_place 0 = .ok (.sipush 144, 3) := by decide +kernel
theorem dX12_place_3 : decode cX12_place 3 = .ok (.iload_n 0, 1) := by decide +kernel
theorem dX12_place_4 : decode cX12_place 4 = .ok (.imul, 1) := by decide +kernel
theorem dX12_place_5 : decode cX12_place 5 = .ok (.bipush 9, 2) := by decide +kernel
theorem dX12_place_7 : decode cX12_place 7 = .ok (.iload_n 1, 1) := by decide +kernel
theorem dX12_place_8 : decode cX12_place 8 = .ok (.imul, 1) := by decide +kernel
theorem dX12_place_9 : decode cX12_place 9 = .ok (.iadd, 1) := by decide +kernel
theorem dX12_place_10 : decode cX12_place 10 = .ok (.iload_n 2, 1) := by decide +kernel
theorem dX12_place_11 : decode cX12_place 11 = .ok (.iadd, 1) := by decide +kernel
theorem dX12_place_12 : decode cX12_place 12 = .ok (.ireturn, 1) := by decide +kernel
theorem dX12_street_0 : decode cX12_street 0 = .ok (.iload_n 1, 1) := by decide +kernel
theorem dX12_street_1 : decode cX12_street 1 = .ok (.iconst 1, 1) := by decide +kernel
theorem dX12_street_2 : decode cX12_street 2 = .ok (.bipush 16, 2) := by decide +kernel
theorem dX12_street_4 : decode cX12_street 4 = .ok (.invokestatic 164, 3) := by decide +kernel
theorem dX12_street_7 : decode cX12_street 7 = .ok (.ifCond .eq 23, 3) := by decide +kernel
theorem dX12_street_10 : decode cX12_street 10 = .ok (.iload_n 2, 1) := by decide +kernel
theorem dX12_street_11 : decode cX12_street 11 = .ok (.iconst 1, 1) := by decide +kernel
theorem dX12_street_12 : decode cX12_street 12 = .ok (.bipush 9, 2) := by decide +kernel
theorem dX12_street_14 : decode cX12_street 14 = .ok (.invokestatic 164, 3) := by decide +kernel
theorem dX12_street_17 : decode cX12_street 17 = .ok (.ifCond .eq 13, 3) := by decide +kernel
theorem dX12_street_20 : decode cX12_street 20 = .ok (.iload_n 3, 1) := by decide +kernel
theorem dX12_street_21 : decode cX12_street 21 = .ok (.iconst 0, 1) := by decide +kernel
theorem dX12_street_22 : decode cX12_street 22 = .ok (.bipush 99, 2) := by decide +kernel
theorem dX12_street_24 : decode cX12_street 24 = .ok (.invokestatic 164, 3) := by decide +kernel
theorem dX12_street_27 : decode cX12_street 27 = .ok (.ifCond .ne 5, 3) := by decide +kernel
theorem dX12_street_30 : decode cX12_street 30 = .ok (.iconst (-1), 1) := by decide +kernel
theorem dX12_street_31 : decode cX12_street 31 = .ok (.ireturn, 1) := by decide +kernel
theorem dX12_street_32 : decode cX12_street 32 = .ok (.aload_n 0, 1) := by decide +kernel
theorem dX12_street_33 : decode cX12_street 33 = .ok (.getfield 161, 3) := by decide +kernel
theorem dX12_street_36 : decode cX12_street 36 = .ok (.bipush 8, 2) := by decide +kernel
theorem dX12_street_38 : decode cX12_street 38 = .ok (.if_icmp .ne 6, 3) := by decide +kernel
theorem dX12_street_41 : decode cX12_street 41 = .ok (.bipush (-3), 2) := by decide +kernel
theorem dX12_street_43 : decode cX12_street 43 = .ok (.ireturn, 1) := by decide +kernel
theorem dX12_street_44 : decode cX12_street 44 = .ok (.aload_n 0, 1) := by decide +kernel
theorem dX12_street_45 : decode cX12_street 45 = .ok (.getfield 7, 3) := by decide +kernel
theorem dX12_street_48 : decode cX12_street 48 = .ok (.aload_n 0, 1) := by decide +kernel
theorem dX12_street_49 : decode cX12_street 49 = .ok (.getfield 161, 3) := by decide +kernel
theorem dX12_street_52 : decode cX12_street 52 = .ok (.iload_n 1, 1) := by decide +kernel
theorem dX12_street_53 : decode cX12_street 53 = .ok (.iastore, 1) := by decide +kernel
theorem dX12_street_54 : decode cX12_street 54 = .ok (.aload_n 0, 1) := by decide +kernel
theorem dX12_street_55 : decode cX12_street 55 = .ok (.getfield 13, 3) := by decide +kernel
theorem dX12_street_58 : decode cX12_street 58 = .ok (.aload_n 0, 1) := by decide +kernel
theorem dX12_street_59 : decode cX12_street 59 = .ok (.getfield 161, 3) := by decide +kernel
theorem dX12_street_62 : decode cX12_street 62 = .ok (.iload_n 2, 1) := by decide +kernel
theorem dX12_street_63 : decode cX12_street 63 = .ok (.iastore, 1) := by decide +kernel
theorem dX12_street_64 : decode cX12_street 64 = .ok (.iconst 0, 1) := by decide +kernel
theorem dX12_street_65 : decode cX12_street 65 = .ok (.istore 4, 2) := by decide +kernel
theorem dX12_street_67 : decode cX12_street 67 = .ok (.iload 4, 2) := by decide +kernel
theorem dX12_street_69 : decode cX12_street 69 = .ok (.sipush 144, 3) := by decide +kernel
theorem dX12_street_72 : decode cX12_street 72 = .ok (.if_icmp .ge 26, 3) := by decide +kernel
theorem dX12_street_75 : decode cX12_street 75 = .ok (.aload_n 0, 1) := by decide +kernel
theorem dX12_street_76 : decode cX12_street 76 = .ok (.getfield 16, 3) := by decide +kernel
theorem dX12_street_79 : decode cX12_street 79 = .ok (.sipush 144, 3) := by decide +kernel
theorem dX12_street_82 : decode cX12_street 82 = .ok (.aload_n 0, 1) := by decide +kernel
theorem dX12_street_83 : decode cX12_street 83 = .ok (.getfield 161, 3) := by decide +kernel
theorem dX12_street_86 : decode cX12_street 86 = .ok (.imul, 1) := by decide +kernel
theorem dX12_street_87 : decode cX12_street 87 = .ok (.iload 4, 2) := by decide +kernel
theorem dX12_street_89 : decode cX12_street 89 = .ok (.iadd, 1) := by decide +kernel
theorem dX12_street_90 : decode cX12_street 90 = .ok (.iload_n 3, 1) := by decide +kernel
theorem dX12_street_91 : decode cX12_street 91 = .ok (.iastore, 1) := by decide +kernel
theorem dX12_street_92 : decode cX12_street 92 = .ok (.iinc 4 1, 3) := by decide +kernel
theorem dX12_street_95 : decode cX12_street 95 = .ok (.goto (-28), 3) := by decide +kernel
theorem dX12_street_98 : decode cX12_street 98 = .ok (.aload_n 0, 1) := by decide +kernel
theorem dX12_street_99 : decode cX12_street 99 = .ok (.dup, 1) := by decide +kernel
theorem dX12_street_100 : decode cX12_street 100 = .ok (.getfield 161, 3) := by decide +kernel
theorem dX12_street_103 : decode cX12_street 103 = .ok (.iconst 1, 1) := by decide +kernel
theorem dX12_street_104 : decode cX12_street 104 = .ok (.iadd, 1) := by decide +kernel
theorem dX12_street_105 : decode cX12_street 105 = .ok (.putfield 161, 3) := by decide +kernel
theorem dX12_street_108 : decode cX12_street 108 = .ok (.aload_n 0, 1) := by decide +kernel
theorem dX12_street_109 : decode cX12_street 109 = .ok (.getfield 161, 3) := by decide +kernel
theorem dX12_street_112 : decode cX12_street 112 = .ok (.iconst 1, 1) := by decide +kernel
theorem dX12_street_113 : decode cX12_street 113 = .ok (.isub, 1) := by decide +kernel
theorem dX12_street_114 : decode cX12_street 114 = .ok (.ireturn, 1) := by decide +kernel
theorem dX12_height_0 : decode cX12_height 0 = .ok (.aload_n 0, 1) := by decide +kernel
theorem dX12_height_1 : decode cX12_height 1 = .ok (.iload_n 1, 1) := by decide +kernel
theorem dX12_height_2 : decode cX12_height 2 = .ok (.iload_n 2, 1) := by decide +kernel
theorem dX12_height_3 : decode cX12_height 3 = .ok (.iload_n 3, 1) := by decide +kernel
theorem dX12_height_4 : decode cX12_height 4 = .ok (.invokevirtual 172, 3) := by decide +kernel
theorem dX12_height_7 : decode cX12_height 7 = .ok (.ifCond .eq 14, 3) := by decide +kernel
theorem dX12_height_10 : decode cX12_height 10 = .ok (.iload 4, 2) := by decide +kernel
theorem dX12_height_12 : decode cX12_height 12 = .ok (.iconst 0, 1) := by decide +kernel
theorem dX12_height_13 : decode cX12_height 13 = .ok (.bipush 99, 2) := by decide +kernel
theorem dX12_height_15 : decode cX12_height 15 = .ok (.invokestatic 164, 3) := by decide +kernel
theorem dX12_height_18 : decode cX12_height 18 = .ok (.ifCond .ne 5, 3) := by decide +kernel
theorem dX12_height_21 : decode cX12_height 21 = .ok (.iconst (-1), 1) := by decide +kernel
theorem dX12_height_22 : decode cX12_height 22 = .ok (.ireturn, 1) := by decide +kernel
theorem dX12_height_23 : decode cX12_height 23 = .ok (.aload_n 0, 1) := by decide +kernel
theorem dX12_height_24 : decode cX12_height 24 = .ok (.getfield 16, 3) := by decide +kernel
theorem dX12_height_27 : decode cX12_height 27 = .ok (.iload_n 1, 1) := by decide +kernel
theorem dX12_height_28 : decode cX12_height 28 = .ok (.iload_n 2, 1) := by decide +kernel
theorem dX12_height_29 : decode cX12_height 29 = .ok (.iload_n 3, 1) := by decide +kernel
theorem dX12_height_30 : decode cX12_height 30 = .ok (.invokestatic 175, 3) := by decide +kernel
theorem dX12_height_33 : decode cX12_height 33 = .ok (.iaload, 1) := by decide +kernel
theorem dX12_height_34 : decode cX12_height 34 = .ok (.istore 5, 2) := by decide +kernel
theorem dX12_height_36 : decode cX12_height 36 = .ok (.aload_n 0, 1) := by decide +kernel
theorem dX12_height_37 : decode cX12_height 37 = .ok (.getfield 16, 3) := by decide +kernel
theorem dX12_height_40 : decode cX12_height 40 = .ok (.iload_n 1, 1) := by decide +kernel
theorem dX12_height_41 : decode cX12_height 41 = .ok (.iload_n 2, 1) := by decide +kernel
theorem dX12_height_42 : decode cX12_height 42 = .ok (.iload_n 3, 1) := by decide +kernel
theorem dX12_height_43 : decode cX12_height 43 = .ok (.invokestatic 175, 3) := by decide +kernel
theorem dX12_height_46 : decode cX12_height 46 = .ok (.iload 4, 2) := by decide +kernel
theorem dX12_height_48 : decode cX12_height 48 = .ok (.iastore, 1) := by decide +kernel
theorem dX12_height_49 : decode cX12_height 49 = .ok (.iload 5, 2) := by decide +kernel
theorem dX12_height_51 : decode cX12_height 51 = .ok (.ireturn, 1) := by decide +kernel
theorem dX12_read_0 : decode cX12_read 0 = .ok (.aload_n 0, 1) := by decide +kernel
theorem dX12_read_1 : decode cX12_read 1 = .ok (.iload_n 1, 1) := by decide +kernel
theorem dX12_read_2 : decode cX12_read 2 = .ok (.iload_n 2, 1) := by decide +kernel
theorem dX12_read_3 : decode cX12_read 3 = .ok (.iload_n 3, 1) := by decide +kernel
theorem dX12_read_4 : decode cX12_read 4 = .ok (.invokevirtual 172, 3) := by decide +kernel
theorem dX12_read_7 : decode cX12_read 7 = .ok (.ifCond .eq 17, 3) := by decide +kernel
theorem dX12_read_10 : decode cX12_read 10 = .ok (.aload_n 0, 1) := by decide +kernel
theorem dX12_read_11 : decode cX12_read 11 = .ok (.getfield 16, 3) := by decide +kernel
theorem dX12_read_14 : decode cX12_read 14 = .ok (.iload_n 1, 1) := by decide +kernel
theorem dX12_read_15 : decode cX12_read 15 = .ok (.iload_n 2, 1) := by decide +kernel
theorem dX12_read_16 : decode cX12_read 16 = .ok (.iload_n 3, 1) := by decide +kernel
theorem dX12_read_17 : decode cX12_read 17 = .ok (.invokestatic 175, 3) := by decide +kernel
theorem dX12_read_20 : decode cX12_read 20 = .ok (.iaload, 1) := by decide +kernel
theorem dX12_read_21 : decode cX12_read 21 = .ok (.goto 4, 3) := by decide +kernel
theorem dX12_read_24 : decode cX12_read 24 = .ok (.iconst (-1), 1) := by decide +kernel
theorem dX12_read_25 : decode cX12_read 25 = .ok (.ireturn, 1) := by decide +kernel
theorem dX12_drain_0 : decode cX12_drain 0 = .ok (.aload_n 0, 1) := by decide +kernel
theorem dX12_drain_1 : decode cX12_drain 1 = .ok (.iload_n 1, 1) := by decide +kernel
theorem dX12_drain_2 : decode cX12_drain 2 = .ok (.iload_n 2, 1) := by decide +kernel
theorem dX12_drain_3 : decode cX12_drain 3 = .ok (.iload_n 3, 1) := by decide +kernel
theorem dX12_drain_4 : decode cX12_drain 4 = .ok (.invokevirtual 172, 3) := by decide +kernel
theorem dX12_drain_7 : decode cX12_drain 7 = .ok (.ifCond .eq 13, 3) := by decide +kernel
theorem dX12_drain_10 : decode cX12_drain 10 = .ok (.iload 4, 2) := by decide +kernel
theorem dX12_drain_12 : decode cX12_drain 12 = .ok (.iconst 0, 1) := by decide +kernel
theorem dX12_drain_13 : decode cX12_drain 13 = .ok (.iconst 1, 1) := by decide +kernel
theorem dX12_drain_14 : decode cX12_drain 14 = .ok (.invokestatic 164, 3) := by decide +kernel
theorem dX12_drain_17 : decode cX12_drain 17 = .ok (.ifCond .ne 5, 3) := by decide +kernel
theorem dX12_drain_20 : decode cX12_drain 20 = .ok (.iconst (-1), 1) := by decide +kernel
theorem dX12_drain_21 : decode cX12_drain 21 = .ok (.ireturn, 1) := by decide +kernel
theorem dX12_drain_22 : decode cX12_drain 22 = .ok (.aload_n 0, 1) := by decide +kernel
theorem dX12_drain_23 : decode cX12_drain 23 = .ok (.getfield 19, 3) := by decide +kernel
theorem dX12_drain_26 : decode cX12_drain 26 = .ok (.iload_n 1, 1) := by decide +kernel
theorem dX12_drain_27 : decode cX12_drain 27 = .ok (.iload_n 2, 1) := by decide +kernel
theorem dX12_drain_28 : decode cX12_drain 28 = .ok (.iload_n 3, 1) := by decide +kernel
theorem dX12_drain_29 : decode cX12_drain 29 = .ok (.invokestatic 175, 3) := by decide +kernel
theorem dX12_drain_32 : decode cX12_drain 32 = .ok (.baload, 1) := by decide +kernel
theorem dX12_drain_33 : decode cX12_drain 33 = .ok (.ifCond .eq 7, 3) := by decide +kernel
theorem dX12_drain_36 : decode cX12_drain 36 = .ok (.iconst 1, 1) := by decide +kernel
theorem dX12_drain_37 : decode cX12_drain 37 = .ok (.goto 4, 3) := by decide +kernel
theorem dX12_drain_40 : decode cX12_drain 40 = .ok (.iconst 0, 1) := by decide +kernel
theorem dX12_drain_41 : decode cX12_drain 41 = .ok (.istore 5, 2) := by decide +kernel
theorem dX12_drain_43 : decode cX12_drain 43 = .ok (.aload_n 0, 1) := by decide +kernel
theorem dX12_drain_44 : decode cX12_drain 44 = .ok (.getfield 19, 3) := by decide +kernel
theorem dX12_drain_47 : decode cX12_drain 47 = .ok (.iload_n 1, 1) := by decide +kernel
theorem dX12_drain_48 : decode cX12_drain 48 = .ok (.iload_n 2, 1) := by decide +kernel
theorem dX12_drain_49 : decode cX12_drain 49 = .ok (.iload_n 3, 1) := by decide +kernel
theorem dX12_drain_50 : decode cX12_drain 50 = .ok (.invokestatic 175, 3) := by decide +kernel
theorem dX12_drain_53 : decode cX12_drain 53 = .ok (.iload 4, 2) := by decide +kernel
theorem dX12_drain_55 : decode cX12_drain 55 = .ok (.iconst 1, 1) := by decide +kernel
theorem dX12_drain_56 : decode cX12_drain 56 = .ok (.if_icmp .ne 7, 3) := by decide +kernel
theorem dX12_drain_59 : decode cX12_drain 59 = .ok (.iconst 1, 1) := by decide +kernel
theorem dX12_drain_60 : decode cX12_drain 60 = .ok (.goto 4, 3) := by decide +kernel
theorem dX12_drain_63 : decode cX12_drain 63 = .ok (.iconst 0, 1) := by decide +kernel
theorem dX12_drain_64 : decode cX12_drain 64 = .ok (.bastore, 1) := by decide +kernel
theorem dX12_drain_65 : decode cX12_drain 65 = .ok (.iload 5, 2) := by decide +kernel
theorem dX12_drain_67 : decode cX12_drain 67 = .ok (.ireturn, 1) := by decide +kernel
theorem dX12_goesOn_0 : decode cX12_goesOn 0 = .ok (.bipush 16, 2) := by decide +kernel
theorem dX12_goesOn_2 : decode cX12_goesOn 2 = .ok (.iload_n 2, 1) := by decide +kernel
theorem dX12_goesOn_3 : decode cX12_goesOn 3 = .ok (.imul, 1) := by decide +kernel
theorem dX12_goesOn_4 : decode cX12_goesOn 4 = .ok (.iload_n 3, 1) := by decide +kernel
theorem dX12_goesOn_5 : decode cX12_goesOn 5 = .ok (.iadd, 1) := by decide +kernel
theorem dX12_goesOn_6 : decode cX12_goesOn 6 = .ok (.istore 4, 2) := by decide +kernel
theorem dX12_goesOn_8 : decode cX12_goesOn 8 = .ok (.aload_n 0, 1) := by decide +kernel
theorem dX12_goesOn_9 : decode cX12_goesOn 9 = .ok (.getfield 16, 3) := by decide +kernel
theorem dX12_goesOn_12 : decode cX12_goesOn 12 = .ok (.iload_n 1, 1) := by decide +kernel
theorem dX12_goesOn_13 : decode cX12_goesOn 13 = .ok (.iload_n 2, 1) := by decide +kernel
theorem dX12_goesOn_14 : decode cX12_goesOn 14 = .ok (.iload_n 3, 1) := by decide +kernel
theorem dX12_goesOn_15 : decode cX12_goesOn 15 = .ok (.invokestatic 175, 3) := by decide +kernel
theorem dX12_goesOn_18 : decode cX12_goesOn 18 = .ok (.iaload, 1) := by decide +kernel
theorem dX12_goesOn_19 : decode cX12_goesOn 19 = .ok (.istore 5, 2) := by decide +kernel
theorem dX12_goesOn_21 : decode cX12_goesOn 21 = .ok (.aload_n 0, 1) := by decide +kernel
theorem dX12_goesOn_22 : decode cX12_goesOn 22 = .ok (.getfield 19, 3) := by decide +kernel
theorem dX12_goesOn_25 : decode cX12_goesOn 25 = .ok (.iload_n 1, 1) := by decide +kernel
theorem dX12_goesOn_26 : decode cX12_goesOn 26 = .ok (.iload_n 2, 1) := by decide +kernel
theorem dX12_goesOn_27 : decode cX12_goesOn 27 = .ok (.iload_n 3, 1) := by decide +kernel
theorem dX12_goesOn_28 : decode cX12_goesOn 28 = .ok (.invokestatic 175, 3) := by decide +kernel
theorem dX12_goesOn_31 : decode cX12_goesOn 31 = .ok (.baload, 1) := by decide +kernel
theorem dX12_goesOn_32 : decode cX12_goesOn 32 = .ok (.ifCond .eq 6, 3) := by decide +kernel
theorem dX12_goesOn_35 : decode cX12_goesOn 35 = .ok (.iload 4, 2) := by decide +kernel
theorem dX12_goesOn_37 : decode cX12_goesOn 37 = .ok (.ireturn, 1) := by decide +kernel
theorem dX12_goesOn_38 : decode cX12_goesOn 38 = .ok (.iload_n 2, 1) := by decide +kernel
theorem dX12_goesOn_39 : decode cX12_goesOn 39 = .ok (.ifCond .le 46, 3) := by decide +kernel
theorem dX12_goesOn_42 : decode cX12_goesOn 42 = .ok (.aload_n 0, 1) := by decide +kernel
theorem dX12_goesOn_43 : decode cX12_goesOn 43 = .ok (.getfield 16, 3) := by decide +kernel
theorem dX12_goesOn_46 : decode cX12_goesOn 46 = .ok (.iload_n 1, 1) := by decide +kernel
theorem dX12_goesOn_47 : decode cX12_goesOn 47 = .ok (.iload_n 2, 1) := by decide +kernel
theorem dX12_goesOn_48 : decode cX12_goesOn 48 = .ok (.iconst 1, 1) := by decide +kernel
theorem dX12_goesOn_49 : decode cX12_goesOn 49 = .ok (.isub, 1) := by decide +kernel
theorem dX12_goesOn_50 : decode cX12_goesOn 50 = .ok (.iload_n 3, 1) := by decide +kernel
theorem dX12_goesOn_51 : decode cX12_goesOn 51 = .ok (.invokestatic 175, 3) := by decide +kernel
theorem dX12_goesOn_54 : decode cX12_goesOn 54 = .ok (.iaload, 1) := by decide +kernel
theorem dX12_goesOn_55 : decode cX12_goesOn 55 = .ok (.iload 5, 2) := by decide +kernel
theorem dX12_goesOn_57 : decode cX12_goesOn 57 = .ok (.if_icmp .ge 28, 3) := by decide +kernel
theorem dX12_goesOn_60 : decode cX12_goesOn 60 = .ok (.bipush 16, 2) := by decide +kernel
theorem dX12_goesOn_62 : decode cX12_goesOn 62 = .ok (.iload_n 2, 1) := by decide +kernel
theorem dX12_goesOn_63 : decode cX12_goesOn 63 = .ok (.iconst 1, 1) := by decide +kernel
theorem dX12_goesOn_64 : decode cX12_goesOn 64 = .ok (.isub, 1) := by decide +kernel
theorem dX12_goesOn_65 : decode cX12_goesOn 65 = .ok (.imul, 1) := by decide +kernel
theorem dX12_goesOn_66 : decode cX12_goesOn 66 = .ok (.iload_n 3, 1) := by decide +kernel
theorem dX12_goesOn_67 : decode cX12_goesOn 67 = .ok (.iadd, 1) := by decide +kernel
theorem dX12_goesOn_68 : decode cX12_goesOn 68 = .ok (.istore 4, 2) := by decide +kernel
theorem dX12_goesOn_70 : decode cX12_goesOn 70 = .ok (.aload_n 0, 1) := by decide +kernel
theorem dX12_goesOn_71 : decode cX12_goesOn 71 = .ok (.getfield 16, 3) := by decide +kernel
theorem dX12_goesOn_74 : decode cX12_goesOn 74 = .ok (.iload_n 1, 1) := by decide +kernel
theorem dX12_goesOn_75 : decode cX12_goesOn 75 = .ok (.iload_n 2, 1) := by decide +kernel
theorem dX12_goesOn_76 : decode cX12_goesOn 76 = .ok (.iconst 1, 1) := by decide +kernel
theorem dX12_goesOn_77 : decode cX12_goesOn 77 = .ok (.isub, 1) := by decide +kernel
theorem dX12_goesOn_78 : decode cX12_goesOn 78 = .ok (.iload_n 3, 1) := by decide +kernel
theorem dX12_goesOn_79 : decode cX12_goesOn 79 = .ok (.invokestatic 175, 3) := by decide +kernel
theorem dX12_goesOn_82 : decode cX12_goesOn 82 = .ok (.iaload, 1) := by decide +kernel
theorem dX12_goesOn_83 : decode cX12_goesOn 83 = .ok (.istore 5, 2) := by decide +kernel
theorem dX12_goesOn_85 : decode cX12_goesOn 85 = .ok (.iload_n 3, 1) := by decide +kernel
theorem dX12_goesOn_86 : decode cX12_goesOn 86 = .ok (.ifCond .le 46, 3) := by decide +kernel
theorem dX12_goesOn_89 : decode cX12_goesOn 89 = .ok (.aload_n 0, 1) := by decide +kernel
theorem dX12_goesOn_90 : decode cX12_goesOn 90 = .ok (.getfield 16, 3) := by decide +kernel
theorem dX12_goesOn_93 : decode cX12_goesOn 93 = .ok (.iload_n 1, 1) := by decide +kernel
theorem dX12_goesOn_94 : decode cX12_goesOn 94 = .ok (.iload_n 2, 1) := by decide +kernel
theorem dX12_goesOn_95 : decode cX12_goesOn 95 = .ok (.iload_n 3, 1) := by decide +kernel
theorem dX12_goesOn_96 : decode cX12_goesOn 96 = .ok (.iconst 1, 1) := by decide +kernel
theorem dX12_goesOn_97 : decode cX12_goesOn 97 = .ok (.isub, 1) := by decide +kernel
theorem dX12_goesOn_98 : decode cX12_goesOn 98 = .ok (.invokestatic 175, 3) := by decide +kernel
theorem dX12_goesOn_101 : decode cX12_goesOn 101 = .ok (.iaload, 1) := by decide +kernel
theorem dX12_goesOn_102 : decode cX12_goesOn 102 = .ok (.iload 5, 2) := by decide +kernel
theorem dX12_goesOn_104 : decode cX12_goesOn 104 = .ok (.if_icmp .ge 28, 3) := by decide +kernel
theorem dX12_goesOn_107 : decode cX12_goesOn 107 = .ok (.bipush 16, 2) := by decide +kernel
theorem dX12_goesOn_109 : decode cX12_goesOn 109 = .ok (.iload_n 2, 1) := by decide +kernel
theorem dX12_goesOn_110 : decode cX12_goesOn 110 = .ok (.imul, 1) := by decide +kernel
theorem dX12_goesOn_111 : decode cX12_goesOn 111 = .ok (.iload_n 3, 1) := by decide +kernel
theorem dX12_goesOn_112 : decode cX12_goesOn 112 = .ok (.iadd, 1) := by decide +kernel
theorem dX12_goesOn_113 : decode cX12_goesOn 113 = .ok (.iconst 1, 1) := by decide +kernel
theorem dX12_goesOn_114 : decode cX12_goesOn 114 = .ok (.isub, 1) := by decide +kernel
theorem dX12_goesOn_115 : decode cX12_goesOn 115 = .ok (.istore 4, 2) := by decide +kernel
theorem dX12_goesOn_117 : decode cX12_goesOn 117 = .ok (.aload_n 0, 1) := by decide +kernel
theorem dX12_goesOn_118 : decode cX12_goesOn 118 = .ok (.getfield 16, 3) := by decide +kernel
theorem dX12_goesOn_121 : decode cX12_goesOn 121 = .ok (.iload_n 1, 1) := by decide +kernel
theorem dX12_goesOn_122 : decode cX12_goesOn 122 = .ok (.iload_n 2, 1) := by decide +kernel
theorem dX12_goesOn_123 : decode cX12_goesOn 123 = .ok (.iload_n 3, 1) := by decide +kernel
theorem dX12_goesOn_124 : decode cX12_goesOn 124 = .ok (.iconst 1, 1) := by decide +kernel
theorem dX12_goesOn_125 : decode cX12_goesOn 125 = .ok (.isub, 1) := by decide +kernel
theorem dX12_goesOn_126 : decode cX12_goesOn 126 = .ok (.invokestatic 175, 3) := by decide +kernel
theorem dX12_goesOn_129 : decode cX12_goesOn 129 = .ok (.iaload, 1) := by decide +kernel
theorem dX12_goesOn_130 : decode cX12_goesOn 130 = .ok (.istore 5, 2) := by decide +kernel
theorem dX12_goesOn_132 : decode cX12_goesOn 132 = .ok (.iload_n 3, 1) := by decide +kernel
theorem dX12_goesOn_133 : decode cX12_goesOn 133 = .ok (.aload_n 0, 1) := by decide +kernel
theorem dX12_goesOn_134 : decode cX12_goesOn 134 = .ok (.getfield 13, 3) := by decide +kernel
theorem dX12_goesOn_137 : decode cX12_goesOn 137 = .ok (.iload_n 1, 1) := by decide +kernel
theorem dX12_goesOn_138 : decode cX12_goesOn 138 = .ok (.iaload, 1) := by decide +kernel
theorem dX12_goesOn_139 : decode cX12_goesOn 139 = .ok (.iconst 1, 1) := by decide +kernel
theorem dX12_goesOn_140 : decode cX12_goesOn 140 = .ok (.isub, 1) := by decide +kernel
theorem dX12_goesOn_141 : decode cX12_goesOn 141 = .ok (.if_icmp .ge 46, 3) := by decide +kernel
theorem dX12_goesOn_144 : decode cX12_goesOn 144 = .ok (.aload_n 0, 1) := by decide +kernel
theorem dX12_goesOn_145 : decode cX12_goesOn 145 = .ok (.getfield 16, 3) := by decide +kernel
theorem dX12_goesOn_148 : decode cX12_goesOn 148 = .ok (.iload_n 1, 1) := by decide +kernel
theorem dX12_goesOn_149 : decode cX12_goesOn 149 = .ok (.iload_n 2, 1) := by decide +kernel
theorem dX12_goesOn_150 : decode cX12_goesOn 150 = .ok (.iload_n 3, 1) := by decide +kernel
theorem dX12_goesOn_151 : decode cX12_goesOn 151 = .ok (.iconst 1, 1) := by decide +kernel
theorem dX12_goesOn_152 : decode cX12_goesOn 152 = .ok (.iadd, 1) := by decide +kernel
theorem dX12_goesOn_153 : decode cX12_goesOn 153 = .ok (.invokestatic 175, 3) := by decide +kernel
theorem dX12_goesOn_156 : decode cX12_goesOn 156 = .ok (.iaload, 1) := by decide +kernel
theorem dX12_goesOn_157 : decode cX12_goesOn 157 = .ok (.iload 5, 2) := by decide +kernel
theorem dX12_goesOn_159 : decode cX12_goesOn 159 = .ok (.if_icmp .ge 28, 3) := by decide +kernel
theorem dX12_goesOn_162 : decode cX12_goesOn 162 = .ok (.bipush 16, 2) := by decide +kernel
theorem dX12_goesOn_164 : decode cX12_goesOn 164 = .ok (.iload_n 2, 1) := by decide +kernel
theorem dX12_goesOn_165 : decode cX12_goesOn 165 = .ok (.imul, 1) := by decide +kernel
theorem dX12_goesOn_166 : decode cX12_goesOn 166 = .ok (.iload_n 3, 1) := by decide +kernel
theorem dX12_goesOn_167 : decode cX12_goesOn 167 = .ok (.iadd, 1) := by decide +kernel
theorem dX12_goesOn_168 : decode cX12_goesOn 168 = .ok (.iconst 1, 1) := by decide +kernel
theorem dX12_goesOn_169 : decode cX12_goesOn 169 = .ok (.iadd, 1) := by decide +kernel
theorem dX12_goesOn_170 : decode cX12_goesOn 170 = .ok (.istore 4, 2) := by decide +kernel
theorem dX12_goesOn_172 : decode cX12_goesOn 172 = .ok (.aload_n 0, 1) := by decide +kernel
theorem dX12_goesOn_173 : decode cX12_goesOn 173 = .ok (.getfield 16, 3) := by decide +kernel
theorem dX12_goesOn_176 : decode cX12_goesOn 176 = .ok (.iload_n 1, 1) := by decide +kernel
theorem dX12_goesOn_177 : decode cX12_goesOn 177 = .ok (.iload_n 2, 1) := by decide +kernel
theorem dX12_goesOn_178 : decode cX12_goesOn 178 = .ok (.iload_n 3, 1) := by decide +kernel
theorem dX12_goesOn_179 : decode cX12_goesOn 179 = .ok (.iconst 1, 1) := by decide +kernel
theorem dX12_goesOn_180 : decode cX12_goesOn 180 = .ok (.iadd, 1) := by decide +kernel
theorem dX12_goesOn_181 : decode cX12_goesOn 181 = .ok (.invokestatic 175, 3) := by decide +kernel
theorem dX12_goesOn_184 : decode cX12_goesOn 184 = .ok (.iaload, 1) := by decide +kernel
theorem dX12_goesOn_185 : decode cX12_goesOn 185 = .ok (.istore 5, 2) := by decide +kernel
theorem dX12_goesOn_187 : decode cX12_goesOn 187 = .ok (.iload_n 2, 1) := by decide +kernel
theorem dX12_goesOn_188 : decode cX12_goesOn 188 = .ok (.aload_n 0, 1) := by decide +kernel
theorem dX12_goesOn_189 : decode cX12_goesOn 189 = .ok (.getfield 7, 3) := by decide +kernel
theorem dX12_goesOn_192 : decode cX12_goesOn 192 = .ok (.iload_n 1, 1) := by decide +kernel
theorem dX12_goesOn_193 : decode cX12_goesOn 193 = .ok (.iaload, 1) := by decide +kernel
theorem dX12_goesOn_194 : decode cX12_goesOn 194 = .ok (.iconst 1, 1) := by decide +kernel
theorem dX12_goesOn_195 : decode cX12_goesOn 195 = .ok (.isub, 1) := by decide +kernel
theorem dX12_goesOn_196 : decode cX12_goesOn 196 = .ok (.if_icmp .ge 31, 3) := by decide +kernel
theorem dX12_goesOn_199 : decode cX12_goesOn 199 = .ok (.aload_n 0, 1) := by decide +kernel
theorem dX12_goesOn_200 : decode cX12_goesOn 200 = .ok (.getfield 16, 3) := by decide +kernel
theorem dX12_goesOn_203 : decode cX12_goesOn 203 = .ok (.iload_n 1, 1) := by decide +kernel
theorem dX12_goesOn_204 : decode cX12_goesOn 204 = .ok (.iload_n 2, 1) := by decide +kernel
theorem dX12_goesOn_205 : decode cX12_goesOn 205 = .ok (.iconst 1, 1) := by decide +kernel
theorem dX12_goesOn_206 : decode cX12_goesOn 206 = .ok (.iadd, 1) := by decide +kernel
theorem dX12_goesOn_207 : decode cX12_goesOn 207 = .ok (.iload_n 3, 1) := by decide +kernel
theorem dX12_goesOn_208 : decode cX12_goesOn 208 = .ok (.invokestatic 175, 3) := by decide +kernel
theorem dX12_goesOn_211 : decode cX12_goesOn 211 = .ok (.iaload, 1) := by decide +kernel
theorem dX12_goesOn_212 : decode cX12_goesOn 212 = .ok (.iload 5, 2) := by decide +kernel
theorem dX12_goesOn_214 : decode cX12_goesOn 214 = .ok (.if_icmp .ge 13, 3) := by decide +kernel
theorem dX12_goesOn_217 : decode cX12_goesOn 217 = .ok (.bipush 16, 2) := by decide +kernel
theorem dX12_goesOn_219 : decode cX12_goesOn 219 = .ok (.iload_n 2, 1) := by decide +kernel
theorem dX12_goesOn_220 : decode cX12_goesOn 220 = .ok (.iconst 1, 1) := by decide +kernel
theorem dX12_goesOn_221 : decode cX12_goesOn 221 = .ok (.iadd, 1) := by decide +kernel
theorem dX12_goesOn_222 : decode cX12_goesOn 222 = .ok (.imul, 1) := by decide +kernel
theorem dX12_goesOn_223 : decode cX12_goesOn 223 = .ok (.iload_n 3, 1) := by decide +kernel
theorem dX12_goesOn_224 : decode cX12_goesOn 224 = .ok (.iadd, 1) := by decide +kernel
theorem dX12_goesOn_225 : decode cX12_goesOn 225 = .ok (.istore 4, 2) := by decide +kernel
theorem dX12_goesOn_227 : decode cX12_goesOn 227 = .ok (.iload 4, 2) := by decide +kernel
theorem dX12_goesOn_229 : decode cX12_goesOn 229 = .ok (.ireturn, 1) := by decide +kernel
theorem dX12_comesTo_0 : decode cX12_comesTo 0 = .ok (.bipush 16, 2) := by decide +kernel
theorem dX12_comesTo_2 : decode cX12_comesTo 2 = .ok (.iload_n 2, 1) := by decide +kernel
theorem dX12_comesTo_3 : decode cX12_comesTo 3 = .ok (.imul, 1) := by decide +kernel
theorem dX12_comesTo_4 : decode cX12_comesTo 4 = .ok (.iload_n 3, 1) := by decide +kernel
theorem dX12_comesTo_5 : decode cX12_comesTo 5 = .ok (.iadd, 1) := by decide +kernel
theorem dX12_comesTo_6 : decode cX12_comesTo 6 = .ok (.istore 4, 2) := by decide +kernel
theorem dX12_comesTo_8 : decode cX12_comesTo 8 = .ok (.aload_n 0, 1) := by decide +kernel
theorem dX12_comesTo_9 : decode cX12_comesTo 9 = .ok (.iload_n 1, 1) := by decide +kernel
theorem dX12_comesTo_10 : decode cX12_comesTo 10 = .ok (.iload_n 2, 1) := by decide +kernel
theorem dX12_comesTo_11 : decode cX12_comesTo 11 = .ok (.iload_n 3, 1) := by decide +kernel
theorem dX12_comesTo_12 : decode cX12_comesTo 12 = .ok (.invokevirtual 179, 3) := by decide +kernel
theorem dX12_comesTo_15 : decode cX12_comesTo 15 = .ok (.istore 5, 2) := by decide +kernel
theorem dX12_comesTo_17 : decode cX12_comesTo 17 = .ok (.iload 5, 2) := by decide +kernel
theorem dX12_comesTo_19 : decode cX12_comesTo 19 = .ok (.iload 4, 2) := by decide +kernel
theorem dX12_comesTo_21 : decode cX12_comesTo 21 = .ok (.if_icmp .eq 27, 3) := by decide +kernel
theorem dX12_comesTo_24 : decode cX12_comesTo 24 = .ok (.iload 5, 2) := by decide +kernel
theorem dX12_comesTo_26 : decode cX12_comesTo 26 = .ok (.istore 4, 2) := by decide +kernel
theorem dX12_comesTo_28 : decode cX12_comesTo 28 = .ok (.aload_n 0, 1) := by decide +kernel
theorem dX12_comesTo_29 : decode cX12_comesTo 29 = .ok (.iload_n 1, 1) := by decide +kernel
theorem dX12_comesTo_30 : decode cX12_comesTo 30 = .ok (.iload 4, 2) := by decide +kernel
theorem dX12_comesTo_32 : decode cX12_comesTo 32 = .ok (.bipush 16, 2) := by decide +kernel
theorem dX12_comesTo_34 : decode cX12_comesTo 34 = .ok (.idiv, 1) := by decide +kernel
theorem dX12_comesTo_35 : decode cX12_comesTo 35 = .ok (.iload 4, 2) := by decide +kernel
theorem dX12_comesTo_37 : decode cX12_comesTo 37 = .ok (.bipush 16, 2) := by decide +kernel
theorem dX12_comesTo_39 : decode cX12_comesTo 39 = .ok (.irem, 1) := by decide +kernel
theorem dX12_comesTo_40 : decode cX12_comesTo 40 = .ok (.invokevirtual 179, 3) := by decide +kernel
theorem dX12_comesTo_43 : decode cX12_comesTo 43 = .ok (.istore 5, 2) := by decide +kernel
theorem dX12_comesTo_45 : decode cX12_comesTo 45 = .ok (.goto (-28), 3) := by decide +kernel
theorem dX12_comesTo_48 : decode cX12_comesTo 48 = .ok (.iload 4, 2) := by decide +kernel
theorem dX12_comesTo_50 : decode cX12_comesTo 50 = .ok (.ireturn, 1) := by decide +kernel
theorem dX12_isDrain_0 : decode cX12_isDrain 0 = .ok (.aload_n 0, 1) := by decide +kernel
theorem dX12_isDrain_1 : decode cX12_isDrain 1 = .ok (.getfield 19, 3) := by decide +kernel
theorem dX12_isDrain_4 : decode cX12_isDrain 4 = .ok (.iload_n 1, 1) := by decide +kernel
theorem dX12_isDrain_5 : decode cX12_isDrain 5 = .ok (.iload_n 2, 1) := by decide +kernel
theorem dX12_isDrain_6 : decode cX12_isDrain 6 = .ok (.bipush 16, 2) := by decide +kernel
theorem dX12_isDrain_8 : decode cX12_isDrain 8 = .ok (.idiv, 1) := by decide +kernel
theorem dX12_isDrain_9 : decode cX12_isDrain 9 = .ok (.iload_n 2, 1) := by decide +kernel
theorem dX12_isDrain_10 : decode cX12_isDrain 10 = .ok (.bipush 16, 2) := by decide +kernel
theorem dX12_isDrain_12 : decode cX12_isDrain 12 = .ok (.irem, 1) := by decide +kernel
theorem dX12_isDrain_13 : decode cX12_isDrain 13 = .ok (.invokestatic 175, 3) := by decide +kernel
theorem dX12_isDrain_16 : decode cX12_isDrain 16 = .ok (.baload, 1) := by decide +kernel
theorem dX12_isDrain_17 : decode cX12_isDrain 17 = .ok (.ireturn, 1) := by decide +kernel
theorem dX12_water_0 : decode cX12_water 0 = .ok (.aload_n 0, 1) := by decide +kernel
theorem dX12_water_1 : decode cX12_water 1 = .ok (.iload_n 1, 1) := by decide +kernel
theorem dX12_water_2 : decode cX12_water 2 = .ok (.iload_n 2, 1) := by decide +kernel
theorem dX12_water_3 : decode cX12_water 3 = .ok (.iload_n 3, 1) := by decide +kernel
theorem dX12_water_4 : decode cX12_water 4 = .ok (.invokevirtual 172, 3) := by decide +kernel
theorem dX12_water_7 : decode cX12_water 7 = .ok (.ifCond .ne 5, 3) := by decide +kernel
theorem dX12_water_10 : decode cX12_water 10 = .ok (.iconst (-1), 1) := by decide +kernel
theorem dX12_water_11 : decode cX12_water 11 = .ok (.ireturn, 1) := by decide +kernel
theorem dX12_water_12 : decode cX12_water 12 = .ok (.aload_n 0, 1) := by decide +kernel
theorem dX12_water_13 : decode cX12_water 13 = .ok (.iload_n 1, 1) := by decide +kernel
theorem dX12_water_14 : decode cX12_water 14 = .ok (.iload_n 2, 1) := by decide +kernel
theorem dX12_water_15 : decode cX12_water 15 = .ok (.iload_n 3, 1) := by decide +kernel
theorem dX12_water_16 : decode cX12_water 16 = .ok (.invokevirtual 182, 3) := by decide +kernel
theorem dX12_water_19 : decode cX12_water 19 = .ok (.istore 4, 2) := by decide +kernel
theorem dX12_water_21 : decode cX12_water 21 = .ok (.iload 4, 2) := by decide +kernel
theorem dX12_water_23 : decode cX12_water 23 = .ok (.aload_n 0, 1) := by decide +kernel
theorem dX12_water_24 : decode cX12_water 24 = .ok (.iload_n 1, 1) := by decide +kernel
theorem dX12_water_25 : decode cX12_water 25 = .ok (.iload 4, 2) := by decide +kernel
theorem dX12_water_27 : decode cX12_water 27 = .ok (.invokevirtual 185, 3) := by decide +kernel
theorem dX12_water_30 : decode cX12_water 30 = .ok (.ifCond .eq 9, 3) := by decide +kernel
theorem dX12_water_33 : decode cX12_water 33 = .ok (.sipush 1000, 3) := by decide +kernel
theorem dX12_water_36 : decode cX12_water 36 = .ok (.goto 4, 3) := by decide +kernel
theorem dX12_water_39 : decode cX12_water 39 = .ok (.iconst 0, 1) := by decide +kernel
theorem dX12_water_40 : decode cX12_water 40 = .ok (.iadd, 1) := by decide +kernel
theorem dX12_water_41 : decode cX12_water 41 = .ok (.ireturn, 1) := by decide +kernel
theorem dX12_standing_0 : decode cX12_standing 0 = .ok (.aload_n 0, 1) := by decide +kernel
theorem dX12_standing_1 : decode cX12_standing 1 = .ok (.iload_n 1, 1) := by decide +kernel
theorem dX12_standing_2 : decode cX12_standing 2 = .ok (.invokevirtual 168, 3) := by decide +kernel
theorem dX12_standing_5 : decode cX12_standing 5 = .ok (.ifCond .ne 5, 3) := by decide +kernel
theorem dX12_standing_8 : decode cX12_standing 8 = .ok (.iconst (-1), 1) := by decide +kernel
theorem dX12_standing_9 : decode cX12_standing 9 = .ok (.ireturn, 1) := by decide +kernel
theorem dX12_standing_10 : decode cX12_standing 10 = .ok (.iconst 0, 1) := by decide +kernel
theorem dX12_standing_11 : decode cX12_standing 11 = .ok (.istore_n 2, 1) := by decide +kernel
theorem dX12_standing_12 : decode cX12_standing 12 = .ok (.iconst 0, 1) := by decide +kernel
theorem dX12_standing_13 : decode cX12_standing 13 = .ok (.istore_n 3, 1) := by decide +kernel
theorem dX12_standing_14 : decode cX12_standing 14 = .ok (.iload_n 3, 1) := by decide +kernel
theorem dX12_standing_15 : decode cX12_standing 15 = .ok (.aload_n 0, 1) := by decide +kernel
theorem dX12_standing_16 : decode cX12_standing 16 = .ok (.getfield 7, 3) := by decide +kernel
theorem dX12_standing_19 : decode cX12_standing 19 = .ok (.iload_n 1, 1) := by decide +kernel
theorem dX12_standing_20 : decode cX12_standing 20 = .ok (.iaload, 1) := by decide +kernel
theorem dX12_standing_21 : decode cX12_standing 21 = .ok (.if_icmp .ge 53, 3) := by decide +kernel
theorem dX12_standing_24 : decode cX12_standing 24 = .ok (.iconst 0, 1) := by decide +kernel
theorem dX12_standing_25 : decode cX12_standing 25 = .ok (.istore 4, 2) := by decide +kernel
theorem dX12_standing_27 : decode cX12_standing 27 = .ok (.iload 4, 2) := by decide +kernel
theorem dX12_standing_29 : decode cX12_standing 29 = .ok (.aload_n 0, 1) := by decide +kernel
theorem dX12_standing_30 : decode cX12_standing 30 = .ok (.getfield 13, 3) := by decide +kernel
theorem dX12_standing_33 : decode cX12_standing 33 = .ok (.iload_n 1, 1) := by decide +kernel
theorem dX12_standing_34 : decode cX12_standing 34 = .ok (.iaload, 1) := by decide +kernel
theorem dX12_standing_35 : decode cX12_standing 35 = .ok (.if_icmp .ge 33, 3) := by decide +kernel
theorem dX12_standing_38 : decode cX12_standing 38 = .ok (.iload_n 2, 1) := by decide +kernel
theorem dX12_standing_39 : decode cX12_standing 39 = .ok (.aload_n 0, 1) := by decide +kernel
theorem dX12_standing_40 : decode cX12_standing 40 = .ok (.iload_n 1, 1) := by decide +kernel
theorem dX12_standing_41 : decode cX12_standing 41 = .ok (.aload_n 0, 1) := by decide +kernel
theorem dX12_standing_42 : decode cX12_standing 42 = .ok (.iload_n 1, 1) := by decide +kernel
theorem dX12_standing_43 : decode cX12_standing 43 = .ok (.iload_n 3, 1) := by decide +kernel
theorem dX12_standing_44 : decode cX12_standing 44 = .ok (.iload 4, 2) := by decide +kernel
theorem dX12_standing_46 : decode cX12_standing 46 = .ok (.invokevirtual 182, 3) := by decide +kernel
theorem dX12_standing_49 : decode cX12_standing 49 = .ok (.invokevirtual 185, 3) := by decide +kernel
theorem dX12_standing_52 : decode cX12_standing 52 = .ok (.ifCond .eq 7, 3) := by decide +kernel
theorem dX12_standing_55 : decode cX12_standing 55 = .ok (.iconst 0, 1) := by decide +kernel
theorem dX12_standing_56 : decode cX12_standing 56 = .ok (.goto 4, 3) := by decide +kernel
theorem dX12_standing_59 : decode cX12_standing 59 = .ok (.iconst 1, 1) := by decide +kernel
theorem dX12_standing_60 : decode cX12_standing 60 = .ok (.iadd, 1) := by decide +kernel
theorem dX12_standing_61 : decode cX12_standing 61 = .ok (.istore_n 2, 1) := by decide +kernel
theorem dX12_standing_62 : decode cX12_standing 62 = .ok (.iinc 4 1, 3) := by decide +kernel
theorem dX12_standing_65 : decode cX12_standing 65 = .ok (.goto (-38), 3) := by decide +kernel
theorem dX12_standing_68 : decode cX12_standing 68 = .ok (.iinc 3 1, 3) := by decide +kernel
theorem dX12_standing_71 : decode cX12_standing 71 = .ok (.goto (-57), 3) := by decide +kernel
theorem dX12_standing_74 : decode cX12_standing 74 = .ok (.iload_n 2, 1) := by decide +kernel
theorem dX12_standing_75 : decode cX12_standing 75 = .ok (.ireturn, 1) := by decide +kernel
theorem dX12_most_0 : decode cX12_most 0 = .ok (.aload_n 0, 1) := by decide +kernel
theorem dX12_most_1 : decode cX12_most 1 = .ok (.iload_n 1, 1) := by decide +kernel
theorem dX12_most_2 : decode cX12_most 2 = .ok (.invokevirtual 168, 3) := by decide +kernel
theorem dX12_most_5 : decode cX12_most 5 = .ok (.ifCond .ne 5, 3) := by decide +kernel
theorem dX12_most_8 : decode cX12_most 8 = .ok (.iconst (-1), 1) := by decide +kernel
theorem dX12_most_9 : decode cX12_most 9 = .ok (.ireturn, 1) := by decide +kernel
theorem dX12_most_10 : decode cX12_most 10 = .ok (.iconst 0, 1) := by decide +kernel
theorem dX12_most_11 : decode cX12_most 11 = .ok (.istore_n 2, 1) := by decide +kernel
theorem dX12_most_12 : decode cX12_most 12 = .ok (.iload_n 2, 1) := by decide +kernel
theorem dX12_most_13 : decode cX12_most 13 = .ok (.sipush 256, 3) := by decide +kernel
theorem dX12_most_16 : decode cX12_most 16 = .ok (.if_icmp .ge 16, 3) := by decide +kernel
theorem dX12_most_19 : decode cX12_most 19 = .ok (.aload_n 0, 1) := by decide +kernel
theorem dX12_most_20 : decode cX12_most 20 = .ok (.getfield 23, 3) := by decide +kernel
theorem dX12_most_23 : decode cX12_most 23 = .ok (.iload_n 2, 1) := by decide +kernel
theorem dX12_most_24 : decode cX12_most 24 = .ok (.iconst 0, 1) := by decide +kernel
theorem dX12_most_25 : decode cX12_most 25 = .ok (.iastore, 1) := by decide +kernel
theorem dX12_most_26 : decode cX12_most 26 = .ok (.iinc 2 1, 3) := by decide +kernel
theorem dX12_most_29 : decode cX12_most 29 = .ok (.goto (-17), 3) := by decide +kernel
theorem dX12_most_32 : decode cX12_most 32 = .ok (.iconst 0, 1) := by decide +kernel
theorem dX12_most_33 : decode cX12_most 33 = .ok (.istore_n 2, 1) := by decide +kernel
theorem dX12_most_34 : decode cX12_most 34 = .ok (.iconst 0, 1) := by decide +kernel
theorem dX12_most_35 : decode cX12_most 35 = .ok (.istore_n 3, 1) := by decide +kernel
theorem dX12_most_36 : decode cX12_most 36 = .ok (.iload_n 3, 1) := by decide +kernel
theorem dX12_most_37 : decode cX12_most 37 = .ok (.aload_n 0, 1) := by decide +kernel
theorem dX12_most_38 : decode cX12_most 38 = .ok (.getfield 7, 3) := by decide +kernel
theorem dX12_most_41 : decode cX12_most 41 = .ok (.iload_n 1, 1) := by decide +kernel
theorem dX12_most_42 : decode cX12_most 42 = .ok (.iaload, 1) := by decide +kernel
theorem dX12_most_43 : decode cX12_most 43 = .ok (.if_icmp .ge 73, 3) := by decide +kernel
theorem dX12_most_46 : decode cX12_most 46 = .ok (.iconst 0, 1) := by decide +kernel
theorem dX12_most_47 : decode cX12_most 47 = .ok (.istore 4, 2) := by decide +kernel
theorem dX12_most_49 : decode cX12_most 49 = .ok (.iload 4, 2) := by decide +kernel
theorem dX12_most_51 : decode cX12_most 51 = .ok (.aload_n 0, 1) := by decide +kernel
theorem dX12_most_52 : decode cX12_most 52 = .ok (.getfield 13, 3) := by decide +kernel
theorem dX12_most_55 : decode cX12_most 55 = .ok (.iload_n 1, 1) := by decide +kernel
theorem dX12_most_56 : decode cX12_most 56 = .ok (.iaload, 1) := by decide +kernel
theorem dX12_most_57 : decode cX12_most 57 = .ok (.if_icmp .ge 53, 3) := by decide +kernel
theorem dX12_most_60 : decode cX12_most 60 = .ok (.aload_n 0, 1) := by decide +kernel
theorem dX12_most_61 : decode cX12_most 61 = .ok (.iload_n 1, 1) := by decide +kernel
theorem dX12_most_62 : decode cX12_most 62 = .ok (.iload_n 3, 1) := by decide +kernel
theorem dX12_most_63 : decode cX12_most 63 = .ok (.iload 4, 2) := by decide +kernel
theorem dX12_most_65 : decode cX12_most 65 = .ok (.invokevirtual 182, 3) := by decide +kernel
theorem dX12_most_68 : decode cX12_most 68 = .ok (.istore 5, 2) := by decide +kernel
theorem dX12_most_70 : decode cX12_most 70 = .ok (.aload_n 0, 1) := by decide +kernel
theorem dX12_most_71 : decode cX12_most 71 = .ok (.getfield 23, 3) := by decide +kernel
theorem dX12_most_74 : decode cX12_most 74 = .ok (.iload 5, 2) := by decide +kernel
theorem dX12_most_76 : decode cX12_most 76 = .ok (.dup2, 1) := by decide +kernel
theorem dX12_most_77 : decode cX12_most 77 = .ok (.iaload, 1) := by decide +kernel
theorem dX12_most_78 : decode cX12_most 78 = .ok (.iconst 1, 1) := by decide +kernel
theorem dX12_most_79 : decode cX12_most 79 = .ok (.iadd, 1) := by decide +kernel
theorem dX12_most_80 : decode cX12_most 80 = .ok (.iastore, 1) := by decide +kernel
theorem dX12_most_81 : decode cX12_most 81 = .ok (.aload_n 0, 1) := by decide +kernel
theorem dX12_most_82 : decode cX12_most 82 = .ok (.getfield 23, 3) := by decide +kernel
theorem dX12_most_85 : decode cX12_most 85 = .ok (.iload 5, 2) := by decide +kernel
theorem dX12_most_87 : decode cX12_most 87 = .ok (.iaload, 1) := by decide +kernel
theorem dX12_most_88 : decode cX12_most 88 = .ok (.iload_n 2, 1) := by decide +kernel
theorem dX12_most_89 : decode cX12_most 89 = .ok (.if_icmp .le 13, 3) := by decide +kernel
theorem dX12_most_92 : decode cX12_most 92 = .ok (.aload_n 0, 1) := by decide +kernel
theorem dX12_most_93 : decode cX12_most 93 = .ok (.getfield 23, 3) := by decide +kernel
theorem dX12_most_96 : decode cX12_most 96 = .ok (.iload 5, 2) := by decide +kernel
theorem dX12_most_98 : decode cX12_most 98 = .ok (.iaload, 1) := by decide +kernel
theorem dX12_most_99 : decode cX12_most 99 = .ok (.goto 4, 3) := by decide +kernel
theorem dX12_most_102 : decode cX12_most 102 = .ok (.iload_n 2, 1) := by decide +kernel
theorem dX12_most_103 : decode cX12_most 103 = .ok (.istore_n 2, 1) := by decide +kernel
theorem dX12_most_104 : decode cX12_most 104 = .ok (.iinc 4 1, 3) := by decide +kernel
theorem dX12_most_107 : decode cX12_most 107 = .ok (.goto (-58), 3) := by decide +kernel
theorem dX12_most_110 : decode cX12_most 110 = .ok (.iinc 3 1, 3) := by decide +kernel
theorem dX12_most_113 : decode cX12_most 113 = .ok (.goto (-77), 3) := by decide +kernel
theorem dX12_most_116 : decode cX12_most 116 = .ok (.iload_n 2, 1) := by decide +kernel
theorem dX12_most_117 : decode cX12_most 117 = .ok (.ireturn, 1) := by decide +kernel
theorem dX12_falls_0 : decode cX12_falls 0 = .ok (.iload_n 2, 1) := by decide +kernel
theorem dX12_falls_1 : decode cX12_falls 1 = .ok (.ifCond .eq 9, 3) := by decide +kernel
theorem dX12_falls_4 : decode cX12_falls 4 = .ok (.iload_n 0, 1) := by decide +kernel
theorem dX12_falls_5 : decode cX12_falls 5 = .ok (.iload_n 1, 1) := by decide +kernel
theorem dX12_falls_6 : decode cX12_falls 6 = .ok (.isub, 1) := by decide +kernel
theorem dX12_falls_7 : decode cX12_falls 7 = .ok (.goto 6, 3) := by decide +kernel
theorem dX12_falls_10 : decode cX12_falls 10 = .ok (.iload_n 1, 1) := by decide +kernel
theorem dX12_falls_11 : decode cX12_falls 11 = .ok (.iload_n 0, 1) := by decide +kernel
theorem dX12_falls_12 : decode cX12_falls 12 = .ok (.isub, 1) := by decide +kernel
theorem dX12_falls_13 : decode cX12_falls 13 = .ok (.istore 5, 2) := by decide +kernel
theorem dX12_falls_15 : decode cX12_falls 15 = .ok (.iload 5, 2) := by decide +kernel
theorem dX12_falls_17 : decode cX12_falls 17 = .ok (.iload_n 3, 1) := by decide +kernel
theorem dX12_falls_18 : decode cX12_falls 18 = .ok (.if_icmp .lt 14, 3) := by decide +kernel
theorem dX12_falls_21 : decode cX12_falls 21 = .ok (.iload 5, 2) := by decide +kernel
theorem dX12_falls_23 : decode cX12_falls 23 = .ok (.iload 4, 2) := by decide +kernel
theorem dX12_falls_25 : decode cX12_falls 25 = .ok (.if_icmp .gt 7, 3) := by decide +kernel
theorem dX12_falls_28 : decode cX12_falls 28 = .ok (.iconst 1, 1) := by decide +kernel
theorem dX12_falls_29 : decode cX12_falls 29 = .ok (.goto 4, 3) := by decide +kernel
theorem dX12_falls_32 : decode cX12_falls 32 = .ok (.iconst 0, 1) := by decide +kernel
theorem dX12_falls_33 : decode cX12_falls 33 = .ok (.ireturn, 1) := by decide +kernel
theorem dX12_level_0 : decode cX12_level 0 = .ok (.aload_n 0, 1) := by decide +kernel
theorem dX12_level_1 : decode cX12_level 1 = .ok (.iload_n 1, 1) := by decide +kernel
theorem dX12_level_2 : decode cX12_level 2 = .ok (.iload_n 2, 1) := by decide +kernel
theorem dX12_level_3 : decode cX12_level 3 = .ok (.iload_n 3, 1) := by decide +kernel
theorem dX12_level_4 : decode cX12_level 4 = .ok (.invokevirtual 172, 3) := by decide +kernel
theorem dX12_level_7 : decode cX12_level 7 = .ok (.ifCond .eq 27, 3) := by decide +kernel
theorem dX12_level_10 : decode cX12_level 10 = .ok (.iload 4, 2) := by decide +kernel
theorem dX12_level_12 : decode cX12_level 12 = .ok (.iconst 0, 1) := by decide +kernel
theorem dX12_level_13 : decode cX12_level 13 = .ok (.bipush 99, 2) := by decide +kernel
theorem dX12_level_15 : decode cX12_level 15 = .ok (.invokestatic 164, 3) := by decide +kernel
theorem dX12_level_18 : decode cX12_level 18 = .ok (.ifCond .eq 16, 3) := by decide +kernel
theorem dX12_level_21 : decode cX12_level 21 = .ok (.iload 4, 2) := by decide +kernel
theorem dX12_level_23 : decode cX12_level 23 = .ok (.bipush 10, 2) := by decide +kernel
theorem dX12_level_25 : decode cX12_level 25 = .ok (.idiv, 1) := by decide +kernel
theorem dX12_level_26 : decode cX12_level 26 = .ok (.iload 4, 2) := by decide +kernel
theorem dX12_level_28 : decode cX12_level 28 = .ok (.bipush 10, 2) := by decide +kernel
theorem dX12_level_30 : decode cX12_level 30 = .ok (.irem, 1) := by decide +kernel
theorem dX12_level_31 : decode cX12_level 31 = .ok (.if_icmp .le 5, 3) := by decide +kernel
theorem dX12_level_34 : decode cX12_level 34 = .ok (.iconst (-1), 1) := by decide +kernel
theorem dX12_level_35 : decode cX12_level 35 = .ok (.ireturn, 1) := by decide +kernel
theorem dX12_level_36 : decode cX12_level 36 = .ok (.iload 4, 2) := by decide +kernel
theorem dX12_level_38 : decode cX12_level 38 = .ok (.bipush 10, 2) := by decide +kernel
theorem dX12_level_40 : decode cX12_level 40 = .ok (.idiv, 1) := by decide +kernel
theorem dX12_level_41 : decode cX12_level 41 = .ok (.istore 5, 2) := by decide +kernel
theorem dX12_level_43 : decode cX12_level 43 = .ok (.iload 4, 2) := by decide +kernel
theorem dX12_level_45 : decode cX12_level 45 = .ok (.bipush 10, 2) := by decide +kernel
theorem dX12_level_47 : decode cX12_level 47 = .ok (.irem, 1) := by decide +kernel
end
section
theorem dX12_level_48 : decode cX12_level 48 = .ok (.istore 6, 2) := by decide +kernel
theorem dX12_level_50 : decode cX12_level 50 = .ok (.aload_n 0, 1) := by decide +kernel
theorem dX12_level_51 : decode cX12_level 51 = .ok (.getfield 13, 3) := by decide +kernel
theorem dX12_level_54 : decode cX12_level 54 = .ok (.iload_n 1, 1) := by decide +kernel
theorem dX12_level_55 : decode cX12_level 55 = .ok (.iaload, 1) := by decide +kernel
theorem dX12_level_56 : decode cX12_level 56 = .ok (.istore 7, 2) := by decide +kernel
theorem dX12_level_58 : decode cX12_level 58 = .ok (.iload 7, 2) := by decide +kernel
theorem dX12_level_60 : decode cX12_level 60 = .ok (.iconst 1, 1) := by decide +kernel
theorem dX12_level_61 : decode cX12_level 61 = .ok (.isub, 1) := by decide +kernel
theorem dX12_level_62 : decode cX12_level 62 = .ok (.istore 8, 2) := by decide +kernel
theorem dX12_level_64 : decode cX12_level 64 = .ok (.iload 8, 2) := by decide +kernel
theorem dX12_level_66 : decode cX12_level 66 = .ok (.ifCond .lt 175, 3) := by decide +kernel
theorem dX12_level_69 : decode cX12_level 69 = .ok (.iconst 0, 1) := by decide +kernel
theorem dX12_level_70 : decode cX12_level 70 = .ok (.istore 9, 2) := by decide +kernel
theorem dX12_level_72 : decode cX12_level 72 = .ok (.iload 9, 2) := by decide +kernel
theorem dX12_level_74 : decode cX12_level 74 = .ok (.bipush 100, 2) := by decide +kernel
theorem dX12_level_76 : decode cX12_level 76 = .ok (.if_icmp .ge 159, 3) := by decide +kernel
theorem dX12_level_79 : decode cX12_level 79 = .ok (.iload 8, 2) := by decide +kernel
theorem dX12_level_81 : decode cX12_level 81 = .ok (.iload 7, 2) := by decide +kernel
theorem dX12_level_83 : decode cX12_level 83 = .ok (.iconst 1, 1) := by decide +kernel
theorem dX12_level_84 : decode cX12_level 84 = .ok (.isub, 1) := by decide +kernel
theorem dX12_level_85 : decode cX12_level 85 = .ok (.if_icmp .ne 7, 3) := by decide +kernel
theorem dX12_level_88 : decode cX12_level 88 = .ok (.iconst 0, 1) := by decide +kernel
theorem dX12_level_89 : decode cX12_level 89 = .ok (.goto 5, 3) := by decide +kernel
theorem dX12_level_92 : decode cX12_level 92 = .ok (.ldc 189, 2) := by decide +kernel
theorem dX12_level_94 : decode cX12_level 94 = .ok (.istore 10, 2) := by decide +kernel
theorem dX12_level_96 : decode cX12_level 96 = .ok (.iconst 0, 1) := by decide +kernel
theorem dX12_level_97 : decode cX12_level 97 = .ok (.istore 11, 2) := by decide +kernel
theorem dX12_level_99 : decode cX12_level 99 = .ok (.iload 11, 2) := by decide +kernel
theorem dX12_level_101 : decode cX12_level 101 = .ok (.bipush 100, 2) := by decide +kernel
theorem dX12_level_103 : decode cX12_level 103 = .ok (.if_icmp .ge 80, 3) := by decide +kernel
theorem dX12_level_106 : decode cX12_level 106 = .ok (.iload 8, 2) := by decide +kernel
theorem dX12_level_108 : decode cX12_level 108 = .ok (.iload 7, 2) := by decide +kernel
theorem dX12_level_110 : decode cX12_level 110 = .ok (.iconst 1, 1) := by decide +kernel
theorem dX12_level_111 : decode cX12_level 111 = .ok (.isub, 1) := by decide +kernel
theorem dX12_level_112 : decode cX12_level 112 = .ok (.if_icmp .ge 71, 3) := by decide +kernel
theorem dX12_level_115 : decode cX12_level 115 = .ok (.iload 9, 2) := by decide +kernel
theorem dX12_level_117 : decode cX12_level 117 = .ok (.iload 11, 2) := by decide +kernel
theorem dX12_level_119 : decode cX12_level 119 = .ok (.iload 8, 2) := by decide +kernel
theorem dX12_level_121 : decode cX12_level 121 = .ok (.iload_n 3, 1) := by decide +kernel
theorem dX12_level_122 : decode cX12_level 122 = .ok (.if_icmp .ge 7, 3) := by decide +kernel
theorem dX12_level_125 : decode cX12_level 125 = .ok (.iconst 1, 1) := by decide +kernel
theorem dX12_level_126 : decode cX12_level 126 = .ok (.goto 4, 3) := by decide +kernel
theorem dX12_level_129 : decode cX12_level 129 = .ok (.iconst 0, 1) := by decide +kernel
theorem dX12_level_130 : decode cX12_level 130 = .ok (.iload 5, 2) := by decide +kernel
theorem dX12_level_132 : decode cX12_level 132 = .ok (.iload 6, 2) := by decide +kernel
theorem dX12_level_134 : decode cX12_level 134 = .ok (.invokestatic 190, 3) := by decide +kernel
theorem dX12_level_137 : decode cX12_level 137 = .ok (.ifCond .eq 40, 3) := by decide +kernel
theorem dX12_level_140 : decode cX12_level 140 = .ok (.aload_n 0, 1) := by decide +kernel
theorem dX12_level_141 : decode cX12_level 141 = .ok (.getfield 39, 3) := by decide +kernel
theorem dX12_level_144 : decode cX12_level 144 = .ok (.bipush 100, 2) := by decide +kernel
theorem dX12_level_146 : decode cX12_level 146 = .ok (.iload 8, 2) := by decide +kernel
theorem dX12_level_148 : decode cX12_level 148 = .ok (.iconst 1, 1) := by decide +kernel
theorem dX12_level_149 : decode cX12_level 149 = .ok (.iadd, 1) := by decide +kernel
theorem dX12_level_150 : decode cX12_level 150 = .ok (.imul, 1) := by decide +kernel
theorem dX12_level_151 : decode cX12_level 151 = .ok (.iload 11, 2) := by decide +kernel
theorem dX12_level_153 : decode cX12_level 153 = .ok (.iadd, 1) := by decide +kernel
theorem dX12_level_154 : decode cX12_level 154 = .ok (.iaload, 1) := by decide +kernel
theorem dX12_level_155 : decode cX12_level 155 = .ok (.iload 10, 2) := by decide +kernel
theorem dX12_level_157 : decode cX12_level 157 = .ok (.if_icmp .ge 20, 3) := by decide +kernel
theorem dX12_level_160 : decode cX12_level 160 = .ok (.aload_n 0, 1) := by decide +kernel
theorem dX12_level_161 : decode cX12_level 161 = .ok (.getfield 39, 3) := by decide +kernel
theorem dX12_level_164 : decode cX12_level 164 = .ok (.bipush 100, 2) := by decide +kernel
theorem dX12_level_166 : decode cX12_level 166 = .ok (.iload 8, 2) := by decide +kernel
theorem dX12_level_168 : decode cX12_level 168 = .ok (.iconst 1, 1) := by decide +kernel
theorem dX12_level_169 : decode cX12_level 169 = .ok (.iadd, 1) := by decide +kernel
theorem dX12_level_170 : decode cX12_level 170 = .ok (.imul, 1) := by decide +kernel
theorem dX12_level_171 : decode cX12_level 171 = .ok (.iload 11, 2) := by decide +kernel
theorem dX12_level_173 : decode cX12_level 173 = .ok (.iadd, 1) := by decide +kernel
theorem dX12_level_174 : decode cX12_level 174 = .ok (.iaload, 1) := by decide +kernel
theorem dX12_level_175 : decode cX12_level 175 = .ok (.istore 10, 2) := by decide +kernel
theorem dX12_level_177 : decode cX12_level 177 = .ok (.iinc 11 1, 3) := by decide +kernel
theorem dX12_level_180 : decode cX12_level 180 = .ok (.goto (-81), 3) := by decide +kernel
theorem dX12_level_183 : decode cX12_level 183 = .ok (.aload_n 0, 1) := by decide +kernel
theorem dX12_level_184 : decode cX12_level 184 = .ok (.getfield 39, 3) := by decide +kernel
theorem dX12_level_187 : decode cX12_level 187 = .ok (.bipush 100, 2) := by decide +kernel
theorem dX12_level_189 : decode cX12_level 189 = .ok (.iload 8, 2) := by decide +kernel
theorem dX12_level_191 : decode cX12_level 191 = .ok (.imul, 1) := by decide +kernel
theorem dX12_level_192 : decode cX12_level 192 = .ok (.iload 9, 2) := by decide +kernel
theorem dX12_level_194 : decode cX12_level 194 = .ok (.iadd, 1) := by decide +kernel
theorem dX12_level_195 : decode cX12_level 195 = .ok (.iload 10, 2) := by decide +kernel
theorem dX12_level_197 : decode cX12_level 197 = .ok (.ldc 189, 2) := by decide +kernel
theorem dX12_level_199 : decode cX12_level 199 = .ok (.if_icmp .ne 8, 3) := by decide +kernel
theorem dX12_level_202 : decode cX12_level 202 = .ok (.ldc 189, 2) := by decide +kernel
theorem dX12_level_204 : decode cX12_level 204 = .ok (.goto 24, 3) := by decide +kernel
theorem dX12_level_207 : decode cX12_level 207 = .ok (.iload 10, 2) := by decide +kernel
theorem dX12_level_209 : decode cX12_level 209 = .ok (.iload 9, 2) := by decide +kernel
theorem dX12_level_211 : decode cX12_level 211 = .ok (.aload_n 0, 1) := by decide +kernel
theorem dX12_level_212 : decode cX12_level 212 = .ok (.getfield 16, 3) := by decide +kernel
theorem dX12_level_215 : decode cX12_level 215 = .ok (.iload_n 1, 1) := by decide +kernel
theorem dX12_level_216 : decode cX12_level 216 = .ok (.iload_n 2, 1) := by decide +kernel
theorem dX12_level_217 : decode cX12_level 217 = .ok (.iload 8, 2) := by decide +kernel
theorem dX12_level_219 : decode cX12_level 219 = .ok (.invokestatic 175, 3) := by decide +kernel
theorem dX12_level_222 : decode cX12_level 222 = .ok (.iaload, 1) := by decide +kernel
theorem dX12_level_223 : decode cX12_level 223 = .ok (.isub, 1) := by decide +kernel
theorem dX12_level_224 : decode cX12_level 224 = .ok (.invokestatic 194, 3) := by decide +kernel
theorem dX12_level_227 : decode cX12_level 227 = .ok (.iadd, 1) := by decide +kernel
theorem dX12_level_228 : decode cX12_level 228 = .ok (.iastore, 1) := by decide +kernel
theorem dX12_level_229 : decode cX12_level 229 = .ok (.iinc 9 1, 3) := by decide +kernel
theorem dX12_level_232 : decode cX12_level 232 = .ok (.goto (-160), 3) := by decide +kernel
theorem dX12_level_235 : decode cX12_level 235 = .ok (.iinc 8 (-1), 3) := by decide +kernel
theorem dX12_level_238 : decode cX12_level 238 = .ok (.goto (-174), 3) := by decide +kernel
theorem dX12_level_241 : decode cX12_level 241 = .ok (.iconst 0, 1) := by decide +kernel
theorem dX12_level_242 : decode cX12_level 242 = .ok (.istore 8, 2) := by decide +kernel
theorem dX12_level_244 : decode cX12_level 244 = .ok (.iconst 1, 1) := by decide +kernel
theorem dX12_level_245 : decode cX12_level 245 = .ok (.istore 9, 2) := by decide +kernel
theorem dX12_level_247 : decode cX12_level 247 = .ok (.iload 9, 2) := by decide +kernel
theorem dX12_level_249 : decode cX12_level 249 = .ok (.bipush 100, 2) := by decide +kernel
theorem dX12_level_251 : decode cX12_level 251 = .ok (.if_icmp .ge 30, 3) := by decide +kernel
theorem dX12_level_254 : decode cX12_level 254 = .ok (.aload_n 0, 1) := by decide +kernel
theorem dX12_level_255 : decode cX12_level 255 = .ok (.getfield 39, 3) := by decide +kernel
theorem dX12_level_258 : decode cX12_level 258 = .ok (.iload 9, 2) := by decide +kernel
theorem dX12_level_260 : decode cX12_level 260 = .ok (.iaload, 1) := by decide +kernel
theorem dX12_level_261 : decode cX12_level 261 = .ok (.aload_n 0, 1) := by decide +kernel
theorem dX12_level_262 : decode cX12_level 262 = .ok (.getfield 39, 3) := by decide +kernel
theorem dX12_level_265 : decode cX12_level 265 = .ok (.iload 8, 2) := by decide +kernel
theorem dX12_level_267 : decode cX12_level 267 = .ok (.iaload, 1) := by decide +kernel
theorem dX12_level_268 : decode cX12_level 268 = .ok (.if_icmp .ge 7, 3) := by decide +kernel
theorem dX12_level_271 : decode cX12_level 271 = .ok (.iload 9, 2) := by decide +kernel
theorem dX12_level_273 : decode cX12_level 273 = .ok (.istore 8, 2) := by decide +kernel
theorem dX12_level_275 : decode cX12_level 275 = .ok (.iinc 9 1, 3) := by decide +kernel
theorem dX12_level_278 : decode cX12_level 278 = .ok (.goto (-31), 3) := by decide +kernel
theorem dX12_level_281 : decode cX12_level 281 = .ok (.aload_n 0, 1) := by decide +kernel
theorem dX12_level_282 : decode cX12_level 282 = .ok (.getfield 39, 3) := by decide +kernel
theorem dX12_level_285 : decode cX12_level 285 = .ok (.iload 8, 2) := by decide +kernel
theorem dX12_level_287 : decode cX12_level 287 = .ok (.iaload, 1) := by decide +kernel
theorem dX12_level_288 : decode cX12_level 288 = .ok (.ldc 189, 2) := by decide +kernel
theorem dX12_level_290 : decode cX12_level 290 = .ok (.if_icmp .lt 6, 3) := by decide +kernel
theorem dX12_level_293 : decode cX12_level 293 = .ok (.bipush (-2), 2) := by decide +kernel
theorem dX12_level_295 : decode cX12_level 295 = .ok (.ireturn, 1) := by decide +kernel
theorem dX12_level_296 : decode cX12_level 296 = .ok (.aload_n 0, 1) := by decide +kernel
theorem dX12_level_297 : decode cX12_level 297 = .ok (.iload_n 1, 1) := by decide +kernel
theorem dX12_level_298 : decode cX12_level 298 = .ok (.putfield 26, 3) := by decide +kernel
theorem dX12_level_301 : decode cX12_level 301 = .ok (.aload_n 0, 1) := by decide +kernel
theorem dX12_level_302 : decode cX12_level 302 = .ok (.iload_n 2, 1) := by decide +kernel
theorem dX12_level_303 : decode cX12_level 303 = .ok (.putfield 30, 3) := by decide +kernel
theorem dX12_level_306 : decode cX12_level 306 = .ok (.aload_n 0, 1) := by decide +kernel
theorem dX12_level_307 : decode cX12_level 307 = .ok (.iconst 1, 1) := by decide +kernel
theorem dX12_level_308 : decode cX12_level 308 = .ok (.putfield 198, 3) := by decide +kernel
theorem dX12_level_311 : decode cX12_level 311 = .ok (.aload_n 0, 1) := by decide +kernel
theorem dX12_level_312 : decode cX12_level 312 = .ok (.aload_n 0, 1) := by decide +kernel
theorem dX12_level_313 : decode cX12_level 313 = .ok (.getfield 39, 3) := by decide +kernel
theorem dX12_level_316 : decode cX12_level 316 = .ok (.iload 8, 2) := by decide +kernel
theorem dX12_level_318 : decode cX12_level 318 = .ok (.iaload, 1) := by decide +kernel
theorem dX12_level_319 : decode cX12_level 319 = .ok (.putfield 202, 3) := by decide +kernel
theorem dX12_level_322 : decode cX12_level 322 = .ok (.iconst 0, 1) := by decide +kernel
theorem dX12_level_323 : decode cX12_level 323 = .ok (.istore 9, 2) := by decide +kernel
theorem dX12_level_325 : decode cX12_level 325 = .ok (.iload 9, 2) := by decide +kernel
theorem dX12_level_327 : decode cX12_level 327 = .ok (.iload 7, 2) := by decide +kernel
theorem dX12_level_329 : decode cX12_level 329 = .ok (.if_icmp .ge 28, 3) := by decide +kernel
theorem dX12_level_332 : decode cX12_level 332 = .ok (.aload_n 0, 1) := by decide +kernel
theorem dX12_level_333 : decode cX12_level 333 = .ok (.getfield 36, 3) := by decide +kernel
theorem dX12_level_336 : decode cX12_level 336 = .ok (.iload 9, 2) := by decide +kernel
theorem dX12_level_338 : decode cX12_level 338 = .ok (.aload_n 0, 1) := by decide +kernel
theorem dX12_level_339 : decode cX12_level 339 = .ok (.getfield 16, 3) := by decide +kernel
theorem dX12_level_342 : decode cX12_level 342 = .ok (.iload_n 1, 1) := by decide +kernel
theorem dX12_level_343 : decode cX12_level 343 = .ok (.iload_n 2, 1) := by decide +kernel
theorem dX12_level_344 : decode cX12_level 344 = .ok (.iload 9, 2) := by decide +kernel
theorem dX12_level_346 : decode cX12_level 346 = .ok (.invokestatic 175, 3) := by decide +kernel
theorem dX12_level_349 : decode cX12_level 349 = .ok (.iaload, 1) := by decide +kernel
theorem dX12_level_350 : decode cX12_level 350 = .ok (.iastore, 1) := by decide +kernel
theorem dX12_level_351 : decode cX12_level 351 = .ok (.iinc 9 1, 3) := by decide +kernel
theorem dX12_level_354 : decode cX12_level 354 = .ok (.goto (-29), 3) := by decide +kernel
theorem dX12_level_357 : decode cX12_level 357 = .ok (.aload_n 0, 1) := by decide +kernel
theorem dX12_level_358 : decode cX12_level 358 = .ok (.getfield 33, 3) := by decide +kernel
theorem dX12_level_361 : decode cX12_level 361 = .ok (.iconst 0, 1) := by decide +kernel
theorem dX12_level_362 : decode cX12_level 362 = .ok (.iload 8, 2) := by decide +kernel
theorem dX12_level_364 : decode cX12_level 364 = .ok (.iastore, 1) := by decide +kernel
theorem dX12_level_365 : decode cX12_level 365 = .ok (.iconst 1, 1) := by decide +kernel
theorem dX12_level_366 : decode cX12_level 366 = .ok (.istore 9, 2) := by decide +kernel
theorem dX12_level_368 : decode cX12_level 368 = .ok (.iload 9, 2) := by decide +kernel
theorem dX12_level_370 : decode cX12_level 370 = .ok (.iload 7, 2) := by decide +kernel
theorem dX12_level_372 : decode cX12_level 372 = .ok (.if_icmp .ge 131, 3) := by decide +kernel
theorem dX12_level_375 : decode cX12_level 375 = .ok (.aload_n 0, 1) := by decide +kernel
theorem dX12_level_376 : decode cX12_level 376 = .ok (.getfield 39, 3) := by decide +kernel
theorem dX12_level_379 : decode cX12_level 379 = .ok (.bipush 100, 2) := by decide +kernel
theorem dX12_level_381 : decode cX12_level 381 = .ok (.iload 9, 2) := by decide +kernel
theorem dX12_level_383 : decode cX12_level 383 = .ok (.iconst 1, 1) := by decide +kernel
theorem dX12_level_384 : decode cX12_level 384 = .ok (.isub, 1) := by decide +kernel
theorem dX12_level_385 : decode cX12_level 385 = .ok (.imul, 1) := by decide +kernel
theorem dX12_level_386 : decode cX12_level 386 = .ok (.aload_n 0, 1) := by decide +kernel
theorem dX12_level_387 : decode cX12_level 387 = .ok (.getfield 33, 3) := by decide +kernel
theorem dX12_level_390 : decode cX12_level 390 = .ok (.iload 9, 2) := by decide +kernel
theorem dX12_level_392 : decode cX12_level 392 = .ok (.iconst 1, 1) := by decide +kernel
theorem dX12_level_393 : decode cX12_level 393 = .ok (.isub, 1) := by decide +kernel
theorem dX12_level_394 : decode cX12_level 394 = .ok (.iaload, 1) := by decide +kernel
theorem dX12_level_395 : decode cX12_level 395 = .ok (.iadd, 1) := by decide +kernel
theorem dX12_level_396 : decode cX12_level 396 = .ok (.iaload, 1) := by decide +kernel
theorem dX12_level_397 : decode cX12_level 397 = .ok (.aload_n 0, 1) := by decide +kernel
theorem dX12_level_398 : decode cX12_level 398 = .ok (.getfield 33, 3) := by decide +kernel
theorem dX12_level_401 : decode cX12_level 401 = .ok (.iload 9, 2) := by decide +kernel
theorem dX12_level_403 : decode cX12_level 403 = .ok (.iconst 1, 1) := by decide +kernel
theorem dX12_level_404 : decode cX12_level 404 = .ok (.isub, 1) := by decide +kernel
theorem dX12_level_405 : decode cX12_level 405 = .ok (.iaload, 1) := by decide +kernel
theorem dX12_level_406 : decode cX12_level 406 = .ok (.aload_n 0, 1) := by decide +kernel
theorem dX12_level_407 : decode cX12_level 407 = .ok (.getfield 16, 3) := by decide +kernel
theorem dX12_level_410 : decode cX12_level 410 = .ok (.iload_n 1, 1) := by decide +kernel
theorem dX12_level_411 : decode cX12_level 411 = .ok (.iload_n 2, 1) := by decide +kernel
theorem dX12_level_412 : decode cX12_level 412 = .ok (.iload 9, 2) := by decide +kernel
theorem dX12_level_414 : decode cX12_level 414 = .ok (.iconst 1, 1) := by decide +kernel
theorem dX12_level_415 : decode cX12_level 415 = .ok (.isub, 1) := by decide +kernel
theorem dX12_level_416 : decode cX12_level 416 = .ok (.invokestatic 175, 3) := by decide +kernel
theorem dX12_level_419 : decode cX12_level 419 = .ok (.iaload, 1) := by decide +kernel
theorem dX12_level_420 : decode cX12_level 420 = .ok (.isub, 1) := by decide +kernel
theorem dX12_level_421 : decode cX12_level 421 = .ok (.invokestatic 194, 3) := by decide +kernel
theorem dX12_level_424 : decode cX12_level 424 = .ok (.isub, 1) := by decide +kernel
theorem dX12_level_425 : decode cX12_level 425 = .ok (.istore 10, 2) := by decide +kernel
theorem dX12_level_427 : decode cX12_level 427 = .ok (.iconst 0, 1) := by decide +kernel
theorem dX12_level_428 : decode cX12_level 428 = .ok (.istore 11, 2) := by decide +kernel
theorem dX12_level_430 : decode cX12_level 430 = .ok (.aload_n 0, 1) := by decide +kernel
theorem dX12_level_431 : decode cX12_level 431 = .ok (.getfield 33, 3) := by decide +kernel
theorem dX12_level_434 : decode cX12_level 434 = .ok (.iload 9, 2) := by decide +kernel
theorem dX12_level_436 : decode cX12_level 436 = .ok (.iconst 1, 1) := by decide +kernel
theorem dX12_level_437 : decode cX12_level 437 = .ok (.isub, 1) := by decide +kernel
theorem dX12_level_438 : decode cX12_level 438 = .ok (.iaload, 1) := by decide +kernel
theorem dX12_level_439 : decode cX12_level 439 = .ok (.iload 11, 2) := by decide +kernel
theorem dX12_level_441 : decode cX12_level 441 = .ok (.iload 9, 2) := by decide +kernel
theorem dX12_level_443 : decode cX12_level 443 = .ok (.iconst 1, 1) := by decide +kernel
theorem dX12_level_444 : decode cX12_level 444 = .ok (.isub, 1) := by decide +kernel
theorem dX12_level_445 : decode cX12_level 445 = .ok (.iload_n 3, 1) := by decide +kernel
theorem dX12_level_446 : decode cX12_level 446 = .ok (.if_icmp .ge 7, 3) := by decide +kernel
theorem dX12_level_449 : decode cX12_level 449 = .ok (.iconst 1, 1) := by decide +kernel
theorem dX12_level_450 : decode cX12_level 450 = .ok (.goto 4, 3) := by decide +kernel
theorem dX12_level_453 : decode cX12_level 453 = .ok (.iconst 0, 1) := by decide +kernel
theorem dX12_level_454 : decode cX12_level 454 = .ok (.iload 5, 2) := by decide +kernel
theorem dX12_level_456 : decode cX12_level 456 = .ok (.iload 6, 2) := by decide +kernel
theorem dX12_level_458 : decode cX12_level 458 = .ok (.invokestatic 190, 3) := by decide +kernel
theorem dX12_level_461 : decode cX12_level 461 = .ok (.ifCond .eq 21, 3) := by decide +kernel
theorem dX12_level_464 : decode cX12_level 464 = .ok (.aload_n 0, 1) := by decide +kernel
theorem dX12_level_465 : decode cX12_level 465 = .ok (.getfield 39, 3) := by decide +kernel
theorem dX12_level_468 : decode cX12_level 468 = .ok (.bipush 100, 2) := by decide +kernel
theorem dX12_level_470 : decode cX12_level 470 = .ok (.iload 9, 2) := by decide +kernel
theorem dX12_level_472 : decode cX12_level 472 = .ok (.imul, 1) := by decide +kernel
theorem dX12_level_473 : decode cX12_level 473 = .ok (.iload 11, 2) := by decide +kernel
theorem dX12_level_475 : decode cX12_level 475 = .ok (.iadd, 1) := by decide +kernel
theorem dX12_level_476 : decode cX12_level 476 = .ok (.iaload, 1) := by decide +kernel
theorem dX12_level_477 : decode cX12_level 477 = .ok (.iload 10, 2) := by decide +kernel
theorem dX12_level_479 : decode cX12_level 479 = .ok (.if_icmp .eq 9, 3) := by decide +kernel
theorem dX12_level_482 : decode cX12_level 482 = .ok (.iinc 11 1, 3) := by decide +kernel
theorem dX12_level_485 : decode cX12_level 485 = .ok (.goto (-55), 3) := by decide +kernel
theorem dX12_level_488 : decode cX12_level 488 = .ok (.aload_n 0, 1) := by decide +kernel
theorem dX12_level_489 : decode cX12_level 489 = .ok (.getfield 33, 3) := by decide +kernel
theorem dX12_level_492 : decode cX12_level 492 = .ok (.iload 9, 2) := by decide +kernel
theorem dX12_level_494 : decode cX12_level 494 = .ok (.iload 11, 2) := by decide +kernel
theorem dX12_level_496 : decode cX12_level 496 = .ok (.iastore, 1) := by decide +kernel
theorem dX12_level_497 : decode cX12_level 497 = .ok (.iinc 9 1, 3) := by decide +kernel
theorem dX12_level_500 : decode cX12_level 500 = .ok (.goto (-132), 3) := by decide +kernel
theorem dX12_level_503 : decode cX12_level 503 = .ok (.aload_n 0, 1) := by decide +kernel
theorem dX12_level_504 : decode cX12_level 504 = .ok (.getfield 202, 3) := by decide +kernel
theorem dX12_level_507 : decode cX12_level 507 = .ok (.ireturn, 1) := by decide +kernel
theorem dX12_levelled_0 : decode cX12_levelled 0 = .ok (.aload_n 0, 1) := by decide +kernel
theorem dX12_levelled_1 : decode cX12_levelled 1 = .ok (.getfield 198, 3) := by decide +kernel
theorem dX12_levelled_4 : decode cX12_levelled 4 = .ok (.ifCond .eq 31, 3) := by decide +kernel
theorem dX12_levelled_7 : decode cX12_levelled 7 = .ok (.iload_n 1, 1) := by decide +kernel
theorem dX12_levelled_8 : decode cX12_levelled 8 = .ok (.iconst 0, 1) := by decide +kernel
theorem dX12_levelled_9 : decode cX12_levelled 9 = .ok (.aload_n 0, 1) := by decide +kernel
theorem dX12_levelled_10 : decode cX12_levelled 10 = .ok (.getfield 13, 3) := by decide +kernel
theorem dX12_levelled_13 : decode cX12_levelled 13 = .ok (.aload_n 0, 1) := by decide +kernel
theorem dX12_levelled_14 : decode cX12_levelled 14 = .ok (.getfield 26, 3) := by decide +kernel
theorem dX12_levelled_17 : decode cX12_levelled 17 = .ok (.iaload, 1) := by decide +kernel
theorem dX12_levelled_18 : decode cX12_levelled 18 = .ok (.iconst 1, 1) := by decide +kernel
theorem dX12_levelled_19 : decode cX12_levelled 19 = .ok (.isub, 1) := by decide +kernel
theorem dX12_levelled_20 : decode cX12_levelled 20 = .ok (.invokestatic 164, 3) := by decide +kernel
theorem dX12_levelled_23 : decode cX12_levelled 23 = .ok (.ifCond .eq 12, 3) := by decide +kernel
theorem dX12_levelled_26 : decode cX12_levelled 26 = .ok (.aload_n 0, 1) := by decide +kernel
theorem dX12_levelled_27 : decode cX12_levelled 27 = .ok (.getfield 33, 3) := by decide +kernel
theorem dX12_levelled_30 : decode cX12_levelled 30 = .ok (.iload_n 1, 1) := by decide +kernel
theorem dX12_levelled_31 : decode cX12_levelled 31 = .ok (.iaload, 1) := by decide +kernel
theorem dX12_levelled_32 : decode cX12_levelled 32 = .ok (.goto 4, 3) := by decide +kernel
theorem dX12_levelled_35 : decode cX12_levelled 35 = .ok (.iconst (-1), 1) := by decide +kernel
theorem dX12_levelled_36 : decode cX12_levelled 36 = .ok (.ireturn, 1) := by decide +kernel
theorem dX12_move_0 : decode cX12_move 0 = .ok (.aload_n 0, 1) := by decide +kernel
theorem dX12_move_1 : decode cX12_move 1 = .ok (.getfield 198, 3) := by decide +kernel
theorem dX12_move_4 : decode cX12_move 4 = .ok (.ifCond .ne 6, 3) := by decide +kernel
theorem dX12_move_7 : decode cX12_move 7 = .ok (.bipush (-2), 2) := by decide +kernel
theorem dX12_move_9 : decode cX12_move 9 = .ok (.ireturn, 1) := by decide +kernel
theorem dX12_move_10 : decode cX12_move 10 = .ok (.iconst 0, 1) := by decide +kernel
theorem dX12_move_11 : decode cX12_move 11 = .ok (.istore_n 1, 1) := by decide +kernel
theorem dX12_move_12 : decode cX12_move 12 = .ok (.iload_n 1, 1) := by decide +kernel
theorem dX12_move_13 : decode cX12_move 13 = .ok (.aload_n 0, 1) := by decide +kernel
theorem dX12_move_14 : decode cX12_move 14 = .ok (.getfield 13, 3) := by decide +kernel
theorem dX12_move_17 : decode cX12_move 17 = .ok (.aload_n 0, 1) := by decide +kernel
theorem dX12_move_18 : decode cX12_move 18 = .ok (.getfield 26, 3) := by decide +kernel
theorem dX12_move_21 : decode cX12_move 21 = .ok (.iaload, 1) := by decide +kernel
theorem dX12_move_22 : decode cX12_move 22 = .ok (.if_icmp .ge 38, 3) := by decide +kernel
theorem dX12_move_25 : decode cX12_move 25 = .ok (.aload_n 0, 1) := by decide +kernel
theorem dX12_move_26 : decode cX12_move 26 = .ok (.getfield 16, 3) := by decide +kernel
theorem dX12_move_29 : decode cX12_move 29 = .ok (.aload_n 0, 1) := by decide +kernel
theorem dX12_move_30 : decode cX12_move 30 = .ok (.getfield 26, 3) := by decide +kernel
theorem dX12_move_33 : decode cX12_move 33 = .ok (.aload_n 0, 1) := by decide +kernel
theorem dX12_move_34 : decode cX12_move 34 = .ok (.getfield 30, 3) := by decide +kernel
theorem dX12_move_37 : decode cX12_move 37 = .ok (.iload_n 1, 1) := by decide +kernel
theorem dX12_move_38 : decode cX12_move 38 = .ok (.invokestatic 175, 3) := by decide +kernel
theorem dX12_move_41 : decode cX12_move 41 = .ok (.iaload, 1) := by decide +kernel
theorem dX12_move_42 : decode cX12_move 42 = .ok (.aload_n 0, 1) := by decide +kernel
theorem dX12_move_43 : decode cX12_move 43 = .ok (.getfield 36, 3) := by decide +kernel
theorem dX12_move_46 : decode cX12_move 46 = .ok (.iload_n 1, 1) := by decide +kernel
theorem dX12_move_47 : decode cX12_move 47 = .ok (.iaload, 1) := by decide +kernel
theorem dX12_move_48 : decode cX12_move 48 = .ok (.if_icmp .eq 6, 3) := by decide +kernel
theorem dX12_move_51 : decode cX12_move 51 = .ok (.bipush (-2), 2) := by decide +kernel
theorem dX12_move_53 : decode cX12_move 53 = .ok (.ireturn, 1) := by decide +kernel
theorem dX12_move_54 : decode cX12_move 54 = .ok (.iinc 1 1, 3) := by decide +kernel
theorem dX12_move_57 : decode cX12_move 57 = .ok (.goto (-45), 3) := by decide +kernel
theorem dX12_move_60 : decode cX12_move 60 = .ok (.iconst 0, 1) := by decide +kernel
theorem dX12_move_61 : decode cX12_move 61 = .ok (.istore_n 1, 1) := by decide +kernel
theorem dX12_move_62 : decode cX12_move 62 = .ok (.iload_n 1, 1) := by decide +kernel
theorem dX12_move_63 : decode cX12_move 63 = .ok (.aload_n 0, 1) := by decide +kernel
theorem dX12_move_64 : decode cX12_move 64 = .ok (.getfield 13, 3) := by decide +kernel
theorem dX12_move_67 : decode cX12_move 67 = .ok (.aload_n 0, 1) := by decide +kernel
theorem dX12_move_68 : decode cX12_move 68 = .ok (.getfield 26, 3) := by decide +kernel
theorem dX12_move_71 : decode cX12_move 71 = .ok (.iaload, 1) := by decide +kernel
theorem dX12_move_72 : decode cX12_move 72 = .ok (.if_icmp .ge 32, 3) := by decide +kernel
theorem dX12_move_75 : decode cX12_move 75 = .ok (.aload_n 0, 1) := by decide +kernel
theorem dX12_move_76 : decode cX12_move 76 = .ok (.getfield 16, 3) := by decide +kernel
theorem dX12_move_79 : decode cX12_move 79 = .ok (.aload_n 0, 1) := by decide +kernel
theorem dX12_move_80 : decode cX12_move 80 = .ok (.getfield 26, 3) := by decide +kernel
theorem dX12_move_83 : decode cX12_move 83 = .ok (.aload_n 0, 1) := by decide +kernel
theorem dX12_move_84 : decode cX12_move 84 = .ok (.getfield 30, 3) := by decide +kernel
theorem dX12_move_87 : decode cX12_move 87 = .ok (.iload_n 1, 1) := by decide +kernel
theorem dX12_move_88 : decode cX12_move 88 = .ok (.invokestatic 175, 3) := by decide +kernel
theorem dX12_move_91 : decode cX12_move 91 = .ok (.aload_n 0, 1) := by decide +kernel
theorem dX12_move_92 : decode cX12_move 92 = .ok (.getfield 33, 3) := by decide +kernel
theorem dX12_move_95 : decode cX12_move 95 = .ok (.iload_n 1, 1) := by decide +kernel
theorem dX12_move_96 : decode cX12_move 96 = .ok (.iaload, 1) := by decide +kernel
theorem dX12_move_97 : decode cX12_move 97 = .ok (.iastore, 1) := by decide +kernel
theorem dX12_move_98 : decode cX12_move 98 = .ok (.iinc 1 1, 3) := by decide +kernel
theorem dX12_move_101 : decode cX12_move 101 = .ok (.goto (-39), 3) := by decide +kernel
theorem dX12_move_104 : decode cX12_move 104 = .ok (.aload_n 0, 1) := by decide +kernel
theorem dX12_move_105 : decode cX12_move 105 = .ok (.iconst 0, 1) := by decide +kernel
theorem dX12_move_106 : decode cX12_move 106 = .ok (.putfield 198, 3) := by decide +kernel
theorem dX12_move_109 : decode cX12_move 109 = .ok (.aload_n 0, 1) := by decide +kernel
theorem dX12_move_110 : decode cX12_move 110 = .ok (.getfield 202, 3) := by decide +kernel
theorem dX12_move_113 : decode cX12_move 113 = .ok (.ireturn, 1) := by decide +kernel
theorem dX12_stones_0 : decode cX12_stones 0 = .ok (.iload_n 1, 1) := by decide +kernel
theorem dX12_stones_1 : decode cX12_stones 1 = .ok (.iconst 1, 1) := by decide +kernel
theorem dX12_stones_2 : decode cX12_stones 2 = .ok (.bipush 9, 2) := by decide +kernel
theorem dX12_stones_4 : decode cX12_stones 4 = .ok (.invokestatic 164, 3) := by decide +kernel
theorem dX12_stones_7 : decode cX12_stones 7 = .ok (.ifCond .eq 13, 3) := by decide +kernel
theorem dX12_stones_10 : decode cX12_stones 10 = .ok (.iload_n 2, 1) := by decide +kernel
theorem dX12_stones_11 : decode cX12_stones 11 = .ok (.iconst 1, 1) := by decide +kernel
theorem dX12_stones_12 : decode cX12_stones 12 = .ok (.bipush 99, 2) := by decide +kernel
theorem dX12_stones_14 : decode cX12_stones 14 = .ok (.invokestatic 164, 3) := by decide +kernel
theorem dX12_stones_17 : decode cX12_stones 17 = .ok (.ifCond .ne 5, 3) := by decide +kernel
theorem dX12_stones_20 : decode cX12_stones 20 = .ok (.iconst (-1), 1) := by decide +kernel
theorem dX12_stones_21 : decode cX12_stones 21 = .ok (.ireturn, 1) := by decide +kernel
theorem dX12_stones_22 : decode cX12_stones 22 = .ok (.aload_n 0, 1) := by decide +kernel
theorem dX12_stones_23 : decode cX12_stones 23 = .ok (.getfield 42, 3) := by decide +kernel
theorem dX12_stones_26 : decode cX12_stones 26 = .ok (.iload_n 1, 1) := by decide +kernel
theorem dX12_stones_27 : decode cX12_stones 27 = .ok (.iaload, 1) := by decide +kernel
theorem dX12_stones_28 : decode cX12_stones 28 = .ok (.iload_n 2, 1) := by decide +kernel
theorem dX12_stones_29 : decode cX12_stones 29 = .ok (.iadd, 1) := by decide +kernel
theorem dX12_stones_30 : decode cX12_stones 30 = .ok (.sipush 999, 3) := by decide +kernel
theorem dX12_stones_33 : decode cX12_stones 33 = .ok (.if_icmp .le 6, 3) := by decide +kernel
theorem dX12_stones_36 : decode cX12_stones 36 = .ok (.bipush (-2), 2) := by decide +kernel
theorem dX12_stones_38 : decode cX12_stones 38 = .ok (.ireturn, 1) := by decide +kernel
theorem dX12_stones_39 : decode cX12_stones 39 = .ok (.aload_n 0, 1) := by decide +kernel
theorem dX12_stones_40 : decode cX12_stones 40 = .ok (.getfield 42, 3) := by decide +kernel
theorem dX12_stones_43 : decode cX12_stones 43 = .ok (.iload_n 1, 1) := by decide +kernel
theorem dX12_stones_44 : decode cX12_stones 44 = .ok (.dup2, 1) := by decide +kernel
theorem dX12_stones_45 : decode cX12_stones 45 = .ok (.iaload, 1) := by decide +kernel
theorem dX12_stones_46 : decode cX12_stones 46 = .ok (.iload_n 2, 1) := by decide +kernel
theorem dX12_stones_47 : decode cX12_stones 47 = .ok (.iadd, 1) := by decide +kernel
theorem dX12_stones_48 : decode cX12_stones 48 = .ok (.iastore, 1) := by decide +kernel
theorem dX12_stones_49 : decode cX12_stones 49 = .ok (.aload_n 0, 1) := by decide +kernel
theorem dX12_stones_50 : decode cX12_stones 50 = .ok (.getfield 42, 3) := by decide +kernel
theorem dX12_stones_53 : decode cX12_stones 53 = .ok (.iload_n 1, 1) := by decide +kernel
theorem dX12_stones_54 : decode cX12_stones 54 = .ok (.iaload, 1) := by decide +kernel
theorem dX12_stones_55 : decode cX12_stones 55 = .ok (.ireturn, 1) := by decide +kernel
theorem dX12_find_0 : decode cX12_find 0 = .ok (.iconst 0, 1) := by decide +kernel
theorem dX12_find_1 : decode cX12_find 1 = .ok (.istore_n 2, 1) := by decide +kernel
theorem dX12_find_2 : decode cX12_find 2 = .ok (.iload_n 2, 1) := by decide +kernel
theorem dX12_find_3 : decode cX12_find 3 = .ok (.iload_n 1, 1) := by decide +kernel
theorem dX12_find_4 : decode cX12_find 4 = .ok (.if_icmp .gt 25, 3) := by decide +kernel
theorem dX12_find_7 : decode cX12_find 7 = .ok (.aload_n 0, 1) := by decide +kernel
theorem dX12_find_8 : decode cX12_find 8 = .ok (.getfield 51, 3) := by decide +kernel
theorem dX12_find_11 : decode cX12_find 11 = .ok (.iload_n 2, 1) := by decide +kernel
theorem dX12_find_12 : decode cX12_find 12 = .ok (.iload_n 2, 1) := by decide +kernel
theorem dX12_find_13 : decode cX12_find 13 = .ok (.ifCond .ne 7, 3) := by decide +kernel
theorem dX12_find_16 : decode cX12_find 16 = .ok (.iconst 0, 1) := by decide +kernel
theorem dX12_find_17 : decode cX12_find 17 = .ok (.goto 5, 3) := by decide +kernel
theorem dX12_find_20 : decode cX12_find 20 = .ok (.ldc 189, 2) := by decide +kernel
theorem dX12_find_22 : decode cX12_find 22 = .ok (.iastore, 1) := by decide +kernel
theorem dX12_find_23 : decode cX12_find 23 = .ok (.iinc 2 1, 3) := by decide +kernel
theorem dX12_find_26 : decode cX12_find 26 = .ok (.goto (-24), 3) := by decide +kernel
theorem dX12_find_29 : decode cX12_find 29 = .ok (.iconst 1, 1) := by decide +kernel
theorem dX12_find_30 : decode cX12_find 30 = .ok (.istore_n 2, 1) := by decide +kernel
theorem dX12_find_31 : decode cX12_find 31 = .ok (.iload_n 2, 1) := by decide +kernel
theorem dX12_find_32 : decode cX12_find 32 = .ok (.bipush 9, 2) := by decide +kernel
theorem dX12_find_34 : decode cX12_find 34 = .ok (.if_icmp .gt 116, 3) := by decide +kernel
theorem dX12_find_37 : decode cX12_find 37 = .ok (.iconst 0, 1) := by decide +kernel
theorem dX12_find_38 : decode cX12_find 38 = .ok (.istore_n 3, 1) := by decide +kernel
theorem dX12_find_39 : decode cX12_find 39 = .ok (.iload_n 3, 1) := by decide +kernel
theorem dX12_find_40 : decode cX12_find 40 = .ok (.iload_n 1, 1) := by decide +kernel
theorem dX12_find_41 : decode cX12_find 41 = .ok (.if_icmp .gt 103, 3) := by decide +kernel
theorem dX12_find_44 : decode cX12_find 44 = .ok (.ldc 189, 2) := by decide +kernel
theorem dX12_find_46 : decode cX12_find 46 = .ok (.istore 4, 2) := by decide +kernel
theorem dX12_find_48 : decode cX12_find 48 = .ok (.iconst 0, 1) := by decide +kernel
theorem dX12_find_49 : decode cX12_find 49 = .ok (.istore 5, 2) := by decide +kernel
theorem dX12_find_51 : decode cX12_find 51 = .ok (.iload 5, 2) := by decide +kernel
theorem dX12_find_53 : decode cX12_find 53 = .ok (.aload_n 0, 1) := by decide +kernel
theorem dX12_find_54 : decode cX12_find 54 = .ok (.getfield 42, 3) := by decide +kernel
theorem dX12_find_57 : decode cX12_find 57 = .ok (.iload_n 2, 1) := by decide +kernel
theorem dX12_find_58 : decode cX12_find 58 = .ok (.iaload, 1) := by decide +kernel
theorem dX12_find_59 : decode cX12_find 59 = .ok (.if_icmp .gt 66, 3) := by decide +kernel
theorem dX12_find_62 : decode cX12_find 62 = .ok (.iload 5, 2) := by decide +kernel
theorem dX12_find_64 : decode cX12_find 64 = .ok (.iload_n 2, 1) := by decide +kernel
theorem dX12_find_65 : decode cX12_find 65 = .ok (.imul, 1) := by decide +kernel
theorem dX12_find_66 : decode cX12_find 66 = .ok (.iload_n 3, 1) := by decide +kernel
theorem dX12_find_67 : decode cX12_find 67 = .ok (.if_icmp .gt 58, 3) := by decide +kernel
theorem dX12_find_70 : decode cX12_find 70 = .ok (.aload_n 0, 1) := by decide +kernel
theorem dX12_find_71 : decode cX12_find 71 = .ok (.getfield 51, 3) := by decide +kernel
theorem dX12_find_74 : decode cX12_find 74 = .ok (.bipush 61, 2) := by decide +kernel
theorem dX12_find_76 : decode cX12_find 76 = .ok (.iload_n 2, 1) := by decide +kernel
theorem dX12_find_77 : decode cX12_find 77 = .ok (.iconst 1, 1) := by decide +kernel
theorem dX12_find_78 : decode cX12_find 78 = .ok (.isub, 1) := by decide +kernel
theorem dX12_find_79 : decode cX12_find 79 = .ok (.imul, 1) := by decide +kernel
theorem dX12_find_80 : decode cX12_find 80 = .ok (.iload_n 3, 1) := by decide +kernel
theorem dX12_find_81 : decode cX12_find 81 = .ok (.iadd, 1) := by decide +kernel
theorem dX12_find_82 : decode cX12_find 82 = .ok (.iload 5, 2) := by decide +kernel
theorem dX12_find_84 : decode cX12_find 84 = .ok (.iload_n 2, 1) := by decide +kernel
theorem dX12_find_85 : decode cX12_find 85 = .ok (.imul, 1) := by decide +kernel
theorem dX12_find_86 : decode cX12_find 86 = .ok (.isub, 1) := by decide +kernel
theorem dX12_find_87 : decode cX12_find 87 = .ok (.iaload, 1) := by decide +kernel
theorem dX12_find_88 : decode cX12_find 88 = .ok (.iload 5, 2) := by decide +kernel
theorem dX12_find_90 : decode cX12_find 90 = .ok (.iadd, 1) := by decide +kernel
theorem dX12_find_91 : decode cX12_find 91 = .ok (.iload 4, 2) := by decide +kernel
theorem dX12_find_93 : decode cX12_find 93 = .ok (.if_icmp .ge 26, 3) := by decide +kernel
theorem dX12_find_96 : decode cX12_find 96 = .ok (.aload_n 0, 1) := by decide +kernel
theorem dX12_find_97 : decode cX12_find 97 = .ok (.getfield 51, 3) := by decide +kernel
theorem dX12_find_100 : decode cX12_find 100 = .ok (.bipush 61, 2) := by decide +kernel
theorem dX12_find_102 : decode cX12_find 102 = .ok (.iload_n 2, 1) := by decide +kernel
theorem dX12_find_103 : decode cX12_find 103 = .ok (.iconst 1, 1) := by decide +kernel
theorem dX12_find_104 : decode cX12_find 104 = .ok (.isub, 1) := by decide +kernel
theorem dX12_find_105 : decode cX12_find 105 = .ok (.imul, 1) := by decide +kernel
theorem dX12_find_106 : decode cX12_find 106 = .ok (.iload_n 3, 1) := by decide +kernel
theorem dX12_find_107 : decode cX12_find 107 = .ok (.iadd, 1) := by decide +kernel
theorem dX12_find_108 : decode cX12_find 108 = .ok (.iload 5, 2) := by decide +kernel
theorem dX12_find_110 : decode cX12_find 110 = .ok (.iload_n 2, 1) := by decide +kernel
theorem dX12_find_111 : decode cX12_find 111 = .ok (.imul, 1) := by decide +kernel
theorem dX12_find_112 : decode cX12_find 112 = .ok (.isub, 1) := by decide +kernel
theorem dX12_find_113 : decode cX12_find 113 = .ok (.iaload, 1) := by decide +kernel
theorem dX12_find_114 : decode cX12_find 114 = .ok (.iload 5, 2) := by decide +kernel
theorem dX12_find_116 : decode cX12_find 116 = .ok (.iadd, 1) := by decide +kernel
theorem dX12_find_117 : decode cX12_find 117 = .ok (.istore 4, 2) := by decide +kernel
theorem dX12_find_119 : decode cX12_find 119 = .ok (.iinc 5 1, 3) := by decide +kernel
theorem dX12_find_122 : decode cX12_find 122 = .ok (.goto (-71), 3) := by decide +kernel
theorem dX12_find_125 : decode cX12_find 125 = .ok (.aload_n 0, 1) := by decide +kernel
theorem dX12_find_126 : decode cX12_find 126 = .ok (.getfield 51, 3) := by decide +kernel
theorem dX12_find_129 : decode cX12_find 129 = .ok (.bipush 61, 2) := by decide +kernel
theorem dX12_find_131 : decode cX12_find 131 = .ok (.iload_n 2, 1) := by decide +kernel
theorem dX12_find_132 : decode cX12_find 132 = .ok (.imul, 1) := by decide +kernel
theorem dX12_find_133 : decode cX12_find 133 = .ok (.iload_n 3, 1) := by decide +kernel
theorem dX12_find_134 : decode cX12_find 134 = .ok (.iadd, 1) := by decide +kernel
theorem dX12_find_135 : decode cX12_find 135 = .ok (.iload 4, 2) := by decide +kernel
theorem dX12_find_137 : decode cX12_find 137 = .ok (.iastore, 1) := by decide +kernel
theorem dX12_find_138 : decode cX12_find 138 = .ok (.iinc 3 1, 3) := by decide +kernel
theorem dX12_find_141 : decode cX12_find 141 = .ok (.goto (-102), 3) := by decide +kernel
theorem dX12_find_144 : decode cX12_find 144 = .ok (.iinc 2 1, 3) := by decide +kernel
theorem dX12_find_147 : decode cX12_find 147 = .ok (.goto (-116), 3) := by decide +kernel
theorem dX12_find_150 : decode cX12_find 150 = .ok (.aload_n 0, 1) := by decide +kernel
theorem dX12_find_151 : decode cX12_find 151 = .ok (.getfield 51, 3) := by decide +kernel
theorem dX12_find_154 : decode cX12_find 154 = .ok (.sipush 549, 3) := by decide +kernel
theorem dX12_find_157 : decode cX12_find 157 = .ok (.iload_n 1, 1) := by decide +kernel
theorem dX12_find_158 : decode cX12_find 158 = .ok (.iadd, 1) := by decide +kernel
theorem dX12_find_159 : decode cX12_find 159 = .ok (.iaload, 1) := by decide +kernel
theorem dX12_find_160 : decode cX12_find 160 = .ok (.istore_n 2, 1) := by decide +kernel
theorem dX12_find_161 : decode cX12_find 161 = .ok (.iload_n 2, 1) := by decide +kernel
theorem dX12_find_162 : decode cX12_find 162 = .ok (.ldc 189, 2) := by decide +kernel
theorem dX12_find_164 : decode cX12_find 164 = .ok (.if_icmp .lt 6, 3) := by decide +kernel
theorem dX12_find_167 : decode cX12_find 167 = .ok (.bipush (-2), 2) := by decide +kernel
theorem dX12_find_169 : decode cX12_find 169 = .ok (.ireturn, 1) := by decide +kernel
theorem dX12_find_170 : decode cX12_find 170 = .ok (.iload_n 1, 1) := by decide +kernel
theorem dX12_find_171 : decode cX12_find 171 = .ok (.istore_n 3, 1) := by decide +kernel
theorem dX12_find_172 : decode cX12_find 172 = .ok (.iload_n 2, 1) := by decide +kernel
theorem dX12_find_173 : decode cX12_find 173 = .ok (.istore 4, 2) := by decide +kernel
theorem dX12_find_175 : decode cX12_find 175 = .ok (.bipush 9, 2) := by decide +kernel
theorem dX12_find_177 : decode cX12_find 177 = .ok (.istore 5, 2) := by decide +kernel
theorem dX12_find_179 : decode cX12_find 179 = .ok (.iload 5, 2) := by decide +kernel
theorem dX12_find_181 : decode cX12_find 181 = .ok (.iconst 1, 1) := by decide +kernel
theorem dX12_find_182 : decode cX12_find 182 = .ok (.if_icmp .lt 97, 3) := by decide +kernel
theorem dX12_find_185 : decode cX12_find 185 = .ok (.aload_n 0, 1) := by decide +kernel
theorem dX12_find_186 : decode cX12_find 186 = .ok (.getfield 42, 3) := by decide +kernel
theorem dX12_find_189 : decode cX12_find 189 = .ok (.iload 5, 2) := by decide +kernel
theorem dX12_find_191 : decode cX12_find 191 = .ok (.iaload, 1) := by decide +kernel
theorem dX12_find_192 : decode cX12_find 192 = .ok (.iload_n 3, 1) := by decide +kernel
theorem dX12_find_193 : decode cX12_find 193 = .ok (.iload 5, 2) := by decide +kernel
theorem dX12_find_195 : decode cX12_find 195 = .ok (.idiv, 1) := by decide +kernel
theorem dX12_find_196 : decode cX12_find 196 = .ok (.if_icmp .ge 13, 3) := by decide +kernel
theorem dX12_find_199 : decode cX12_find 199 = .ok (.aload_n 0, 1) := by decide +kernel
theorem dX12_find_200 : decode cX12_find 200 = .ok (.getfield 42, 3) := by decide +kernel
theorem dX12_find_203 : decode cX12_find 203 = .ok (.iload 5, 2) := by decide +kernel
theorem dX12_find_205 : decode cX12_find 205 = .ok (.iaload, 1) := by decide +kernel
theorem dX12_find_206 : decode cX12_find 206 = .ok (.goto 7, 3) := by decide +kernel
theorem dX12_find_209 : decode cX12_find 209 = .ok (.iload_n 3, 1) := by decide +kernel
theorem dX12_find_210 : decode cX12_find 210 = .ok (.iload 5, 2) := by decide +kernel
theorem dX12_find_212 : decode cX12_find 212 = .ok (.idiv, 1) := by decide +kernel
theorem dX12_find_213 : decode cX12_find 213 = .ok (.istore 6, 2) := by decide +kernel
theorem dX12_find_215 : decode cX12_find 215 = .ok (.aload_n 0, 1) := by decide +kernel
theorem dX12_find_216 : decode cX12_find 216 = .ok (.getfield 51, 3) := by decide +kernel
theorem dX12_find_219 : decode cX12_find 219 = .ok (.bipush 61, 2) := by decide +kernel
theorem dX12_find_221 : decode cX12_find 221 = .ok (.iload 5, 2) := by decide +kernel
theorem dX12_find_223 : decode cX12_find 223 = .ok (.iconst 1, 1) := by decide +kernel
theorem dX12_find_224 : decode cX12_find 224 = .ok (.isub, 1) := by decide +kernel
theorem dX12_find_225 : decode cX12_find 225 = .ok (.imul, 1) := by decide +kernel
theorem dX12_find_226 : decode cX12_find 226 = .ok (.iload_n 3, 1) := by decide +kernel
theorem dX12_find_227 : decode cX12_find 227 = .ok (.iadd, 1) := by decide +kernel
theorem dX12_find_228 : decode cX12_find 228 = .ok (.iload 6, 2) := by decide +kernel
theorem dX12_find_230 : decode cX12_find 230 = .ok (.iload 5, 2) := by decide +kernel
theorem dX12_find_232 : decode cX12_find 232 = .ok (.imul, 1) := by decide +kernel
theorem dX12_find_233 : decode cX12_find 233 = .ok (.isub, 1) := by decide +kernel
theorem dX12_find_234 : decode cX12_find 234 = .ok (.iaload, 1) := by decide +kernel
theorem dX12_find_235 : decode cX12_find 235 = .ok (.iload 6, 2) := by decide +kernel
theorem dX12_find_237 : decode cX12_find 237 = .ok (.iadd, 1) := by decide +kernel
theorem dX12_find_238 : decode cX12_find 238 = .ok (.iload 4, 2) := by decide +kernel
theorem dX12_find_240 : decode cX12_find 240 = .ok (.if_icmp .eq 9, 3) := by decide +kernel
theorem dX12_find_243 : decode cX12_find 243 = .ok (.iinc 6 (-1), 3) := by decide +kernel
theorem dX12_find_246 : decode cX12_find 246 = .ok (.goto (-31), 3) := by decide +kernel
theorem dX12_find_249 : decode cX12_find 249 = .ok (.aload_n 0, 1) := by decide +kernel
theorem dX12_find_250 : decode cX12_find 250 = .ok (.getfield 45, 3) := by decide +kernel
theorem dX12_find_253 : decode cX12_find 253 = .ok (.iload 5, 2) := by decide +kernel
theorem dX12_find_255 : decode cX12_find 255 = .ok (.iload 6, 2) := by decide +kernel
theorem dX12_find_257 : decode cX12_find 257 = .ok (.iastore, 1) := by decide +kernel
theorem dX12_find_258 : decode cX12_find 258 = .ok (.iload_n 3, 1) := by decide +kernel
theorem dX12_find_259 : decode cX12_find 259 = .ok (.iload 6, 2) := by decide +kernel
theorem dX12_find_261 : decode cX12_find 261 = .ok (.iload 5, 2) := by decide +kernel
theorem dX12_find_263 : decode cX12_find 263 = .ok (.imul, 1) := by decide +kernel
theorem dX12_find_264 : decode cX12_find 264 = .ok (.isub, 1) := by decide +kernel
theorem dX12_find_265 : decode cX12_find 265 = .ok (.istore_n 3, 1) := by decide +kernel
theorem dX12_find_266 : decode cX12_find 266 = .ok (.iload 4, 2) := by decide +kernel
theorem dX12_find_268 : decode cX12_find 268 = .ok (.iload 6, 2) := by decide +kernel
theorem dX12_find_270 : decode cX12_find 270 = .ok (.isub, 1) := by decide +kernel
theorem dX12_find_271 : decode cX12_find 271 = .ok (.istore 4, 2) := by decide +kernel
theorem dX12_find_273 : decode cX12_find 273 = .ok (.iinc 5 (-1), 3) := by decide +kernel
theorem dX12_find_276 : decode cX12_find 276 = .ok (.goto (-97), 3) := by decide +kernel
theorem dX12_find_279 : decode cX12_find 279 = .ok (.iload_n 2, 1) := by decide +kernel
theorem dX12_find_280 : decode cX12_find 280 = .ok (.ireturn, 1) := by decide +kernel
theorem dX12_course_0 : decode cX12_course 0 = .ok (.iload_n 1, 1) := by decide +kernel
theorem dX12_course_1 : decode cX12_course 1 = .ok (.iconst 1, 1) := by decide +kernel
theorem dX12_course_2 : decode cX12_course 2 = .ok (.bipush 60, 2) := by decide +kernel
theorem dX12_course_4 : decode cX12_course 4 = .ok (.invokestatic 164, 3) := by decide +kernel
theorem dX12_course_7 : decode cX12_course 7 = .ok (.ifCond .ne 5, 3) := by decide +kernel
theorem dX12_course_10 : decode cX12_course 10 = .ok (.iconst (-1), 1) := by decide +kernel
theorem dX12_course_11 : decode cX12_course 11 = .ok (.ireturn, 1) := by decide +kernel
theorem dX12_course_12 : decode cX12_course 12 = .ok (.aload_n 0, 1) := by decide +kernel
theorem dX12_course_13 : decode cX12_course 13 = .ok (.iload_n 1, 1) := by decide +kernel
theorem dX12_course_14 : decode cX12_course 14 = .ok (.invokevirtual 205, 3) := by decide +kernel
theorem dX12_course_17 : decode cX12_course 17 = .ok (.istore_n 2, 1) := by decide +kernel
theorem dX12_course_18 : decode cX12_course 18 = .ok (.iload_n 2, 1) := by decide +kernel
theorem dX12_course_19 : decode cX12_course 19 = .ok (.ifCond .ge 6, 3) := by decide +kernel
theorem dX12_course_22 : decode cX12_course 22 = .ok (.bipush (-2), 2) := by decide +kernel
theorem dX12_course_24 : decode cX12_course 24 = .ok (.ireturn, 1) := by decide +kernel
theorem dX12_course_25 : decode cX12_course 25 = .ok (.aload_n 0, 1) := by decide +kernel
theorem dX12_course_26 : decode cX12_course 26 = .ok (.iconst 1, 1) := by decide +kernel
theorem dX12_course_27 : decode cX12_course 27 = .ok (.putfield 208, 3) := by decide +kernel
theorem dX12_course_30 : decode cX12_course 30 = .ok (.iconst 1, 1) := by decide +kernel
theorem dX12_course_31 : decode cX12_course 31 = .ok (.istore_n 3, 1) := by decide +kernel
theorem dX12_course_32 : decode cX12_course 32 = .ok (.iload_n 3, 1) := by decide +kernel
theorem dX12_course_33 : decode cX12_course 33 = .ok (.bipush 9, 2) := by decide +kernel
theorem dX12_course_35 : decode cX12_course 35 = .ok (.if_icmp .gt 21, 3) := by decide +kernel
theorem dX12_course_38 : decode cX12_course 38 = .ok (.aload_n 0, 1) := by decide +kernel
theorem dX12_course_39 : decode cX12_course 39 = .ok (.getfield 48, 3) := by decide +kernel
theorem dX12_course_42 : decode cX12_course 42 = .ok (.iload_n 3, 1) := by decide +kernel
theorem dX12_course_43 : decode cX12_course 43 = .ok (.aload_n 0, 1) := by decide +kernel
theorem dX12_course_44 : decode cX12_course 44 = .ok (.getfield 45, 3) := by decide +kernel
theorem dX12_course_47 : decode cX12_course 47 = .ok (.iload_n 3, 1) := by decide +kernel
theorem dX12_course_48 : decode cX12_course 48 = .ok (.iaload, 1) := by decide +kernel
theorem dX12_course_49 : decode cX12_course 49 = .ok (.iastore, 1) := by decide +kernel
theorem dX12_course_50 : decode cX12_course 50 = .ok (.iinc 3 1, 3) := by decide +kernel
theorem dX12_course_53 : decode cX12_course 53 = .ok (.goto (-21), 3) := by decide +kernel
theorem dX12_course_56 : decode cX12_course 56 = .ok (.iload_n 2, 1) := by decide +kernel
theorem dX12_course_57 : decode cX12_course 57 = .ok (.ireturn, 1) := by decide +kernel
theorem dX12_of_0 : decode cX12_of 0 = .ok (.aload_n 0, 1) := by decide +kernel
theorem dX12_of_1 : decode cX12_of 1 = .ok (.getfield 208, 3) := by decide +kernel
theorem dX12_of_4 : decode cX12_of 4 = .ok (.ifCond .eq 22, 3) := by decide +kernel
theorem dX12_of_7 : decode cX12_of 7 = .ok (.iload_n 1, 1) := by decide +kernel
theorem dX12_of_8 : decode cX12_of 8 = .ok (.iconst 1, 1) := by decide +kernel
theorem dX12_of_9 : decode cX12_of 9 = .ok (.bipush 9, 2) := by decide +kernel
theorem dX12_of_11 : decode cX12_of 11 = .ok (.invokestatic 164, 3) := by decide +kernel
theorem dX12_of_14 : decode cX12_of 14 = .ok (.ifCond .eq 12, 3) := by decide +kernel
theorem dX12_of_17 : decode cX12_of 17 = .ok (.aload_n 0, 1) := by decide +kernel
theorem dX12_of_18 : decode cX12_of 18 = .ok (.getfield 48, 3) := by decide +kernel
theorem dX12_of_21 : decode cX12_of 21 = .ok (.iload_n 1, 1) := by decide +kernel
theorem dX12_of_22 : decode cX12_of 22 = .ok (.iaload, 1) := by decide +kernel
theorem dX12_of_23 : decode cX12_of 23 = .ok (.goto 4, 3) := by decide +kernel
theorem dX12_of_26 : decode cX12_of 26 = .ok (.iconst (-1), 1) := by decide +kernel
theorem dX12_of_27 : decode cX12_of 27 = .ok (.ireturn, 1) := by decide +kernel
theorem dX12_lay_0 : decode cX12_lay 0 = .ok (.iload_n 1, 1) := by decide +kernel
theorem dX12_lay_1 : decode cX12_lay 1 = .ok (.iconst 1, 1) := by decide +kernel
theorem dX12_lay_2 : decode cX12_lay 2 = .ok (.bipush 60, 2) := by decide +kernel
theorem dX12_lay_4 : decode cX12_lay 4 = .ok (.invokestatic 164, 3) := by decide +kernel
theorem dX12_lay_7 : decode cX12_lay 7 = .ok (.ifCond .ne 5, 3) := by decide +kernel
theorem dX12_lay_10 : decode cX12_lay 10 = .ok (.iconst (-1), 1) := by decide +kernel
theorem dX12_lay_11 : decode cX12_lay 11 = .ok (.ireturn, 1) := by decide +kernel
theorem dX12_lay_12 : decode cX12_lay 12 = .ok (.aload_n 0, 1) := by decide +kernel
theorem dX12_lay_13 : decode cX12_lay 13 = .ok (.iload_n 1, 1) := by decide +kernel
theorem dX12_lay_14 : decode cX12_lay 14 = .ok (.invokevirtual 205, 3) := by decide +kernel
theorem dX12_lay_17 : decode cX12_lay 17 = .ok (.istore_n 2, 1) := by decide +kernel
theorem dX12_lay_18 : decode cX12_lay 18 = .ok (.iload_n 2, 1) := by decide +kernel
theorem dX12_lay_19 : decode cX12_lay 19 = .ok (.ifCond .ge 6, 3) := by decide +kernel
theorem dX12_lay_22 : decode cX12_lay 22 = .ok (.bipush (-2), 2) := by decide +kernel
theorem dX12_lay_24 : decode cX12_lay 24 = .ok (.ireturn, 1) := by decide +kernel
theorem dX12_lay_25 : decode cX12_lay 25 = .ok (.iconst 1, 1) := by decide +kernel
theorem dX12_lay_26 : decode cX12_lay 26 = .ok (.istore_n 3, 1) := by decide +kernel
theorem dX12_lay_27 : decode cX12_lay 27 = .ok (.iload_n 3, 1) := by decide +kernel
theorem dX12_lay_28 : decode cX12_lay 28 = .ok (.bipush 9, 2) := by decide +kernel
theorem dX12_lay_30 : decode cX12_lay 30 = .ok (.if_icmp .gt 24, 3) := by decide +kernel
theorem dX12_lay_33 : decode cX12_lay 33 = .ok (.aload_n 0, 1) := by decide +kernel
theorem dX12_lay_34 : decode cX12_lay 34 = .ok (.getfield 42, 3) := by decide +kernel
theorem dX12_lay_37 : decode cX12_lay 37 = .ok (.iload_n 3, 1) := by decide +kernel
theorem dX12_lay_38 : decode cX12_lay 38 = .ok (.dup2, 1) := by decide +kernel
theorem dX12_lay_39 : decode cX12_lay 39 = .ok (.iaload, 1) := by decide +kernel
theorem dX12_lay_40 : decode cX12_lay 40 = .ok (.aload_n 0, 1) := by decide +kernel
theorem dX12_lay_41 : decode cX12_lay 41 = .ok (.getfield 45, 3) := by decide +kernel
theorem dX12_lay_44 : decode cX12_lay 44 = .ok (.iload_n 3, 1) := by decide +kernel
theorem dX12_lay_45 : decode cX12_lay 45 = .ok (.iaload, 1) := by decide +kernel
theorem dX12_lay_46 : decode cX12_lay 46 = .ok (.isub, 1) := by decide +kernel
theorem dX12_lay_47 : decode cX12_lay 47 = .ok (.iastore, 1) := by decide +kernel
theorem dX12_lay_48 : decode cX12_lay 48 = .ok (.iinc 3 1, 3) := by decide +kernel
theorem dX12_lay_51 : decode cX12_lay 51 = .ok (.goto (-24), 3) := by decide +kernel
theorem dX12_lay_54 : decode cX12_lay 54 = .ok (.iload_n 2, 1) := by decide +kernel
theorem dX12_lay_55 : decode cX12_lay 55 = .ok (.ireturn, 1) := by decide +kernel
theorem dX12_year_0 : decode cX12_year 0 = .ok (.aload_n 0, 1) := by decide +kernel
theorem dX12_year_1 : decode cX12_year 1 = .ok (.getfield 211, 3) := by decide +kernel
theorem dX12_year_4 : decode cX12_year 4 = .ok (.bipush 30, 2) := by decide +kernel
theorem dX12_year_6 : decode cX12_year 6 = .ok (.if_icmp .ne 6, 3) := by decide +kernel
theorem dX12_year_9 : decode cX12_year 9 = .ok (.bipush (-2), 2) := by decide +kernel
theorem dX12_year_11 : decode cX12_year 11 = .ok (.ireturn, 1) := by decide +kernel
theorem dX12_year_12 : decode cX12_year 12 = .ok (.aload_n 0, 1) := by decide +kernel
theorem dX12_year_13 : decode cX12_year 13 = .ok (.dup, 1) := by decide +kernel
theorem dX12_year_14 : decode cX12_year 14 = .ok (.getfield 211, 3) := by decide +kernel
theorem dX12_year_17 : decode cX12_year 17 = .ok (.iconst 1, 1) := by decide +kernel
theorem dX12_year_18 : decode cX12_year 18 = .ok (.iadd, 1) := by decide +kernel
theorem dX12_year_19 : decode cX12_year 19 = .ok (.putfield 211, 3) := by decide +kernel
theorem dX12_year_22 : decode cX12_year 22 = .ok (.aload_n 0, 1) := by decide +kernel
theorem dX12_year_23 : decode cX12_year 23 = .ok (.getfield 211, 3) := by decide +kernel
theorem dX12_year_26 : decode cX12_year 26 = .ok (.ireturn, 1) := by decide +kernel
theorem dX12_wheels_0 : decode cX12_wheels 0 = .ok (.aload_n 0, 1) := by decide +kernel
theorem dX12_wheels_1 : decode cX12_wheels 1 = .ok (.iload_n 1, 1) := by decide +kernel
theorem dX12_wheels_2 : decode cX12_wheels 2 = .ok (.invokevirtual 168, 3) := by decide +kernel
theorem dX12_wheels_5 : decode cX12_wheels 5 = .ok (.ifCond .eq 26, 3) := by decide +kernel
theorem dX12_wheels_8 : decode cX12_wheels 8 = .ok (.iload_n 2, 1) := by decide +kernel
theorem dX12_wheels_9 : decode cX12_wheels 9 = .ok (.iconst 0, 1) := by decide +kernel
theorem dX12_wheels_10 : decode cX12_wheels 10 = .ok (.aload_n 0, 1) := by decide +kernel
theorem dX12_wheels_11 : decode cX12_wheels 11 = .ok (.getfield 211, 3) := by decide +kernel
theorem dX12_wheels_14 : decode cX12_wheels 14 = .ok (.invokestatic 164, 3) := by decide +kernel
theorem dX12_wheels_17 : decode cX12_wheels 17 = .ok (.ifCond .eq 14, 3) := by decide +kernel
theorem dX12_wheels_20 : decode cX12_wheels 20 = .ok (.iload_n 3, 1) := by decide +kernel
theorem dX12_wheels_21 : decode cX12_wheels 21 = .ok (.iconst (-1), 1) := by decide +kernel
theorem dX12_wheels_22 : decode cX12_wheels 22 = .ok (.sipush 9999, 3) := by decide +kernel
theorem dX12_wheels_25 : decode cX12_wheels 25 = .ok (.invokestatic 164, 3) := by decide +kernel
theorem dX12_wheels_28 : decode cX12_wheels 28 = .ok (.ifCond .ne 5, 3) := by decide +kernel
theorem dX12_wheels_31 : decode cX12_wheels 31 = .ok (.iconst (-1), 1) := by decide +kernel
theorem dX12_wheels_32 : decode cX12_wheels 32 = .ok (.ireturn, 1) := by decide +kernel
theorem dX12_wheels_33 : decode cX12_wheels 33 = .ok (.aload_n 0, 1) := by decide +kernel
theorem dX12_wheels_34 : decode cX12_wheels 34 = .ok (.getfield 54, 3) := by decide +kernel
theorem dX12_wheels_37 : decode cX12_wheels 37 = .ok (.bipush 31, 2) := by decide +kernel
theorem dX12_wheels_39 : decode cX12_wheels 39 = .ok (.iload_n 1, 1) := by decide +kernel
theorem dX12_wheels_40 : decode cX12_wheels 40 = .ok (.imul, 1) := by decide +kernel
theorem dX12_wheels_41 : decode cX12_wheels 41 = .ok (.iload_n 2, 1) := by decide +kernel
theorem dX12_wheels_42 : decode cX12_wheels 42 = .ok (.iadd, 1) := by decide +kernel
theorem dX12_wheels_43 : decode cX12_wheels 43 = .ok (.iload_n 3, 1) := by decide +kernel
theorem dX12_wheels_44 : decode cX12_wheels 44 = .ok (.ifCond .lt 7, 3) := by decide +kernel
theorem dX12_wheels_47 : decode cX12_wheels 47 = .ok (.iconst 1, 1) := by decide +kernel
theorem dX12_wheels_48 : decode cX12_wheels 48 = .ok (.goto 4, 3) := by decide +kernel
theorem dX12_wheels_51 : decode cX12_wheels 51 = .ok (.iconst 0, 1) := by decide +kernel
theorem dX12_wheels_52 : decode cX12_wheels 52 = .ok (.bastore, 1) := by decide +kernel
theorem dX12_wheels_53 : decode cX12_wheels 53 = .ok (.aload_n 0, 1) := by decide +kernel
theorem dX12_wheels_54 : decode cX12_wheels 54 = .ok (.getfield 57, 3) := by decide +kernel
theorem dX12_wheels_57 : decode cX12_wheels 57 = .ok (.bipush 31, 2) := by decide +kernel
theorem dX12_wheels_59 : decode cX12_wheels 59 = .ok (.iload_n 1, 1) := by decide +kernel
theorem dX12_wheels_60 : decode cX12_wheels 60 = .ok (.imul, 1) := by decide +kernel
theorem dX12_wheels_61 : decode cX12_wheels 61 = .ok (.iload_n 2, 1) := by decide +kernel
theorem dX12_wheels_62 : decode cX12_wheels 62 = .ok (.iadd, 1) := by decide +kernel
theorem dX12_wheels_63 : decode cX12_wheels 63 = .ok (.iload_n 3, 1) := by decide +kernel
theorem dX12_wheels_64 : decode cX12_wheels 64 = .ok (.iastore, 1) := by decide +kernel
theorem dX12_wheels_65 : decode cX12_wheels 65 = .ok (.iconst 1, 1) := by decide +kernel
theorem dX12_wheels_66 : decode cX12_wheels 66 = .ok (.ireturn, 1) := by decide +kernel
theorem dX12_mean_0 : decode cX12_mean 0 = .ok (.iconst 0, 1) := by decide +kernel
theorem dX12_mean_1 : decode cX12_mean 1 = .ok (.istore_n 2, 1) := by decide +kernel
theorem dX12_mean_2 : decode cX12_mean 2 = .ok (.iconst 0, 1) := by decide +kernel
theorem dX12_mean_3 : decode cX12_mean 3 = .ok (.istore_n 3, 1) := by decide +kernel
theorem dX12_mean_4 : decode cX12_mean 4 = .ok (.iconst 0, 1) := by decide +kernel
theorem dX12_mean_5 : decode cX12_mean 5 = .ok (.istore 4, 2) := by decide +kernel
theorem dX12_mean_7 : decode cX12_mean 7 = .ok (.iload 4, 2) := by decide +kernel
theorem dX12_mean_9 : decode cX12_mean 9 = .ok (.aload_n 0, 1) := by decide +kernel
theorem dX12_mean_10 : decode cX12_mean 10 = .ok (.getfield 211, 3) := by decide +kernel
theorem dX12_mean_13 : decode cX12_mean 13 = .ok (.if_icmp .ge 45, 3) := by decide +kernel
theorem dX12_mean_16 : decode cX12_mean 16 = .ok (.aload_n 0, 1) := by decide +kernel
theorem dX12_mean_17 : decode cX12_mean 17 = .ok (.getfield 54, 3) := by decide +kernel
theorem dX12_mean_20 : decode cX12_mean 20 = .ok (.bipush 31, 2) := by decide +kernel
theorem dX12_mean_22 : decode cX12_mean 22 = .ok (.iload_n 1, 1) := by decide +kernel
theorem dX12_mean_23 : decode cX12_mean 23 = .ok (.imul, 1) := by decide +kernel
theorem dX12_mean_24 : decode cX12_mean 24 = .ok (.iload 4, 2) := by decide +kernel
theorem dX12_mean_26 : decode cX12_mean 26 = .ok (.iadd, 1) := by decide +kernel
theorem dX12_mean_27 : decode cX12_mean 27 = .ok (.baload, 1) := by decide +kernel
theorem dX12_mean_28 : decode cX12_mean 28 = .ok (.ifCond .ne 6, 3) := by decide +kernel
theorem dX12_mean_31 : decode cX12_mean 31 = .ok (.goto 21, 3) := by decide +kernel
theorem dX12_mean_34 : decode cX12_mean 34 = .ok (.iload_n 2, 1) := by decide +kernel
theorem dX12_mean_35 : decode cX12_mean 35 = .ok (.aload_n 0, 1) := by decide +kernel
theorem dX12_mean_36 : decode cX12_mean 36 = .ok (.getfield 57, 3) := by decide +kernel
theorem dX12_mean_39 : decode cX12_mean 39 = .ok (.bipush 31, 2) := by decide +kernel
theorem dX12_mean_41 : decode cX12_mean 41 = .ok (.iload_n 1, 1) := by decide +kernel
theorem dX12_mean_42 : decode cX12_mean 42 = .ok (.imul, 1) := by decide +kernel
theorem dX12_mean_43 : decode cX12_mean 43 = .ok (.iload 4, 2) := by decide +kernel
theorem dX12_mean_45 : decode cX12_mean 45 = .ok (.iadd, 1) := by decide +kernel
theorem dX12_mean_46 : decode cX12_mean 46 = .ok (.iaload, 1) := by decide +kernel
theorem dX12_mean_47 : decode cX12_mean 47 = .ok (.iadd, 1) := by decide +kernel
theorem dX12_mean_48 : decode cX12_mean 48 = .ok (.istore_n 2, 1) := by decide +kernel
theorem dX12_mean_49 : decode cX12_mean 49 = .ok (.iinc 3 1, 3) := by decide +kernel
theorem dX12_mean_52 : decode cX12_mean 52 = .ok (.iinc 4 1, 3) := by decide +kernel
theorem dX12_mean_55 : decode cX12_mean 55 = .ok (.goto (-48), 3) := by decide +kernel
theorem dX12_mean_58 : decode cX12_mean 58 = .ok (.iload_n 3, 1) := by decide +kernel
theorem dX12_mean_59 : decode cX12_mean 59 = .ok (.ifCond .ne 7, 3) := by decide +kernel
theorem dX12_mean_62 : decode cX12_mean 62 = .ok (.iconst 0, 1) := by decide +kernel
theorem dX12_mean_63 : decode cX12_mean 63 = .ok (.goto 6, 3) := by decide +kernel
theorem dX12_mean_66 : decode cX12_mean 66 = .ok (.iload_n 2, 1) := by decide +kernel
theorem dX12_mean_67 : decode cX12_mean 67 = .ok (.iload_n 3, 1) := by decide +kernel
theorem dX12_mean_68 : decode cX12_mean 68 = .ok (.idiv, 1) := by decide +kernel
theorem dX12_mean_69 : decode cX12_mean 69 = .ok (.ireturn, 1) := by decide +kernel
theorem dX12_wearOf_0 : decode cX12_wearOf 0 = .ok (.iconst 0, 1) := by decide +kernel
theorem dX12_wearOf_1 : decode cX12_wearOf 1 = .ok (.istore_n 3, 1) := by decide +kernel
theorem dX12_wearOf_2 : decode cX12_wearOf 2 = .ok (.aload_n 0, 1) := by decide +kernel
theorem dX12_wearOf_3 : decode cX12_wearOf 3 = .ok (.getfield 60, 3) := by decide +kernel
theorem dX12_wearOf_6 : decode cX12_wearOf 6 = .ok (.iload_n 1, 1) := by decide +kernel
theorem dX12_wearOf_7 : decode cX12_wearOf 7 = .ok (.iaload, 1) := by decide +kernel
theorem dX12_wearOf_8 : decode cX12_wearOf 8 = .ok (.istore 4, 2) := by decide +kernel
theorem dX12_wearOf_10 : decode cX12_wearOf 10 = .ok (.iload 4, 2) := by decide +kernel
theorem dX12_wearOf_12 : decode cX12_wearOf 12 = .ok (.iload_n 2, 1) := by decide +kernel
theorem dX12_wearOf_13 : decode cX12_wearOf 13 = .ok (.if_icmp .ge 54, 3) := by decide +kernel
theorem dX12_wearOf_16 : decode cX12_wearOf 16 = .ok (.iload_n 3, 1) := by decide +kernel
theorem dX12_wearOf_17 : decode cX12_wearOf 17 = .ok (.iload 4, 2) := by decide +kernel
theorem dX12_wearOf_19 : decode cX12_wearOf 19 = .ok (.bipush 31, 2) := by decide +kernel
theorem dX12_wearOf_21 : decode cX12_wearOf 21 = .ok (.if_icmp .ge 33, 3) := by decide +kernel
theorem dX12_wearOf_24 : decode cX12_wearOf 24 = .ok (.aload_n 0, 1) := by decide +kernel
theorem dX12_wearOf_25 : decode cX12_wearOf 25 = .ok (.getfield 54, 3) := by decide +kernel
theorem dX12_wearOf_28 : decode cX12_wearOf 28 = .ok (.bipush 31, 2) := by decide +kernel
theorem dX12_wearOf_30 : decode cX12_wearOf 30 = .ok (.iload_n 1, 1) := by decide +kernel
theorem dX12_wearOf_31 : decode cX12_wearOf 31 = .ok (.imul, 1) := by decide +kernel
theorem dX12_wearOf_32 : decode cX12_wearOf 32 = .ok (.iload 4, 2) := by decide +kernel
theorem dX12_wearOf_34 : decode cX12_wearOf 34 = .ok (.iadd, 1) := by decide +kernel
theorem dX12_wearOf_35 : decode cX12_wearOf 35 = .ok (.baload, 1) := by decide +kernel
theorem dX12_wearOf_36 : decode cX12_wearOf 36 = .ok (.ifCond .eq 18, 3) := by decide +kernel
theorem dX12_wearOf_39 : decode cX12_wearOf 39 = .ok (.aload_n 0, 1) := by decide +kernel
theorem dX12_wearOf_40 : decode cX12_wearOf 40 = .ok (.getfield 57, 3) := by decide +kernel
theorem dX12_wearOf_43 : decode cX12_wearOf 43 = .ok (.bipush 31, 2) := by decide +kernel
theorem dX12_wearOf_45 : decode cX12_wearOf 45 = .ok (.iload_n 1, 1) := by decide +kernel
theorem dX12_wearOf_46 : decode cX12_wearOf 46 = .ok (.imul, 1) := by decide +kernel
theorem dX12_wearOf_47 : decode cX12_wearOf 47 = .ok (.iload 4, 2) := by decide +kernel
theorem dX12_wearOf_49 : decode cX12_wearOf 49 = .ok (.iadd, 1) := by decide +kernel
theorem dX12_wearOf_50 : decode cX12_wearOf 50 = .ok (.iaload, 1) := by decide +kernel
theorem dX12_wearOf_51 : decode cX12_wearOf 51 = .ok (.goto 8, 3) := by decide +kernel
theorem dX12_wearOf_54 : decode cX12_wearOf 54 = .ok (.aload_n 0, 1) := by decide +kernel
theorem dX12_wearOf_55 : decode cX12_wearOf 55 = .ok (.iload_n 1, 1) := by decide +kernel
theorem dX12_wearOf_56 : decode cX12_wearOf 56 = .ok (.invokevirtual 214, 3) := by decide +kernel
theorem dX12_wearOf_59 : decode cX12_wearOf 59 = .ok (.iadd, 1) := by decide +kernel
theorem dX12_wearOf_60 : decode cX12_wearOf 60 = .ok (.istore_n 3, 1) := by decide +kernel
theorem dX12_wearOf_61 : decode cX12_wearOf 61 = .ok (.iinc 4 1, 3) := by decide +kernel
theorem dX12_wearOf_64 : decode cX12_wearOf 64 = .ok (.goto (-54), 3) := by decide +kernel
theorem dX12_wearOf_67 : decode cX12_wearOf 67 = .ok (.iload_n 3, 1) := by decide +kernel
theorem dX12_wearOf_68 : decode cX12_wearOf 68 = .ok (.ireturn, 1) := by decide +kernel
theorem dX12_pave_0 : decode cX12_pave 0 = .ok (.aload_n 0, 1) := by decide +kernel
theorem dX12_pave_1 : decode cX12_pave 1 = .ok (.iload_n 1, 1) := by decide +kernel
theorem dX12_pave_2 : decode cX12_pave 2 = .ok (.invokevirtual 168, 3) := by decide +kernel
theorem dX12_pave_5 : decode cX12_pave 5 = .ok (.ifCond .ne 5, 3) := by decide +kernel
theorem dX12_pave_8 : decode cX12_pave 8 = .ok (.iconst (-1), 1) := by decide +kernel
theorem dX12_pave_9 : decode cX12_pave 9 = .ok (.ireturn, 1) := by decide +kernel
theorem dX12_pave_10 : decode cX12_pave 10 = .ok (.aload_n 0, 1) := by decide +kernel
theorem dX12_pave_11 : decode cX12_pave 11 = .ok (.iload_n 1, 1) := by decide +kernel
theorem dX12_pave_12 : decode cX12_pave 12 = .ok (.aload_n 0, 1) := by decide +kernel
theorem dX12_pave_13 : decode cX12_pave 13 = .ok (.getfield 211, 3) := by decide +kernel
theorem dX12_pave_16 : decode cX12_pave 16 = .ok (.invokevirtual 217, 3) := by decide +kernel
theorem dX12_pave_19 : decode cX12_pave 19 = .ok (.istore_n 2, 1) := by decide +kernel
theorem dX12_pave_20 : decode cX12_pave 20 = .ok (.aload_n 0, 1) := by decide +kernel
theorem dX12_pave_21 : decode cX12_pave 21 = .ok (.getfield 60, 3) := by decide +kernel
theorem dX12_pave_24 : decode cX12_pave 24 = .ok (.iload_n 1, 1) := by decide +kernel
theorem dX12_pave_25 : decode cX12_pave 25 = .ok (.aload_n 0, 1) := by decide +kernel
theorem dX12_pave_26 : decode cX12_pave 26 = .ok (.getfield 211, 3) := by decide +kernel
theorem dX12_pave_29 : decode cX12_pave 29 = .ok (.iastore, 1) := by decide +kernel
theorem dX12_pave_30 : decode cX12_pave 30 = .ok (.iload_n 2, 1) := by decide +kernel
theorem dX12_pave_31 : decode cX12_pave 31 = .ok (.ireturn, 1) := by decide +kernel
theorem dX12_wear_0 : decode cX12_wear 0 = .ok (.aload_n 0, 1) := by decide +kernel
theorem dX12_wear_1 : decode cX12_wear 1 = .ok (.iload_n 1, 1) := by decide +kernel
theorem dX12_wear_2 : decode cX12_wear 2 = .ok (.invokevirtual 168, 3) := by decide +kernel
theorem dX12_wear_5 : decode cX12_wear 5 = .ok (.ifCond .eq 22, 3) := by decide +kernel
theorem dX12_wear_8 : decode cX12_wear 8 = .ok (.iload_n 2, 1) := by decide +kernel
theorem dX12_wear_9 : decode cX12_wear 9 = .ok (.iconst 0, 1) := by decide +kernel
theorem dX12_wear_10 : decode cX12_wear 10 = .ok (.bipush 40, 2) := by decide +kernel
theorem dX12_wear_12 : decode cX12_wear 12 = .ok (.invokestatic 164, 3) := by decide +kernel
theorem dX12_wear_15 : decode cX12_wear 15 = .ok (.ifCond .eq 12, 3) := by decide +kernel
theorem dX12_wear_18 : decode cX12_wear 18 = .ok (.aload_n 0, 1) := by decide +kernel
theorem dX12_wear_19 : decode cX12_wear 19 = .ok (.iload_n 1, 1) := by decide +kernel
theorem dX12_wear_20 : decode cX12_wear 20 = .ok (.iload_n 2, 1) := by decide +kernel
theorem dX12_wear_21 : decode cX12_wear 21 = .ok (.invokevirtual 217, 3) := by decide +kernel
theorem dX12_wear_24 : decode cX12_wear 24 = .ok (.goto 4, 3) := by decide +kernel
theorem dX12_wear_27 : decode cX12_wear 27 = .ok (.iconst (-1), 1) := by decide +kernel
theorem dX12_wear_28 : decode cX12_wear 28 = .ok (.ireturn, 1) := by decide +kernel
theorem dX12_cost_0 : decode cX12_cost 0 = .ok (.aload_n 0, 1) := by decide +kernel
theorem dX12_cost_1 : decode cX12_cost 1 = .ok (.iload_n 1, 1) := by decide +kernel
theorem dX12_cost_2 : decode cX12_cost 2 = .ok (.invokevirtual 168, 3) := by decide +kernel
theorem dX12_cost_5 : decode cX12_cost 5 = .ok (.ifCond .eq 34, 3) := by decide +kernel
theorem dX12_cost_8 : decode cX12_cost 8 = .ok (.iload_n 2, 1) := by decide +kernel
theorem dX12_cost_9 : decode cX12_cost 9 = .ok (.iconst 1, 1) := by decide +kernel
theorem dX12_cost_10 : decode cX12_cost 10 = .ok (.sipush 9999, 3) := by decide +kernel
theorem dX12_cost_13 : decode cX12_cost 13 = .ok (.invokestatic 164, 3) := by decide +kernel
theorem dX12_cost_16 : decode cX12_cost 16 = .ok (.ifCond .eq 23, 3) := by decide +kernel
theorem dX12_cost_19 : decode cX12_cost 19 = .ok (.iload_n 3, 1) := by decide +kernel
theorem dX12_cost_20 : decode cX12_cost 20 = .ok (.iconst 0, 1) := by decide +kernel
theorem dX12_cost_21 : decode cX12_cost 21 = .ok (.iload_n 2, 1) := by decide +kernel
theorem dX12_cost_22 : decode cX12_cost 22 = .ok (.invokestatic 164, 3) := by decide +kernel
theorem dX12_cost_25 : decode cX12_cost 25 = .ok (.ifCond .eq 14, 3) := by decide +kernel
theorem dX12_cost_28 : decode cX12_cost 28 = .ok (.iload 4, 2) := by decide +kernel
theorem dX12_cost_30 : decode cX12_cost 30 = .ok (.iconst 0, 1) := by decide +kernel
theorem dX12_cost_31 : decode cX12_cost 31 = .ok (.bipush 40, 2) := by decide +kernel
theorem dX12_cost_33 : decode cX12_cost 33 = .ok (.invokestatic 164, 3) := by decide +kernel
theorem dX12_cost_36 : decode cX12_cost 36 = .ok (.ifCond .ne 5, 3) := by decide +kernel
theorem dX12_cost_39 : decode cX12_cost 39 = .ok (.iconst (-1), 1) := by decide +kernel
theorem dX12_cost_40 : decode cX12_cost 40 = .ok (.ireturn, 1) := by decide +kernel
theorem dX12_cost_41 : decode cX12_cost 41 = .ok (.aload_n 0, 1) := by decide +kernel
theorem dX12_cost_42 : decode cX12_cost 42 = .ok (.getfield 63, 3) := by decide +kernel
theorem dX12_cost_45 : decode cX12_cost 45 = .ok (.iload_n 1, 1) := by decide +kernel
theorem dX12_cost_46 : decode cX12_cost 46 = .ok (.iload_n 2, 1) := by decide +kernel
theorem dX12_cost_47 : decode cX12_cost 47 = .ok (.iastore, 1) := by decide +kernel
theorem dX12_cost_48 : decode cX12_cost 48 = .ok (.aload_n 0, 1) := by decide +kernel
theorem dX12_cost_49 : decode cX12_cost 49 = .ok (.getfield 66, 3) := by decide +kernel
theorem dX12_cost_52 : decode cX12_cost 52 = .ok (.iload_n 1, 1) := by decide +kernel
theorem dX12_cost_53 : decode cX12_cost 53 = .ok (.iload_n 3, 1) := by decide +kernel
theorem dX12_cost_54 : decode cX12_cost 54 = .ok (.iastore, 1) := by decide +kernel
theorem dX12_cost_55 : decode cX12_cost 55 = .ok (.aload_n 0, 1) := by decide +kernel
theorem dX12_cost_56 : decode cX12_cost 56 = .ok (.getfield 69, 3) := by decide +kernel
theorem dX12_cost_59 : decode cX12_cost 59 = .ok (.iload_n 1, 1) := by decide +kernel
theorem dX12_cost_60 : decode cX12_cost 60 = .ok (.iload 4, 2) := by decide +kernel
theorem dX12_cost_62 : decode cX12_cost 62 = .ok (.iastore, 1) := by decide +kernel
theorem dX12_cost_63 : decode cX12_cost 63 = .ok (.iconst 1, 1) := by decide +kernel
theorem dX12_cost_64 : decode cX12_cost 64 = .ok (.ireturn, 1) := by decide +kernel
theorem dX12_costOf_0 : decode cX12_costOf 0 = .ok (.aload_n 0, 1) := by decide +kernel
theorem dX12_costOf_1 : decode cX12_costOf 1 = .ok (.getfield 63, 3) := by decide +kernel
theorem dX12_costOf_4 : decode cX12_costOf 4 = .ok (.iload_n 1, 1) := by decide +kernel
theorem dX12_costOf_5 : decode cX12_costOf 5 = .ok (.iaload, 1) := by decide +kernel
theorem dX12_costOf_6 : decode cX12_costOf 6 = .ok (.aload_n 0, 1) := by decide +kernel
theorem dX12_costOf_7 : decode cX12_costOf 7 = .ok (.getfield 69, 3) := by decide +kernel
theorem dX12_costOf_10 : decode cX12_costOf 10 = .ok (.iload_n 1, 1) := by decide +kernel
theorem dX12_costOf_11 : decode cX12_costOf 11 = .ok (.iaload, 1) := by decide +kernel
theorem dX12_costOf_12 : decode cX12_costOf 12 = .ok (.iload_n 2, 1) := by decide +kernel
theorem dX12_costOf_13 : decode cX12_costOf 13 = .ok (.if_icmp .ne 12, 3) := by decide +kernel
theorem dX12_costOf_16 : decode cX12_costOf 16 = .ok (.aload_n 0, 1) := by decide +kernel
theorem dX12_costOf_17 : decode cX12_costOf 17 = .ok (.getfield 66, 3) := by decide +kernel
theorem dX12_costOf_20 : decode cX12_costOf 20 = .ok (.iload_n 1, 1) := by decide +kernel
theorem dX12_costOf_21 : decode cX12_costOf 21 = .ok (.iaload, 1) := by decide +kernel
theorem dX12_costOf_22 : decode cX12_costOf 22 = .ok (.goto 4, 3) := by decide +kernel
theorem dX12_costOf_25 : decode cX12_costOf 25 = .ok (.iconst 0, 1) := by decide +kernel
theorem dX12_costOf_26 : decode cX12_costOf 26 = .ok (.isub, 1) := by decide +kernel
theorem dX12_costOf_27 : decode cX12_costOf 27 = .ok (.ireturn, 1) := by decide +kernel
theorem dX12_plan_0 : decode cX12_plan 0 = .ok (.iload_n 1, 1) := by decide +kernel
theorem dX12_plan_1 : decode cX12_plan 1 = .ok (.iconst 1, 1) := by decide +kernel
theorem dX12_plan_2 : decode cX12_plan 2 = .ok (.sipush 255, 3) := by decide +kernel
theorem dX12_plan_5 : decode cX12_plan 5 = .ok (.invokestatic 164, 3) := by decide +kernel
theorem dX12_plan_8 : decode cX12_plan 8 = .ok (.ifCond .eq 64, 3) := by decide +kernel
theorem dX12_plan_11 : decode cX12_plan 11 = .ok (.iload_n 2, 1) := by decide +kernel
theorem dX12_plan_12 : decode cX12_plan 12 = .ok (.iconst 1, 1) := by decide +kernel
theorem dX12_plan_13 : decode cX12_plan 13 = .ok (.iconst 3, 1) := by decide +kernel
theorem dX12_plan_14 : decode cX12_plan 14 = .ok (.invokestatic 164, 3) := by decide +kernel
theorem dX12_plan_17 : decode cX12_plan 17 = .ok (.ifCond .eq 55, 3) := by decide +kernel
theorem dX12_plan_20 : decode cX12_plan 20 = .ok (.iload_n 3, 1) := by decide +kernel
theorem dX12_plan_21 : decode cX12_plan 21 = .ok (.iconst 0, 1) := by decide +kernel
theorem dX12_plan_22 : decode cX12_plan 22 = .ok (.ldc 221, 2) := by decide +kernel
theorem dX12_plan_24 : decode cX12_plan 24 = .ok (.invokestatic 164, 3) := by decide +kernel
theorem dX12_plan_27 : decode cX12_plan 27 = .ok (.ifCond .eq 45, 3) := by decide +kernel
theorem dX12_plan_30 : decode cX12_plan 30 = .ok (.iload 4, 2) := by decide +kernel
theorem dX12_plan_32 : decode cX12_plan 32 = .ok (.iconst 0, 1) := by decide +kernel
theorem dX12_plan_33 : decode cX12_plan 33 = .ok (.ldc 221, 2) := by decide +kernel
theorem dX12_plan_35 : decode cX12_plan 35 = .ok (.invokestatic 164, 3) := by decide +kernel
theorem dX12_plan_38 : decode cX12_plan 38 = .ok (.ifCond .eq 34, 3) := by decide +kernel
theorem dX12_plan_41 : decode cX12_plan 41 = .ok (.iload 5, 2) := by decide +kernel
theorem dX12_plan_43 : decode cX12_plan 43 = .ok (.iconst 0, 1) := by decide +kernel
theorem dX12_plan_44 : decode cX12_plan 44 = .ok (.ldc 221, 2) := by decide +kernel
theorem dX12_plan_46 : decode cX12_plan 46 = .ok (.invokestatic 164, 3) := by decide +kernel
theorem dX12_plan_49 : decode cX12_plan 49 = .ok (.ifCond .eq 23, 3) := by decide +kernel
theorem dX12_plan_52 : decode cX12_plan 52 = .ok (.iload_n 2, 1) := by decide +kernel
theorem dX12_plan_53 : decode cX12_plan 53 = .ok (.iconst 2, 1) := by decide +kernel
theorem dX12_plan_54 : decode cX12_plan 54 = .ok (.if_icmp .ge 8, 3) := by decide +kernel
theorem dX12_plan_57 : decode cX12_plan 57 = .ok (.iload 4, 2) := by decide +kernel
theorem dX12_plan_59 : decode cX12_plan 59 = .ok (.ifCond .ne 13, 3) := by decide +kernel
theorem dX12_plan_62 : decode cX12_plan 62 = .ok (.iload_n 2, 1) := by decide +kernel
theorem dX12_plan_63 : decode cX12_plan 63 = .ok (.iconst 3, 1) := by decide +kernel
theorem dX12_plan_64 : decode cX12_plan 64 = .ok (.if_icmp .ge 10, 3) := by decide +kernel
theorem dX12_plan_67 : decode cX12_plan 67 = .ok (.iload 5, 2) := by decide +kernel
theorem dX12_plan_69 : decode cX12_plan 69 = .ok (.ifCond .eq 5, 3) := by decide +kernel
theorem dX12_plan_72 : decode cX12_plan 72 = .ok (.iconst (-1), 1) := by decide +kernel
theorem dX12_plan_73 : decode cX12_plan 73 = .ok (.ireturn, 1) := by decide +kernel
theorem dX12_plan_74 : decode cX12_plan 74 = .ok (.iconst 0, 1) := by decide +kernel
theorem dX12_plan_75 : decode cX12_plan 75 = .ok (.istore 6, 2) := by decide +kernel
theorem dX12_plan_77 : decode cX12_plan 77 = .ok (.iconst 0, 1) := by decide +kernel
theorem dX12_plan_78 : decode cX12_plan 78 = .ok (.istore 7, 2) := by decide +kernel
theorem dX12_plan_80 : decode cX12_plan 80 = .ok (.iload 7, 2) := by decide +kernel
theorem dX12_plan_82 : decode cX12_plan 82 = .ok (.bipush 8, 2) := by decide +kernel
theorem dX12_plan_84 : decode cX12_plan 84 = .ok (.if_icmp .ge 45, 3) := by decide +kernel
theorem dX12_plan_87 : decode cX12_plan 87 = .ok (.iload_n 1, 1) := by decide +kernel
theorem dX12_plan_88 : decode cX12_plan 88 = .ok (.iload 7, 2) := by decide +kernel
theorem dX12_plan_90 : decode cX12_plan 90 = .ok (.ishr, 1) := by decide +kernel
theorem dX12_plan_91 : decode cX12_plan 91 = .ok (.iconst 1, 1) := by decide +kernel
theorem dX12_plan_92 : decode cX12_plan 92 = .ok (.iand, 1) := by decide +kernel
theorem dX12_plan_93 : decode cX12_plan 93 = .ok (.ifCond .ne 6, 3) := by decide +kernel
theorem dX12_plan_96 : decode cX12_plan 96 = .ok (.goto 27, 3) := by decide +kernel
theorem dX12_plan_99 : decode cX12_plan 99 = .ok (.aload_n 0, 1) := by decide +kernel
theorem dX12_plan_100 : decode cX12_plan 100 = .ok (.iload 7, 2) := by decide +kernel
theorem dX12_plan_102 : decode cX12_plan 102 = .ok (.invokevirtual 168, 3) := by decide +kernel
theorem dX12_plan_105 : decode cX12_plan 105 = .ok (.ifCond .eq 13, 3) := by decide +kernel
theorem dX12_plan_108 : decode cX12_plan 108 = .ok (.aload_n 0, 1) := by decide +kernel
theorem dX12_plan_109 : decode cX12_plan 109 = .ok (.getfield 63, 3) := by decide +kernel
theorem dX12_plan_112 : decode cX12_plan 112 = .ok (.iload 7, 2) := by decide +kernel
theorem dX12_plan_114 : decode cX12_plan 114 = .ok (.iaload, 1) := by decide +kernel
theorem dX12_plan_115 : decode cX12_plan 115 = .ok (.ifCond .ne 5, 3) := by decide +kernel
theorem dX12_plan_118 : decode cX12_plan 118 = .ok (.iconst (-1), 1) := by decide +kernel
theorem dX12_plan_119 : decode cX12_plan 119 = .ok (.ireturn, 1) := by decide +kernel
theorem dX12_plan_120 : decode cX12_plan 120 = .ok (.iinc 6 1, 3) := by decide +kernel
theorem dX12_plan_123 : decode cX12_plan 123 = .ok (.iinc 7 1, 3) := by decide +kernel
theorem dX12_plan_126 : decode cX12_plan 126 = .ok (.goto (-46), 3) := by decide +kernel
theorem dX12_plan_129 : decode cX12_plan 129 = .ok (.iload 6, 2) := by decide +kernel
theorem dX12_plan_131 : decode cX12_plan 131 = .ok (.bipush 6, 2) := by decide +kernel
theorem dX12_plan_133 : decode cX12_plan 133 = .ok (.if_icmp .le 5, 3) := by decide +kernel
theorem dX12_plan_136 : decode cX12_plan 136 = .ok (.iconst (-1), 1) := by decide +kernel
theorem dX12_plan_137 : decode cX12_plan 137 = .ok (.ireturn, 1) := by decide +kernel
theorem dX12_plan_138 : decode cX12_plan 138 = .ok (.aload_n 0, 1) := by decide +kernel
theorem dX12_plan_139 : decode cX12_plan 139 = .ok (.getfield 78, 3) := by decide +kernel
theorem dX12_plan_142 : decode cX12_plan 142 = .ok (.iconst 0, 1) := by decide +kernel
theorem dX12_plan_143 : decode cX12_plan 143 = .ok (.iload_n 3, 1) := by decide +kernel
theorem dX12_plan_144 : decode cX12_plan 144 = .ok (.iastore, 1) := by decide +kernel
theorem dX12_plan_145 : decode cX12_plan 145 = .ok (.aload_n 0, 1) := by decide +kernel
theorem dX12_plan_146 : decode cX12_plan 146 = .ok (.getfield 78, 3) := by decide +kernel
theorem dX12_plan_149 : decode cX12_plan 149 = .ok (.iconst 1, 1) := by decide +kernel
theorem dX12_plan_150 : decode cX12_plan 150 = .ok (.iload 4, 2) := by decide +kernel
theorem dX12_plan_152 : decode cX12_plan 152 = .ok (.iastore, 1) := by decide +kernel
theorem dX12_plan_153 : decode cX12_plan 153 = .ok (.aload_n 0, 1) := by decide +kernel
theorem dX12_plan_154 : decode cX12_plan 154 = .ok (.getfield 78, 3) := by decide +kernel
theorem dX12_plan_157 : decode cX12_plan 157 = .ok (.iconst 2, 1) := by decide +kernel
theorem dX12_plan_158 : decode cX12_plan 158 = .ok (.iload 5, 2) := by decide +kernel
theorem dX12_plan_160 : decode cX12_plan 160 = .ok (.iastore, 1) := by decide +kernel
theorem dX12_plan_161 : decode cX12_plan 161 = .ok (.iconst (-1), 1) := by decide +kernel
theorem dX12_plan_162 : decode cX12_plan 162 = .ok (.istore 7, 2) := by decide +kernel
theorem dX12_plan_164 : decode cX12_plan 164 = .ok (.iconst 0, 1) := by decide +kernel
theorem dX12_plan_165 : decode cX12_plan 165 = .ok (.istore 8, 2) := by decide +kernel
theorem dX12_plan_167 : decode cX12_plan 167 = .ok (.iconst 0, 1) := by decide +kernel
theorem dX12_plan_168 : decode cX12_plan 168 = .ok (.istore 9, 2) := by decide +kernel
theorem dX12_plan_170 : decode cX12_plan 170 = .ok (.iload 9, 2) := by decide +kernel
theorem dX12_plan_172 : decode cX12_plan 172 = .ok (.bipush 8, 2) := by decide +kernel
theorem dX12_plan_174 : decode cX12_plan 174 = .ok (.if_icmp .ge 17, 3) := by decide +kernel
theorem dX12_plan_177 : decode cX12_plan 177 = .ok (.aload_n 0, 1) := by decide +kernel
theorem dX12_plan_178 : decode cX12_plan 178 = .ok (.getfield 75, 3) := by decide +kernel
theorem dX12_plan_181 : decode cX12_plan 181 = .ok (.iload 9, 2) := by decide +kernel
theorem dX12_plan_183 : decode cX12_plan 183 = .ok (.iconst 0, 1) := by decide +kernel
theorem dX12_plan_184 : decode cX12_plan 184 = .ok (.iastore, 1) := by decide +kernel
theorem dX12_plan_185 : decode cX12_plan 185 = .ok (.iinc 9 1, 3) := by decide +kernel
theorem dX12_plan_188 : decode cX12_plan 188 = .ok (.goto (-18), 3) := by decide +kernel
theorem dX12_plan_191 : decode cX12_plan 191 = .ok (.iconst 1, 1) := by decide +kernel
theorem dX12_plan_192 : decode cX12_plan 192 = .ok (.istore 9, 2) := by decide +kernel
theorem dX12_plan_194 : decode cX12_plan 194 = .ok (.iload 9, 2) := by decide +kernel
theorem dX12_plan_196 : decode cX12_plan 196 = .ok (.ifCond .eq 344, 3) := by decide +kernel
theorem dX12_plan_199 : decode cX12_plan 199 = .ok (.iconst 0, 1) := by decide +kernel
theorem dX12_plan_200 : decode cX12_plan 200 = .ok (.istore 10, 2) := by decide +kernel
theorem dX12_plan_202 : decode cX12_plan 202 = .ok (.iload 10, 2) := by decide +kernel
theorem dX12_plan_204 : decode cX12_plan 204 = .ok (.iconst 3, 1) := by decide +kernel
theorem dX12_plan_205 : decode cX12_plan 205 = .ok (.if_icmp .ge 17, 3) := by decide +kernel
theorem dX12_plan_208 : decode cX12_plan 208 = .ok (.aload_n 0, 1) := by decide +kernel
theorem dX12_plan_209 : decode cX12_plan 209 = .ok (.getfield 81, 3) := by decide +kernel
theorem dX12_plan_212 : decode cX12_plan 212 = .ok (.iload 10, 2) := by decide +kernel
theorem dX12_plan_214 : decode cX12_plan 214 = .ok (.iconst 0, 1) := by decide +kernel
theorem dX12_plan_215 : decode cX12_plan 215 = .ok (.iastore, 1) := by decide +kernel
theorem dX12_plan_216 : decode cX12_plan 216 = .ok (.iinc 10 1, 3) := by decide +kernel
theorem dX12_plan_219 : decode cX12_plan 219 = .ok (.goto (-17), 3) := by decide +kernel
theorem dX12_plan_222 : decode cX12_plan 222 = .ok (.iconst 0, 1) := by decide +kernel
theorem dX12_plan_223 : decode cX12_plan 223 = .ok (.istore 10, 2) := by decide +kernel
theorem dX12_plan_225 : decode cX12_plan 225 = .ok (.iconst 0, 1) := by decide +kernel
theorem dX12_plan_226 : decode cX12_plan 226 = .ok (.istore 11, 2) := by decide +kernel
theorem dX12_plan_228 : decode cX12_plan 228 = .ok (.iload 11, 2) := by decide +kernel
theorem dX12_plan_230 : decode cX12_plan 230 = .ok (.bipush 8, 2) := by decide +kernel
theorem dX12_plan_232 : decode cX12_plan 232 = .ok (.if_icmp .ge 88, 3) := by decide +kernel
theorem dX12_plan_235 : decode cX12_plan 235 = .ok (.iload_n 1, 1) := by decide +kernel
theorem dX12_plan_236 : decode cX12_plan 236 = .ok (.iload 11, 2) := by decide +kernel
theorem dX12_plan_238 : decode cX12_plan 238 = .ok (.ishr, 1) := by decide +kernel
theorem dX12_plan_239 : decode cX12_plan 239 = .ok (.iconst 1, 1) := by decide +kernel
theorem dX12_plan_240 : decode cX12_plan 240 = .ok (.iand, 1) := by decide +kernel
theorem dX12_plan_241 : decode cX12_plan 241 = .ok (.ifCond .eq 73, 3) := by decide +kernel
theorem dX12_plan_244 : decode cX12_plan 244 = .ok (.aload_n 0, 1) := by decide +kernel
theorem dX12_plan_245 : decode cX12_plan 245 = .ok (.getfield 75, 3) := by decide +kernel
theorem dX12_plan_248 : decode cX12_plan 248 = .ok (.iload 11, 2) := by decide +kernel
theorem dX12_plan_250 : decode cX12_plan 250 = .ok (.iaload, 1) := by decide +kernel
theorem dX12_plan_251 : decode cX12_plan 251 = .ok (.iload_n 2, 1) := by decide +kernel
theorem dX12_plan_252 : decode cX12_plan 252 = .ok (.if_icmp .ne 6, 3) := by decide +kernel
theorem dX12_plan_255 : decode cX12_plan 255 = .ok (.goto 59, 3) := by decide +kernel
theorem dX12_plan_258 : decode cX12_plan 258 = .ok (.iload 10, 2) := by decide +kernel
theorem dX12_plan_260 : decode cX12_plan 260 = .ok (.aload_n 0, 1) := by decide +kernel
theorem dX12_plan_261 : decode cX12_plan 261 = .ok (.iload 11, 2) := by decide +kernel
theorem dX12_plan_263 : decode cX12_plan 263 = .ok (.aload_n 0, 1) := by decide +kernel
theorem dX12_plan_264 : decode cX12_plan 264 = .ok (.getfield 211, 3) := by decide +kernel
theorem dX12_plan_267 : decode cX12_plan 267 = .ok (.aload_n 0, 1) := by decide +kernel
theorem dX12_plan_268 : decode cX12_plan 268 = .ok (.getfield 75, 3) := by decide +kernel
theorem dX12_plan_271 : decode cX12_plan 271 = .ok (.iload 11, 2) := by decide +kernel
theorem dX12_plan_273 : decode cX12_plan 273 = .ok (.iaload, 1) := by decide +kernel
theorem dX12_plan_274 : decode cX12_plan 274 = .ok (.iadd, 1) := by decide +kernel
theorem dX12_plan_275 : decode cX12_plan 275 = .ok (.invokevirtual 217, 3) := by decide +kernel
theorem dX12_plan_278 : decode cX12_plan 278 = .ok (.iadd, 1) := by decide +kernel
theorem dX12_plan_279 : decode cX12_plan 279 = .ok (.istore 10, 2) := by decide +kernel
theorem dX12_plan_281 : decode cX12_plan 281 = .ok (.aload_n 0, 1) := by decide +kernel
theorem dX12_plan_282 : decode cX12_plan 282 = .ok (.getfield 81, 3) := by decide +kernel
theorem dX12_plan_285 : decode cX12_plan 285 = .ok (.aload_n 0, 1) := by decide +kernel
theorem dX12_plan_286 : decode cX12_plan 286 = .ok (.getfield 75, 3) := by decide +kernel
theorem dX12_plan_289 : decode cX12_plan 289 = .ok (.iload 11, 2) := by decide +kernel
theorem dX12_plan_291 : decode cX12_plan 291 = .ok (.iaload, 1) := by decide +kernel
theorem dX12_plan_292 : decode cX12_plan 292 = .ok (.dup2, 1) := by decide +kernel
theorem dX12_plan_293 : decode cX12_plan 293 = .ok (.iaload, 1) := by decide +kernel
theorem dX12_plan_294 : decode cX12_plan 294 = .ok (.aload_n 0, 1) := by decide +kernel
theorem dX12_plan_295 : decode cX12_plan 295 = .ok (.iload 11, 2) := by decide +kernel
theorem dX12_plan_297 : decode cX12_plan 297 = .ok (.aload_n 0, 1) := by decide +kernel
theorem dX12_plan_298 : decode cX12_plan 298 = .ok (.getfield 211, 3) := by decide +kernel
theorem dX12_plan_301 : decode cX12_plan 301 = .ok (.aload_n 0, 1) := by decide +kernel
theorem dX12_plan_302 : decode cX12_plan 302 = .ok (.getfield 75, 3) := by decide +kernel
theorem dX12_plan_305 : decode cX12_plan 305 = .ok (.iload 11, 2) := by decide +kernel
theorem dX12_plan_307 : decode cX12_plan 307 = .ok (.iaload, 1) := by decide +kernel
theorem dX12_plan_308 : decode cX12_plan 308 = .ok (.iadd, 1) := by decide +kernel
theorem dX12_plan_309 : decode cX12_plan 309 = .ok (.invokevirtual 222, 3) := by decide +kernel
theorem dX12_plan_312 : decode cX12_plan 312 = .ok (.iadd, 1) := by decide +kernel
theorem dX12_plan_313 : decode cX12_plan 313 = .ok (.iastore, 1) := by decide +kernel
theorem dX12_plan_314 : decode cX12_plan 314 = .ok (.iinc 11 1, 3) := by decide +kernel
theorem dX12_plan_317 : decode cX12_plan 317 = .ok (.goto (-89), 3) := by decide +kernel
theorem dX12_plan_320 : decode cX12_plan 320 = .ok (.aload_n 0, 1) := by decide +kernel
theorem dX12_plan_321 : decode cX12_plan 321 = .ok (.getfield 81, 3) := by decide +kernel
theorem dX12_plan_324 : decode cX12_plan 324 = .ok (.iconst 0, 1) := by decide +kernel
theorem dX12_plan_325 : decode cX12_plan 325 = .ok (.iaload, 1) := by decide +kernel
theorem dX12_plan_326 : decode cX12_plan 326 = .ok (.aload_n 0, 1) := by decide +kernel
theorem dX12_plan_327 : decode cX12_plan 327 = .ok (.getfield 81, 3) := by decide +kernel
theorem dX12_plan_330 : decode cX12_plan 330 = .ok (.iconst 1, 1) := by decide +kernel
theorem dX12_plan_331 : decode cX12_plan 331 = .ok (.iaload, 1) := by decide +kernel
theorem dX12_plan_332 : decode cX12_plan 332 = .ok (.iadd, 1) := by decide +kernel
theorem dX12_plan_333 : decode cX12_plan 333 = .ok (.aload_n 0, 1) := by decide +kernel
theorem dX12_plan_334 : decode cX12_plan 334 = .ok (.getfield 81, 3) := by decide +kernel
theorem dX12_plan_337 : decode cX12_plan 337 = .ok (.iconst 2, 1) := by decide +kernel
theorem dX12_plan_338 : decode cX12_plan 338 = .ok (.iaload, 1) := by decide +kernel
theorem dX12_plan_339 : decode cX12_plan 339 = .ok (.iadd, 1) := by decide +kernel
theorem dX12_plan_340 : decode cX12_plan 340 = .ok (.istore 11, 2) := by decide +kernel
theorem dX12_plan_342 : decode cX12_plan 342 = .ok (.aload_n 0, 1) := by decide +kernel
theorem dX12_plan_343 : decode cX12_plan 343 = .ok (.getfield 81, 3) := by decide +kernel
theorem dX12_plan_346 : decode cX12_plan 346 = .ok (.iconst 0, 1) := by decide +kernel
theorem dX12_plan_347 : decode cX12_plan 347 = .ok (.iaload, 1) := by decide +kernel
theorem dX12_plan_348 : decode cX12_plan 348 = .ok (.iload_n 3, 1) := by decide +kernel
theorem dX12_plan_349 : decode cX12_plan 349 = .ok (.if_icmp .gt 29, 3) := by decide +kernel
theorem dX12_plan_352 : decode cX12_plan 352 = .ok (.aload_n 0, 1) := by decide +kernel
theorem dX12_plan_353 : decode cX12_plan 353 = .ok (.getfield 81, 3) := by decide +kernel
theorem dX12_plan_356 : decode cX12_plan 356 = .ok (.iconst 1, 1) := by decide +kernel
theorem dX12_plan_357 : decode cX12_plan 357 = .ok (.iaload, 1) := by decide +kernel
theorem dX12_plan_358 : decode cX12_plan 358 = .ok (.iload 4, 2) := by decide +kernel
theorem dX12_plan_360 : decode cX12_plan 360 = .ok (.if_icmp .gt 18, 3) := by decide +kernel
theorem dX12_plan_363 : decode cX12_plan 363 = .ok (.aload_n 0, 1) := by decide +kernel
theorem dX12_plan_364 : decode cX12_plan 364 = .ok (.getfield 81, 3) := by decide +kernel
theorem dX12_plan_367 : decode cX12_plan 367 = .ok (.iconst 2, 1) := by decide +kernel
theorem dX12_plan_368 : decode cX12_plan 368 = .ok (.iaload, 1) := by decide +kernel
theorem dX12_plan_369 : decode cX12_plan 369 = .ok (.iload 5, 2) := by decide +kernel
theorem dX12_plan_371 : decode cX12_plan 371 = .ok (.if_icmp .gt 7, 3) := by decide +kernel
theorem dX12_plan_374 : decode cX12_plan 374 = .ok (.iconst 1, 1) := by decide +kernel
theorem dX12_plan_375 : decode cX12_plan 375 = .ok (.goto 4, 3) := by decide +kernel
theorem dX12_plan_378 : decode cX12_plan 378 = .ok (.iconst 0, 1) := by decide +kernel
theorem dX12_plan_379 : decode cX12_plan 379 = .ok (.istore 12, 2) := by decide +kernel
theorem dX12_plan_381 : decode cX12_plan 381 = .ok (.iload 12, 2) := by decide +kernel
theorem dX12_plan_383 : decode cX12_plan 383 = .ok (.ifCond .eq 83, 3) := by decide +kernel
theorem dX12_plan_386 : decode cX12_plan 386 = .ok (.iload 10, 2) := by decide +kernel
theorem dX12_plan_388 : decode cX12_plan 388 = .ok (.iload 7, 2) := by decide +kernel
theorem dX12_plan_390 : decode cX12_plan 390 = .ok (.if_icmp .gt 17, 3) := by decide +kernel
theorem dX12_plan_393 : decode cX12_plan 393 = .ok (.iload 10, 2) := by decide +kernel
theorem dX12_plan_395 : decode cX12_plan 395 = .ok (.iload 7, 2) := by decide +kernel
theorem dX12_plan_397 : decode cX12_plan 397 = .ok (.if_icmp .ne 69, 3) := by decide +kernel
theorem dX12_plan_400 : decode cX12_plan 400 = .ok (.iload 11, 2) := by decide +kernel
theorem dX12_plan_402 : decode cX12_plan 402 = .ok (.iload 8, 2) := by decide +kernel
theorem dX12_plan_404 : decode cX12_plan 404 = .ok (.if_icmp .ge 62, 3) := by decide +kernel
theorem dX12_plan_407 : decode cX12_plan 407 = .ok (.iload 10, 2) := by decide +kernel
theorem dX12_plan_409 : decode cX12_plan 409 = .ok (.istore 7, 2) := by decide +kernel
theorem dX12_plan_411 : decode cX12_plan 411 = .ok (.iload 11, 2) := by decide +kernel
theorem dX12_plan_413 : decode cX12_plan 413 = .ok (.istore 8, 2) := by decide +kernel
theorem dX12_plan_415 : decode cX12_plan 415 = .ok (.iconst 0, 1) := by decide +kernel
theorem dX12_plan_416 : decode cX12_plan 416 = .ok (.istore 13, 2) := by decide +kernel
theorem dX12_plan_418 : decode cX12_plan 418 = .ok (.iload 13, 2) := by decide +kernel
theorem dX12_plan_420 : decode cX12_plan 420 = .ok (.bipush 8, 2) := by decide +kernel
theorem dX12_plan_422 : decode cX12_plan 422 = .ok (.if_icmp .ge 44, 3) := by decide +kernel
theorem dX12_plan_425 : decode cX12_plan 425 = .ok (.aload_n 0, 1) := by decide +kernel
theorem dX12_plan_426 : decode cX12_plan 426 = .ok (.getfield 72, 3) := by decide +kernel
theorem dX12_plan_429 : decode cX12_plan 429 = .ok (.iload 13, 2) := by decide +kernel
theorem dX12_plan_431 : decode cX12_plan 431 = .ok (.aload_n 0, 1) := by decide +kernel
theorem dX12_plan_432 : decode cX12_plan 432 = .ok (.getfield 75, 3) := by decide +kernel
theorem dX12_plan_435 : decode cX12_plan 435 = .ok (.iload 13, 2) := by decide +kernel
theorem dX12_plan_437 : decode cX12_plan 437 = .ok (.iaload, 1) := by decide +kernel
theorem dX12_plan_438 : decode cX12_plan 438 = .ok (.iload_n 2, 1) := by decide +kernel
theorem dX12_plan_439 : decode cX12_plan 439 = .ok (.if_icmp .ne 8, 3) := by decide +kernel
theorem dX12_plan_442 : decode cX12_plan 442 = .ok (.bipush (-2), 2) := by decide +kernel
theorem dX12_plan_444 : decode cX12_plan 444 = .ok (.goto 15, 3) := by decide +kernel
theorem dX12_plan_447 : decode cX12_plan 447 = .ok (.aload_n 0, 1) := by decide +kernel
theorem dX12_plan_448 : decode cX12_plan 448 = .ok (.getfield 211, 3) := by decide +kernel
theorem dX12_plan_451 : decode cX12_plan 451 = .ok (.aload_n 0, 1) := by decide +kernel
theorem dX12_plan_452 : decode cX12_plan 452 = .ok (.getfield 75, 3) := by decide +kernel
theorem dX12_plan_455 : decode cX12_plan 455 = .ok (.iload 13, 2) := by decide +kernel
theorem dX12_plan_457 : decode cX12_plan 457 = .ok (.iaload, 1) := by decide +kernel
theorem dX12_plan_458 : decode cX12_plan 458 = .ok (.iadd, 1) := by decide +kernel
theorem dX12_plan_459 : decode cX12_plan 459 = .ok (.iastore, 1) := by decide +kernel
theorem dX12_plan_460 : decode cX12_plan 460 = .ok (.iinc 13 1, 3) := by decide +kernel
theorem dX12_plan_463 : decode cX12_plan 463 = .ok (.goto (-45), 3) := by decide +kernel
theorem dX12_plan_466 : decode cX12_plan 466 = .ok (.bipush 7, 2) := by decide +kernel
theorem dX12_plan_468 : decode cX12_plan 468 = .ok (.istore 13, 2) := by decide +kernel
theorem dX12_plan_470 : decode cX12_plan 470 = .ok (.iload 13, 2) := by decide +kernel
theorem dX12_plan_472 : decode cX12_plan 472 = .ok (.ifCond .lt 37, 3) := by decide +kernel
theorem dX12_plan_475 : decode cX12_plan 475 = .ok (.iload_n 1, 1) := by decide +kernel
theorem dX12_plan_476 : decode cX12_plan 476 = .ok (.iload 13, 2) := by decide +kernel
theorem dX12_plan_478 : decode cX12_plan 478 = .ok (.ishr, 1) := by decide +kernel
theorem dX12_plan_479 : decode cX12_plan 479 = .ok (.iconst 1, 1) := by decide +kernel
theorem dX12_plan_480 : decode cX12_plan 480 = .ok (.iand, 1) := by decide +kernel
theorem dX12_plan_481 : decode cX12_plan 481 = .ok (.ifCond .eq 14, 3) := by decide +kernel
theorem dX12_plan_484 : decode cX12_plan 484 = .ok (.aload_n 0, 1) := by decide +kernel
theorem dX12_plan_485 : decode cX12_plan 485 = .ok (.getfield 75, 3) := by decide +kernel
theorem dX12_plan_488 : decode cX12_plan 488 = .ok (.iload 13, 2) := by decide +kernel
theorem dX12_plan_490 : decode cX12_plan 490 = .ok (.iaload, 1) := by decide +kernel
theorem dX12_plan_491 : decode cX12_plan 491 = .ok (.iload_n 2, 1) := by decide +kernel
theorem dX12_plan_492 : decode cX12_plan 492 = .ok (.if_icmp .ne 17, 3) := by decide +kernel
theorem dX12_plan_495 : decode cX12_plan 495 = .ok (.aload_n 0, 1) := by decide +kernel
theorem dX12_plan_496 : decode cX12_plan 496 = .ok (.getfield 75, 3) := by decide +kernel
theorem dX12_plan_499 : decode cX12_plan 499 = .ok (.iload 13, 2) := by decide +kernel
theorem dX12_plan_501 : decode cX12_plan 501 = .ok (.iconst 0, 1) := by decide +kernel
theorem dX12_plan_502 : decode cX12_plan 502 = .ok (.iastore, 1) := by decide +kernel
theorem dX12_plan_503 : decode cX12_plan 503 = .ok (.iinc 13 (-1), 3) := by decide +kernel
theorem dX12_plan_506 : decode cX12_plan 506 = .ok (.goto (-36), 3) := by decide +kernel
theorem dX12_plan_509 : decode cX12_plan 509 = .ok (.iload 13, 2) := by decide +kernel
theorem dX12_plan_511 : decode cX12_plan 511 = .ok (.ifCond .lt 7, 3) := by decide +kernel
theorem dX12_plan_514 : decode cX12_plan 514 = .ok (.iconst 1, 1) := by decide +kernel
theorem dX12_plan_515 : decode cX12_plan 515 = .ok (.goto 4, 3) := by decide +kernel
theorem dX12_plan_518 : decode cX12_plan 518 = .ok (.iconst 0, 1) := by decide +kernel
theorem dX12_plan_519 : decode cX12_plan 519 = .ok (.istore 9, 2) := by decide +kernel
theorem dX12_plan_521 : decode cX12_plan 521 = .ok (.iload 9, 2) := by decide +kernel
theorem dX12_plan_523 : decode cX12_plan 523 = .ok (.ifCond .eq 14, 3) := by decide +kernel
theorem dX12_plan_526 : decode cX12_plan 526 = .ok (.aload_n 0, 1) := by decide +kernel
theorem dX12_plan_527 : decode cX12_plan 527 = .ok (.getfield 75, 3) := by decide +kernel
theorem dX12_plan_530 : decode cX12_plan 530 = .ok (.iload 13, 2) := by decide +kernel
theorem dX12_plan_532 : decode cX12_plan 532 = .ok (.dup2, 1) := by decide +kernel
theorem dX12_plan_533 : decode cX12_plan 533 = .ok (.iaload, 1) := by decide +kernel
theorem dX12_plan_534 : decode cX12_plan 534 = .ok (.iconst 1, 1) := by decide +kernel
theorem dX12_plan_535 : decode cX12_plan 535 = .ok (.iadd, 1) := by decide +kernel
theorem dX12_plan_536 : decode cX12_plan 536 = .ok (.iastore, 1) := by decide +kernel
theorem dX12_plan_537 : decode cX12_plan 537 = .ok (.goto (-343), 3) := by decide +kernel
theorem dX12_plan_540 : decode cX12_plan 540 = .ok (.aload_n 0, 1) := by decide +kernel
theorem dX12_plan_541 : decode cX12_plan 541 = .ok (.iconst 1, 1) := by decide +kernel
theorem dX12_plan_542 : decode cX12_plan 542 = .ok (.putfield 225, 3) := by decide +kernel
theorem dX12_plan_545 : decode cX12_plan 545 = .ok (.aload_n 0, 1) := by decide +kernel
theorem dX12_plan_546 : decode cX12_plan 546 = .ok (.iload_n 1, 1) := by decide +kernel
theorem dX12_plan_547 : decode cX12_plan 547 = .ok (.putfield 228, 3) := by decide +kernel
theorem dX12_plan_550 : decode cX12_plan 550 = .ok (.iload 7, 2) := by decide +kernel
theorem dX12_plan_552 : decode cX12_plan 552 = .ok (.ireturn, 1) := by decide +kernel
theorem dX12_planned_0 : decode cX12_planned 0 = .ok (.aload_n 0, 1) := by decide +kernel
theorem dX12_planned_1 : decode cX12_planned 1 = .ok (.getfield 225, 3) := by decide +kernel
theorem dX12_planned_4 : decode cX12_planned 4 = .ok (.ifCond .eq 34, 3) := by decide +kernel
theorem dX12_planned_7 : decode cX12_planned 7 = .ok (.iload_n 1, 1) := by decide +kernel
theorem dX12_planned_8 : decode cX12_planned 8 = .ok (.iconst 0, 1) := by decide +kernel
theorem dX12_planned_9 : decode cX12_planned 9 = .ok (.bipush 7, 2) := by decide +kernel
theorem dX12_planned_11 : decode cX12_planned 11 = .ok (.invokestatic 164, 3) := by decide +kernel
theorem dX12_planned_14 : decode cX12_planned 14 = .ok (.ifCond .eq 24, 3) := by decide +kernel
theorem dX12_planned_17 : decode cX12_planned 17 = .ok (.aload_n 0, 1) := by decide +kernel
theorem dX12_planned_18 : decode cX12_planned 18 = .ok (.getfield 228, 3) := by decide +kernel
theorem dX12_planned_21 : decode cX12_planned 21 = .ok (.iload_n 1, 1) := by decide +kernel
theorem dX12_planned_22 : decode cX12_planned 22 = .ok (.ishr, 1) := by decide +kernel
theorem dX12_planned_23 : decode cX12_planned 23 = .ok (.iconst 1, 1) := by decide +kernel
theorem dX12_planned_24 : decode cX12_planned 24 = .ok (.iand, 1) := by decide +kernel
theorem dX12_planned_25 : decode cX12_planned 25 = .ok (.iconst 1, 1) := by decide +kernel
theorem dX12_planned_26 : decode cX12_planned 26 = .ok (.if_icmp .ne 12, 3) := by decide +kernel
theorem dX12_planned_29 : decode cX12_planned 29 = .ok (.aload_n 0, 1) := by decide +kernel
theorem dX12_planned_30 : decode cX12_planned 30 = .ok (.getfield 72, 3) := by decide +kernel
theorem dX12_planned_33 : decode cX12_planned 33 = .ok (.iload_n 1, 1) := by decide +kernel
theorem dX12_planned_34 : decode cX12_planned 34 = .ok (.iaload, 1) := by decide +kernel
theorem dX12_planned_35 : decode cX12_planned 35 = .ok (.goto 4, 3) := by decide +kernel
theorem dX12_planned_38 : decode cX12_planned 38 = .ok (.iconst (-1), 1) := by decide +kernel
theorem dX12_planned_39 : decode cX12_planned 39 = .ok (.ireturn, 1) := by decide +kernel
theorem dX12_isPlace_0 : decode cX12_isPlace 0 = .ok (.iload_n 1, 1) := by decide +kernel
theorem dX12_isPlace_1 : decode cX12_isPlace 1 = .ok (.ifCond .lt 25, 3) := by decide +kernel
theorem dX12_isPlace_4 : decode cX12_isPlace 4 = .ok (.aload_n 0, 1) := by decide +kernel
theorem dX12_isPlace_5 : decode cX12_isPlace 5 = .ok (.iload_n 1, 1) := by decide +kernel
theorem dX12_isPlace_6 : decode cX12_isPlace 6 = .ok (.bipush 100, 2) := by decide +kernel
theorem dX12_isPlace_8 : decode cX12_isPlace 8 = .ok (.idiv, 1) := by decide +kernel
theorem dX12_isPlace_9 : decode cX12_isPlace 9 = .ok (.invokevirtual 168, 3) := by decide +kernel
theorem dX12_isPlace_12 : decode cX12_isPlace 12 = .ok (.ifCond .eq 14, 3) := by decide +kernel
theorem dX12_isPlace_15 : decode cX12_isPlace 15 = .ok (.iload_n 1, 1) := by decide +kernel
theorem dX12_isPlace_16 : decode cX12_isPlace 16 = .ok (.bipush 100, 2) := by decide +kernel
theorem dX12_isPlace_18 : decode cX12_isPlace 18 = .ok (.irem, 1) := by decide +kernel
theorem dX12_isPlace_19 : decode cX12_isPlace 19 = .ok (.ifCond .le 7, 3) := by decide +kernel
theorem dX12_isPlace_22 : decode cX12_isPlace 22 = .ok (.iconst 1, 1) := by decide +kernel
theorem dX12_isPlace_23 : decode cX12_isPlace 23 = .ok (.goto 4, 3) := by decide +kernel
theorem dX12_isPlace_26 : decode cX12_isPlace 26 = .ok (.iconst 0, 1) := by decide +kernel
theorem dX12_isPlace_27 : decode cX12_isPlace 27 = .ok (.ireturn, 1) := by decide +kernel
theorem dX12_house_0 : decode cX12_house 0 = .ok (.aload_n 0, 1) := by decide +kernel
theorem dX12_house_1 : decode cX12_house 1 = .ok (.iload_n 1, 1) := by decide +kernel
theorem dX12_house_2 : decode cX12_house 2 = .ok (.invokevirtual 231, 3) := by decide +kernel
theorem dX12_house_5 : decode cX12_house 5 = .ok (.ifCond .eq 38, 3) := by decide +kernel
theorem dX12_house_8 : decode cX12_house 8 = .ok (.iload_n 2, 1) := by decide +kernel
theorem dX12_house_9 : decode cX12_house 9 = .ok (.iconst (-1), 1) := by decide +kernel
theorem dX12_house_10 : decode cX12_house 10 = .ok (.if_icmp .eq 22, 3) := by decide +kernel
theorem dX12_house_13 : decode cX12_house 13 = .ok (.aload_n 0, 1) := by decide +kernel
theorem dX12_house_14 : decode cX12_house 14 = .ok (.iload_n 2, 1) := by decide +kernel
theorem dX12_house_15 : decode cX12_house 15 = .ok (.invokevirtual 231, 3) := by decide +kernel
theorem dX12_house_18 : decode cX12_house 18 = .ok (.ifCond .eq 25, 3) := by decide +kernel
theorem dX12_house_21 : decode cX12_house 21 = .ok (.iload_n 2, 1) := by decide +kernel
theorem dX12_house_22 : decode cX12_house 22 = .ok (.bipush 100, 2) := by decide +kernel
theorem dX12_house_24 : decode cX12_house 24 = .ok (.idiv, 1) := by decide +kernel
theorem dX12_house_25 : decode cX12_house 25 = .ok (.iload_n 1, 1) := by decide +kernel
theorem dX12_house_26 : decode cX12_house 26 = .ok (.bipush 100, 2) := by decide +kernel
theorem dX12_house_28 : decode cX12_house 28 = .ok (.idiv, 1) := by decide +kernel
theorem dX12_house_29 : decode cX12_house 29 = .ok (.if_icmp .eq 14, 3) := by decide +kernel
theorem dX12_house_32 : decode cX12_house 32 = .ok (.iload_n 3, 1) := by decide +kernel
theorem dX12_house_33 : decode cX12_house 33 = .ok (.iconst 0, 1) := by decide +kernel
theorem dX12_house_34 : decode cX12_house 34 = .ok (.sipush 999, 3) := by decide +kernel
theorem dX12_house_37 : decode cX12_house 37 = .ok (.invokestatic 164, 3) := by decide +kernel
theorem dX12_house_40 : decode cX12_house 40 = .ok (.ifCond .ne 5, 3) := by decide +kernel
theorem dX12_house_43 : decode cX12_house 43 = .ok (.iconst (-1), 1) := by decide +kernel
theorem dX12_house_44 : decode cX12_house 44 = .ok (.ireturn, 1) := by decide +kernel
theorem dX12_house_45 : decode cX12_house 45 = .ok (.aload_n 0, 1) := by decide +kernel
theorem dX12_house_46 : decode cX12_house 46 = .ok (.getfield 234, 3) := by decide +kernel
theorem dX12_house_49 : decode cX12_house 49 = .ok (.bipush 60, 2) := by decide +kernel
theorem dX12_house_51 : decode cX12_house 51 = .ok (.if_icmp .ne 6, 3) := by decide +kernel
theorem dX12_house_54 : decode cX12_house 54 = .ok (.bipush (-3), 2) := by decide +kernel
theorem dX12_house_56 : decode cX12_house 56 = .ok (.ireturn, 1) := by decide +kernel
theorem dX12_house_57 : decode cX12_house 57 = .ok (.aload_n 0, 1) := by decide +kernel
theorem dX12_house_58 : decode cX12_house 58 = .ok (.getfield 84, 3) := by decide +kernel
theorem dX12_house_61 : decode cX12_house 61 = .ok (.aload_n 0, 1) := by decide +kernel
theorem dX12_house_62 : decode cX12_house 62 = .ok (.getfield 234, 3) := by decide +kernel
theorem dX12_house_65 : decode cX12_house 65 = .ok (.iload_n 1, 1) := by decide +kernel
theorem dX12_house_66 : decode cX12_house 66 = .ok (.bipush 100, 2) := by decide +kernel
theorem dX12_house_68 : decode cX12_house 68 = .ok (.idiv, 1) := by decide +kernel
theorem dX12_house_69 : decode cX12_house 69 = .ok (.iastore, 1) := by decide +kernel
theorem dX12_house_70 : decode cX12_house 70 = .ok (.aload_n 0, 1) := by decide +kernel
theorem dX12_house_71 : decode cX12_house 71 = .ok (.getfield 87, 3) := by decide +kernel
theorem dX12_house_74 : decode cX12_house 74 = .ok (.aload_n 0, 1) := by decide +kernel
theorem dX12_house_75 : decode cX12_house 75 = .ok (.getfield 234, 3) := by decide +kernel
theorem dX12_house_78 : decode cX12_house 78 = .ok (.iload_n 1, 1) := by decide +kernel
theorem dX12_house_79 : decode cX12_house 79 = .ok (.bipush 100, 2) := by decide +kernel
theorem dX12_house_81 : decode cX12_house 81 = .ok (.irem, 1) := by decide +kernel
theorem dX12_house_82 : decode cX12_house 82 = .ok (.iastore, 1) := by decide +kernel
theorem dX12_house_83 : decode cX12_house 83 = .ok (.aload_n 0, 1) := by decide +kernel
theorem dX12_house_84 : decode cX12_house 84 = .ok (.getfield 90, 3) := by decide +kernel
theorem dX12_house_87 : decode cX12_house 87 = .ok (.aload_n 0, 1) := by decide +kernel
theorem dX12_house_88 : decode cX12_house 88 = .ok (.getfield 234, 3) := by decide +kernel
theorem dX12_house_91 : decode cX12_house 91 = .ok (.iload_n 2, 1) := by decide +kernel
theorem dX12_house_92 : decode cX12_house 92 = .ok (.ifCond .ge 7, 3) := by decide +kernel
theorem dX12_house_95 : decode cX12_house 95 = .ok (.iconst (-1), 1) := by decide +kernel
theorem dX12_house_96 : decode cX12_house 96 = .ok (.goto 7, 3) := by decide +kernel
theorem dX12_house_99 : decode cX12_house 99 = .ok (.iload_n 2, 1) := by decide +kernel
theorem dX12_house_100 : decode cX12_house 100 = .ok (.bipush 100, 2) := by decide +kernel
theorem dX12_house_102 : decode cX12_house 102 = .ok (.idiv, 1) := by decide +kernel
theorem dX12_house_103 : decode cX12_house 103 = .ok (.iastore, 1) := by decide +kernel
theorem dX12_house_104 : decode cX12_house 104 = .ok (.aload_n 0, 1) := by decide +kernel
theorem dX12_house_105 : decode cX12_house 105 = .ok (.getfield 93, 3) := by decide +kernel
theorem dX12_house_108 : decode cX12_house 108 = .ok (.aload_n 0, 1) := by decide +kernel
theorem dX12_house_109 : decode cX12_house 109 = .ok (.getfield 234, 3) := by decide +kernel
theorem dX12_house_112 : decode cX12_house 112 = .ok (.iload_n 2, 1) := by decide +kernel
theorem dX12_house_113 : decode cX12_house 113 = .ok (.ifCond .ge 7, 3) := by decide +kernel
theorem dX12_house_116 : decode cX12_house 116 = .ok (.iconst 0, 1) := by decide +kernel
theorem dX12_house_117 : decode cX12_house 117 = .ok (.goto 7, 3) := by decide +kernel
theorem dX12_house_120 : decode cX12_house 120 = .ok (.iload_n 2, 1) := by decide +kernel
theorem dX12_house_121 : decode cX12_house 121 = .ok (.bipush 100, 2) := by decide +kernel
theorem dX12_house_123 : decode cX12_house 123 = .ok (.irem, 1) := by decide +kernel
theorem dX12_house_124 : decode cX12_house 124 = .ok (.iastore, 1) := by decide +kernel
theorem dX12_house_125 : decode cX12_house 125 = .ok (.aload_n 0, 1) := by decide +kernel
theorem dX12_house_126 : decode cX12_house 126 = .ok (.getfield 96, 3) := by decide +kernel
theorem dX12_house_129 : decode cX12_house 129 = .ok (.aload_n 0, 1) := by decide +kernel
theorem dX12_house_130 : decode cX12_house 130 = .ok (.getfield 234, 3) := by decide +kernel
theorem dX12_house_133 : decode cX12_house 133 = .ok (.iload_n 3, 1) := by decide +kernel
theorem dX12_house_134 : decode cX12_house 134 = .ok (.iastore, 1) := by decide +kernel
theorem dX12_house_135 : decode cX12_house 135 = .ok (.aload_n 0, 1) := by decide +kernel
theorem dX12_house_136 : decode cX12_house 136 = .ok (.dup, 1) := by decide +kernel
theorem dX12_house_137 : decode cX12_house 137 = .ok (.getfield 234, 3) := by decide +kernel
theorem dX12_house_140 : decode cX12_house 140 = .ok (.iconst 1, 1) := by decide +kernel
theorem dX12_house_141 : decode cX12_house 141 = .ok (.iadd, 1) := by decide +kernel
theorem dX12_house_142 : decode cX12_house 142 = .ok (.putfield 234, 3) := by decide +kernel
theorem dX12_house_145 : decode cX12_house 145 = .ok (.aload_n 0, 1) := by decide +kernel
theorem dX12_house_146 : decode cX12_house 146 = .ok (.getfield 234, 3) := by decide +kernel
theorem dX12_house_149 : decode cX12_house 149 = .ok (.iconst 1, 1) := by decide +kernel
theorem dX12_house_150 : decode cX12_house 150 = .ok (.isub, 1) := by decide +kernel
theorem dX12_house_151 : decode cX12_house 151 = .ok (.ireturn, 1) := by decide +kernel
theorem dX12_days_0 : decode cX12_days 0 = .ok (.iload_n 1, 1) := by decide +kernel
theorem dX12_days_1 : decode cX12_days 1 = .ok (.iconst 1, 1) := by decide +kernel
theorem dX12_days_2 : decode cX12_days 2 = .ok (.bipush 100, 2) := by decide +kernel
theorem dX12_days_4 : decode cX12_days 4 = .ok (.invokestatic 164, 3) := by decide +kernel
theorem dX12_days_7 : decode cX12_days 7 = .ok (.ifCond .eq 15, 3) := by decide +kernel
theorem dX12_days_10 : decode cX12_days 10 = .ok (.aload_n 0, 1) := by decide +kernel
theorem dX12_days_11 : decode cX12_days 11 = .ok (.getfield 237, 3) := by decide +kernel
theorem dX12_days_14 : decode cX12_days 14 = .ok (.iload_n 1, 1) := by decide +kernel
theorem dX12_days_15 : decode cX12_days 15 = .ok (.iadd, 1) := by decide +kernel
theorem dX12_days_16 : decode cX12_days 16 = .ok (.sipush 9999, 3) := by decide +kernel
theorem dX12_days_19 : decode cX12_days 19 = .ok (.if_icmp .le 5, 3) := by decide +kernel
theorem dX12_days_22 : decode cX12_days 22 = .ok (.iconst (-1), 1) := by decide +kernel
theorem dX12_days_23 : decode cX12_days 23 = .ok (.ireturn, 1) := by decide +kernel
theorem dX12_days_24 : decode cX12_days 24 = .ok (.aload_n 0, 1) := by decide +kernel
theorem dX12_days_25 : decode cX12_days 25 = .ok (.dup, 1) := by decide +kernel
theorem dX12_days_26 : decode cX12_days 26 = .ok (.getfield 237, 3) := by decide +kernel
theorem dX12_days_29 : decode cX12_days 29 = .ok (.iload_n 1, 1) := by decide +kernel
theorem dX12_days_30 : decode cX12_days 30 = .ok (.iadd, 1) := by decide +kernel
theorem dX12_days_31 : decode cX12_days 31 = .ok (.putfield 237, 3) := by decide +kernel
theorem dX12_days_34 : decode cX12_days 34 = .ok (.aload_n 0, 1) := by decide +kernel
theorem dX12_days_35 : decode cX12_days 35 = .ok (.getfield 237, 3) := by decide +kernel
theorem dX12_days_38 : decode cX12_days 38 = .ok (.ireturn, 1) := by decide +kernel
theorem dX12_feed_0 : decode cX12_feed 0 = .ok (.iload_n 1, 1) := by decide +kernel
theorem dX12_feed_1 : decode cX12_feed 1 = .ok (.iconst 1, 1) := by decide +kernel
theorem dX12_feed_2 : decode cX12_feed 2 = .ok (.iconst 4, 1) := by decide +kernel
theorem dX12_feed_3 : decode cX12_feed 3 = .ok (.invokestatic 164, 3) := by decide +kernel
theorem dX12_feed_6 : decode cX12_feed 6 = .ok (.ifCond .ne 5, 3) := by decide +kernel
theorem dX12_feed_9 : decode cX12_feed 9 = .ok (.iconst (-1), 1) := by decide +kernel
theorem dX12_feed_10 : decode cX12_feed 10 = .ok (.ireturn, 1) := by decide +kernel
theorem dX12_feed_11 : decode cX12_feed 11 = .ok (.aload_n 0, 1) := by decide +kernel
theorem dX12_feed_12 : decode cX12_feed 12 = .ok (.getfield 240, 3) := by decide +kernel
theorem dX12_feed_15 : decode cX12_feed 15 = .ok (.iload_n 1, 1) := by decide +kernel
theorem dX12_feed_16 : decode cX12_feed 16 = .ok (.iadd, 1) := by decide +kernel
theorem dX12_feed_17 : decode cX12_feed 17 = .ok (.sipush 160, 3) := by decide +kernel
theorem dX12_feed_20 : decode cX12_feed 20 = .ok (.if_icmp .le 6, 3) := by decide +kernel
theorem dX12_feed_23 : decode cX12_feed 23 = .ok (.bipush (-3), 2) := by decide +kernel
theorem dX12_feed_25 : decode cX12_feed 25 = .ok (.ireturn, 1) := by decide +kernel
theorem dX12_feed_26 : decode cX12_feed 26 = .ok (.iconst 0, 1) := by decide +kernel
theorem dX12_feed_27 : decode cX12_feed 27 = .ok (.istore_n 3, 1) := by decide +kernel
theorem dX12_feed_28 : decode cX12_feed 28 = .ok (.iload_n 3, 1) := by decide +kernel
theorem dX12_feed_29 : decode cX12_feed 29 = .ok (.iload_n 1, 1) := by decide +kernel
theorem dX12_feed_30 : decode cX12_feed 30 = .ok (.if_icmp .ge 35, 3) := by decide +kernel
theorem dX12_feed_33 : decode cX12_feed 33 = .ok (.aload_n 0, 1) := by decide +kernel
theorem dX12_feed_34 : decode cX12_feed 34 = .ok (.getfield 99, 3) := by decide +kernel
theorem dX12_feed_37 : decode cX12_feed 37 = .ok (.aload_n 0, 1) := by decide +kernel
theorem dX12_feed_38 : decode cX12_feed 38 = .ok (.getfield 240, 3) := by decide +kernel
theorem dX12_feed_41 : decode cX12_feed 41 = .ok (.iload_n 2, 1) := by decide +kernel
theorem dX12_feed_42 : decode cX12_feed 42 = .ok (.bipush 8, 2) := by decide +kernel
theorem dX12_feed_44 : decode cX12_feed 44 = .ok (.iload_n 3, 1) := by decide +kernel
theorem dX12_feed_45 : decode cX12_feed 45 = .ok (.imul, 1) := by decide +kernel
theorem dX12_feed_46 : decode cX12_feed 46 = .ok (.ishr, 1) := by decide +kernel
theorem dX12_feed_47 : decode cX12_feed 47 = .ok (.i2b, 1) := by decide +kernel
theorem dX12_feed_48 : decode cX12_feed 48 = .ok (.bastore, 1) := by decide +kernel
theorem dX12_feed_49 : decode cX12_feed 49 = .ok (.aload_n 0, 1) := by decide +kernel
theorem dX12_feed_50 : decode cX12_feed 50 = .ok (.dup, 1) := by decide +kernel
theorem dX12_feed_51 : decode cX12_feed 51 = .ok (.getfield 240, 3) := by decide +kernel
theorem dX12_feed_54 : decode cX12_feed 54 = .ok (.iconst 1, 1) := by decide +kernel
theorem dX12_feed_55 : decode cX12_feed 55 = .ok (.iadd, 1) := by decide +kernel
theorem dX12_feed_56 : decode cX12_feed 56 = .ok (.putfield 240, 3) := by decide +kernel
theorem dX12_feed_59 : decode cX12_feed 59 = .ok (.iinc 3 1, 3) := by decide +kernel
theorem dX12_feed_62 : decode cX12_feed 62 = .ok (.goto (-34), 3) := by decide +kernel
theorem dX12_feed_65 : decode cX12_feed 65 = .ok (.aload_n 0, 1) := by decide +kernel
theorem dX12_feed_66 : decode cX12_feed 66 = .ok (.getfield 240, 3) := by decide +kernel
theorem dX12_feed_69 : decode cX12_feed 69 = .ok (.ireturn, 1) := by decide +kernel
theorem dX12_isDigit_0 : decode cX12_isDigit 0 = .ok (.iload_n 0, 1) := by decide +kernel
theorem dX12_isDigit_1 : decode cX12_isDigit 1 = .ok (.bipush 48, 2) := by decide +kernel
theorem dX12_isDigit_3 : decode cX12_isDigit 3 = .ok (.if_icmp .lt 13, 3) := by decide +kernel
theorem dX12_isDigit_6 : decode cX12_isDigit 6 = .ok (.iload_n 0, 1) := by decide +kernel
theorem dX12_isDigit_7 : decode cX12_isDigit 7 = .ok (.bipush 57, 2) := by decide +kernel
theorem dX12_isDigit_9 : decode cX12_isDigit 9 = .ok (.if_icmp .gt 7, 3) := by decide +kernel
theorem dX12_isDigit_12 : decode cX12_isDigit 12 = .ok (.iconst 1, 1) := by decide +kernel
theorem dX12_isDigit_13 : decode cX12_isDigit 13 = .ok (.goto 4, 3) := by decide +kernel
theorem dX12_isDigit_16 : decode cX12_isDigit 16 = .ok (.iconst 0, 1) := by decide +kernel
theorem dX12_isDigit_17 : decode cX12_isDigit 17 = .ok (.ireturn, 1) := by decide +kernel
theorem dX12_isName_0 : decode cX12_isName 0 = .ok (.iload_n 0, 1) := by decide +kernel
theorem dX12_isName_1 : decode cX12_isName 1 = .ok (.bipush 115, 2) := by decide +kernel
theorem dX12_isName_3 : decode cX12_isName 3 = .ok (.if_icmp .ne 5, 3) := by decide +kernel
theorem dX12_isName_6 : decode cX12_isName 6 = .ok (.iconst 1, 1) := by decide +kernel
theorem dX12_isName_7 : decode cX12_isName 7 = .ok (.ireturn, 1) := by decide +kernel
theorem dX12_isName_8 : decode cX12_isName 8 = .ok (.iload_n 1, 1) := by decide +kernel
theorem dX12_isName_9 : decode cX12_isName 9 = .ok (.ifCond .ne 41, 3) := by decide +kernel
theorem dX12_isName_12 : decode cX12_isName 12 = .ok (.iload_n 0, 1) := by decide +kernel
theorem dX12_isName_13 : decode cX12_isName 13 = .ok (.bipush 102, 2) := by decide +kernel
theorem dX12_isName_15 : decode cX12_isName 15 = .ok (.if_icmp .eq 27, 3) := by decide +kernel
theorem dX12_isName_18 : decode cX12_isName 18 = .ok (.iload_n 0, 1) := by decide +kernel
theorem dX12_isName_19 : decode cX12_isName 19 = .ok (.bipush 103, 2) := by decide +kernel
theorem dX12_isName_21 : decode cX12_isName 21 = .ok (.if_icmp .eq 21, 3) := by decide +kernel
theorem dX12_isName_24 : decode cX12_isName 24 = .ok (.iload_n 0, 1) := by decide +kernel
theorem dX12_isName_25 : decode cX12_isName 25 = .ok (.bipush 118, 2) := by decide +kernel
theorem dX12_isName_27 : decode cX12_isName 27 = .ok (.if_icmp .eq 15, 3) := by decide +kernel
theorem dX12_isName_30 : decode cX12_isName 30 = .ok (.iload_n 0, 1) := by decide +kernel
theorem dX12_isName_31 : decode cX12_isName 31 = .ok (.bipush 99, 2) := by decide +kernel
theorem dX12_isName_33 : decode cX12_isName 33 = .ok (.if_icmp .eq 9, 3) := by decide +kernel
theorem dX12_isName_36 : decode cX12_isName 36 = .ok (.iload_n 0, 1) := by decide +kernel
theorem dX12_isName_37 : decode cX12_isName 37 = .ok (.bipush 121, 2) := by decide +kernel
theorem dX12_isName_39 : decode cX12_isName 39 = .ok (.if_icmp .ne 7, 3) := by decide +kernel
theorem dX12_isName_42 : decode cX12_isName 42 = .ok (.iconst 1, 1) := by decide +kernel
theorem dX12_isName_43 : decode cX12_isName 43 = .ok (.goto 36, 3) := by decide +kernel
theorem dX12_isName_46 : decode cX12_isName 46 = .ok (.iconst 0, 1) := by decide +kernel
theorem dX12_isName_47 : decode cX12_isName 47 = .ok (.goto 32, 3) := by decide +kernel
theorem dX12_isName_50 : decode cX12_isName 50 = .ok (.iload_n 0, 1) := by decide +kernel
theorem dX12_isName_51 : decode cX12_isName 51 = .ok (.bipush 100, 2) := by decide +kernel
theorem dX12_isName_53 : decode cX12_isName 53 = .ok (.if_icmp .eq 21, 3) := by decide +kernel
theorem dX12_isName_56 : decode cX12_isName 56 = .ok (.iload_n 0, 1) := by decide +kernel
theorem dX12_isName_57 : decode cX12_isName 57 = .ok (.bipush 108, 2) := by decide +kernel
theorem dX12_isName_59 : decode cX12_isName 59 = .ok (.if_icmp .eq 15, 3) := by decide +kernel
theorem dX12_isName_62 : decode cX12_isName 62 = .ok (.iload_n 0, 1) := by decide +kernel
theorem dX12_isName_63 : decode cX12_isName 63 = .ok (.bipush 119, 2) := by decide +kernel
theorem dX12_isName_65 : decode cX12_isName 65 = .ok (.if_icmp .eq 9, 3) := by decide +kernel
theorem dX12_isName_68 : decode cX12_isName 68 = .ok (.iload_n 0, 1) := by decide +kernel
theorem dX12_isName_69 : decode cX12_isName 69 = .ok (.bipush 110, 2) := by decide +kernel
theorem dX12_isName_71 : decode cX12_isName 71 = .ok (.if_icmp .ne 7, 3) := by decide +kernel
theorem dX12_isName_74 : decode cX12_isName 74 = .ok (.iconst 1, 1) := by decide +kernel
theorem dX12_isName_75 : decode cX12_isName 75 = .ok (.goto 4, 3) := by decide +kernel
theorem dX12_isName_78 : decode cX12_isName 78 = .ok (.iconst 0, 1) := by decide +kernel
theorem dX12_isName_79 : decode cX12_isName 79 = .ok (.ireturn, 1) := by decide +kernel
theorem dX12_signOf_0 : decode cX12_signOf 0 = .ok (.iload_n 0, 1) := by decide +kernel
theorem dX12_signOf_1 : decode cX12_signOf 1 = .ok (.tableswitch 143 37 62 #[140, 143, 143, 143, 143, 134, 128, 143, 131, 143, 137, 143, 143, 143, 143, 143, 143, 143, 143, 143, 143, 143, 143, 119, 122, 125], 119) := by decide +kernel
theorem dX12_signOf_120 : decode cX12_signOf 120 = .ok (.bipush 40, 2) := by decide +kernel
theorem dX12_signOf_122 : decode cX12_signOf 122 = .ok (.ireturn, 1) := by decide +kernel
theorem dX12_signOf_123 : decode cX12_signOf 123 = .ok (.bipush 41, 2) := by decide +kernel
theorem dX12_signOf_125 : decode cX12_signOf 125 = .ok (.ireturn, 1) := by decide +kernel
theorem dX12_signOf_126 : decode cX12_signOf 126 = .ok (.bipush 42, 2) := by decide +kernel
theorem dX12_signOf_128 : decode cX12_signOf 128 = .ok (.ireturn, 1) := by decide +kernel
theorem dX12_signOf_129 : decode cX12_signOf 129 = .ok (.bipush 50, 2) := by decide +kernel
theorem dX12_signOf_131 : decode cX12_signOf 131 = .ok (.ireturn, 1) := by decide +kernel
theorem dX12_signOf_132 : decode cX12_signOf 132 = .ok (.bipush 51, 2) := by decide +kernel
theorem dX12_signOf_134 : decode cX12_signOf 134 = .ok (.ireturn, 1) := by decide +kernel
theorem dX12_signOf_135 : decode cX12_signOf 135 = .ok (.bipush 60, 2) := by decide +kernel
theorem dX12_signOf_137 : decode cX12_signOf 137 = .ok (.ireturn, 1) := by decide +kernel
theorem dX12_signOf_138 : decode cX12_signOf 138 = .ok (.bipush 61, 2) := by decide +kernel
theorem dX12_signOf_140 : decode cX12_signOf 140 = .ok (.ireturn, 1) := by decide +kernel
theorem dX12_signOf_141 : decode cX12_signOf 141 = .ok (.bipush 62, 2) := by decide +kernel
theorem dX12_signOf_143 : decode cX12_signOf 143 = .ok (.ireturn, 1) := by decide +kernel
theorem dX12_signOf_144 : decode cX12_signOf 144 = .ok (.iconst 0, 1) := by decide +kernel
theorem dX12_signOf_145 : decode cX12_signOf 145 = .ok (.ireturn, 1) := by decide +kernel
theorem dX12_tight_0 : decode cX12_tight 0 = .ok (.iload_n 0, 1) := by decide +kernel
theorem dX12_tight_1 : decode cX12_tight 1 = .ok (.bipush 10, 2) := by decide +kernel
theorem dX12_tight_3 : decode cX12_tight 3 = .ok (.idiv, 1) := by decide +kernel
theorem dX12_tight_4 : decode cX12_tight 4 = .ok (.ireturn, 1) := by decide +kernel
theorem dX12_adds_0 : decode cX12_adds 0 = .ok (.aload_n 0, 1) := by decide +kernel
theorem dX12_adds_1 : decode cX12_adds 1 = .ok (.getfield 115, 3) := by decide +kernel
theorem dX12_adds_4 : decode cX12_adds 4 = .ok (.sipush 170, 3) := by decide +kernel
theorem dX12_adds_7 : decode cX12_adds 7 = .ok (.iload_n 1, 1) := by decide +kernel
theorem dX12_adds_8 : decode cX12_adds 8 = .ok (.imul, 1) := by decide +kernel
theorem dX12_adds_9 : decode cX12_adds 9 = .ok (.aload_n 0, 1) := by decide +kernel
theorem dX12_adds_10 : decode cX12_adds 10 = .ok (.getfield 243, 3) := by decide +kernel
theorem dX12_adds_13 : decode cX12_adds 13 = .ok (.iadd, 1) := by decide +kernel
theorem dX12_adds_14 : decode cX12_adds 14 = .ok (.iload_n 2, 1) := by decide +kernel
theorem dX12_adds_15 : decode cX12_adds 15 = .ok (.iastore, 1) := by decide +kernel
theorem dX12_adds_16 : decode cX12_adds 16 = .ok (.aload_n 0, 1) := by decide +kernel
theorem dX12_adds_17 : decode cX12_adds 17 = .ok (.getfield 118, 3) := by decide +kernel
theorem dX12_adds_20 : decode cX12_adds 20 = .ok (.sipush 170, 3) := by decide +kernel
theorem dX12_adds_23 : decode cX12_adds 23 = .ok (.iload_n 1, 1) := by decide +kernel
theorem dX12_adds_24 : decode cX12_adds 24 = .ok (.imul, 1) := by decide +kernel
theorem dX12_adds_25 : decode cX12_adds 25 = .ok (.aload_n 0, 1) := by decide +kernel
theorem dX12_adds_26 : decode cX12_adds 26 = .ok (.getfield 243, 3) := by decide +kernel
theorem dX12_adds_29 : decode cX12_adds 29 = .ok (.iadd, 1) := by decide +kernel
theorem dX12_adds_30 : decode cX12_adds 30 = .ok (.iload_n 3, 1) := by decide +kernel
theorem dX12_adds_31 : decode cX12_adds 31 = .ok (.iastore, 1) := by decide +kernel
theorem dX12_adds_32 : decode cX12_adds 32 = .ok (.aload_n 0, 1) := by decide +kernel
theorem dX12_adds_33 : decode cX12_adds 33 = .ok (.dup, 1) := by decide +kernel
theorem dX12_adds_34 : decode cX12_adds 34 = .ok (.getfield 243, 3) := by decide +kernel
theorem dX12_adds_37 : decode cX12_adds 37 = .ok (.iconst 1, 1) := by decide +kernel
theorem dX12_adds_38 : decode cX12_adds 38 = .ok (.iadd, 1) := by decide +kernel
theorem dX12_adds_39 : decode cX12_adds 39 = .ok (.putfield 243, 3) := by decide +kernel
theorem dX12_adds_42 : decode cX12_adds 42 = .ok (.return_, 1) := by decide +kernel
theorem dX12_done_0 : decode cX12_done 0 = .ok (.aload_n 0, 1) := by decide +kernel
theorem dX12_done_1 : decode cX12_done 1 = .ok (.getfield 246, 3) := by decide +kernel
theorem dX12_done_4 : decode cX12_done 4 = .ok (.ifCond .le 64, 3) := by decide +kernel
theorem dX12_done_7 : decode cX12_done 7 = .ok (.aload_n 0, 1) := by decide +kernel
theorem dX12_done_8 : decode cX12_done 8 = .ok (.getfield 121, 3) := by decide +kernel
theorem dX12_done_11 : decode cX12_done 11 = .ok (.aload_n 0, 1) := by decide +kernel
theorem dX12_done_12 : decode cX12_done 12 = .ok (.getfield 246, 3) := by decide +kernel
theorem dX12_done_15 : decode cX12_done 15 = .ok (.iconst 1, 1) := by decide +kernel
theorem dX12_done_16 : decode cX12_done 16 = .ok (.isub, 1) := by decide +kernel
theorem dX12_done_17 : decode cX12_done 17 = .ok (.iaload, 1) := by decide +kernel
theorem dX12_done_18 : decode cX12_done 18 = .ok (.iconst 4, 1) := by decide +kernel
theorem dX12_done_19 : decode cX12_done 19 = .ok (.if_icmp .eq 49, 3) := by decide +kernel
theorem dX12_done_22 : decode cX12_done 22 = .ok (.aload_n 0, 1) := by decide +kernel
theorem dX12_done_23 : decode cX12_done 23 = .ok (.getfield 121, 3) := by decide +kernel
theorem dX12_done_26 : decode cX12_done 26 = .ok (.aload_n 0, 1) := by decide +kernel
theorem dX12_done_27 : decode cX12_done 27 = .ok (.getfield 246, 3) := by decide +kernel
theorem dX12_done_30 : decode cX12_done 30 = .ok (.iconst 1, 1) := by decide +kernel
theorem dX12_done_31 : decode cX12_done 31 = .ok (.isub, 1) := by decide +kernel
theorem dX12_done_32 : decode cX12_done 32 = .ok (.iaload, 1) := by decide +kernel
theorem dX12_done_33 : decode cX12_done 33 = .ok (.invokestatic 249, 3) := by decide +kernel
theorem dX12_done_36 : decode cX12_done 36 = .ok (.iload_n 2, 1) := by decide +kernel
theorem dX12_done_37 : decode cX12_done 37 = .ok (.if_icmp .lt 31, 3) := by decide +kernel
theorem dX12_done_40 : decode cX12_done 40 = .ok (.aload_n 0, 1) := by decide +kernel
theorem dX12_done_41 : decode cX12_done 41 = .ok (.dup, 1) := by decide +kernel
theorem dX12_done_42 : decode cX12_done 42 = .ok (.getfield 246, 3) := by decide +kernel
theorem dX12_done_45 : decode cX12_done 45 = .ok (.iconst 1, 1) := by decide +kernel
theorem dX12_done_46 : decode cX12_done 46 = .ok (.isub, 1) := by decide +kernel
theorem dX12_done_47 : decode cX12_done 47 = .ok (.putfield 246, 3) := by decide +kernel
theorem dX12_done_50 : decode cX12_done 50 = .ok (.aload_n 0, 1) := by decide +kernel
theorem dX12_done_51 : decode cX12_done 51 = .ok (.iload_n 1, 1) := by decide +kernel
theorem dX12_done_52 : decode cX12_done 52 = .ok (.aload_n 0, 1) := by decide +kernel
theorem dX12_done_53 : decode cX12_done 53 = .ok (.getfield 121, 3) := by decide +kernel
theorem dX12_done_56 : decode cX12_done 56 = .ok (.aload_n 0, 1) := by decide +kernel
theorem dX12_done_57 : decode cX12_done 57 = .ok (.getfield 246, 3) := by decide +kernel
theorem dX12_done_60 : decode cX12_done 60 = .ok (.iaload, 1) := by decide +kernel
theorem dX12_done_61 : decode cX12_done 61 = .ok (.iconst 0, 1) := by decide +kernel
theorem dX12_done_62 : decode cX12_done 62 = .ok (.invokevirtual 252, 3) := by decide +kernel
theorem dX12_done_65 : decode cX12_done 65 = .ok (.goto (-65), 3) := by decide +kernel
theorem dX12_done_68 : decode cX12_done 68 = .ok (.return_, 1) := by decide +kernel
theorem dX12_opened_0 : decode cX12_opened 0 = .ok (.iconst 0, 1) := by decide +kernel
theorem dX12_opened_1 : decode cX12_opened 1 = .ok (.istore_n 1, 1) := by decide +kernel
theorem dX12_opened_2 : decode cX12_opened 2 = .ok (.iconst 0, 1) := by decide +kernel
theorem dX12_opened_3 : decode cX12_opened 3 = .ok (.istore_n 2, 1) := by decide +kernel
theorem dX12_opened_4 : decode cX12_opened 4 = .ok (.iload_n 2, 1) := by decide +kernel
theorem dX12_opened_5 : decode cX12_opened 5 = .ok (.aload_n 0, 1) := by decide +kernel
theorem dX12_opened_6 : decode cX12_opened 6 = .ok (.getfield 246, 3) := by decide +kernel
theorem dX12_opened_9 : decode cX12_opened 9 = .ok (.if_icmp .ge 27, 3) := by decide +kernel
theorem dX12_opened_12 : decode cX12_opened 12 = .ok (.iload_n 1, 1) := by decide +kernel
theorem dX12_opened_13 : decode cX12_opened 13 = .ok (.aload_n 0, 1) := by decide +kernel
theorem dX12_opened_14 : decode cX12_opened 14 = .ok (.getfield 121, 3) := by decide +kernel
theorem dX12_opened_17 : decode cX12_opened 17 = .ok (.iload_n 2, 1) := by decide +kernel
theorem dX12_opened_18 : decode cX12_opened 18 = .ok (.iaload, 1) := by decide +kernel
theorem dX12_opened_19 : decode cX12_opened 19 = .ok (.iconst 4, 1) := by decide +kernel
theorem dX12_opened_20 : decode cX12_opened 20 = .ok (.if_icmp .ne 7, 3) := by decide +kernel
theorem dX12_opened_23 : decode cX12_opened 23 = .ok (.iconst 1, 1) := by decide +kernel
theorem dX12_opened_24 : decode cX12_opened 24 = .ok (.goto 4, 3) := by decide +kernel
end
section
theorem dX12_opened_27 : decode cX12_opened 27 = .ok (.iconst 0, 1) := by decide +kernel
theorem dX12_opened_28 : decode cX12_opened 28 = .ok (.iadd, 1) := by decide +kernel
theorem dX12_opened_29 : decode cX12_opened 29 = .ok (.istore_n 1, 1) := by decide +kernel
theorem dX12_opened_30 : decode cX12_opened 30 = .ok (.iinc 2 1, 3) := by decide +kernel
theorem dX12_opened_33 : decode cX12_opened 33 = .ok (.goto (-29), 3) := by decide +kernel
theorem dX12_opened_36 : decode cX12_opened 36 = .ok (.iload_n 1, 1) := by decide +kernel
theorem dX12_opened_37 : decode cX12_opened 37 = .ok (.ireturn, 1) := by decide +kernel
theorem dX12_operand_0 : decode cX12_operand 0 = .ok (.aload_n 0, 1) := by decide +kernel
theorem dX12_operand_1 : decode cX12_operand 1 = .ok (.getfield 99, 3) := by decide +kernel
theorem dX12_operand_4 : decode cX12_operand 4 = .ok (.aload_n 0, 1) := by decide +kernel
theorem dX12_operand_5 : decode cX12_operand 5 = .ok (.getfield 256, 3) := by decide +kernel
theorem dX12_operand_8 : decode cX12_operand 8 = .ok (.baload, 1) := by decide +kernel
theorem dX12_operand_9 : decode cX12_operand 9 = .ok (.istore_n 3, 1) := by decide +kernel
theorem dX12_operand_10 : decode cX12_operand 10 = .ok (.iload_n 3, 1) := by decide +kernel
theorem dX12_operand_11 : decode cX12_operand 11 = .ok (.bipush 40, 2) := by decide +kernel
theorem dX12_operand_13 : decode cX12_operand 13 = .ok (.if_icmp .ne 46, 3) := by decide +kernel
theorem dX12_operand_16 : decode cX12_operand 16 = .ok (.aload_n 0, 1) := by decide +kernel
theorem dX12_operand_17 : decode cX12_operand 17 = .ok (.invokevirtual 259, 3) := by decide +kernel
theorem dX12_operand_20 : decode cX12_operand 20 = .ok (.bipush 10, 2) := by decide +kernel
theorem dX12_operand_22 : decode cX12_operand 22 = .ok (.if_icmp .ne 5, 3) := by decide +kernel
theorem dX12_operand_25 : decode cX12_operand 25 = .ok (.iconst 0, 1) := by decide +kernel
theorem dX12_operand_26 : decode cX12_operand 26 = .ok (.ireturn, 1) := by decide +kernel
theorem dX12_operand_27 : decode cX12_operand 27 = .ok (.aload_n 0, 1) := by decide +kernel
theorem dX12_operand_28 : decode cX12_operand 28 = .ok (.getfield 121, 3) := by decide +kernel
theorem dX12_operand_31 : decode cX12_operand 31 = .ok (.aload_n 0, 1) := by decide +kernel
theorem dX12_operand_32 : decode cX12_operand 32 = .ok (.getfield 246, 3) := by decide +kernel
theorem dX12_operand_35 : decode cX12_operand 35 = .ok (.iconst 4, 1) := by decide +kernel
theorem dX12_operand_36 : decode cX12_operand 36 = .ok (.iastore, 1) := by decide +kernel
theorem dX12_operand_37 : decode cX12_operand 37 = .ok (.aload_n 0, 1) := by decide +kernel
theorem dX12_operand_38 : decode cX12_operand 38 = .ok (.dup, 1) := by decide +kernel
theorem dX12_operand_39 : decode cX12_operand 39 = .ok (.getfield 246, 3) := by decide +kernel
theorem dX12_operand_42 : decode cX12_operand 42 = .ok (.iconst 1, 1) := by decide +kernel
theorem dX12_operand_43 : decode cX12_operand 43 = .ok (.iadd, 1) := by decide +kernel
theorem dX12_operand_44 : decode cX12_operand 44 = .ok (.putfield 246, 3) := by decide +kernel
theorem dX12_operand_47 : decode cX12_operand 47 = .ok (.aload_n 0, 1) := by decide +kernel
theorem dX12_operand_48 : decode cX12_operand 48 = .ok (.dup, 1) := by decide +kernel
theorem dX12_operand_49 : decode cX12_operand 49 = .ok (.getfield 256, 3) := by decide +kernel
theorem dX12_operand_52 : decode cX12_operand 52 = .ok (.iconst 1, 1) := by decide +kernel
theorem dX12_operand_53 : decode cX12_operand 53 = .ok (.iadd, 1) := by decide +kernel
theorem dX12_operand_54 : decode cX12_operand 54 = .ok (.putfield 256, 3) := by decide +kernel
theorem dX12_operand_57 : decode cX12_operand 57 = .ok (.iconst 1, 1) := by decide +kernel
theorem dX12_operand_58 : decode cX12_operand 58 = .ok (.ireturn, 1) := by decide +kernel
theorem dX12_operand_59 : decode cX12_operand 59 = .ok (.iload_n 3, 1) := by decide +kernel
theorem dX12_operand_60 : decode cX12_operand 60 = .ok (.iload_n 2, 1) := by decide +kernel
theorem dX12_operand_61 : decode cX12_operand 61 = .ok (.invokestatic 263, 3) := by decide +kernel
theorem dX12_operand_64 : decode cX12_operand 64 = .ok (.ifCond .eq 25, 3) := by decide +kernel
theorem dX12_operand_67 : decode cX12_operand 67 = .ok (.aload_n 0, 1) := by decide +kernel
theorem dX12_operand_68 : decode cX12_operand 68 = .ok (.iload_n 1, 1) := by decide +kernel
theorem dX12_operand_69 : decode cX12_operand 69 = .ok (.bipush 100, 2) := by decide +kernel
theorem dX12_operand_71 : decode cX12_operand 71 = .ok (.iload_n 3, 1) := by decide +kernel
theorem dX12_operand_72 : decode cX12_operand 72 = .ok (.iadd, 1) := by decide +kernel
theorem dX12_operand_73 : decode cX12_operand 73 = .ok (.iconst 0, 1) := by decide +kernel
theorem dX12_operand_74 : decode cX12_operand 74 = .ok (.invokevirtual 252, 3) := by decide +kernel
theorem dX12_operand_77 : decode cX12_operand 77 = .ok (.aload_n 0, 1) := by decide +kernel
theorem dX12_operand_78 : decode cX12_operand 78 = .ok (.dup, 1) := by decide +kernel
theorem dX12_operand_79 : decode cX12_operand 79 = .ok (.getfield 256, 3) := by decide +kernel
theorem dX12_operand_82 : decode cX12_operand 82 = .ok (.iconst 1, 1) := by decide +kernel
theorem dX12_operand_83 : decode cX12_operand 83 = .ok (.iadd, 1) := by decide +kernel
theorem dX12_operand_84 : decode cX12_operand 84 = .ok (.putfield 256, 3) := by decide +kernel
theorem dX12_operand_87 : decode cX12_operand 87 = .ok (.iconst 1, 1) := by decide +kernel
theorem dX12_operand_88 : decode cX12_operand 88 = .ok (.ireturn, 1) := by decide +kernel
theorem dX12_operand_89 : decode cX12_operand 89 = .ok (.iconst 0, 1) := by decide +kernel
theorem dX12_operand_90 : decode cX12_operand 90 = .ok (.istore 4, 2) := by decide +kernel
theorem dX12_operand_92 : decode cX12_operand 92 = .ok (.iconst 0, 1) := by decide +kernel
theorem dX12_operand_93 : decode cX12_operand 93 = .ok (.istore 5, 2) := by decide +kernel
theorem dX12_operand_95 : decode cX12_operand 95 = .ok (.aload_n 0, 1) := by decide +kernel
theorem dX12_operand_96 : decode cX12_operand 96 = .ok (.getfield 256, 3) := by decide +kernel
theorem dX12_operand_99 : decode cX12_operand 99 = .ok (.aload_n 0, 1) := by decide +kernel
theorem dX12_operand_100 : decode cX12_operand 100 = .ok (.getfield 240, 3) := by decide +kernel
theorem dX12_operand_103 : decode cX12_operand 103 = .ok (.if_icmp .ge 61, 3) := by decide +kernel
theorem dX12_operand_106 : decode cX12_operand 106 = .ok (.aload_n 0, 1) := by decide +kernel
theorem dX12_operand_107 : decode cX12_operand 107 = .ok (.getfield 99, 3) := by decide +kernel
theorem dX12_operand_110 : decode cX12_operand 110 = .ok (.aload_n 0, 1) := by decide +kernel
theorem dX12_operand_111 : decode cX12_operand 111 = .ok (.getfield 256, 3) := by decide +kernel
theorem dX12_operand_114 : decode cX12_operand 114 = .ok (.baload, 1) := by decide +kernel
theorem dX12_operand_115 : decode cX12_operand 115 = .ok (.invokestatic 266, 3) := by decide +kernel
theorem dX12_operand_118 : decode cX12_operand 118 = .ok (.ifCond .eq 46, 3) := by decide +kernel
theorem dX12_operand_121 : decode cX12_operand 121 = .ok (.iload 4, 2) := by decide +kernel
theorem dX12_operand_123 : decode cX12_operand 123 = .ok (.bipush 6, 2) := by decide +kernel
theorem dX12_operand_125 : decode cX12_operand 125 = .ok (.if_icmp .ge 39, 3) := by decide +kernel
theorem dX12_operand_128 : decode cX12_operand 128 = .ok (.bipush 10, 2) := by decide +kernel
theorem dX12_operand_130 : decode cX12_operand 130 = .ok (.iload 5, 2) := by decide +kernel
theorem dX12_operand_132 : decode cX12_operand 132 = .ok (.imul, 1) := by decide +kernel
theorem dX12_operand_133 : decode cX12_operand 133 = .ok (.aload_n 0, 1) := by decide +kernel
theorem dX12_operand_134 : decode cX12_operand 134 = .ok (.getfield 99, 3) := by decide +kernel
theorem dX12_operand_137 : decode cX12_operand 137 = .ok (.aload_n 0, 1) := by decide +kernel
theorem dX12_operand_138 : decode cX12_operand 138 = .ok (.getfield 256, 3) := by decide +kernel
theorem dX12_operand_141 : decode cX12_operand 141 = .ok (.baload, 1) := by decide +kernel
theorem dX12_operand_142 : decode cX12_operand 142 = .ok (.iadd, 1) := by decide +kernel
theorem dX12_operand_143 : decode cX12_operand 143 = .ok (.bipush 48, 2) := by decide +kernel
theorem dX12_operand_145 : decode cX12_operand 145 = .ok (.isub, 1) := by decide +kernel
theorem dX12_operand_146 : decode cX12_operand 146 = .ok (.istore 5, 2) := by decide +kernel
theorem dX12_operand_148 : decode cX12_operand 148 = .ok (.iinc 4 1, 3) := by decide +kernel
theorem dX12_operand_151 : decode cX12_operand 151 = .ok (.aload_n 0, 1) := by decide +kernel
theorem dX12_operand_152 : decode cX12_operand 152 = .ok (.dup, 1) := by decide +kernel
theorem dX12_operand_153 : decode cX12_operand 153 = .ok (.getfield 256, 3) := by decide +kernel
theorem dX12_operand_156 : decode cX12_operand 156 = .ok (.iconst 1, 1) := by decide +kernel
theorem dX12_operand_157 : decode cX12_operand 157 = .ok (.iadd, 1) := by decide +kernel
theorem dX12_operand_158 : decode cX12_operand 158 = .ok (.putfield 256, 3) := by decide +kernel
theorem dX12_operand_161 : decode cX12_operand 161 = .ok (.goto (-66), 3) := by decide +kernel
theorem dX12_operand_164 : decode cX12_operand 164 = .ok (.iload 4, 2) := by decide +kernel
theorem dX12_operand_166 : decode cX12_operand 166 = .ok (.ifCond .eq 36, 3) := by decide +kernel
theorem dX12_operand_169 : decode cX12_operand 169 = .ok (.iload 4, 2) := by decide +kernel
theorem dX12_operand_171 : decode cX12_operand 171 = .ok (.bipush 6, 2) := by decide +kernel
theorem dX12_operand_173 : decode cX12_operand 173 = .ok (.if_icmp .ne 31, 3) := by decide +kernel
theorem dX12_operand_176 : decode cX12_operand 176 = .ok (.aload_n 0, 1) := by decide +kernel
theorem dX12_operand_177 : decode cX12_operand 177 = .ok (.getfield 256, 3) := by decide +kernel
theorem dX12_operand_180 : decode cX12_operand 180 = .ok (.aload_n 0, 1) := by decide +kernel
theorem dX12_operand_181 : decode cX12_operand 181 = .ok (.getfield 240, 3) := by decide +kernel
theorem dX12_operand_184 : decode cX12_operand 184 = .ok (.if_icmp .ge 20, 3) := by decide +kernel
theorem dX12_operand_187 : decode cX12_operand 187 = .ok (.aload_n 0, 1) := by decide +kernel
theorem dX12_operand_188 : decode cX12_operand 188 = .ok (.getfield 99, 3) := by decide +kernel
theorem dX12_operand_191 : decode cX12_operand 191 = .ok (.aload_n 0, 1) := by decide +kernel
theorem dX12_operand_192 : decode cX12_operand 192 = .ok (.getfield 256, 3) := by decide +kernel
theorem dX12_operand_195 : decode cX12_operand 195 = .ok (.baload, 1) := by decide +kernel
theorem dX12_operand_196 : decode cX12_operand 196 = .ok (.invokestatic 266, 3) := by decide +kernel
theorem dX12_operand_199 : decode cX12_operand 199 = .ok (.ifCond .eq 5, 3) := by decide +kernel
theorem dX12_operand_202 : decode cX12_operand 202 = .ok (.iconst 0, 1) := by decide +kernel
theorem dX12_operand_203 : decode cX12_operand 203 = .ok (.ireturn, 1) := by decide +kernel
theorem dX12_operand_204 : decode cX12_operand 204 = .ok (.aload_n 0, 1) := by decide +kernel
theorem dX12_operand_205 : decode cX12_operand 205 = .ok (.iload_n 1, 1) := by decide +kernel
theorem dX12_operand_206 : decode cX12_operand 206 = .ok (.iconst 1, 1) := by decide +kernel
theorem dX12_operand_207 : decode cX12_operand 207 = .ok (.iload 5, 2) := by decide +kernel
theorem dX12_operand_209 : decode cX12_operand 209 = .ok (.invokevirtual 252, 3) := by decide +kernel
theorem dX12_operand_212 : decode cX12_operand 212 = .ok (.iconst 1, 1) := by decide +kernel
theorem dX12_operand_213 : decode cX12_operand 213 = .ok (.ireturn, 1) := by decide +kernel
theorem dX12_parse_0 : decode cX12_parse 0 = .ok (.aload_n 0, 1) := by decide +kernel
theorem dX12_parse_1 : decode cX12_parse 1 = .ok (.iconst 0, 1) := by decide +kernel
theorem dX12_parse_2 : decode cX12_parse 2 = .ok (.putfield 256, 3) := by decide +kernel
theorem dX12_parse_5 : decode cX12_parse 5 = .ok (.aload_n 0, 1) := by decide +kernel
theorem dX12_parse_6 : decode cX12_parse 6 = .ok (.iconst 0, 1) := by decide +kernel
theorem dX12_parse_7 : decode cX12_parse 7 = .ok (.putfield 246, 3) := by decide +kernel
theorem dX12_parse_10 : decode cX12_parse 10 = .ok (.aload_n 0, 1) := by decide +kernel
theorem dX12_parse_11 : decode cX12_parse 11 = .ok (.iconst 0, 1) := by decide +kernel
theorem dX12_parse_12 : decode cX12_parse 12 = .ok (.putfield 243, 3) := by decide +kernel
theorem dX12_parse_15 : decode cX12_parse 15 = .ok (.iconst 1, 1) := by decide +kernel
theorem dX12_parse_16 : decode cX12_parse 16 = .ok (.istore_n 3, 1) := by decide +kernel
theorem dX12_parse_17 : decode cX12_parse 17 = .ok (.iconst 0, 1) := by decide +kernel
theorem dX12_parse_18 : decode cX12_parse 18 = .ok (.istore 4, 2) := by decide +kernel
theorem dX12_parse_20 : decode cX12_parse 20 = .ok (.iconst 0, 1) := by decide +kernel
theorem dX12_parse_21 : decode cX12_parse 21 = .ok (.istore 5, 2) := by decide +kernel
theorem dX12_parse_23 : decode cX12_parse 23 = .ok (.aload_n 0, 1) := by decide +kernel
theorem dX12_parse_24 : decode cX12_parse 24 = .ok (.getfield 256, 3) := by decide +kernel
theorem dX12_parse_27 : decode cX12_parse 27 = .ok (.aload_n 0, 1) := by decide +kernel
theorem dX12_parse_28 : decode cX12_parse 28 = .ok (.getfield 240, 3) := by decide +kernel
theorem dX12_parse_31 : decode cX12_parse 31 = .ok (.if_icmp .ge 314, 3) := by decide +kernel
theorem dX12_parse_34 : decode cX12_parse 34 = .ok (.aload_n 0, 1) := by decide +kernel
theorem dX12_parse_35 : decode cX12_parse 35 = .ok (.getfield 99, 3) := by decide +kernel
theorem dX12_parse_38 : decode cX12_parse 38 = .ok (.aload_n 0, 1) := by decide +kernel
theorem dX12_parse_39 : decode cX12_parse 39 = .ok (.getfield 256, 3) := by decide +kernel
theorem dX12_parse_42 : decode cX12_parse 42 = .ok (.baload, 1) := by decide +kernel
theorem dX12_parse_43 : decode cX12_parse 43 = .ok (.istore 6, 2) := by decide +kernel
theorem dX12_parse_45 : decode cX12_parse 45 = .ok (.iload_n 3, 1) := by decide +kernel
theorem dX12_parse_46 : decode cX12_parse 46 = .ok (.ifCond .eq 40, 3) := by decide +kernel
theorem dX12_parse_49 : decode cX12_parse 49 = .ok (.iload 6, 2) := by decide +kernel
theorem dX12_parse_51 : decode cX12_parse 51 = .ok (.bipush 40, 2) := by decide +kernel
theorem dX12_parse_53 : decode cX12_parse 53 = .ok (.if_icmp .ne 7, 3) := by decide +kernel
theorem dX12_parse_56 : decode cX12_parse 56 = .ok (.iconst 1, 1) := by decide +kernel
theorem dX12_parse_57 : decode cX12_parse 57 = .ok (.goto 4, 3) := by decide +kernel
theorem dX12_parse_60 : decode cX12_parse 60 = .ok (.iconst 0, 1) := by decide +kernel
theorem dX12_parse_61 : decode cX12_parse 61 = .ok (.istore 7, 2) := by decide +kernel
theorem dX12_parse_63 : decode cX12_parse 63 = .ok (.aload_n 0, 1) := by decide +kernel
theorem dX12_parse_64 : decode cX12_parse 64 = .ok (.iload_n 1, 1) := by decide +kernel
theorem dX12_parse_65 : decode cX12_parse 65 = .ok (.iload_n 2, 1) := by decide +kernel
theorem dX12_parse_66 : decode cX12_parse 66 = .ok (.invokevirtual 269, 3) := by decide +kernel
theorem dX12_parse_69 : decode cX12_parse 69 = .ok (.ifCond .ne 8, 3) := by decide +kernel
theorem dX12_parse_72 : decode cX12_parse 72 = .ok (.aload_n 0, 1) := by decide +kernel
theorem dX12_parse_73 : decode cX12_parse 73 = .ok (.getfield 256, 3) := by decide +kernel
theorem dX12_parse_76 : decode cX12_parse 76 = .ok (.ireturn, 1) := by decide +kernel
theorem dX12_parse_77 : decode cX12_parse 77 = .ok (.iload 7, 2) := by decide +kernel
theorem dX12_parse_79 : decode cX12_parse 79 = .ok (.istore_n 3, 1) := by decide +kernel
theorem dX12_parse_80 : decode cX12_parse 80 = .ok (.iconst 0, 1) := by decide +kernel
theorem dX12_parse_81 : decode cX12_parse 81 = .ok (.istore 5, 2) := by decide +kernel
theorem dX12_parse_83 : decode cX12_parse 83 = .ok (.goto (-60), 3) := by decide +kernel
theorem dX12_parse_86 : decode cX12_parse 86 = .ok (.iload 6, 2) := by decide +kernel
theorem dX12_parse_88 : decode cX12_parse 88 = .ok (.invokestatic 272, 3) := by decide +kernel
theorem dX12_parse_91 : decode cX12_parse 91 = .ok (.istore 7, 2) := by decide +kernel
theorem dX12_parse_93 : decode cX12_parse 93 = .ok (.iload 7, 2) := by decide +kernel
theorem dX12_parse_95 : decode cX12_parse 95 = .ok (.ifCond .le 99, 3) := by decide +kernel
theorem dX12_parse_98 : decode cX12_parse 98 = .ok (.iload 7, 2) := by decide +kernel
theorem dX12_parse_100 : decode cX12_parse 100 = .ok (.invokestatic 249, 3) := by decide +kernel
theorem dX12_parse_103 : decode cX12_parse 103 = .ok (.iconst 4, 1) := by decide +kernel
theorem dX12_parse_104 : decode cX12_parse 104 = .ok (.if_icmp .ne 7, 3) := by decide +kernel
theorem dX12_parse_107 : decode cX12_parse 107 = .ok (.iconst 1, 1) := by decide +kernel
theorem dX12_parse_108 : decode cX12_parse 108 = .ok (.goto 4, 3) := by decide +kernel
theorem dX12_parse_111 : decode cX12_parse 111 = .ok (.iconst 0, 1) := by decide +kernel
theorem dX12_parse_112 : decode cX12_parse 112 = .ok (.istore 8, 2) := by decide +kernel
theorem dX12_parse_114 : decode cX12_parse 114 = .ok (.aload_n 0, 1) := by decide +kernel
theorem dX12_parse_115 : decode cX12_parse 115 = .ok (.iload_n 1, 1) := by decide +kernel
theorem dX12_parse_116 : decode cX12_parse 116 = .ok (.iload 8, 2) := by decide +kernel
theorem dX12_parse_118 : decode cX12_parse 118 = .ok (.ifCond .eq 7, 3) := by decide +kernel
theorem dX12_parse_121 : decode cX12_parse 121 = .ok (.iconst 5, 1) := by decide +kernel
theorem dX12_parse_122 : decode cX12_parse 122 = .ok (.goto 8, 3) := by decide +kernel
theorem dX12_parse_125 : decode cX12_parse 125 = .ok (.iload 7, 2) := by decide +kernel
theorem dX12_parse_127 : decode cX12_parse 127 = .ok (.invokestatic 249, 3) := by decide +kernel
theorem dX12_parse_130 : decode cX12_parse 130 = .ok (.invokevirtual 275, 3) := by decide +kernel
theorem dX12_parse_133 : decode cX12_parse 133 = .ok (.iload 8, 2) := by decide +kernel
theorem dX12_parse_135 : decode cX12_parse 135 = .ok (.ifCond .eq 33, 3) := by decide +kernel
theorem dX12_parse_138 : decode cX12_parse 138 = .ok (.aload_n 0, 1) := by decide +kernel
theorem dX12_parse_139 : decode cX12_parse 139 = .ok (.getfield 246, 3) := by decide +kernel
theorem dX12_parse_142 : decode cX12_parse 142 = .ok (.ifCond .le 26, 3) := by decide +kernel
theorem dX12_parse_145 : decode cX12_parse 145 = .ok (.aload_n 0, 1) := by decide +kernel
theorem dX12_parse_146 : decode cX12_parse 146 = .ok (.getfield 121, 3) := by decide +kernel
theorem dX12_parse_149 : decode cX12_parse 149 = .ok (.aload_n 0, 1) := by decide +kernel
theorem dX12_parse_150 : decode cX12_parse 150 = .ok (.getfield 246, 3) := by decide +kernel
theorem dX12_parse_153 : decode cX12_parse 153 = .ok (.iconst 1, 1) := by decide +kernel
theorem dX12_parse_154 : decode cX12_parse 154 = .ok (.isub, 1) := by decide +kernel
theorem dX12_parse_155 : decode cX12_parse 155 = .ok (.iaload, 1) := by decide +kernel
theorem dX12_parse_156 : decode cX12_parse 156 = .ok (.invokestatic 249, 3) := by decide +kernel
theorem dX12_parse_159 : decode cX12_parse 159 = .ok (.iconst 4, 1) := by decide +kernel
theorem dX12_parse_160 : decode cX12_parse 160 = .ok (.if_icmp .ne 8, 3) := by decide +kernel
theorem dX12_parse_163 : decode cX12_parse 163 = .ok (.aload_n 0, 1) := by decide +kernel
theorem dX12_parse_164 : decode cX12_parse 164 = .ok (.getfield 256, 3) := by decide +kernel
theorem dX12_parse_167 : decode cX12_parse 167 = .ok (.ireturn, 1) := by decide +kernel
theorem dX12_parse_168 : decode cX12_parse 168 = .ok (.aload_n 0, 1) := by decide +kernel
theorem dX12_parse_169 : decode cX12_parse 169 = .ok (.getfield 121, 3) := by decide +kernel
theorem dX12_parse_172 : decode cX12_parse 172 = .ok (.aload_n 0, 1) := by decide +kernel
theorem dX12_parse_173 : decode cX12_parse 173 = .ok (.getfield 246, 3) := by decide +kernel
theorem dX12_parse_176 : decode cX12_parse 176 = .ok (.iload 7, 2) := by decide +kernel
theorem dX12_parse_178 : decode cX12_parse 178 = .ok (.iastore, 1) := by decide +kernel
theorem dX12_parse_179 : decode cX12_parse 179 = .ok (.aload_n 0, 1) := by decide +kernel
theorem dX12_parse_180 : decode cX12_parse 180 = .ok (.dup, 1) := by decide +kernel
theorem dX12_parse_181 : decode cX12_parse 181 = .ok (.getfield 246, 3) := by decide +kernel
theorem dX12_parse_184 : decode cX12_parse 184 = .ok (.iconst 1, 1) := by decide +kernel
theorem dX12_parse_185 : decode cX12_parse 185 = .ok (.iadd, 1) := by decide +kernel
theorem dX12_parse_186 : decode cX12_parse 186 = .ok (.putfield 246, 3) := by decide +kernel
theorem dX12_parse_189 : decode cX12_parse 189 = .ok (.iconst 1, 1) := by decide +kernel
theorem dX12_parse_190 : decode cX12_parse 190 = .ok (.istore_n 3, 1) := by decide +kernel
theorem dX12_parse_191 : decode cX12_parse 191 = .ok (.goto 141, 3) := by decide +kernel
theorem dX12_parse_194 : decode cX12_parse 194 = .ok (.iload 6, 2) := by decide +kernel
theorem dX12_parse_196 : decode cX12_parse 196 = .ok (.bipush 41, 2) := by decide +kernel
theorem dX12_parse_198 : decode cX12_parse 198 = .ok (.if_icmp .ne 34, 3) := by decide +kernel
theorem dX12_parse_201 : decode cX12_parse 201 = .ok (.aload_n 0, 1) := by decide +kernel
theorem dX12_parse_202 : decode cX12_parse 202 = .ok (.iload_n 1, 1) := by decide +kernel
theorem dX12_parse_203 : decode cX12_parse 203 = .ok (.iconst 1, 1) := by decide +kernel
theorem dX12_parse_204 : decode cX12_parse 204 = .ok (.invokevirtual 275, 3) := by decide +kernel
theorem dX12_parse_207 : decode cX12_parse 207 = .ok (.aload_n 0, 1) := by decide +kernel
theorem dX12_parse_208 : decode cX12_parse 208 = .ok (.getfield 246, 3) := by decide +kernel
theorem dX12_parse_211 : decode cX12_parse 211 = .ok (.ifCond .ne 8, 3) := by decide +kernel
theorem dX12_parse_214 : decode cX12_parse 214 = .ok (.aload_n 0, 1) := by decide +kernel
theorem dX12_parse_215 : decode cX12_parse 215 = .ok (.getfield 256, 3) := by decide +kernel
theorem dX12_parse_218 : decode cX12_parse 218 = .ok (.ireturn, 1) := by decide +kernel
theorem dX12_parse_219 : decode cX12_parse 219 = .ok (.aload_n 0, 1) := by decide +kernel
theorem dX12_parse_220 : decode cX12_parse 220 = .ok (.dup, 1) := by decide +kernel
theorem dX12_parse_221 : decode cX12_parse 221 = .ok (.getfield 246, 3) := by decide +kernel
theorem dX12_parse_224 : decode cX12_parse 224 = .ok (.iconst 1, 1) := by decide +kernel
theorem dX12_parse_225 : decode cX12_parse 225 = .ok (.isub, 1) := by decide +kernel
theorem dX12_parse_226 : decode cX12_parse 226 = .ok (.putfield 246, 3) := by decide +kernel
theorem dX12_parse_229 : decode cX12_parse 229 = .ok (.goto 103, 3) := by decide +kernel
theorem dX12_parse_232 : decode cX12_parse 232 = .ok (.iload 6, 2) := by decide +kernel
theorem dX12_parse_234 : decode cX12_parse 234 = .ok (.bipush 63, 2) := by decide +kernel
theorem dX12_parse_236 : decode cX12_parse 236 = .ok (.if_icmp .eq 10, 3) := by decide +kernel
theorem dX12_parse_239 : decode cX12_parse 239 = .ok (.iload 6, 2) := by decide +kernel
theorem dX12_parse_241 : decode cX12_parse 241 = .ok (.bipush 59, 2) := by decide +kernel
theorem dX12_parse_243 : decode cX12_parse 243 = .ok (.if_icmp .ne 84, 3) := by decide +kernel
theorem dX12_parse_246 : decode cX12_parse 246 = .ok (.aload_n 0, 1) := by decide +kernel
theorem dX12_parse_247 : decode cX12_parse 247 = .ok (.iload_n 1, 1) := by decide +kernel
theorem dX12_parse_248 : decode cX12_parse 248 = .ok (.iconst 1, 1) := by decide +kernel
theorem dX12_parse_249 : decode cX12_parse 249 = .ok (.invokevirtual 275, 3) := by decide +kernel
theorem dX12_parse_252 : decode cX12_parse 252 = .ok (.aload_n 0, 1) := by decide +kernel
theorem dX12_parse_253 : decode cX12_parse 253 = .ok (.getfield 246, 3) := by decide +kernel
theorem dX12_parse_256 : decode cX12_parse 256 = .ok (.ifCond .gt 15, 3) := by decide +kernel
theorem dX12_parse_259 : decode cX12_parse 259 = .ok (.iload 6, 2) := by decide +kernel
theorem dX12_parse_261 : decode cX12_parse 261 = .ok (.bipush 63, 2) := by decide +kernel
theorem dX12_parse_263 : decode cX12_parse 263 = .ok (.if_icmp .ne 13, 3) := by decide +kernel
theorem dX12_parse_266 : decode cX12_parse 266 = .ok (.iload 4, 2) := by decide +kernel
theorem dX12_parse_268 : decode cX12_parse 268 = .ok (.ifCond .eq 8, 3) := by decide +kernel
theorem dX12_parse_271 : decode cX12_parse 271 = .ok (.aload_n 0, 1) := by decide +kernel
theorem dX12_parse_272 : decode cX12_parse 272 = .ok (.getfield 256, 3) := by decide +kernel
theorem dX12_parse_275 : decode cX12_parse 275 = .ok (.ireturn, 1) := by decide +kernel
theorem dX12_parse_276 : decode cX12_parse 276 = .ok (.aload_n 0, 1) := by decide +kernel
theorem dX12_parse_277 : decode cX12_parse 277 = .ok (.iload_n 1, 1) := by decide +kernel
theorem dX12_parse_278 : decode cX12_parse 278 = .ok (.iload 6, 2) := by decide +kernel
theorem dX12_parse_280 : decode cX12_parse 280 = .ok (.bipush 63, 2) := by decide +kernel
theorem dX12_parse_282 : decode cX12_parse 282 = .ok (.if_icmp .ne 7, 3) := by decide +kernel
theorem dX12_parse_285 : decode cX12_parse 285 = .ok (.iconst 2, 1) := by decide +kernel
theorem dX12_parse_286 : decode cX12_parse 286 = .ok (.goto 4, 3) := by decide +kernel
theorem dX12_parse_289 : decode cX12_parse 289 = .ok (.iconst 3, 1) := by decide +kernel
theorem dX12_parse_290 : decode cX12_parse 290 = .ok (.iconst 0, 1) := by decide +kernel
theorem dX12_parse_291 : decode cX12_parse 291 = .ok (.invokevirtual 252, 3) := by decide +kernel
theorem dX12_parse_294 : decode cX12_parse 294 = .ok (.iload 6, 2) := by decide +kernel
theorem dX12_parse_296 : decode cX12_parse 296 = .ok (.bipush 63, 2) := by decide +kernel
theorem dX12_parse_298 : decode cX12_parse 298 = .ok (.if_icmp .ne 7, 3) := by decide +kernel
theorem dX12_parse_301 : decode cX12_parse 301 = .ok (.iconst 1, 1) := by decide +kernel
theorem dX12_parse_302 : decode cX12_parse 302 = .ok (.goto 4, 3) := by decide +kernel
theorem dX12_parse_305 : decode cX12_parse 305 = .ok (.iconst 0, 1) := by decide +kernel
theorem dX12_parse_306 : decode cX12_parse 306 = .ok (.istore 4, 2) := by decide +kernel
theorem dX12_parse_308 : decode cX12_parse 308 = .ok (.iconst 1, 1) := by decide +kernel
theorem dX12_parse_309 : decode cX12_parse 309 = .ok (.istore_n 3, 1) := by decide +kernel
theorem dX12_parse_310 : decode cX12_parse 310 = .ok (.iload 6, 2) := by decide +kernel
theorem dX12_parse_312 : decode cX12_parse 312 = .ok (.bipush 59, 2) := by decide +kernel
theorem dX12_parse_314 : decode cX12_parse 314 = .ok (.if_icmp .ne 7, 3) := by decide +kernel
theorem dX12_parse_317 : decode cX12_parse 317 = .ok (.iconst 1, 1) := by decide +kernel
theorem dX12_parse_318 : decode cX12_parse 318 = .ok (.goto 4, 3) := by decide +kernel
theorem dX12_parse_321 : decode cX12_parse 321 = .ok (.iconst 0, 1) := by decide +kernel
theorem dX12_parse_322 : decode cX12_parse 322 = .ok (.istore 5, 2) := by decide +kernel
theorem dX12_parse_324 : decode cX12_parse 324 = .ok (.goto 8, 3) := by decide +kernel
theorem dX12_parse_327 : decode cX12_parse 327 = .ok (.aload_n 0, 1) := by decide +kernel
theorem dX12_parse_328 : decode cX12_parse 328 = .ok (.getfield 256, 3) := by decide +kernel
theorem dX12_parse_331 : decode cX12_parse 331 = .ok (.ireturn, 1) := by decide +kernel
theorem dX12_parse_332 : decode cX12_parse 332 = .ok (.aload_n 0, 1) := by decide +kernel
theorem dX12_parse_333 : decode cX12_parse 333 = .ok (.dup, 1) := by decide +kernel
theorem dX12_parse_334 : decode cX12_parse 334 = .ok (.getfield 256, 3) := by decide +kernel
theorem dX12_parse_337 : decode cX12_parse 337 = .ok (.iconst 1, 1) := by decide +kernel
theorem dX12_parse_338 : decode cX12_parse 338 = .ok (.iadd, 1) := by decide +kernel
theorem dX12_parse_339 : decode cX12_parse 339 = .ok (.putfield 256, 3) := by decide +kernel
theorem dX12_parse_342 : decode cX12_parse 342 = .ok (.goto (-319), 3) := by decide +kernel
theorem dX12_parse_345 : decode cX12_parse 345 = .ok (.iload_n 3, 1) := by decide +kernel
theorem dX12_parse_346 : decode cX12_parse 346 = .ok (.ifCond .eq 17, 3) := by decide +kernel
theorem dX12_parse_349 : decode cX12_parse 349 = .ok (.iload 5, 2) := by decide +kernel
theorem dX12_parse_351 : decode cX12_parse 351 = .ok (.ifCond .eq 7, 3) := by decide +kernel
theorem dX12_parse_354 : decode cX12_parse 354 = .ok (.iconst (-1), 1) := by decide +kernel
theorem dX12_parse_355 : decode cX12_parse 355 = .ok (.goto 7, 3) := by decide +kernel
theorem dX12_parse_358 : decode cX12_parse 358 = .ok (.aload_n 0, 1) := by decide +kernel
theorem dX12_parse_359 : decode cX12_parse 359 = .ok (.getfield 240, 3) := by decide +kernel
theorem dX12_parse_362 : decode cX12_parse 362 = .ok (.ireturn, 1) := by decide +kernel
theorem dX12_parse_363 : decode cX12_parse 363 = .ok (.aload_n 0, 1) := by decide +kernel
theorem dX12_parse_364 : decode cX12_parse 364 = .ok (.iload_n 1, 1) := by decide +kernel
theorem dX12_parse_365 : decode cX12_parse 365 = .ok (.iconst 1, 1) := by decide +kernel
theorem dX12_parse_366 : decode cX12_parse 366 = .ok (.invokevirtual 275, 3) := by decide +kernel
theorem dX12_parse_369 : decode cX12_parse 369 = .ok (.aload_n 0, 1) := by decide +kernel
theorem dX12_parse_370 : decode cX12_parse 370 = .ok (.getfield 246, 3) := by decide +kernel
theorem dX12_parse_373 : decode cX12_parse 373 = .ok (.ifCond .le 8, 3) := by decide +kernel
theorem dX12_parse_376 : decode cX12_parse 376 = .ok (.aload_n 0, 1) := by decide +kernel
theorem dX12_parse_377 : decode cX12_parse 377 = .ok (.getfield 240, 3) := by decide +kernel
theorem dX12_parse_380 : decode cX12_parse 380 = .ok (.ireturn, 1) := by decide +kernel
theorem dX12_parse_381 : decode cX12_parse 381 = .ok (.aload_n 0, 1) := by decide +kernel
theorem dX12_parse_382 : decode cX12_parse 382 = .ok (.iload_n 1, 1) := by decide +kernel
theorem dX12_parse_383 : decode cX12_parse 383 = .ok (.iconst 3, 1) := by decide +kernel
theorem dX12_parse_384 : decode cX12_parse 384 = .ok (.iconst 0, 1) := by decide +kernel
theorem dX12_parse_385 : decode cX12_parse 385 = .ok (.invokevirtual 252, 3) := by decide +kernel
theorem dX12_parse_388 : decode cX12_parse 388 = .ok (.iconst (-1), 1) := by decide +kernel
theorem dX12_parse_389 : decode cX12_parse 389 = .ok (.ireturn, 1) := by decide +kernel
theorem dX12_act_0 : decode cX12_act 0 = .ok (.iload_n 1, 1) := by decide +kernel
theorem dX12_act_1 : decode cX12_act 1 = .ok (.iconst 0, 1) := by decide +kernel
theorem dX12_act_2 : decode cX12_act 2 = .ok (.iconst 1, 1) := by decide +kernel
theorem dX12_act_3 : decode cX12_act 3 = .ok (.invokestatic 164, 3) := by decide +kernel
theorem dX12_act_6 : decode cX12_act 6 = .ok (.ifCond .eq 14, 3) := by decide +kernel
theorem dX12_act_9 : decode cX12_act 9 = .ok (.iload_n 2, 1) := by decide +kernel
theorem dX12_act_10 : decode cX12_act 10 = .ok (.iconst 0, 1) := by decide +kernel
theorem dX12_act_11 : decode cX12_act 11 = .ok (.sipush 9999, 3) := by decide +kernel
theorem dX12_act_14 : decode cX12_act 14 = .ok (.invokestatic 164, 3) := by decide +kernel
theorem dX12_act_17 : decode cX12_act 17 = .ok (.ifCond .ne 5, 3) := by decide +kernel
theorem dX12_act_20 : decode cX12_act 20 = .ok (.iconst (-1), 1) := by decide +kernel
theorem dX12_act_21 : decode cX12_act 21 = .ok (.ireturn, 1) := by decide +kernel
theorem dX12_act_22 : decode cX12_act 22 = .ok (.aload_n 0, 1) := by decide +kernel
theorem dX12_act_23 : decode cX12_act 23 = .ok (.getfield 279, 3) := by decide +kernel
theorem dX12_act_26 : decode cX12_act 26 = .ok (.bipush 20, 2) := by decide +kernel
theorem dX12_act_28 : decode cX12_act 28 = .ok (.if_icmp .ne 6, 3) := by decide +kernel
theorem dX12_act_31 : decode cX12_act 31 = .ok (.bipush (-3), 2) := by decide +kernel
theorem dX12_act_33 : decode cX12_act 33 = .ok (.ireturn, 1) := by decide +kernel
theorem dX12_act_34 : decode cX12_act 34 = .ok (.aload_n 0, 1) := by decide +kernel
theorem dX12_act_35 : decode cX12_act 35 = .ok (.aload_n 0, 1) := by decide +kernel
theorem dX12_act_36 : decode cX12_act 36 = .ok (.getfield 279, 3) := by decide +kernel
theorem dX12_act_39 : decode cX12_act 39 = .ok (.iload_n 1, 1) := by decide +kernel
theorem dX12_act_40 : decode cX12_act 40 = .ok (.invokevirtual 282, 3) := by decide +kernel
theorem dX12_act_43 : decode cX12_act 43 = .ok (.istore_n 3, 1) := by decide +kernel
theorem dX12_act_44 : decode cX12_act 44 = .ok (.aload_n 0, 1) := by decide +kernel
theorem dX12_act_45 : decode cX12_act 45 = .ok (.iconst 0, 1) := by decide +kernel
theorem dX12_act_46 : decode cX12_act 46 = .ok (.putfield 240, 3) := by decide +kernel
theorem dX12_act_49 : decode cX12_act 49 = .ok (.iload_n 3, 1) := by decide +kernel
theorem dX12_act_50 : decode cX12_act 50 = .ok (.ifCond .lt 8, 3) := by decide +kernel
theorem dX12_act_53 : decode cX12_act 53 = .ok (.bipush (-100), 2) := by decide +kernel
theorem dX12_act_55 : decode cX12_act 55 = .ok (.iload_n 3, 1) := by decide +kernel
theorem dX12_act_56 : decode cX12_act 56 = .ok (.isub, 1) := by decide +kernel
theorem dX12_act_57 : decode cX12_act 57 = .ok (.ireturn, 1) := by decide +kernel
theorem dX12_act_58 : decode cX12_act 58 = .ok (.aload_n 0, 1) := by decide +kernel
theorem dX12_act_59 : decode cX12_act 59 = .ok (.getfield 103, 3) := by decide +kernel
theorem dX12_act_62 : decode cX12_act 62 = .ok (.aload_n 0, 1) := by decide +kernel
theorem dX12_act_63 : decode cX12_act 63 = .ok (.getfield 279, 3) := by decide +kernel
theorem dX12_act_66 : decode cX12_act 66 = .ok (.iload_n 1, 1) := by decide +kernel
theorem dX12_act_67 : decode cX12_act 67 = .ok (.iastore, 1) := by decide +kernel
theorem dX12_act_68 : decode cX12_act 68 = .ok (.aload_n 0, 1) := by decide +kernel
theorem dX12_act_69 : decode cX12_act 69 = .ok (.getfield 106, 3) := by decide +kernel
theorem dX12_act_72 : decode cX12_act 72 = .ok (.aload_n 0, 1) := by decide +kernel
theorem dX12_act_73 : decode cX12_act 73 = .ok (.getfield 279, 3) := by decide +kernel
theorem dX12_act_76 : decode cX12_act 76 = .ok (.aload_n 0, 1) := by decide +kernel
theorem dX12_act_77 : decode cX12_act 77 = .ok (.getfield 237, 3) := by decide +kernel
theorem dX12_act_80 : decode cX12_act 80 = .ok (.iastore, 1) := by decide +kernel
theorem dX12_act_81 : decode cX12_act 81 = .ok (.aload_n 0, 1) := by decide +kernel
theorem dX12_act_82 : decode cX12_act 82 = .ok (.getfield 109, 3) := by decide +kernel
theorem dX12_act_85 : decode cX12_act 85 = .ok (.aload_n 0, 1) := by decide +kernel
theorem dX12_act_86 : decode cX12_act 86 = .ok (.getfield 279, 3) := by decide +kernel
theorem dX12_act_89 : decode cX12_act 89 = .ok (.iload_n 2, 1) := by decide +kernel
theorem dX12_act_90 : decode cX12_act 90 = .ok (.iastore, 1) := by decide +kernel
theorem dX12_act_91 : decode cX12_act 91 = .ok (.aload_n 0, 1) := by decide +kernel
theorem dX12_act_92 : decode cX12_act 92 = .ok (.getfield 112, 3) := by decide +kernel
theorem dX12_act_95 : decode cX12_act 95 = .ok (.aload_n 0, 1) := by decide +kernel
theorem dX12_act_96 : decode cX12_act 96 = .ok (.getfield 279, 3) := by decide +kernel
theorem dX12_act_99 : decode cX12_act 99 = .ok (.aload_n 0, 1) := by decide +kernel
theorem dX12_act_100 : decode cX12_act 100 = .ok (.getfield 243, 3) := by decide +kernel
theorem dX12_act_103 : decode cX12_act 103 = .ok (.iastore, 1) := by decide +kernel
theorem dX12_act_104 : decode cX12_act 104 = .ok (.aload_n 0, 1) := by decide +kernel
theorem dX12_act_105 : decode cX12_act 105 = .ok (.dup, 1) := by decide +kernel
theorem dX12_act_106 : decode cX12_act 106 = .ok (.getfield 279, 3) := by decide +kernel
theorem dX12_act_109 : decode cX12_act 109 = .ok (.iconst 1, 1) := by decide +kernel
theorem dX12_act_110 : decode cX12_act 110 = .ok (.iadd, 1) := by decide +kernel
theorem dX12_act_111 : decode cX12_act 111 = .ok (.putfield 279, 3) := by decide +kernel
theorem dX12_act_114 : decode cX12_act 114 = .ok (.aload_n 0, 1) := by decide +kernel
theorem dX12_act_115 : decode cX12_act 115 = .ok (.getfield 279, 3) := by decide +kernel
theorem dX12_act_118 : decode cX12_act 118 = .ok (.iconst 1, 1) := by decide +kernel
theorem dX12_act_119 : decode cX12_act 119 = .ok (.isub, 1) := by decide +kernel
theorem dX12_act_120 : decode cX12_act 120 = .ok (.ireturn, 1) := by decide +kernel
theorem dX12_forceOn_0 : decode cX12_forceOn 0 = .ok (.aload_n 0, 1) := by decide +kernel
theorem dX12_forceOn_1 : decode cX12_forceOn 1 = .ok (.getfield 279, 3) := by decide +kernel
theorem dX12_forceOn_4 : decode cX12_forceOn 4 = .ok (.iconst 1, 1) := by decide +kernel
theorem dX12_forceOn_5 : decode cX12_forceOn 5 = .ok (.isub, 1) := by decide +kernel
theorem dX12_forceOn_6 : decode cX12_forceOn 6 = .ok (.istore 4, 2) := by decide +kernel
theorem dX12_forceOn_8 : decode cX12_forceOn 8 = .ok (.iload 4, 2) := by decide +kernel
theorem dX12_forceOn_10 : decode cX12_forceOn 10 = .ok (.ifCond .lt 45, 3) := by decide +kernel
theorem dX12_forceOn_13 : decode cX12_forceOn 13 = .ok (.aload_n 0, 1) := by decide +kernel
theorem dX12_forceOn_14 : decode cX12_forceOn 14 = .ok (.getfield 103, 3) := by decide +kernel
theorem dX12_forceOn_17 : decode cX12_forceOn 17 = .ok (.iload 4, 2) := by decide +kernel
theorem dX12_forceOn_19 : decode cX12_forceOn 19 = .ok (.iaload, 1) := by decide +kernel
theorem dX12_forceOn_20 : decode cX12_forceOn 20 = .ok (.iload_n 1, 1) := by decide +kernel
theorem dX12_forceOn_21 : decode cX12_forceOn 21 = .ok (.if_icmp .ne 28, 3) := by decide +kernel
theorem dX12_forceOn_24 : decode cX12_forceOn 24 = .ok (.aload_n 0, 1) := by decide +kernel
theorem dX12_forceOn_25 : decode cX12_forceOn 25 = .ok (.getfield 106, 3) := by decide +kernel
theorem dX12_forceOn_28 : decode cX12_forceOn 28 = .ok (.iload 4, 2) := by decide +kernel
theorem dX12_forceOn_30 : decode cX12_forceOn 30 = .ok (.iaload, 1) := by decide +kernel
theorem dX12_forceOn_31 : decode cX12_forceOn 31 = .ok (.iload_n 3, 1) := by decide +kernel
theorem dX12_forceOn_32 : decode cX12_forceOn 32 = .ok (.if_icmp .gt 17, 3) := by decide +kernel
theorem dX12_forceOn_35 : decode cX12_forceOn 35 = .ok (.aload_n 0, 1) := by decide +kernel
theorem dX12_forceOn_36 : decode cX12_forceOn 36 = .ok (.getfield 109, 3) := by decide +kernel
theorem dX12_forceOn_39 : decode cX12_forceOn 39 = .ok (.iload 4, 2) := by decide +kernel
theorem dX12_forceOn_41 : decode cX12_forceOn 41 = .ok (.iaload, 1) := by decide +kernel
theorem dX12_forceOn_42 : decode cX12_forceOn 42 = .ok (.iload_n 2, 1) := by decide +kernel
theorem dX12_forceOn_43 : decode cX12_forceOn 43 = .ok (.if_icmp .gt 6, 3) := by decide +kernel
theorem dX12_forceOn_46 : decode cX12_forceOn 46 = .ok (.iload 4, 2) := by decide +kernel
theorem dX12_forceOn_48 : decode cX12_forceOn 48 = .ok (.ireturn, 1) := by decide +kernel
theorem dX12_forceOn_49 : decode cX12_forceOn 49 = .ok (.iinc 4 (-1), 3) := by decide +kernel
theorem dX12_forceOn_52 : decode cX12_forceOn 52 = .ok (.goto (-44), 3) := by decide +kernel
theorem dX12_forceOn_55 : decode cX12_forceOn 55 = .ok (.bipush (-2), 2) := by decide +kernel
theorem dX12_forceOn_57 : decode cX12_forceOn 57 = .ok (.ireturn, 1) := by decide +kernel
theorem dX12_isDay_0 : decode cX12_isDay 0 = .ok (.iload_n 0, 1) := by decide +kernel
theorem dX12_isDay_1 : decode cX12_isDay 1 = .ok (.iconst 0, 1) := by decide +kernel
theorem dX12_isDay_2 : decode cX12_isDay 2 = .ok (.sipush 9999, 3) := by decide +kernel
theorem dX12_isDay_5 : decode cX12_isDay 5 = .ok (.invokestatic 164, 3) := by decide +kernel
theorem dX12_isDay_8 : decode cX12_isDay 8 = .ok (.ireturn, 1) := by decide +kernel
theorem dX12_inForce_0 : decode cX12_inForce 0 = .ok (.iload_n 1, 1) := by decide +kernel
theorem dX12_inForce_1 : decode cX12_inForce 1 = .ok (.iconst 0, 1) := by decide +kernel
theorem dX12_inForce_2 : decode cX12_inForce 2 = .ok (.iconst 1, 1) := by decide +kernel
theorem dX12_inForce_3 : decode cX12_inForce 3 = .ok (.invokestatic 164, 3) := by decide +kernel
theorem dX12_inForce_6 : decode cX12_inForce 6 = .ok (.ifCond .eq 27, 3) := by decide +kernel
theorem dX12_inForce_9 : decode cX12_inForce 9 = .ok (.iload_n 2, 1) := by decide +kernel
theorem dX12_inForce_10 : decode cX12_inForce 10 = .ok (.invokestatic 285, 3) := by decide +kernel
theorem dX12_inForce_13 : decode cX12_inForce 13 = .ok (.ifCond .eq 20, 3) := by decide +kernel
theorem dX12_inForce_16 : decode cX12_inForce 16 = .ok (.iload_n 3, 1) := by decide +kernel
theorem dX12_inForce_17 : decode cX12_inForce 17 = .ok (.invokestatic 285, 3) := by decide +kernel
theorem dX12_inForce_20 : decode cX12_inForce 20 = .ok (.ifCond .eq 13, 3) := by decide +kernel
theorem dX12_inForce_23 : decode cX12_inForce 23 = .ok (.aload_n 0, 1) := by decide +kernel
theorem dX12_inForce_24 : decode cX12_inForce 24 = .ok (.iload_n 1, 1) := by decide +kernel
theorem dX12_inForce_25 : decode cX12_inForce 25 = .ok (.iload_n 2, 1) := by decide +kernel
theorem dX12_inForce_26 : decode cX12_inForce 26 = .ok (.iload_n 3, 1) := by decide +kernel
theorem dX12_inForce_27 : decode cX12_inForce 27 = .ok (.invokevirtual 288, 3) := by decide +kernel
theorem dX12_inForce_30 : decode cX12_inForce 30 = .ok (.goto 4, 3) := by decide +kernel
theorem dX12_inForce_33 : decode cX12_inForce 33 = .ok (.iconst (-1), 1) := by decide +kernel
theorem dX12_inForce_34 : decode cX12_inForce 34 = .ok (.ireturn, 1) := by decide +kernel
theorem dX12_both_0 : decode cX12_both 0 = .ok (.iload_n 0, 1) := by decide +kernel
theorem dX12_both_1 : decode cX12_both 1 = .ok (.tableswitch 170 40 61 #[103, 114, 125, 170, 170, 170, 170, 170, 170, 170, 136, 140, 170, 170, 170, 170, 170, 170, 170, 170, 144, 148], 103) := by decide +kernel
theorem dX12_both_104 : decode cX12_both 104 = .ok (.iload_n 1, 1) := by decide +kernel
theorem dX12_both_105 : decode cX12_both 105 = .ok (.iload_n 2, 1) := by decide +kernel
theorem dX12_both_106 : decode cX12_both 106 = .ok (.if_icmp .ge 7, 3) := by decide +kernel
theorem dX12_both_109 : decode cX12_both 109 = .ok (.iconst 1, 1) := by decide +kernel
theorem dX12_both_110 : decode cX12_both 110 = .ok (.goto 4, 3) := by decide +kernel
theorem dX12_both_113 : decode cX12_both 113 = .ok (.iconst 0, 1) := by decide +kernel
theorem dX12_both_114 : decode cX12_both 114 = .ok (.ireturn, 1) := by decide +kernel
theorem dX12_both_115 : decode cX12_both 115 = .ok (.iload_n 1, 1) := by decide +kernel
theorem dX12_both_116 : decode cX12_both 116 = .ok (.iload_n 2, 1) := by decide +kernel
theorem dX12_both_117 : decode cX12_both 117 = .ok (.if_icmp .ne 7, 3) := by decide +kernel
theorem dX12_both_120 : decode cX12_both 120 = .ok (.iconst 1, 1) := by decide +kernel
theorem dX12_both_121 : decode cX12_both 121 = .ok (.goto 4, 3) := by decide +kernel
theorem dX12_both_124 : decode cX12_both 124 = .ok (.iconst 0, 1) := by decide +kernel
theorem dX12_both_125 : decode cX12_both 125 = .ok (.ireturn, 1) := by decide +kernel
theorem dX12_both_126 : decode cX12_both 126 = .ok (.iload_n 1, 1) := by decide +kernel
theorem dX12_both_127 : decode cX12_both 127 = .ok (.iload_n 2, 1) := by decide +kernel
theorem dX12_both_128 : decode cX12_both 128 = .ok (.if_icmp .le 7, 3) := by decide +kernel
theorem dX12_both_131 : decode cX12_both 131 = .ok (.iconst 1, 1) := by decide +kernel
theorem dX12_both_132 : decode cX12_both 132 = .ok (.goto 4, 3) := by decide +kernel
theorem dX12_both_135 : decode cX12_both 135 = .ok (.iconst 0, 1) := by decide +kernel
theorem dX12_both_136 : decode cX12_both 136 = .ok (.ireturn, 1) := by decide +kernel
theorem dX12_both_137 : decode cX12_both 137 = .ok (.iload_n 1, 1) := by decide +kernel
theorem dX12_both_138 : decode cX12_both 138 = .ok (.iload_n 2, 1) := by decide +kernel
theorem dX12_both_139 : decode cX12_both 139 = .ok (.iadd, 1) := by decide +kernel
theorem dX12_both_140 : decode cX12_both 140 = .ok (.ireturn, 1) := by decide +kernel
theorem dX12_both_141 : decode cX12_both 141 = .ok (.iload_n 1, 1) := by decide +kernel
theorem dX12_both_142 : decode cX12_both 142 = .ok (.iload_n 2, 1) := by decide +kernel
theorem dX12_both_143 : decode cX12_both 143 = .ok (.isub, 1) := by decide +kernel
theorem dX12_both_144 : decode cX12_both 144 = .ok (.ireturn, 1) := by decide +kernel
theorem dX12_both_145 : decode cX12_both 145 = .ok (.iload_n 1, 1) := by decide +kernel
theorem dX12_both_146 : decode cX12_both 146 = .ok (.iload_n 2, 1) := by decide +kernel
theorem dX12_both_147 : decode cX12_both 147 = .ok (.imul, 1) := by decide +kernel
theorem dX12_both_148 : decode cX12_both 148 = .ok (.ireturn, 1) := by decide +kernel
theorem dX12_both_149 : decode cX12_both 149 = .ok (.iload_n 2, 1) := by decide +kernel
theorem dX12_both_150 : decode cX12_both 150 = .ok (.ifCond .ne 7, 3) := by decide +kernel
theorem dX12_both_153 : decode cX12_both 153 = .ok (.iconst 0, 1) := by decide +kernel
theorem dX12_both_154 : decode cX12_both 154 = .ok (.goto 16, 3) := by decide +kernel
theorem dX12_both_157 : decode cX12_both 157 = .ok (.iload_n 2, 1) := by decide +kernel
theorem dX12_both_158 : decode cX12_both 158 = .ok (.iconst (-1), 1) := by decide +kernel
theorem dX12_both_159 : decode cX12_both 159 = .ok (.if_icmp .ne 8, 3) := by decide +kernel
theorem dX12_both_162 : decode cX12_both 162 = .ok (.iload_n 1, 1) := by decide +kernel
theorem dX12_both_163 : decode cX12_both 163 = .ok (.ineg, 1) := by decide +kernel
theorem dX12_both_164 : decode cX12_both 164 = .ok (.goto 6, 3) := by decide +kernel
theorem dX12_both_167 : decode cX12_both 167 = .ok (.iload_n 1, 1) := by decide +kernel
theorem dX12_both_168 : decode cX12_both 168 = .ok (.iload_n 2, 1) := by decide +kernel
theorem dX12_both_169 : decode cX12_both 169 = .ok (.idiv, 1) := by decide +kernel
theorem dX12_both_170 : decode cX12_both 170 = .ok (.ireturn, 1) := by decide +kernel
theorem dX12_both_171 : decode cX12_both 171 = .ok (.iload_n 2, 1) := by decide +kernel
theorem dX12_both_172 : decode cX12_both 172 = .ok (.ifCond .eq 8, 3) := by decide +kernel
theorem dX12_both_175 : decode cX12_both 175 = .ok (.iload_n 2, 1) := by decide +kernel
theorem dX12_both_176 : decode cX12_both 176 = .ok (.iconst (-1), 1) := by decide +kernel
theorem dX12_both_177 : decode cX12_both 177 = .ok (.if_icmp .ne 7, 3) := by decide +kernel
theorem dX12_both_180 : decode cX12_both 180 = .ok (.iconst 0, 1) := by decide +kernel
theorem dX12_both_181 : decode cX12_both 181 = .ok (.goto 6, 3) := by decide +kernel
theorem dX12_both_184 : decode cX12_both 184 = .ok (.iload_n 1, 1) := by decide +kernel
theorem dX12_both_185 : decode cX12_both 185 = .ok (.iload_n 2, 1) := by decide +kernel
theorem dX12_both_186 : decode cX12_both 186 = .ok (.irem, 1) := by decide +kernel
theorem dX12_both_187 : decode cX12_both 187 = .ok (.ireturn, 1) := by decide +kernel
theorem dX12_says_0 : decode cX12_says 0 = .ok (.iconst 0, 1) := by decide +kernel
theorem dX12_says_1 : decode cX12_says 1 = .ok (.istore_n 2, 1) := by decide +kernel
theorem dX12_says_2 : decode cX12_says 2 = .ok (.iconst 0, 1) := by decide +kernel
theorem dX12_says_3 : decode cX12_says 3 = .ok (.istore_n 3, 1) := by decide +kernel
theorem dX12_says_4 : decode cX12_says 4 = .ok (.iconst 0, 1) := by decide +kernel
theorem dX12_says_5 : decode cX12_says 5 = .ok (.istore 4, 2) := by decide +kernel
theorem dX12_says_7 : decode cX12_says 7 = .ok (.aload_n 0, 1) := by decide +kernel
theorem dX12_says_8 : decode cX12_says 8 = .ok (.iconst (-1), 1) := by decide +kernel
theorem dX12_says_9 : decode cX12_says 9 = .ok (.putfield 291, 3) := by decide +kernel
theorem dX12_says_12 : decode cX12_says 12 = .ok (.sipush 170, 3) := by decide +kernel
theorem dX12_says_15 : decode cX12_says 15 = .ok (.iload_n 1, 1) := by decide +kernel
theorem dX12_says_16 : decode cX12_says 16 = .ok (.imul, 1) := by decide +kernel
theorem dX12_says_17 : decode cX12_says 17 = .ok (.istore 5, 2) := by decide +kernel
theorem dX12_says_19 : decode cX12_says 19 = .ok (.iload 5, 2) := by decide +kernel
theorem dX12_says_21 : decode cX12_says 21 = .ok (.sipush 170, 3) := by decide +kernel
theorem dX12_says_24 : decode cX12_says 24 = .ok (.iload_n 1, 1) := by decide +kernel
theorem dX12_says_25 : decode cX12_says 25 = .ok (.imul, 1) := by decide +kernel
theorem dX12_says_26 : decode cX12_says 26 = .ok (.aload_n 0, 1) := by decide +kernel
theorem dX12_says_27 : decode cX12_says 27 = .ok (.getfield 112, 3) := by decide +kernel
theorem dX12_says_30 : decode cX12_says 30 = .ok (.iload_n 1, 1) := by decide +kernel
theorem dX12_says_31 : decode cX12_says 31 = .ok (.iaload, 1) := by decide +kernel
theorem dX12_says_32 : decode cX12_says 32 = .ok (.iadd, 1) := by decide +kernel
theorem dX12_says_33 : decode cX12_says 33 = .ok (.if_icmp .ge 160, 3) := by decide +kernel
theorem dX12_says_36 : decode cX12_says 36 = .ok (.aload_n 0, 1) := by decide +kernel
theorem dX12_says_37 : decode cX12_says 37 = .ok (.getfield 115, 3) := by decide +kernel
theorem dX12_says_40 : decode cX12_says 40 = .ok (.iload 5, 2) := by decide +kernel
theorem dX12_says_42 : decode cX12_says 42 = .ok (.iaload, 1) := by decide +kernel
theorem dX12_says_43 : decode cX12_says 43 = .ok (.istore 6, 2) := by decide +kernel
theorem dX12_says_45 : decode cX12_says 45 = .ok (.iload 6, 2) := by decide +kernel
theorem dX12_says_47 : decode cX12_says 47 = .ok (.iconst 3, 1) := by decide +kernel
theorem dX12_says_48 : decode cX12_says 48 = .ok (.if_icmp .ne 31, 3) := by decide +kernel
theorem dX12_says_51 : decode cX12_says 51 = .ok (.iload 4, 2) := by decide +kernel
theorem dX12_says_53 : decode cX12_says 53 = .ok (.ifCond .ne 15, 3) := by decide +kernel
theorem dX12_says_56 : decode cX12_says 56 = .ok (.aload_n 0, 1) := by decide +kernel
theorem dX12_says_57 : decode cX12_says 57 = .ok (.iload_n 3, 1) := by decide +kernel
theorem dX12_says_58 : decode cX12_says 58 = .ok (.putfield 291, 3) := by decide +kernel
theorem dX12_says_61 : decode cX12_says 61 = .ok (.aload_n 0, 1) := by decide +kernel
theorem dX12_says_62 : decode cX12_says 62 = .ok (.getfield 127, 3) := by decide +kernel
theorem dX12_says_65 : decode cX12_says 65 = .ok (.iconst 0, 1) := by decide +kernel
theorem dX12_says_66 : decode cX12_says 66 = .ok (.iaload, 1) := by decide +kernel
theorem dX12_says_67 : decode cX12_says 67 = .ok (.ireturn, 1) := by decide +kernel
theorem dX12_says_68 : decode cX12_says 68 = .ok (.iconst 0, 1) := by decide +kernel
theorem dX12_says_69 : decode cX12_says 69 = .ok (.istore 4, 2) := by decide +kernel
theorem dX12_says_71 : decode cX12_says 71 = .ok (.iinc 3 1, 3) := by decide +kernel
theorem dX12_says_74 : decode cX12_says 74 = .ok (.iconst 0, 1) := by decide +kernel
theorem dX12_says_75 : decode cX12_says 75 = .ok (.istore_n 2, 1) := by decide +kernel
theorem dX12_says_76 : decode cX12_says 76 = .ok (.goto 111, 3) := by decide +kernel
theorem dX12_says_79 : decode cX12_says 79 = .ok (.iload 6, 2) := by decide +kernel
theorem dX12_says_81 : decode cX12_says 81 = .ok (.iconst 2, 1) := by decide +kernel
theorem dX12_says_82 : decode cX12_says 82 = .ok (.if_icmp .ne 24, 3) := by decide +kernel
theorem dX12_says_85 : decode cX12_says 85 = .ok (.aload_n 0, 1) := by decide +kernel
theorem dX12_says_86 : decode cX12_says 86 = .ok (.getfield 127, 3) := by decide +kernel
theorem dX12_says_89 : decode cX12_says 89 = .ok (.iconst 0, 1) := by decide +kernel
theorem dX12_says_90 : decode cX12_says 90 = .ok (.iaload, 1) := by decide +kernel
theorem dX12_says_91 : decode cX12_says 91 = .ok (.ifCond .ne 7, 3) := by decide +kernel
theorem dX12_says_94 : decode cX12_says 94 = .ok (.iconst 1, 1) := by decide +kernel
theorem dX12_says_95 : decode cX12_says 95 = .ok (.goto 4, 3) := by decide +kernel
theorem dX12_says_98 : decode cX12_says 98 = .ok (.iconst 0, 1) := by decide +kernel
theorem dX12_says_99 : decode cX12_says 99 = .ok (.istore 4, 2) := by decide +kernel
theorem dX12_says_101 : decode cX12_says 101 = .ok (.iconst 0, 1) := by decide +kernel
theorem dX12_says_102 : decode cX12_says 102 = .ok (.istore_n 2, 1) := by decide +kernel
theorem dX12_says_103 : decode cX12_says 103 = .ok (.goto 84, 3) := by decide +kernel
theorem dX12_says_106 : decode cX12_says 106 = .ok (.iload 6, 2) := by decide +kernel
theorem dX12_says_108 : decode cX12_says 108 = .ok (.iconst 1, 1) := by decide +kernel
theorem dX12_says_109 : decode cX12_says 109 = .ok (.if_icmp .eq 10, 3) := by decide +kernel
theorem dX12_says_112 : decode cX12_says 112 = .ok (.iload 6, 2) := by decide +kernel
theorem dX12_says_114 : decode cX12_says 114 = .ok (.bipush 100, 2) := by decide +kernel
theorem dX12_says_116 : decode cX12_says 116 = .ok (.if_icmp .lt 41, 3) := by decide +kernel
theorem dX12_says_119 : decode cX12_says 119 = .ok (.aload_n 0, 1) := by decide +kernel
theorem dX12_says_120 : decode cX12_says 120 = .ok (.getfield 127, 3) := by decide +kernel
theorem dX12_says_123 : decode cX12_says 123 = .ok (.iload_n 2, 1) := by decide +kernel
theorem dX12_says_124 : decode cX12_says 124 = .ok (.iload 6, 2) := by decide +kernel
theorem dX12_says_126 : decode cX12_says 126 = .ok (.iconst 1, 1) := by decide +kernel
theorem dX12_says_127 : decode cX12_says 127 = .ok (.if_icmp .ne 13, 3) := by decide +kernel
theorem dX12_says_130 : decode cX12_says 130 = .ok (.aload_n 0, 1) := by decide +kernel
theorem dX12_says_131 : decode cX12_says 131 = .ok (.getfield 118, 3) := by decide +kernel
theorem dX12_says_134 : decode cX12_says 134 = .ok (.iload 5, 2) := by decide +kernel
theorem dX12_says_136 : decode cX12_says 136 = .ok (.iaload, 1) := by decide +kernel
theorem dX12_says_137 : decode cX12_says 137 = .ok (.goto 13, 3) := by decide +kernel
theorem dX12_says_140 : decode cX12_says 140 = .ok (.aload_n 0, 1) := by decide +kernel
theorem dX12_says_141 : decode cX12_says 141 = .ok (.getfield 124, 3) := by decide +kernel
theorem dX12_says_144 : decode cX12_says 144 = .ok (.iload 6, 2) := by decide +kernel
theorem dX12_says_146 : decode cX12_says 146 = .ok (.bipush 100, 2) := by decide +kernel
theorem dX12_says_148 : decode cX12_says 148 = .ok (.isub, 1) := by decide +kernel
theorem dX12_says_149 : decode cX12_says 149 = .ok (.iaload, 1) := by decide +kernel
theorem dX12_says_150 : decode cX12_says 150 = .ok (.iastore, 1) := by decide +kernel
theorem dX12_says_151 : decode cX12_says 151 = .ok (.iinc 2 1, 3) := by decide +kernel
theorem dX12_says_154 : decode cX12_says 154 = .ok (.goto 33, 3) := by decide +kernel
theorem dX12_says_157 : decode cX12_says 157 = .ok (.iinc 2 (-1), 3) := by decide +kernel
theorem dX12_says_160 : decode cX12_says 160 = .ok (.aload_n 0, 1) := by decide +kernel
theorem dX12_says_161 : decode cX12_says 161 = .ok (.getfield 127, 3) := by decide +kernel
theorem dX12_says_164 : decode cX12_says 164 = .ok (.iload_n 2, 1) := by decide +kernel
theorem dX12_says_165 : decode cX12_says 165 = .ok (.iconst 1, 1) := by decide +kernel
theorem dX12_says_166 : decode cX12_says 166 = .ok (.isub, 1) := by decide +kernel
theorem dX12_says_167 : decode cX12_says 167 = .ok (.iload 6, 2) := by decide +kernel
theorem dX12_says_169 : decode cX12_says 169 = .ok (.aload_n 0, 1) := by decide +kernel
theorem dX12_says_170 : decode cX12_says 170 = .ok (.getfield 127, 3) := by decide +kernel
theorem dX12_says_173 : decode cX12_says 173 = .ok (.iload_n 2, 1) := by decide +kernel
theorem dX12_says_174 : decode cX12_says 174 = .ok (.iconst 1, 1) := by decide +kernel
theorem dX12_says_175 : decode cX12_says 175 = .ok (.isub, 1) := by decide +kernel
theorem dX12_says_176 : decode cX12_says 176 = .ok (.iaload, 1) := by decide +kernel
theorem dX12_says_177 : decode cX12_says 177 = .ok (.aload_n 0, 1) := by decide +kernel
theorem dX12_says_178 : decode cX12_says 178 = .ok (.getfield 127, 3) := by decide +kernel
theorem dX12_says_181 : decode cX12_says 181 = .ok (.iload_n 2, 1) := by decide +kernel
theorem dX12_says_182 : decode cX12_says 182 = .ok (.iaload, 1) := by decide +kernel
theorem dX12_says_183 : decode cX12_says 183 = .ok (.invokestatic 294, 3) := by decide +kernel
theorem dX12_says_186 : decode cX12_says 186 = .ok (.iastore, 1) := by decide +kernel
theorem dX12_says_187 : decode cX12_says 187 = .ok (.iinc 5 1, 3) := by decide +kernel
theorem dX12_says_190 : decode cX12_says 190 = .ok (.goto (-171), 3) := by decide +kernel
theorem dX12_says_193 : decode cX12_says 193 = .ok (.iconst 0, 1) := by decide +kernel
theorem dX12_says_194 : decode cX12_says 194 = .ok (.ireturn, 1) := by decide +kernel
theorem dX12_clamp_0 : decode cX12_clamp 0 = .ok (.iload_n 0, 1) := by decide +kernel
theorem dX12_clamp_1 : decode cX12_clamp 1 = .ok (.ifCond .ge 7, 3) := by decide +kernel
theorem dX12_clamp_4 : decode cX12_clamp 4 = .ok (.iconst 0, 1) := by decide +kernel
theorem dX12_clamp_5 : decode cX12_clamp 5 = .ok (.goto 15, 3) := by decide +kernel
theorem dX12_clamp_8 : decode cX12_clamp 8 = .ok (.iload_n 0, 1) := by decide +kernel
theorem dX12_clamp_9 : decode cX12_clamp 9 = .ok (.ldc 189, 2) := by decide +kernel
theorem dX12_clamp_11 : decode cX12_clamp 11 = .ok (.if_icmp .le 8, 3) := by decide +kernel
theorem dX12_clamp_14 : decode cX12_clamp 14 = .ok (.ldc 189, 2) := by decide +kernel
theorem dX12_clamp_16 : decode cX12_clamp 16 = .ok (.goto 4, 3) := by decide +kernel
theorem dX12_clamp_19 : decode cX12_clamp 19 = .ok (.iload_n 0, 1) := by decide +kernel
theorem dX12_clamp_20 : decode cX12_clamp 20 = .ok (.ireturn, 1) := by decide +kernel
theorem dX12_part_0 : decode cX12_part 0 = .ok (.aload_n 0, 1) := by decide +kernel
theorem dX12_part_1 : decode cX12_part 1 = .ok (.getfield 124, 3) := by decide +kernel
theorem dX12_part_4 : decode cX12_part 4 = .ok (.bipush 102, 2) := by decide +kernel
theorem dX12_part_6 : decode cX12_part 6 = .ok (.iload_n 3, 1) := by decide +kernel
theorem dX12_part_7 : decode cX12_part 7 = .ok (.ifCond .eq 12, 3) := by decide +kernel
theorem dX12_part_10 : decode cX12_part 10 = .ok (.aload_n 0, 1) := by decide +kernel
theorem dX12_part_11 : decode cX12_part 11 = .ok (.getfield 87, 3) := by decide +kernel
theorem dX12_part_14 : decode cX12_part 14 = .ok (.iload_n 2, 1) := by decide +kernel
theorem dX12_part_15 : decode cX12_part 15 = .ok (.iaload, 1) := by decide +kernel
theorem dX12_part_16 : decode cX12_part 16 = .ok (.goto 9, 3) := by decide +kernel
theorem dX12_part_19 : decode cX12_part 19 = .ok (.aload_n 0, 1) := by decide +kernel
theorem dX12_part_20 : decode cX12_part 20 = .ok (.getfield 93, 3) := by decide +kernel
theorem dX12_part_23 : decode cX12_part 23 = .ok (.iload_n 2, 1) := by decide +kernel
theorem dX12_part_24 : decode cX12_part 24 = .ok (.iaload, 1) := by decide +kernel
theorem dX12_part_25 : decode cX12_part 25 = .ok (.iastore, 1) := by decide +kernel
theorem dX12_part_26 : decode cX12_part 26 = .ok (.aload_n 0, 1) := by decide +kernel
theorem dX12_part_27 : decode cX12_part 27 = .ok (.getfield 124, 3) := by decide +kernel
theorem dX12_part_30 : decode cX12_part 30 = .ok (.bipush 103, 2) := by decide +kernel
theorem dX12_part_32 : decode cX12_part 32 = .ok (.iload_n 3, 1) := by decide +kernel
theorem dX12_part_33 : decode cX12_part 33 = .ok (.ifCond .eq 12, 3) := by decide +kernel
theorem dX12_part_36 : decode cX12_part 36 = .ok (.aload_n 0, 1) := by decide +kernel
theorem dX12_part_37 : decode cX12_part 37 = .ok (.getfield 93, 3) := by decide +kernel
theorem dX12_part_40 : decode cX12_part 40 = .ok (.iload_n 2, 1) := by decide +kernel
theorem dX12_part_41 : decode cX12_part 41 = .ok (.iaload, 1) := by decide +kernel
theorem dX12_part_42 : decode cX12_part 42 = .ok (.goto 9, 3) := by decide +kernel
theorem dX12_part_45 : decode cX12_part 45 = .ok (.aload_n 0, 1) := by decide +kernel
theorem dX12_part_46 : decode cX12_part 46 = .ok (.getfield 87, 3) := by decide +kernel
theorem dX12_part_49 : decode cX12_part 49 = .ok (.iload_n 2, 1) := by decide +kernel
theorem dX12_part_50 : decode cX12_part 50 = .ok (.iaload, 1) := by decide +kernel
theorem dX12_part_51 : decode cX12_part 51 = .ok (.iastore, 1) := by decide +kernel
theorem dX12_part_52 : decode cX12_part 52 = .ok (.aload_n 0, 1) := by decide +kernel
theorem dX12_part_53 : decode cX12_part 53 = .ok (.getfield 124, 3) := by decide +kernel
theorem dX12_part_56 : decode cX12_part 56 = .ok (.bipush 118, 2) := by decide +kernel
theorem dX12_part_58 : decode cX12_part 58 = .ok (.aload_n 0, 1) := by decide +kernel
theorem dX12_part_59 : decode cX12_part 59 = .ok (.getfield 96, 3) := by decide +kernel
theorem dX12_part_62 : decode cX12_part 62 = .ok (.iload_n 2, 1) := by decide +kernel
theorem dX12_part_63 : decode cX12_part 63 = .ok (.iaload, 1) := by decide +kernel
theorem dX12_part_64 : decode cX12_part 64 = .ok (.iastore, 1) := by decide +kernel
theorem dX12_part_65 : decode cX12_part 65 = .ok (.aload_n 0, 1) := by decide +kernel
theorem dX12_part_66 : decode cX12_part 66 = .ok (.getfield 124, 3) := by decide +kernel
theorem dX12_part_69 : decode cX12_part 69 = .ok (.bipush 115, 2) := by decide +kernel
theorem dX12_part_71 : decode cX12_part 71 = .ok (.iload_n 3, 1) := by decide +kernel
theorem dX12_part_72 : decode cX12_part 72 = .ok (.ifCond .eq 12, 3) := by decide +kernel
theorem dX12_part_75 : decode cX12_part 75 = .ok (.aload_n 0, 1) := by decide +kernel
theorem dX12_part_76 : decode cX12_part 76 = .ok (.getfield 84, 3) := by decide +kernel
theorem dX12_part_79 : decode cX12_part 79 = .ok (.iload_n 2, 1) := by decide +kernel
theorem dX12_part_80 : decode cX12_part 80 = .ok (.iaload, 1) := by decide +kernel
theorem dX12_part_81 : decode cX12_part 81 = .ok (.goto 9, 3) := by decide +kernel
theorem dX12_part_84 : decode cX12_part 84 = .ok (.aload_n 0, 1) := by decide +kernel
theorem dX12_part_85 : decode cX12_part 85 = .ok (.getfield 90, 3) := by decide +kernel
theorem dX12_part_88 : decode cX12_part 88 = .ok (.iload_n 2, 1) := by decide +kernel
theorem dX12_part_89 : decode cX12_part 89 = .ok (.iaload, 1) := by decide +kernel
theorem dX12_part_90 : decode cX12_part 90 = .ok (.iastore, 1) := by decide +kernel
theorem dX12_part_91 : decode cX12_part 91 = .ok (.aload_n 0, 1) := by decide +kernel
theorem dX12_part_92 : decode cX12_part 92 = .ok (.getfield 124, 3) := by decide +kernel
theorem dX12_part_95 : decode cX12_part 95 = .ok (.bipush 99, 2) := by decide +kernel
theorem dX12_part_97 : decode cX12_part 97 = .ok (.aload_n 0, 1) := by decide +kernel
theorem dX12_part_98 : decode cX12_part 98 = .ok (.getfield 90, 3) := by decide +kernel
theorem dX12_part_101 : decode cX12_part 101 = .ok (.iload_n 2, 1) := by decide +kernel
theorem dX12_part_102 : decode cX12_part 102 = .ok (.iaload, 1) := by decide +kernel
theorem dX12_part_103 : decode cX12_part 103 = .ok (.ifCond .ge 7, 3) := by decide +kernel
theorem dX12_part_106 : decode cX12_part 106 = .ok (.iconst 0, 1) := by decide +kernel
theorem dX12_part_107 : decode cX12_part 107 = .ok (.goto 4, 3) := by decide +kernel
theorem dX12_part_110 : decode cX12_part 110 = .ok (.iconst 1, 1) := by decide +kernel
theorem dX12_part_111 : decode cX12_part 111 = .ok (.iastore, 1) := by decide +kernel
theorem dX12_part_112 : decode cX12_part 112 = .ok (.aload_n 0, 1) := by decide +kernel
theorem dX12_part_113 : decode cX12_part 113 = .ok (.getfield 124, 3) := by decide +kernel
theorem dX12_part_116 : decode cX12_part 116 = .ok (.bipush 121, 2) := by decide +kernel
theorem dX12_part_118 : decode cX12_part 118 = .ok (.iload 4, 2) := by decide +kernel
theorem dX12_part_120 : decode cX12_part 120 = .ok (.sipush 365, 3) := by decide +kernel
theorem dX12_part_123 : decode cX12_part 123 = .ok (.idiv, 1) := by decide +kernel
theorem dX12_part_124 : decode cX12_part 124 = .ok (.iastore, 1) := by decide +kernel
theorem dX12_part_125 : decode cX12_part 125 = .ok (.aload_n 0, 1) := by decide +kernel
theorem dX12_part_126 : decode cX12_part 126 = .ok (.iload_n 1, 1) := by decide +kernel
theorem dX12_part_127 : decode cX12_part 127 = .ok (.invokevirtual 297, 3) := by decide +kernel
theorem dX12_part_130 : decode cX12_part 130 = .ok (.invokestatic 300, 3) := by decide +kernel
theorem dX12_part_133 : decode cX12_part 133 = .ok (.ireturn, 1) := by decide +kernel
theorem dX12_isHouse_0 : decode cX12_isHouse 0 = .ok (.iload_n 1, 1) := by decide +kernel
theorem dX12_isHouse_1 : decode cX12_isHouse 1 = .ok (.iconst 0, 1) := by decide +kernel
theorem dX12_isHouse_2 : decode cX12_isHouse 2 = .ok (.aload_n 0, 1) := by decide +kernel
theorem dX12_isHouse_3 : decode cX12_isHouse 3 = .ok (.getfield 234, 3) := by decide +kernel
theorem dX12_isHouse_6 : decode cX12_isHouse 6 = .ok (.iconst 1, 1) := by decide +kernel
theorem dX12_isHouse_7 : decode cX12_isHouse 7 = .ok (.isub, 1) := by decide +kernel
theorem dX12_isHouse_8 : decode cX12_isHouse 8 = .ok (.invokestatic 164, 3) := by decide +kernel
theorem dX12_isHouse_11 : decode cX12_isHouse 11 = .ok (.ireturn, 1) := by decide +kernel
theorem dX12_rate_0 : decode cX12_rate 0 = .ok (.aload_n 0, 1) := by decide +kernel
theorem dX12_rate_1 : decode cX12_rate 1 = .ok (.iload_n 1, 1) := by decide +kernel
theorem dX12_rate_2 : decode cX12_rate 2 = .ok (.invokevirtual 303, 3) := by decide +kernel
theorem dX12_rate_5 : decode cX12_rate 5 = .ok (.ifCond .eq 17, 3) := by decide +kernel
theorem dX12_rate_8 : decode cX12_rate 8 = .ok (.iload_n 2, 1) := by decide +kernel
theorem dX12_rate_9 : decode cX12_rate 9 = .ok (.invokestatic 285, 3) := by decide +kernel
theorem dX12_rate_12 : decode cX12_rate 12 = .ok (.ifCond .eq 10, 3) := by decide +kernel
theorem dX12_rate_15 : decode cX12_rate 15 = .ok (.iload_n 3, 1) := by decide +kernel
theorem dX12_rate_16 : decode cX12_rate 16 = .ok (.invokestatic 285, 3) := by decide +kernel
theorem dX12_rate_19 : decode cX12_rate 19 = .ok (.ifCond .ne 7, 3) := by decide +kernel
theorem dX12_rate_22 : decode cX12_rate 22 = .ok (.ldc_w 306, 3) := by decide +kernel
theorem dX12_rate_25 : decode cX12_rate 25 = .ok (.ireturn, 1) := by decide +kernel
theorem dX12_rate_26 : decode cX12_rate 26 = .ok (.aload_n 0, 1) := by decide +kernel
theorem dX12_rate_27 : decode cX12_rate 27 = .ok (.iconst 0, 1) := by decide +kernel
theorem dX12_rate_28 : decode cX12_rate 28 = .ok (.iload_n 2, 1) := by decide +kernel
theorem dX12_rate_29 : decode cX12_rate 29 = .ok (.iload_n 3, 1) := by decide +kernel
theorem dX12_rate_30 : decode cX12_rate 30 = .ok (.invokevirtual 288, 3) := by decide +kernel
theorem dX12_rate_33 : decode cX12_rate 33 = .ok (.istore 4, 2) := by decide +kernel
theorem dX12_rate_35 : decode cX12_rate 35 = .ok (.iload 4, 2) := by decide +kernel
theorem dX12_rate_37 : decode cX12_rate 37 = .ok (.ifCond .ge 5, 3) := by decide +kernel
theorem dX12_rate_40 : decode cX12_rate 40 = .ok (.iconst 0, 1) := by decide +kernel
theorem dX12_rate_41 : decode cX12_rate 41 = .ok (.ireturn, 1) := by decide +kernel
theorem dX12_rate_42 : decode cX12_rate 42 = .ok (.aload_n 0, 1) := by decide +kernel
theorem dX12_rate_43 : decode cX12_rate 43 = .ok (.iload 4, 2) := by decide +kernel
theorem dX12_rate_45 : decode cX12_rate 45 = .ok (.iload_n 1, 1) := by decide +kernel
theorem dX12_rate_46 : decode cX12_rate 46 = .ok (.iconst 1, 1) := by decide +kernel
theorem dX12_rate_47 : decode cX12_rate 47 = .ok (.iload_n 2, 1) := by decide +kernel
theorem dX12_rate_48 : decode cX12_rate 48 = .ok (.invokevirtual 307, 3) := by decide +kernel
theorem dX12_rate_51 : decode cX12_rate 51 = .ok (.aload_n 0, 1) := by decide +kernel
theorem dX12_rate_52 : decode cX12_rate 52 = .ok (.getfield 90, 3) := by decide +kernel
theorem dX12_rate_55 : decode cX12_rate 55 = .ok (.iload_n 1, 1) := by decide +kernel
theorem dX12_rate_56 : decode cX12_rate 56 = .ok (.iaload, 1) := by decide +kernel
theorem dX12_rate_57 : decode cX12_rate 57 = .ok (.ifCond .ge 7, 3) := by decide +kernel
theorem dX12_rate_60 : decode cX12_rate 60 = .ok (.iconst 0, 1) := by decide +kernel
theorem dX12_rate_61 : decode cX12_rate 61 = .ok (.goto 12, 3) := by decide +kernel
theorem dX12_rate_64 : decode cX12_rate 64 = .ok (.aload_n 0, 1) := by decide +kernel
theorem dX12_rate_65 : decode cX12_rate 65 = .ok (.iload 4, 2) := by decide +kernel
theorem dX12_rate_67 : decode cX12_rate 67 = .ok (.iload_n 1, 1) := by decide +kernel
theorem dX12_rate_68 : decode cX12_rate 68 = .ok (.iconst 0, 1) := by decide +kernel
theorem dX12_rate_69 : decode cX12_rate 69 = .ok (.iload_n 2, 1) := by decide +kernel
theorem dX12_rate_70 : decode cX12_rate 70 = .ok (.invokevirtual 307, 3) := by decide +kernel
theorem dX12_rate_73 : decode cX12_rate 73 = .ok (.iadd, 1) := by decide +kernel
theorem dX12_rate_74 : decode cX12_rate 74 = .ok (.ireturn, 1) := by decide +kernel
theorem dX12_rates_0 : decode cX12_rates 0 = .ok (.aload_n 0, 1) := by decide +kernel
theorem dX12_rates_1 : decode cX12_rates 1 = .ok (.iload_n 1, 1) := by decide +kernel
theorem dX12_rates_2 : decode cX12_rates 2 = .ok (.invokevirtual 168, 3) := by decide +kernel
theorem dX12_rates_5 : decode cX12_rates 5 = .ok (.ifCond .eq 10, 3) := by decide +kernel
theorem dX12_rates_8 : decode cX12_rates 8 = .ok (.iload_n 2, 1) := by decide +kernel
theorem dX12_rates_9 : decode cX12_rates 9 = .ok (.invokestatic 285, 3) := by decide +kernel
theorem dX12_rates_12 : decode cX12_rates 12 = .ok (.ifCond .ne 7, 3) := by decide +kernel
theorem dX12_rates_15 : decode cX12_rates 15 = .ok (.ldc_w 306, 3) := by decide +kernel
theorem dX12_rates_18 : decode cX12_rates 18 = .ok (.ireturn, 1) := by decide +kernel
theorem dX12_rates_19 : decode cX12_rates 19 = .ok (.aload_n 0, 1) := by decide +kernel
theorem dX12_rates_20 : decode cX12_rates 20 = .ok (.iconst 0, 1) := by decide +kernel
theorem dX12_rates_21 : decode cX12_rates 21 = .ok (.iload_n 2, 1) := by decide +kernel
theorem dX12_rates_22 : decode cX12_rates 22 = .ok (.iload_n 2, 1) := by decide +kernel
theorem dX12_rates_23 : decode cX12_rates 23 = .ok (.invokevirtual 288, 3) := by decide +kernel
theorem dX12_rates_26 : decode cX12_rates 26 = .ok (.istore_n 3, 1) := by decide +kernel
theorem dX12_rates_27 : decode cX12_rates 27 = .ok (.iconst 0, 1) := by decide +kernel
theorem dX12_rates_28 : decode cX12_rates 28 = .ok (.istore 4, 2) := by decide +kernel
theorem dX12_rates_30 : decode cX12_rates 30 = .ok (.iconst 0, 1) := by decide +kernel
theorem dX12_rates_31 : decode cX12_rates 31 = .ok (.istore 5, 2) := by decide +kernel
theorem dX12_rates_33 : decode cX12_rates 33 = .ok (.iload 5, 2) := by decide +kernel
theorem dX12_rates_35 : decode cX12_rates 35 = .ok (.aload_n 0, 1) := by decide +kernel
theorem dX12_rates_36 : decode cX12_rates 36 = .ok (.getfield 234, 3) := by decide +kernel
theorem dX12_rates_39 : decode cX12_rates 39 = .ok (.if_icmp .ge 63, 3) := by decide +kernel
theorem dX12_rates_42 : decode cX12_rates 42 = .ok (.iload_n 3, 1) := by decide +kernel
theorem dX12_rates_43 : decode cX12_rates 43 = .ok (.ifCond .lt 59, 3) := by decide +kernel
theorem dX12_rates_46 : decode cX12_rates 46 = .ok (.aload_n 0, 1) := by decide +kernel
theorem dX12_rates_47 : decode cX12_rates 47 = .ok (.getfield 84, 3) := by decide +kernel
theorem dX12_rates_50 : decode cX12_rates 50 = .ok (.iload 5, 2) := by decide +kernel
theorem dX12_rates_52 : decode cX12_rates 52 = .ok (.iaload, 1) := by decide +kernel
theorem dX12_rates_53 : decode cX12_rates 53 = .ok (.iload_n 1, 1) := by decide +kernel
theorem dX12_rates_54 : decode cX12_rates 54 = .ok (.if_icmp .ne 17, 3) := by decide +kernel
theorem dX12_rates_57 : decode cX12_rates 57 = .ok (.iload 4, 2) := by decide +kernel
theorem dX12_rates_59 : decode cX12_rates 59 = .ok (.aload_n 0, 1) := by decide +kernel
theorem dX12_rates_60 : decode cX12_rates 60 = .ok (.iload_n 3, 1) := by decide +kernel
theorem dX12_rates_61 : decode cX12_rates 61 = .ok (.iload 5, 2) := by decide +kernel
theorem dX12_rates_63 : decode cX12_rates 63 = .ok (.iconst 1, 1) := by decide +kernel
theorem dX12_rates_64 : decode cX12_rates 64 = .ok (.iload_n 2, 1) := by decide +kernel
theorem dX12_rates_65 : decode cX12_rates 65 = .ok (.invokevirtual 307, 3) := by decide +kernel
theorem dX12_rates_68 : decode cX12_rates 68 = .ok (.iadd, 1) := by decide +kernel
theorem dX12_rates_69 : decode cX12_rates 69 = .ok (.istore 4, 2) := by decide +kernel
theorem dX12_rates_71 : decode cX12_rates 71 = .ok (.aload_n 0, 1) := by decide +kernel
theorem dX12_rates_72 : decode cX12_rates 72 = .ok (.getfield 90, 3) := by decide +kernel
theorem dX12_rates_75 : decode cX12_rates 75 = .ok (.iload 5, 2) := by decide +kernel
theorem dX12_rates_77 : decode cX12_rates 77 = .ok (.iaload, 1) := by decide +kernel
theorem dX12_rates_78 : decode cX12_rates 78 = .ok (.iload_n 1, 1) := by decide +kernel
theorem dX12_rates_79 : decode cX12_rates 79 = .ok (.if_icmp .ne 17, 3) := by decide +kernel
theorem dX12_rates_82 : decode cX12_rates 82 = .ok (.iload 4, 2) := by decide +kernel
theorem dX12_rates_84 : decode cX12_rates 84 = .ok (.aload_n 0, 1) := by decide +kernel
theorem dX12_rates_85 : decode cX12_rates 85 = .ok (.iload_n 3, 1) := by decide +kernel
theorem dX12_rates_86 : decode cX12_rates 86 = .ok (.iload 5, 2) := by decide +kernel
theorem dX12_rates_88 : decode cX12_rates 88 = .ok (.iconst 0, 1) := by decide +kernel
theorem dX12_rates_89 : decode cX12_rates 89 = .ok (.iload_n 2, 1) := by decide +kernel
theorem dX12_rates_90 : decode cX12_rates 90 = .ok (.invokevirtual 307, 3) := by decide +kernel
theorem dX12_rates_93 : decode cX12_rates 93 = .ok (.iadd, 1) := by decide +kernel
theorem dX12_rates_94 : decode cX12_rates 94 = .ok (.istore 4, 2) := by decide +kernel
theorem dX12_rates_96 : decode cX12_rates 96 = .ok (.iinc 5 1, 3) := by decide +kernel
theorem dX12_rates_99 : decode cX12_rates 99 = .ok (.goto (-66), 3) := by decide +kernel
theorem dX12_rates_102 : decode cX12_rates 102 = .ok (.iload 4, 2) := by decide +kernel
theorem dX12_rates_104 : decode cX12_rates 104 = .ok (.ireturn, 1) := by decide +kernel
theorem dX12_clause_0 : decode cX12_clause 0 = .ok (.aload_n 0, 1) := by decide +kernel
theorem dX12_clause_1 : decode cX12_clause 1 = .ok (.iload_n 1, 1) := by decide +kernel
theorem dX12_clause_2 : decode cX12_clause 2 = .ok (.invokevirtual 303, 3) := by decide +kernel
theorem dX12_clause_5 : decode cX12_clause 5 = .ok (.ifCond .eq 10, 3) := by decide +kernel
theorem dX12_clause_8 : decode cX12_clause 8 = .ok (.iload_n 2, 1) := by decide +kernel
theorem dX12_clause_9 : decode cX12_clause 9 = .ok (.invokestatic 285, 3) := by decide +kernel
theorem dX12_clause_12 : decode cX12_clause 12 = .ok (.ifCond .ne 5, 3) := by decide +kernel
theorem dX12_clause_15 : decode cX12_clause 15 = .ok (.iconst (-1), 1) := by decide +kernel
theorem dX12_clause_16 : decode cX12_clause 16 = .ok (.ireturn, 1) := by decide +kernel
theorem dX12_clause_17 : decode cX12_clause 17 = .ok (.aload_n 0, 1) := by decide +kernel
theorem dX12_clause_18 : decode cX12_clause 18 = .ok (.iconst 0, 1) := by decide +kernel
theorem dX12_clause_19 : decode cX12_clause 19 = .ok (.iload_n 2, 1) := by decide +kernel
theorem dX12_clause_20 : decode cX12_clause 20 = .ok (.iload_n 2, 1) := by decide +kernel
theorem dX12_clause_21 : decode cX12_clause 21 = .ok (.invokevirtual 288, 3) := by decide +kernel
theorem dX12_clause_24 : decode cX12_clause 24 = .ok (.istore_n 3, 1) := by decide +kernel
theorem dX12_clause_25 : decode cX12_clause 25 = .ok (.iload_n 3, 1) := by decide +kernel
theorem dX12_clause_26 : decode cX12_clause 26 = .ok (.ifCond .ge 6, 3) := by decide +kernel
theorem dX12_clause_29 : decode cX12_clause 29 = .ok (.bipush (-2), 2) := by decide +kernel
theorem dX12_clause_31 : decode cX12_clause 31 = .ok (.ireturn, 1) := by decide +kernel
theorem dX12_clause_32 : decode cX12_clause 32 = .ok (.aload_n 0, 1) := by decide +kernel
theorem dX12_clause_33 : decode cX12_clause 33 = .ok (.iload_n 3, 1) := by decide +kernel
theorem dX12_clause_34 : decode cX12_clause 34 = .ok (.iload_n 1, 1) := by decide +kernel
theorem dX12_clause_35 : decode cX12_clause 35 = .ok (.iconst 1, 1) := by decide +kernel
theorem dX12_clause_36 : decode cX12_clause 36 = .ok (.iload_n 2, 1) := by decide +kernel
theorem dX12_clause_37 : decode cX12_clause 37 = .ok (.invokevirtual 307, 3) := by decide +kernel
theorem dX12_clause_40 : decode cX12_clause 40 = .ok (.istore 4, 2) := by decide +kernel
theorem dX12_clause_42 : decode cX12_clause 42 = .ok (.aload_n 0, 1) := by decide +kernel
theorem dX12_clause_43 : decode cX12_clause 43 = .ok (.getfield 291, 3) := by decide +kernel
theorem dX12_clause_46 : decode cX12_clause 46 = .ok (.ifCond .ge 8, 3) := by decide +kernel
theorem dX12_clause_49 : decode cX12_clause 49 = .ok (.bipush (-2), 2) := by decide +kernel
theorem dX12_clause_51 : decode cX12_clause 51 = .ok (.goto 7, 3) := by decide +kernel
theorem dX12_clause_54 : decode cX12_clause 54 = .ok (.aload_n 0, 1) := by decide +kernel
theorem dX12_clause_55 : decode cX12_clause 55 = .ok (.getfield 291, 3) := by decide +kernel
theorem dX12_clause_58 : decode cX12_clause 58 = .ok (.ireturn, 1) := by decide +kernel
theorem dX12_isAt_0 : decode cX12_isAt 0 = .ok (.iload_n 2, 1) := by decide +kernel
theorem dX12_isAt_1 : decode cX12_isAt 1 = .ok (.ifCond .lt 23, 3) := by decide +kernel
theorem dX12_isAt_4 : decode cX12_isAt 4 = .ok (.aload_n 0, 1) := by decide +kernel
theorem dX12_isAt_5 : decode cX12_isAt 5 = .ok (.iload_n 1, 1) := by decide +kernel
theorem dX12_isAt_6 : decode cX12_isAt 6 = .ok (.iload_n 2, 1) := by decide +kernel
theorem dX12_isAt_7 : decode cX12_isAt 7 = .ok (.bipush 16, 2) := by decide +kernel
theorem dX12_isAt_9 : decode cX12_isAt 9 = .ok (.idiv, 1) := by decide +kernel
theorem dX12_isAt_10 : decode cX12_isAt 10 = .ok (.iload_n 2, 1) := by decide +kernel
theorem dX12_isAt_11 : decode cX12_isAt 11 = .ok (.bipush 16, 2) := by decide +kernel
theorem dX12_isAt_13 : decode cX12_isAt 13 = .ok (.irem, 1) := by decide +kernel
theorem dX12_isAt_14 : decode cX12_isAt 14 = .ok (.invokevirtual 172, 3) := by decide +kernel
theorem dX12_isAt_17 : decode cX12_isAt 17 = .ok (.ifCond .eq 7, 3) := by decide +kernel
theorem dX12_isAt_20 : decode cX12_isAt 20 = .ok (.iconst 1, 1) := by decide +kernel
theorem dX12_isAt_21 : decode cX12_isAt 21 = .ok (.goto 4, 3) := by decide +kernel
theorem dX12_isAt_24 : decode cX12_isAt 24 = .ok (.iconst 0, 1) := by decide +kernel
theorem dX12_isAt_25 : decode cX12_isAt 25 = .ok (.ireturn, 1) := by decide +kernel
theorem dX12_openNow_0 : decode cX12_openNow 0 = .ok (.iconst 0, 1) := by decide +kernel
theorem dX12_openNow_1 : decode cX12_openNow 1 = .ok (.istore_n 3, 1) := by decide +kernel
theorem dX12_openNow_2 : decode cX12_openNow 2 = .ok (.iload_n 3, 1) := by decide +kernel
theorem dX12_openNow_3 : decode cX12_openNow 3 = .ok (.aload_n 0, 1) := by decide +kernel
theorem dX12_openNow_4 : decode cX12_openNow 4 = .ok (.getfield 311, 3) := by decide +kernel
theorem dX12_openNow_7 : decode cX12_openNow 7 = .ok (.if_icmp .ge 40, 3) := by decide +kernel
theorem dX12_openNow_10 : decode cX12_openNow 10 = .ok (.aload_n 0, 1) := by decide +kernel
theorem dX12_openNow_11 : decode cX12_openNow 11 = .ok (.getfield 133, 3) := by decide +kernel
theorem dX12_openNow_14 : decode cX12_openNow 14 = .ok (.iload_n 3, 1) := by decide +kernel
theorem dX12_openNow_15 : decode cX12_openNow 15 = .ok (.iaload, 1) := by decide +kernel
theorem dX12_openNow_16 : decode cX12_openNow 16 = .ok (.iload_n 1, 1) := by decide +kernel
theorem dX12_openNow_17 : decode cX12_openNow 17 = .ok (.if_icmp .ne 24, 3) := by decide +kernel
theorem dX12_openNow_20 : decode cX12_openNow 20 = .ok (.aload_n 0, 1) := by decide +kernel
theorem dX12_openNow_21 : decode cX12_openNow 21 = .ok (.getfield 136, 3) := by decide +kernel
theorem dX12_openNow_24 : decode cX12_openNow 24 = .ok (.iload_n 3, 1) := by decide +kernel
theorem dX12_openNow_25 : decode cX12_openNow 25 = .ok (.iaload, 1) := by decide +kernel
theorem dX12_openNow_26 : decode cX12_openNow 26 = .ok (.iload_n 2, 1) := by decide +kernel
theorem dX12_openNow_27 : decode cX12_openNow 27 = .ok (.if_icmp .ne 14, 3) := by decide +kernel
theorem dX12_openNow_30 : decode cX12_openNow 30 = .ok (.aload_n 0, 1) := by decide +kernel
theorem dX12_openNow_31 : decode cX12_openNow 31 = .ok (.getfield 145, 3) := by decide +kernel
theorem dX12_openNow_34 : decode cX12_openNow 34 = .ok (.iload_n 3, 1) := by decide +kernel
theorem dX12_openNow_35 : decode cX12_openNow 35 = .ok (.iaload, 1) := by decide +kernel
theorem dX12_openNow_36 : decode cX12_openNow 36 = .ok (.ifCond .ge 5, 3) := by decide +kernel
theorem dX12_openNow_39 : decode cX12_openNow 39 = .ok (.iload_n 3, 1) := by decide +kernel
theorem dX12_openNow_40 : decode cX12_openNow 40 = .ok (.ireturn, 1) := by decide +kernel
theorem dX12_openNow_41 : decode cX12_openNow 41 = .ok (.iinc 3 1, 3) := by decide +kernel
theorem dX12_openNow_44 : decode cX12_openNow 44 = .ok (.goto (-42), 3) := by decide +kernel
theorem dX12_openNow_47 : decode cX12_openNow 47 = .ok (.bipush (-2), 2) := by decide +kernel
theorem dX12_openNow_49 : decode cX12_openNow 49 = .ok (.ireturn, 1) := by decide +kernel
theorem dX12_open_0 : decode cX12_open 0 = .ok (.iload_n 1, 1) := by decide +kernel
theorem dX12_open_1 : decode cX12_open 1 = .ok (.iconst 0, 1) := by decide +kernel
theorem dX12_open_2 : decode cX12_open 2 = .ok (.iconst 3, 1) := by decide +kernel
theorem dX12_open_3 : decode cX12_open 3 = .ok (.invokestatic 164, 3) := by decide +kernel
theorem dX12_open_6 : decode cX12_open 6 = .ok (.ifCond .eq 23, 3) := by decide +kernel
theorem dX12_open_9 : decode cX12_open 9 = .ok (.aload_n 0, 1) := by decide +kernel
theorem dX12_open_10 : decode cX12_open 10 = .ok (.iload_n 2, 1) := by decide +kernel
theorem dX12_open_11 : decode cX12_open 11 = .ok (.iload_n 3, 1) := by decide +kernel
theorem dX12_open_12 : decode cX12_open 12 = .ok (.invokevirtual 314, 3) := by decide +kernel
theorem dX12_open_15 : decode cX12_open 15 = .ok (.ifCond .eq 14, 3) := by decide +kernel
theorem dX12_open_18 : decode cX12_open 18 = .ok (.iload 4, 2) := by decide +kernel
theorem dX12_open_20 : decode cX12_open 20 = .ok (.iconst 1, 1) := by decide +kernel
theorem dX12_open_21 : decode cX12_open 21 = .ok (.bipush 99, 2) := by decide +kernel
theorem dX12_open_23 : decode cX12_open 23 = .ok (.invokestatic 164, 3) := by decide +kernel
theorem dX12_open_26 : decode cX12_open 26 = .ok (.ifCond .ne 5, 3) := by decide +kernel
theorem dX12_open_29 : decode cX12_open 29 = .ok (.iconst (-1), 1) := by decide +kernel
theorem dX12_open_30 : decode cX12_open 30 = .ok (.ireturn, 1) := by decide +kernel
theorem dX12_open_31 : decode cX12_open 31 = .ok (.aload_n 0, 1) := by decide +kernel
theorem dX12_open_32 : decode cX12_open 32 = .ok (.iload_n 2, 1) := by decide +kernel
theorem dX12_open_33 : decode cX12_open 33 = .ok (.iload_n 3, 1) := by decide +kernel
theorem dX12_open_34 : decode cX12_open 34 = .ok (.invokevirtual 317, 3) := by decide +kernel
theorem dX12_open_37 : decode cX12_open 37 = .ok (.ifCond .lt 6, 3) := by decide +kernel
theorem dX12_open_40 : decode cX12_open 40 = .ok (.bipush (-2), 2) := by decide +kernel
theorem dX12_open_42 : decode cX12_open 42 = .ok (.ireturn, 1) := by decide +kernel
theorem dX12_open_43 : decode cX12_open 43 = .ok (.aload_n 0, 1) := by decide +kernel
theorem dX12_open_44 : decode cX12_open 44 = .ok (.getfield 311, 3) := by decide +kernel
theorem dX12_open_47 : decode cX12_open 47 = .ok (.sipush 200, 3) := by decide +kernel
theorem dX12_open_50 : decode cX12_open 50 = .ok (.if_icmp .ne 6, 3) := by decide +kernel
theorem dX12_open_53 : decode cX12_open 53 = .ok (.bipush (-3), 2) := by decide +kernel
theorem dX12_open_55 : decode cX12_open 55 = .ok (.ireturn, 1) := by decide +kernel
theorem dX12_open_56 : decode cX12_open 56 = .ok (.aload_n 0, 1) := by decide +kernel
theorem dX12_open_57 : decode cX12_open 57 = .ok (.getfield 311, 3) := by decide +kernel
theorem dX12_open_60 : decode cX12_open 60 = .ok (.istore 5, 2) := by decide +kernel
theorem dX12_open_62 : decode cX12_open 62 = .ok (.aload_n 0, 1) := by decide +kernel
theorem dX12_open_63 : decode cX12_open 63 = .ok (.getfield 130, 3) := by decide +kernel
theorem dX12_open_66 : decode cX12_open 66 = .ok (.iload 5, 2) := by decide +kernel
theorem dX12_open_68 : decode cX12_open 68 = .ok (.iload_n 1, 1) := by decide +kernel
theorem dX12_open_69 : decode cX12_open 69 = .ok (.iastore, 1) := by decide +kernel
theorem dX12_open_70 : decode cX12_open 70 = .ok (.aload_n 0, 1) := by decide +kernel
theorem dX12_open_71 : decode cX12_open 71 = .ok (.getfield 133, 3) := by decide +kernel
theorem dX12_open_74 : decode cX12_open 74 = .ok (.iload 5, 2) := by decide +kernel
theorem dX12_open_76 : decode cX12_open 76 = .ok (.iload_n 2, 1) := by decide +kernel
theorem dX12_open_77 : decode cX12_open 77 = .ok (.iastore, 1) := by decide +kernel
theorem dX12_open_78 : decode cX12_open 78 = .ok (.aload_n 0, 1) := by decide +kernel
theorem dX12_open_79 : decode cX12_open 79 = .ok (.getfield 136, 3) := by decide +kernel
theorem dX12_open_82 : decode cX12_open 82 = .ok (.iload 5, 2) := by decide +kernel
theorem dX12_open_84 : decode cX12_open 84 = .ok (.iload_n 3, 1) := by decide +kernel
theorem dX12_open_85 : decode cX12_open 85 = .ok (.iastore, 1) := by decide +kernel
theorem dX12_open_86 : decode cX12_open 86 = .ok (.aload_n 0, 1) := by decide +kernel
theorem dX12_open_87 : decode cX12_open 87 = .ok (.getfield 139, 3) := by decide +kernel
theorem dX12_open_90 : decode cX12_open 90 = .ok (.iload 5, 2) := by decide +kernel
theorem dX12_open_92 : decode cX12_open 92 = .ok (.aload_n 0, 1) := by decide +kernel
theorem dX12_open_93 : decode cX12_open 93 = .ok (.getfield 237, 3) := by decide +kernel
theorem dX12_open_96 : decode cX12_open 96 = .ok (.iastore, 1) := by decide +kernel
theorem dX12_open_97 : decode cX12_open 97 = .ok (.aload_n 0, 1) := by decide +kernel
theorem dX12_open_98 : decode cX12_open 98 = .ok (.getfield 142, 3) := by decide +kernel
theorem dX12_open_101 : decode cX12_open 101 = .ok (.iload 5, 2) := by decide +kernel
theorem dX12_open_103 : decode cX12_open 103 = .ok (.iload 4, 2) := by decide +kernel
theorem dX12_open_105 : decode cX12_open 105 = .ok (.iastore, 1) := by decide +kernel
theorem dX12_open_106 : decode cX12_open 106 = .ok (.aload_n 0, 1) := by decide +kernel
theorem dX12_open_107 : decode cX12_open 107 = .ok (.getfield 145, 3) := by decide +kernel
theorem dX12_open_110 : decode cX12_open 110 = .ok (.iload 5, 2) := by decide +kernel
theorem dX12_open_112 : decode cX12_open 112 = .ok (.iconst (-1), 1) := by decide +kernel
theorem dX12_open_113 : decode cX12_open 113 = .ok (.iastore, 1) := by decide +kernel
theorem dX12_open_114 : decode cX12_open 114 = .ok (.aload_n 0, 1) := by decide +kernel
theorem dX12_open_115 : decode cX12_open 115 = .ok (.dup, 1) := by decide +kernel
theorem dX12_open_116 : decode cX12_open 116 = .ok (.getfield 311, 3) := by decide +kernel
theorem dX12_open_119 : decode cX12_open 119 = .ok (.iconst 1, 1) := by decide +kernel
theorem dX12_open_120 : decode cX12_open 120 = .ok (.iadd, 1) := by decide +kernel
theorem dX12_open_121 : decode cX12_open 121 = .ok (.putfield 311, 3) := by decide +kernel
theorem dX12_open_124 : decode cX12_open 124 = .ok (.iload 5, 2) := by decide +kernel
theorem dX12_open_126 : decode cX12_open 126 = .ok (.ireturn, 1) := by decide +kernel
theorem dX12_isOpening_0 : decode cX12_isOpening 0 = .ok (.iload_n 1, 1) := by decide +kernel
theorem dX12_isOpening_1 : decode cX12_isOpening 1 = .ok (.iconst 0, 1) := by decide +kernel
theorem dX12_isOpening_2 : decode cX12_isOpening 2 = .ok (.aload_n 0, 1) := by decide +kernel
theorem dX12_isOpening_3 : decode cX12_isOpening 3 = .ok (.getfield 311, 3) := by decide +kernel
theorem dX12_isOpening_6 : decode cX12_isOpening 6 = .ok (.iconst 1, 1) := by decide +kernel
theorem dX12_isOpening_7 : decode cX12_isOpening 7 = .ok (.isub, 1) := by decide +kernel
theorem dX12_isOpening_8 : decode cX12_isOpening 8 = .ok (.invokestatic 164, 3) := by decide +kernel
theorem dX12_isOpening_11 : decode cX12_isOpening 11 = .ok (.ireturn, 1) := by decide +kernel
theorem dX12_back_0 : decode cX12_back 0 = .ok (.aload_n 0, 1) := by decide +kernel
theorem dX12_back_1 : decode cX12_back 1 = .ok (.iload_n 1, 1) := by decide +kernel
theorem dX12_back_2 : decode cX12_back 2 = .ok (.invokevirtual 320, 3) := by decide +kernel
theorem dX12_back_5 : decode cX12_back 5 = .ok (.ifCond .ne 5, 3) := by decide +kernel
theorem dX12_back_8 : decode cX12_back 8 = .ok (.iconst (-1), 1) := by decide +kernel
theorem dX12_back_9 : decode cX12_back 9 = .ok (.ireturn, 1) := by decide +kernel
theorem dX12_back_10 : decode cX12_back 10 = .ok (.aload_n 0, 1) := by decide +kernel
theorem dX12_back_11 : decode cX12_back 11 = .ok (.getfield 145, 3) := by decide +kernel
theorem dX12_back_14 : decode cX12_back 14 = .ok (.iload_n 1, 1) := by decide +kernel
theorem dX12_back_15 : decode cX12_back 15 = .ok (.iaload, 1) := by decide +kernel
theorem dX12_back_16 : decode cX12_back 16 = .ok (.ifCond .lt 6, 3) := by decide +kernel
theorem dX12_back_19 : decode cX12_back 19 = .ok (.bipush (-2), 2) := by decide +kernel
theorem dX12_back_21 : decode cX12_back 21 = .ok (.ireturn, 1) := by decide +kernel
theorem dX12_back_22 : decode cX12_back 22 = .ok (.aload_n 0, 1) := by decide +kernel
theorem dX12_back_23 : decode cX12_back 23 = .ok (.getfield 145, 3) := by decide +kernel
theorem dX12_back_26 : decode cX12_back 26 = .ok (.iload_n 1, 1) := by decide +kernel
theorem dX12_back_27 : decode cX12_back 27 = .ok (.aload_n 0, 1) := by decide +kernel
theorem dX12_back_28 : decode cX12_back 28 = .ok (.getfield 237, 3) := by decide +kernel
theorem dX12_back_31 : decode cX12_back 31 = .ok (.iastore, 1) := by decide +kernel
theorem dX12_back_32 : decode cX12_back 32 = .ok (.aload_n 0, 1) := by decide +kernel
theorem dX12_back_33 : decode cX12_back 33 = .ok (.getfield 237, 3) := by decide +kernel
theorem dX12_back_36 : decode cX12_back 36 = .ok (.aload_n 0, 1) := by decide +kernel
theorem dX12_back_37 : decode cX12_back 37 = .ok (.getfield 139, 3) := by decide +kernel
theorem dX12_back_40 : decode cX12_back 40 = .ok (.iload_n 1, 1) := by decide +kernel
theorem dX12_back_41 : decode cX12_back 41 = .ok (.iaload, 1) := by decide +kernel
theorem dX12_back_42 : decode cX12_back 42 = .ok (.isub, 1) := by decide +kernel
theorem dX12_back_43 : decode cX12_back 43 = .ok (.ireturn, 1) := by decide +kernel
theorem dX12_penalty_0 : decode cX12_penalty 0 = .ok (.aload_n 0, 1) := by decide +kernel
theorem dX12_penalty_1 : decode cX12_penalty 1 = .ok (.iload_n 1, 1) := by decide +kernel
theorem dX12_penalty_2 : decode cX12_penalty 2 = .ok (.invokevirtual 320, 3) := by decide +kernel
theorem dX12_penalty_5 : decode cX12_penalty 5 = .ok (.ifCond .eq 22, 3) := by decide +kernel
theorem dX12_penalty_8 : decode cX12_penalty 8 = .ok (.iload_n 2, 1) := by decide +kernel
theorem dX12_penalty_9 : decode cX12_penalty 9 = .ok (.iconst 0, 1) := by decide +kernel
theorem dX12_penalty_10 : decode cX12_penalty 10 = .ok (.aload_n 0, 1) := by decide +kernel
theorem dX12_penalty_11 : decode cX12_penalty 11 = .ok (.getfield 237, 3) := by decide +kernel
theorem dX12_penalty_14 : decode cX12_penalty 14 = .ok (.invokestatic 164, 3) := by decide +kernel
theorem dX12_penalty_17 : decode cX12_penalty 17 = .ok (.ifCond .eq 10, 3) := by decide +kernel
theorem dX12_penalty_20 : decode cX12_penalty 20 = .ok (.iload_n 3, 1) := by decide +kernel
theorem dX12_penalty_21 : decode cX12_penalty 21 = .ok (.invokestatic 285, 3) := by decide +kernel
theorem dX12_penalty_24 : decode cX12_penalty 24 = .ok (.ifCond .ne 7, 3) := by decide +kernel
theorem dX12_penalty_27 : decode cX12_penalty 27 = .ok (.ldc_w 306, 3) := by decide +kernel
theorem dX12_penalty_30 : decode cX12_penalty 30 = .ok (.ireturn, 1) := by decide +kernel
theorem dX12_penalty_31 : decode cX12_penalty 31 = .ok (.aload_n 0, 1) := by decide +kernel
theorem dX12_penalty_32 : decode cX12_penalty 32 = .ok (.iconst 1, 1) := by decide +kernel
theorem dX12_penalty_33 : decode cX12_penalty 33 = .ok (.iload_n 2, 1) := by decide +kernel
theorem dX12_penalty_34 : decode cX12_penalty 34 = .ok (.iload_n 3, 1) := by decide +kernel
theorem dX12_penalty_35 : decode cX12_penalty 35 = .ok (.invokevirtual 288, 3) := by decide +kernel
theorem dX12_penalty_38 : decode cX12_penalty 38 = .ok (.istore 4, 2) := by decide +kernel
theorem dX12_penalty_40 : decode cX12_penalty 40 = .ok (.iload 4, 2) := by decide +kernel
theorem dX12_penalty_42 : decode cX12_penalty 42 = .ok (.ifCond .lt 13, 3) := by decide +kernel
theorem dX12_penalty_45 : decode cX12_penalty 45 = .ok (.iload_n 2, 1) := by decide +kernel
theorem dX12_penalty_46 : decode cX12_penalty 46 = .ok (.aload_n 0, 1) := by decide +kernel
theorem dX12_penalty_47 : decode cX12_penalty 47 = .ok (.getfield 139, 3) := by decide +kernel
theorem dX12_penalty_50 : decode cX12_penalty 50 = .ok (.iload_n 1, 1) := by decide +kernel
theorem dX12_penalty_51 : decode cX12_penalty 51 = .ok (.iaload, 1) := by decide +kernel
theorem dX12_penalty_52 : decode cX12_penalty 52 = .ok (.if_icmp .ge 5, 3) := by decide +kernel
theorem dX12_penalty_55 : decode cX12_penalty 55 = .ok (.iconst 0, 1) := by decide +kernel
theorem dX12_penalty_56 : decode cX12_penalty 56 = .ok (.ireturn, 1) := by decide +kernel
theorem dX12_penalty_57 : decode cX12_penalty 57 = .ok (.aload_n 0, 1) := by decide +kernel
theorem dX12_penalty_58 : decode cX12_penalty 58 = .ok (.getfield 145, 3) := by decide +kernel
theorem dX12_penalty_61 : decode cX12_penalty 61 = .ok (.iload_n 1, 1) := by decide +kernel
theorem dX12_penalty_62 : decode cX12_penalty 62 = .ok (.iaload, 1) := by decide +kernel
theorem dX12_penalty_63 : decode cX12_penalty 63 = .ok (.ifCond .lt 22, 3) := by decide +kernel
theorem dX12_penalty_66 : decode cX12_penalty 66 = .ok (.aload_n 0, 1) := by decide +kernel
theorem dX12_penalty_67 : decode cX12_penalty 67 = .ok (.getfield 145, 3) := by decide +kernel
theorem dX12_penalty_70 : decode cX12_penalty 70 = .ok (.iload_n 1, 1) := by decide +kernel
theorem dX12_penalty_71 : decode cX12_penalty 71 = .ok (.iaload, 1) := by decide +kernel
theorem dX12_penalty_72 : decode cX12_penalty 72 = .ok (.iload_n 2, 1) := by decide +kernel
theorem dX12_penalty_73 : decode cX12_penalty 73 = .ok (.if_icmp .ge 12, 3) := by decide +kernel
theorem dX12_penalty_76 : decode cX12_penalty 76 = .ok (.aload_n 0, 1) := by decide +kernel
theorem dX12_penalty_77 : decode cX12_penalty 77 = .ok (.getfield 145, 3) := by decide +kernel
theorem dX12_penalty_80 : decode cX12_penalty 80 = .ok (.iload_n 1, 1) := by decide +kernel
theorem dX12_penalty_81 : decode cX12_penalty 81 = .ok (.iaload, 1) := by decide +kernel
theorem dX12_penalty_82 : decode cX12_penalty 82 = .ok (.goto 4, 3) := by decide +kernel
theorem dX12_penalty_85 : decode cX12_penalty 85 = .ok (.iload_n 2, 1) := by decide +kernel
theorem dX12_penalty_86 : decode cX12_penalty 86 = .ok (.istore 5, 2) := by decide +kernel
theorem dX12_penalty_88 : decode cX12_penalty 88 = .ok (.iload 5, 2) := by decide +kernel
theorem dX12_penalty_90 : decode cX12_penalty 90 = .ok (.aload_n 0, 1) := by decide +kernel
theorem dX12_penalty_91 : decode cX12_penalty 91 = .ok (.getfield 139, 3) := by decide +kernel
theorem dX12_penalty_94 : decode cX12_penalty 94 = .ok (.iload_n 1, 1) := by decide +kernel
theorem dX12_penalty_95 : decode cX12_penalty 95 = .ok (.iaload, 1) := by decide +kernel
theorem dX12_penalty_96 : decode cX12_penalty 96 = .ok (.isub, 1) := by decide +kernel
theorem dX12_penalty_97 : decode cX12_penalty 97 = .ok (.istore 6, 2) := by decide +kernel
theorem dX12_penalty_99 : decode cX12_penalty 99 = .ok (.iconst 0, 1) := by decide +kernel
theorem dX12_penalty_100 : decode cX12_penalty 100 = .ok (.istore 7, 2) := by decide +kernel
theorem dX12_penalty_102 : decode cX12_penalty 102 = .ok (.iconst 0, 1) := by decide +kernel
theorem dX12_penalty_103 : decode cX12_penalty 103 = .ok (.istore 8, 2) := by decide +kernel
theorem dX12_penalty_105 : decode cX12_penalty 105 = .ok (.iload 8, 2) := by decide +kernel
theorem dX12_penalty_107 : decode cX12_penalty 107 = .ok (.aload_n 0, 1) := by decide +kernel
theorem dX12_penalty_108 : decode cX12_penalty 108 = .ok (.getfield 311, 3) := by decide +kernel
theorem dX12_penalty_111 : decode cX12_penalty 111 = .ok (.if_icmp .ge 45, 3) := by decide +kernel
theorem dX12_penalty_114 : decode cX12_penalty 114 = .ok (.iload 7, 2) := by decide +kernel
theorem dX12_penalty_116 : decode cX12_penalty 116 = .ok (.aload_n 0, 1) := by decide +kernel
theorem dX12_penalty_117 : decode cX12_penalty 117 = .ok (.getfield 130, 3) := by decide +kernel
theorem dX12_penalty_120 : decode cX12_penalty 120 = .ok (.iload 8, 2) := by decide +kernel
theorem dX12_penalty_122 : decode cX12_penalty 122 = .ok (.iaload, 1) := by decide +kernel
theorem dX12_penalty_123 : decode cX12_penalty 123 = .ok (.aload_n 0, 1) := by decide +kernel
theorem dX12_penalty_124 : decode cX12_penalty 124 = .ok (.getfield 130, 3) := by decide +kernel
theorem dX12_penalty_127 : decode cX12_penalty 127 = .ok (.iload_n 1, 1) := by decide +kernel
theorem dX12_penalty_128 : decode cX12_penalty 128 = .ok (.iaload, 1) := by decide +kernel
theorem dX12_penalty_129 : decode cX12_penalty 129 = .ok (.if_icmp .ne 17, 3) := by decide +kernel
theorem dX12_penalty_132 : decode cX12_penalty 132 = .ok (.aload_n 0, 1) := by decide +kernel
theorem dX12_penalty_133 : decode cX12_penalty 133 = .ok (.getfield 145, 3) := by decide +kernel
theorem dX12_penalty_136 : decode cX12_penalty 136 = .ok (.iload 8, 2) := by decide +kernel
theorem dX12_penalty_138 : decode cX12_penalty 138 = .ok (.iaload, 1) := by decide +kernel
theorem dX12_penalty_139 : decode cX12_penalty 139 = .ok (.ifCond .ge 7, 3) := by decide +kernel
theorem dX12_penalty_142 : decode cX12_penalty 142 = .ok (.iconst 1, 1) := by decide +kernel
theorem dX12_penalty_143 : decode cX12_penalty 143 = .ok (.goto 4, 3) := by decide +kernel
theorem dX12_penalty_146 : decode cX12_penalty 146 = .ok (.iconst 0, 1) := by decide +kernel
theorem dX12_penalty_147 : decode cX12_penalty 147 = .ok (.iadd, 1) := by decide +kernel
theorem dX12_penalty_148 : decode cX12_penalty 148 = .ok (.istore 7, 2) := by decide +kernel
theorem dX12_penalty_150 : decode cX12_penalty 150 = .ok (.iinc 8 1, 3) := by decide +kernel
theorem dX12_penalty_153 : decode cX12_penalty 153 = .ok (.goto (-48), 3) := by decide +kernel
theorem dX12_penalty_156 : decode cX12_penalty 156 = .ok (.aload_n 0, 1) := by decide +kernel
theorem dX12_penalty_157 : decode cX12_penalty 157 = .ok (.getfield 124, 3) := by decide +kernel
theorem dX12_penalty_160 : decode cX12_penalty 160 = .ok (.bipush 100, 2) := by decide +kernel
theorem dX12_penalty_162 : decode cX12_penalty 162 = .ok (.iload 6, 2) := by decide +kernel
theorem dX12_penalty_164 : decode cX12_penalty 164 = .ok (.iastore, 1) := by decide +kernel
theorem dX12_penalty_165 : decode cX12_penalty 165 = .ok (.aload_n 0, 1) := by decide +kernel
theorem dX12_penalty_166 : decode cX12_penalty 166 = .ok (.getfield 124, 3) := by decide +kernel
theorem dX12_penalty_169 : decode cX12_penalty 169 = .ok (.bipush 108, 2) := by decide +kernel
theorem dX12_penalty_171 : decode cX12_penalty 171 = .ok (.iload 6, 2) := by decide +kernel
theorem dX12_penalty_173 : decode cX12_penalty 173 = .ok (.aload_n 0, 1) := by decide +kernel
theorem dX12_penalty_174 : decode cX12_penalty 174 = .ok (.getfield 142, 3) := by decide +kernel
theorem dX12_penalty_177 : decode cX12_penalty 177 = .ok (.iload_n 1, 1) := by decide +kernel
theorem dX12_penalty_178 : decode cX12_penalty 178 = .ok (.iaload, 1) := by decide +kernel
theorem dX12_penalty_179 : decode cX12_penalty 179 = .ok (.if_icmp .le 15, 3) := by decide +kernel
theorem dX12_penalty_182 : decode cX12_penalty 182 = .ok (.iload 6, 2) := by decide +kernel
theorem dX12_penalty_184 : decode cX12_penalty 184 = .ok (.aload_n 0, 1) := by decide +kernel
theorem dX12_penalty_185 : decode cX12_penalty 185 = .ok (.getfield 142, 3) := by decide +kernel
theorem dX12_penalty_188 : decode cX12_penalty 188 = .ok (.iload_n 1, 1) := by decide +kernel
theorem dX12_penalty_189 : decode cX12_penalty 189 = .ok (.iaload, 1) := by decide +kernel
theorem dX12_penalty_190 : decode cX12_penalty 190 = .ok (.isub, 1) := by decide +kernel
theorem dX12_penalty_191 : decode cX12_penalty 191 = .ok (.goto 4, 3) := by decide +kernel
theorem dX12_penalty_194 : decode cX12_penalty 194 = .ok (.iconst 0, 1) := by decide +kernel
theorem dX12_penalty_195 : decode cX12_penalty 195 = .ok (.iastore, 1) := by decide +kernel
theorem dX12_penalty_196 : decode cX12_penalty 196 = .ok (.aload_n 0, 1) := by decide +kernel
theorem dX12_penalty_197 : decode cX12_penalty 197 = .ok (.getfield 124, 3) := by decide +kernel
theorem dX12_penalty_200 : decode cX12_penalty 200 = .ok (.bipush 119, 2) := by decide +kernel
theorem dX12_penalty_202 : decode cX12_penalty 202 = .ok (.aload_n 0, 1) := by decide +kernel
theorem dX12_penalty_203 : decode cX12_penalty 203 = .ok (.getfield 130, 3) := by decide +kernel
theorem dX12_penalty_206 : decode cX12_penalty 206 = .ok (.iload_n 1, 1) := by decide +kernel
theorem dX12_penalty_207 : decode cX12_penalty 207 = .ok (.iaload, 1) := by decide +kernel
theorem dX12_penalty_208 : decode cX12_penalty 208 = .ok (.iastore, 1) := by decide +kernel
theorem dX12_penalty_209 : decode cX12_penalty 209 = .ok (.aload_n 0, 1) := by decide +kernel
theorem dX12_penalty_210 : decode cX12_penalty 210 = .ok (.getfield 124, 3) := by decide +kernel
theorem dX12_penalty_213 : decode cX12_penalty 213 = .ok (.bipush 115, 2) := by decide +kernel
theorem dX12_penalty_215 : decode cX12_penalty 215 = .ok (.aload_n 0, 1) := by decide +kernel
theorem dX12_penalty_216 : decode cX12_penalty 216 = .ok (.getfield 133, 3) := by decide +kernel
theorem dX12_penalty_219 : decode cX12_penalty 219 = .ok (.iload_n 1, 1) := by decide +kernel
theorem dX12_penalty_220 : decode cX12_penalty 220 = .ok (.iaload, 1) := by decide +kernel
theorem dX12_penalty_221 : decode cX12_penalty 221 = .ok (.iastore, 1) := by decide +kernel
theorem dX12_penalty_222 : decode cX12_penalty 222 = .ok (.aload_n 0, 1) := by decide +kernel
theorem dX12_penalty_223 : decode cX12_penalty 223 = .ok (.getfield 124, 3) := by decide +kernel
theorem dX12_penalty_226 : decode cX12_penalty 226 = .ok (.bipush 110, 2) := by decide +kernel
theorem dX12_penalty_228 : decode cX12_penalty 228 = .ok (.iload 7, 2) := by decide +kernel
theorem dX12_penalty_230 : decode cX12_penalty 230 = .ok (.iastore, 1) := by decide +kernel
theorem dX12_penalty_231 : decode cX12_penalty 231 = .ok (.aload_n 0, 1) := by decide +kernel
theorem dX12_penalty_232 : decode cX12_penalty 232 = .ok (.iload 4, 2) := by decide +kernel
theorem dX12_penalty_234 : decode cX12_penalty 234 = .ok (.invokevirtual 297, 3) := by decide +kernel
theorem dX12_penalty_237 : decode cX12_penalty 237 = .ok (.invokestatic 300, 3) := by decide +kernel
theorem dX12_penalty_240 : decode cX12_penalty 240 = .ok (.ireturn, 1) := by decide +kernel
theorem dX12_sink_0 : decode cX12_sink 0 = .ok (.aload_n 0, 1) := by decide +kernel
theorem dX12_sink_1 : decode cX12_sink 1 = .ok (.iload_n 1, 1) := by decide +kernel
theorem dX12_sink_2 : decode cX12_sink 2 = .ok (.iload_n 2, 1) := by decide +kernel
theorem dX12_sink_3 : decode cX12_sink 3 = .ok (.invokevirtual 314, 3) := by decide +kernel
theorem dX12_sink_6 : decode cX12_sink 6 = .ok (.ifCond .ne 5, 3) := by decide +kernel
theorem dX12_sink_9 : decode cX12_sink 9 = .ok (.iconst (-1), 1) := by decide +kernel
theorem dX12_sink_10 : decode cX12_sink 10 = .ok (.ireturn, 1) := by decide +kernel
theorem dX12_sink_11 : decode cX12_sink 11 = .ok (.aload_n 0, 1) := by decide +kernel
theorem dX12_sink_12 : decode cX12_sink 12 = .ok (.iload_n 1, 1) := by decide +kernel
theorem dX12_sink_13 : decode cX12_sink 13 = .ok (.iload_n 2, 1) := by decide +kernel
theorem dX12_sink_14 : decode cX12_sink 14 = .ok (.invokevirtual 317, 3) := by decide +kernel
theorem dX12_sink_17 : decode cX12_sink 17 = .ok (.istore_n 3, 1) := by decide +kernel
theorem dX12_sink_18 : decode cX12_sink 18 = .ok (.iload_n 3, 1) := by decide +kernel
theorem dX12_sink_19 : decode cX12_sink 19 = .ok (.ifCond .lt 5, 3) := by decide +kernel
theorem dX12_sink_22 : decode cX12_sink 22 = .ok (.iload_n 3, 1) := by decide +kernel
theorem dX12_sink_23 : decode cX12_sink 23 = .ok (.ireturn, 1) := by decide +kernel
theorem dX12_sink_24 : decode cX12_sink 24 = .ok (.iconst 0, 1) := by decide +kernel
theorem dX12_sink_25 : decode cX12_sink 25 = .ok (.istore 4, 2) := by decide +kernel
theorem dX12_sink_27 : decode cX12_sink 27 = .ok (.iload 4, 2) := by decide +kernel
theorem dX12_sink_29 : decode cX12_sink 29 = .ok (.aload_n 0, 1) := by decide +kernel
theorem dX12_sink_30 : decode cX12_sink 30 = .ok (.getfield 311, 3) := by decide +kernel
theorem dX12_sink_33 : decode cX12_sink 33 = .ok (.if_icmp .ge 54, 3) := by decide +kernel
theorem dX12_sink_36 : decode cX12_sink 36 = .ok (.aload_n 0, 1) := by decide +kernel
theorem dX12_sink_37 : decode cX12_sink 37 = .ok (.getfield 133, 3) := by decide +kernel
theorem dX12_sink_40 : decode cX12_sink 40 = .ok (.iload 4, 2) := by decide +kernel
theorem dX12_sink_42 : decode cX12_sink 42 = .ok (.iaload, 1) := by decide +kernel
theorem dX12_sink_43 : decode cX12_sink 43 = .ok (.iload_n 1, 1) := by decide +kernel
theorem dX12_sink_44 : decode cX12_sink 44 = .ok (.if_icmp .ne 37, 3) := by decide +kernel
theorem dX12_sink_47 : decode cX12_sink 47 = .ok (.aload_n 0, 1) := by decide +kernel
theorem dX12_sink_48 : decode cX12_sink 48 = .ok (.getfield 136, 3) := by decide +kernel
theorem dX12_sink_51 : decode cX12_sink 51 = .ok (.iload 4, 2) := by decide +kernel
theorem dX12_sink_53 : decode cX12_sink 53 = .ok (.iaload, 1) := by decide +kernel
theorem dX12_sink_54 : decode cX12_sink 54 = .ok (.iload_n 2, 1) := by decide +kernel
theorem dX12_sink_55 : decode cX12_sink 55 = .ok (.if_icmp .ne 26, 3) := by decide +kernel
theorem dX12_sink_58 : decode cX12_sink 58 = .ok (.iload_n 3, 1) := by decide +kernel
theorem dX12_sink_59 : decode cX12_sink 59 = .ok (.ifCond .lt 19, 3) := by decide +kernel
theorem dX12_sink_62 : decode cX12_sink 62 = .ok (.aload_n 0, 1) := by decide +kernel
theorem dX12_sink_63 : decode cX12_sink 63 = .ok (.getfield 145, 3) := by decide +kernel
theorem dX12_sink_66 : decode cX12_sink 66 = .ok (.iload 4, 2) := by decide +kernel
theorem dX12_sink_68 : decode cX12_sink 68 = .ok (.iaload, 1) := by decide +kernel
theorem dX12_sink_69 : decode cX12_sink 69 = .ok (.aload_n 0, 1) := by decide +kernel
theorem dX12_sink_70 : decode cX12_sink 70 = .ok (.getfield 145, 3) := by decide +kernel
theorem dX12_sink_73 : decode cX12_sink 73 = .ok (.iload_n 3, 1) := by decide +kernel
theorem dX12_sink_74 : decode cX12_sink 74 = .ok (.iaload, 1) := by decide +kernel
theorem dX12_sink_75 : decode cX12_sink 75 = .ok (.if_icmp .lt 6, 3) := by decide +kernel
theorem dX12_sink_78 : decode cX12_sink 78 = .ok (.iload 4, 2) := by decide +kernel
theorem dX12_sink_80 : decode cX12_sink 80 = .ok (.istore_n 3, 1) := by decide +kernel
theorem dX12_sink_81 : decode cX12_sink 81 = .ok (.iinc 4 1, 3) := by decide +kernel
theorem dX12_sink_84 : decode cX12_sink 84 = .ok (.goto (-57), 3) := by decide +kernel
theorem dX12_sink_87 : decode cX12_sink 87 = .ok (.iload_n 3, 1) := by decide +kernel
theorem dX12_sink_88 : decode cX12_sink 88 = .ok (.ireturn, 1) := by decide +kernel
theorem dX12_opening_0 : decode cX12_opening 0 = .ok (.aload_n 0, 1) := by decide +kernel
theorem dX12_opening_1 : decode cX12_opening 1 = .ok (.iload_n 1, 1) := by decide +kernel
theorem dX12_opening_2 : decode cX12_opening 2 = .ok (.invokevirtual 320, 3) := by decide +kernel
theorem dX12_opening_5 : decode cX12_opening 5 = .ok (.ifCond .ne 6, 3) := by decide +kernel
theorem dX12_opening_8 : decode cX12_opening 8 = .ok (.bipush (-2), 2) := by decide +kernel
theorem dX12_opening_10 : decode cX12_opening 10 = .ok (.ireturn, 1) := by decide +kernel
theorem dX12_opening_11 : decode cX12_opening 11 = .ok (.iload_n 2, 1) := by decide +kernel
theorem dX12_opening_12 : decode cX12_opening 12 = .ok (.tableswitch 82 0 5 #[40, 47, 54, 61, 68, 75], 40) := by decide +kernel
theorem dX12_opening_52 : decode cX12_opening 52 = .ok (.aload_n 0, 1) := by decide +kernel
theorem dX12_opening_53 : decode cX12_opening 53 = .ok (.getfield 130, 3) := by decide +kernel
theorem dX12_opening_56 : decode cX12_opening 56 = .ok (.iload_n 1, 1) := by decide +kernel
theorem dX12_opening_57 : decode cX12_opening 57 = .ok (.iaload, 1) := by decide +kernel
theorem dX12_opening_58 : decode cX12_opening 58 = .ok (.ireturn, 1) := by decide +kernel
theorem dX12_opening_59 : decode cX12_opening 59 = .ok (.aload_n 0, 1) := by decide +kernel
theorem dX12_opening_60 : decode cX12_opening 60 = .ok (.getfield 133, 3) := by decide +kernel
theorem dX12_opening_63 : decode cX12_opening 63 = .ok (.iload_n 1, 1) := by decide +kernel
theorem dX12_opening_64 : decode cX12_opening 64 = .ok (.iaload, 1) := by decide +kernel
theorem dX12_opening_65 : decode cX12_opening 65 = .ok (.ireturn, 1) := by decide +kernel
theorem dX12_opening_66 : decode cX12_opening 66 = .ok (.aload_n 0, 1) := by decide +kernel
theorem dX12_opening_67 : decode cX12_opening 67 = .ok (.getfield 136, 3) := by decide +kernel
theorem dX12_opening_70 : decode cX12_opening 70 = .ok (.iload_n 1, 1) := by decide +kernel
theorem dX12_opening_71 : decode cX12_opening 71 = .ok (.iaload, 1) := by decide +kernel
theorem dX12_opening_72 : decode cX12_opening 72 = .ok (.ireturn, 1) := by decide +kernel
theorem dX12_opening_73 : decode cX12_opening 73 = .ok (.aload_n 0, 1) := by decide +kernel
theorem dX12_opening_74 : decode cX12_opening 74 = .ok (.getfield 139, 3) := by decide +kernel
theorem dX12_opening_77 : decode cX12_opening 77 = .ok (.iload_n 1, 1) := by decide +kernel
theorem dX12_opening_78 : decode cX12_opening 78 = .ok (.iaload, 1) := by decide +kernel
theorem dX12_opening_79 : decode cX12_opening 79 = .ok (.ireturn, 1) := by decide +kernel
theorem dX12_opening_80 : decode cX12_opening 80 = .ok (.aload_n 0, 1) := by decide +kernel
theorem dX12_opening_81 : decode cX12_opening 81 = .ok (.getfield 142, 3) := by decide +kernel
theorem dX12_opening_84 : decode cX12_opening 84 = .ok (.iload_n 1, 1) := by decide +kernel
theorem dX12_opening_85 : decode cX12_opening 85 = .ok (.iaload, 1) := by decide +kernel
theorem dX12_opening_86 : decode cX12_opening 86 = .ok (.ireturn, 1) := by decide +kernel
theorem dX12_opening_87 : decode cX12_opening 87 = .ok (.aload_n 0, 1) := by decide +kernel
theorem dX12_opening_88 : decode cX12_opening 88 = .ok (.getfield 145, 3) := by decide +kernel
theorem dX12_opening_91 : decode cX12_opening 91 = .ok (.iload_n 1, 1) := by decide +kernel
theorem dX12_opening_92 : decode cX12_opening 92 = .ok (.iaload, 1) := by decide +kernel
theorem dX12_opening_93 : decode cX12_opening 93 = .ok (.ireturn, 1) := by decide +kernel
theorem dX12_opening_94 : decode cX12_opening 94 = .ok (.bipush (-2), 2) := by decide +kernel
theorem dX12_opening_96 : decode cX12_opening 96 = .ok (.ireturn, 1) := by decide +kernel
theorem dX12_draw_0 : decode cX12_draw 0 = .ok (.iload_n 1, 1) := by decide +kernel
theorem dX12_draw_1 : decode cX12_draw 1 = .ok (.iconst 1, 1) := by decide +kernel
theorem dX12_draw_2 : decode cX12_draw 2 = .ok (.bipush 40, 2) := by decide +kernel
theorem dX12_draw_4 : decode cX12_draw 4 = .ok (.invokestatic 164, 3) := by decide +kernel
theorem dX12_draw_7 : decode cX12_draw 7 = .ok (.ifCond .eq 12, 3) := by decide +kernel
theorem dX12_draw_10 : decode cX12_draw 10 = .ok (.iload_n 2, 1) := by decide +kernel
theorem dX12_draw_11 : decode cX12_draw 11 = .ok (.iconst 1, 1) := by decide +kernel
theorem dX12_draw_12 : decode cX12_draw 12 = .ok (.iload_n 1, 1) := by decide +kernel
theorem dX12_draw_13 : decode cX12_draw 13 = .ok (.invokestatic 164, 3) := by decide +kernel
theorem dX12_draw_16 : decode cX12_draw 16 = .ok (.ifCond .ne 5, 3) := by decide +kernel
theorem dX12_draw_19 : decode cX12_draw 19 = .ok (.iconst (-1), 1) := by decide +kernel
theorem dX12_draw_20 : decode cX12_draw 20 = .ok (.ireturn, 1) := by decide +kernel
theorem dX12_draw_21 : decode cX12_draw 21 = .ok (.iconst 0, 1) := by decide +kernel
theorem dX12_draw_22 : decode cX12_draw 22 = .ok (.istore 4, 2) := by decide +kernel
theorem dX12_draw_24 : decode cX12_draw 24 = .ok (.iload 4, 2) := by decide +kernel
theorem dX12_draw_26 : decode cX12_draw 26 = .ok (.iload_n 1, 1) := by decide +kernel
theorem dX12_draw_27 : decode cX12_draw 27 = .ok (.if_icmp .ge 17, 3) := by decide +kernel
theorem dX12_draw_30 : decode cX12_draw 30 = .ok (.aload_n 0, 1) := by decide +kernel
theorem dX12_draw_31 : decode cX12_draw 31 = .ok (.getfield 151, 3) := by decide +kernel
theorem dX12_draw_34 : decode cX12_draw 34 = .ok (.iload 4, 2) := by decide +kernel
theorem dX12_draw_36 : decode cX12_draw 36 = .ok (.iconst 0, 1) := by decide +kernel
theorem dX12_draw_37 : decode cX12_draw 37 = .ok (.bastore, 1) := by decide +kernel
theorem dX12_draw_38 : decode cX12_draw 38 = .ok (.iinc 4 1, 3) := by decide +kernel
theorem dX12_draw_41 : decode cX12_draw 41 = .ok (.goto (-17), 3) := by decide +kernel
theorem dX12_draw_44 : decode cX12_draw 44 = .ok (.iload_n 3, 1) := by decide +kernel
theorem dX12_draw_45 : decode cX12_draw 45 = .ok (.istore 4, 2) := by decide +kernel
theorem dX12_draw_47 : decode cX12_draw 47 = .ok (.iconst 0, 1) := by decide +kernel
theorem dX12_draw_48 : decode cX12_draw 48 = .ok (.istore 5, 2) := by decide +kernel
theorem dX12_draw_50 : decode cX12_draw 50 = .ok (.iload 5, 2) := by decide +kernel
theorem dX12_draw_52 : decode cX12_draw 52 = .ok (.iload_n 2, 1) := by decide +kernel
theorem dX12_draw_53 : decode cX12_draw 53 = .ok (.if_icmp .ge 94, 3) := by decide +kernel
theorem dX12_draw_56 : decode cX12_draw 56 = .ok (.iload 4, 2) := by decide +kernel
theorem dX12_draw_58 : decode cX12_draw 58 = .ok (.ldc_w 323, 3) := by decide +kernel
theorem dX12_draw_61 : decode cX12_draw 61 = .ok (.imul, 1) := by decide +kernel
theorem dX12_draw_62 : decode cX12_draw 62 = .ok (.sipush 12345, 3) := by decide +kernel
theorem dX12_draw_65 : decode cX12_draw 65 = .ok (.iadd, 1) := by decide +kernel
theorem dX12_draw_66 : decode cX12_draw 66 = .ok (.istore 4, 2) := by decide +kernel
theorem dX12_draw_68 : decode cX12_draw 68 = .ok (.iload 4, 2) := by decide +kernel
theorem dX12_draw_70 : decode cX12_draw 70 = .ok (.bipush 8, 2) := by decide +kernel
theorem dX12_draw_72 : decode cX12_draw 72 = .ok (.iushr, 1) := by decide +kernel
theorem dX12_draw_73 : decode cX12_draw 73 = .ok (.iload_n 1, 1) := by decide +kernel
theorem dX12_draw_74 : decode cX12_draw 74 = .ok (.iload 5, 2) := by decide +kernel
theorem dX12_draw_76 : decode cX12_draw 76 = .ok (.isub, 1) := by decide +kernel
theorem dX12_draw_77 : decode cX12_draw 77 = .ok (.irem, 1) := by decide +kernel
theorem dX12_draw_78 : decode cX12_draw 78 = .ok (.istore 6, 2) := by decide +kernel
theorem dX12_draw_80 : decode cX12_draw 80 = .ok (.iconst 0, 1) := by decide +kernel
theorem dX12_draw_81 : decode cX12_draw 81 = .ok (.istore 7, 2) := by decide +kernel
theorem dX12_draw_83 : decode cX12_draw 83 = .ok (.aload_n 0, 1) := by decide +kernel
theorem dX12_draw_84 : decode cX12_draw 84 = .ok (.getfield 151, 3) := by decide +kernel
theorem dX12_draw_87 : decode cX12_draw 87 = .ok (.iload 7, 2) := by decide +kernel
theorem dX12_draw_89 : decode cX12_draw 89 = .ok (.baload, 1) := by decide +kernel
theorem dX12_draw_90 : decode cX12_draw 90 = .ok (.ifCond .ne 8, 3) := by decide +kernel
theorem dX12_draw_93 : decode cX12_draw 93 = .ok (.iload 6, 2) := by decide +kernel
theorem dX12_draw_95 : decode cX12_draw 95 = .ok (.ifCond .le 29, 3) := by decide +kernel
theorem dX12_draw_98 : decode cX12_draw 98 = .ok (.iload 6, 2) := by decide +kernel
theorem dX12_draw_100 : decode cX12_draw 100 = .ok (.aload_n 0, 1) := by decide +kernel
theorem dX12_draw_101 : decode cX12_draw 101 = .ok (.getfield 151, 3) := by decide +kernel
theorem dX12_draw_104 : decode cX12_draw 104 = .ok (.iload 7, 2) := by decide +kernel
theorem dX12_draw_106 : decode cX12_draw 106 = .ok (.baload, 1) := by decide +kernel
theorem dX12_draw_107 : decode cX12_draw 107 = .ok (.ifCond .eq 7, 3) := by decide +kernel
theorem dX12_draw_110 : decode cX12_draw 110 = .ok (.iconst 0, 1) := by decide +kernel
theorem dX12_draw_111 : decode cX12_draw 111 = .ok (.goto 4, 3) := by decide +kernel
theorem dX12_draw_114 : decode cX12_draw 114 = .ok (.iconst 1, 1) := by decide +kernel
theorem dX12_draw_115 : decode cX12_draw 115 = .ok (.isub, 1) := by decide +kernel
theorem dX12_draw_116 : decode cX12_draw 116 = .ok (.istore 6, 2) := by decide +kernel
theorem dX12_draw_118 : decode cX12_draw 118 = .ok (.iinc 7 1, 3) := by decide +kernel
theorem dX12_draw_121 : decode cX12_draw 121 = .ok (.goto (-38), 3) := by decide +kernel
theorem dX12_draw_124 : decode cX12_draw 124 = .ok (.aload_n 0, 1) := by decide +kernel
theorem dX12_draw_125 : decode cX12_draw 125 = .ok (.getfield 151, 3) := by decide +kernel
theorem dX12_draw_128 : decode cX12_draw 128 = .ok (.iload 7, 2) := by decide +kernel
theorem dX12_draw_130 : decode cX12_draw 130 = .ok (.iconst 1, 1) := by decide +kernel
theorem dX12_draw_131 : decode cX12_draw 131 = .ok (.bastore, 1) := by decide +kernel
theorem dX12_draw_132 : decode cX12_draw 132 = .ok (.aload_n 0, 1) := by decide +kernel
theorem dX12_draw_133 : decode cX12_draw 133 = .ok (.getfield 148, 3) := by decide +kernel
theorem dX12_draw_136 : decode cX12_draw 136 = .ok (.iload 5, 2) := by decide +kernel
theorem dX12_draw_138 : decode cX12_draw 138 = .ok (.iload 7, 2) := by decide +kernel
theorem dX12_draw_140 : decode cX12_draw 140 = .ok (.iastore, 1) := by decide +kernel
theorem dX12_draw_141 : decode cX12_draw 141 = .ok (.iinc 5 1, 3) := by decide +kernel
theorem dX12_draw_144 : decode cX12_draw 144 = .ok (.goto (-94), 3) := by decide +kernel
theorem dX12_draw_147 : decode cX12_draw 147 = .ok (.aload_n 0, 1) := by decide +kernel
theorem dX12_draw_148 : decode cX12_draw 148 = .ok (.iload_n 2, 1) := by decide +kernel
theorem dX12_draw_149 : decode cX12_draw 149 = .ok (.putfield 324, 3) := by decide +kernel
theorem dX12_draw_152 : decode cX12_draw 152 = .ok (.iload_n 2, 1) := by decide +kernel
theorem dX12_draw_153 : decode cX12_draw 153 = .ok (.ireturn, 1) := by decide +kernel
theorem dX12_drawn_0 : decode cX12_drawn 0 = .ok (.iload_n 1, 1) := by decide +kernel
theorem dX12_drawn_1 : decode cX12_drawn 1 = .ok (.iconst 0, 1) := by decide +kernel
theorem dX12_drawn_2 : decode cX12_drawn 2 = .ok (.aload_n 0, 1) := by decide +kernel
theorem dX12_drawn_3 : decode cX12_drawn 3 = .ok (.getfield 324, 3) := by decide +kernel
theorem dX12_drawn_6 : decode cX12_drawn 6 = .ok (.iconst 1, 1) := by decide +kernel
theorem dX12_drawn_7 : decode cX12_drawn 7 = .ok (.isub, 1) := by decide +kernel
theorem dX12_drawn_8 : decode cX12_drawn 8 = .ok (.invokestatic 164, 3) := by decide +kernel
theorem dX12_drawn_11 : decode cX12_drawn 11 = .ok (.ifCond .eq 12, 3) := by decide +kernel
theorem dX12_drawn_14 : decode cX12_drawn 14 = .ok (.aload_n 0, 1) := by decide +kernel
theorem dX12_drawn_15 : decode cX12_drawn 15 = .ok (.getfield 148, 3) := by decide +kernel
theorem dX12_drawn_18 : decode cX12_drawn 18 = .ok (.iload_n 1, 1) := by decide +kernel
theorem dX12_drawn_19 : decode cX12_drawn 19 = .ok (.iaload, 1) := by decide +kernel
theorem dX12_drawn_20 : decode cX12_drawn 20 = .ok (.goto 4, 3) := by decide +kernel
theorem dX12_drawn_23 : decode cX12_drawn 23 = .ok (.iconst (-1), 1) := by decide +kernel
theorem dX12_drawn_24 : decode cX12_drawn 24 = .ok (.ireturn, 1) := by decide +kernel
theorem dX12_choose_0 : decode cX12_choose 0 = .ok (.iload_n 2, 1) := by decide +kernel
theorem dX12_choose_1 : decode cX12_choose 1 = .ok (.ifCond .lt 8, 3) := by decide +kernel
theorem dX12_choose_4 : decode cX12_choose 4 = .ok (.iload_n 2, 1) := by decide +kernel
theorem dX12_choose_5 : decode cX12_choose 5 = .ok (.iload_n 1, 1) := by decide +kernel
theorem dX12_choose_6 : decode cX12_choose 6 = .ok (.if_icmp .le 7, 3) := by decide +kernel
theorem dX12_choose_9 : decode cX12_choose 9 = .ok (.lconst 0, 1) := by decide +kernel
theorem dX12_choose_10 : decode cX12_choose 10 = .ok (.goto 14, 3) := by decide +kernel
theorem dX12_choose_13 : decode cX12_choose 13 = .ok (.aload_n 0, 1) := by decide +kernel
theorem dX12_choose_14 : decode cX12_choose 14 = .ok (.getfield 154, 3) := by decide +kernel
theorem dX12_choose_17 : decode cX12_choose 17 = .ok (.bipush 41, 2) := by decide +kernel
theorem dX12_choose_19 : decode cX12_choose 19 = .ok (.iload_n 1, 1) := by decide +kernel
theorem dX12_choose_20 : decode cX12_choose 20 = .ok (.imul, 1) := by decide +kernel
theorem dX12_choose_21 : decode cX12_choose 21 = .ok (.iload_n 2, 1) := by decide +kernel
theorem dX12_choose_22 : decode cX12_choose 22 = .ok (.iadd, 1) := by decide +kernel
theorem dX12_choose_23 : decode cX12_choose 23 = .ok (.laload, 1) := by decide +kernel
theorem dX12_choose_24 : decode cX12_choose 24 = .ok (.lreturn, 1) := by decide +kernel
theorem dX12_bad_0 : decode cX12_bad 0 = .ok (.iload_n 1, 1) := by decide +kernel
theorem dX12_bad_1 : decode cX12_bad 1 = .ok (.iconst 1, 1) := by decide +kernel
theorem dX12_bad_2 : decode cX12_bad 2 = .ok (.bipush 40, 2) := by decide +kernel
theorem dX12_bad_4 : decode cX12_bad 4 = .ok (.invokestatic 164, 3) := by decide +kernel
theorem dX12_bad_7 : decode cX12_bad 7 = .ok (.ifCond .eq 33, 3) := by decide +kernel
theorem dX12_bad_10 : decode cX12_bad 10 = .ok (.iload_n 2, 1) := by decide +kernel
theorem dX12_bad_11 : decode cX12_bad 11 = .ok (.iconst 1, 1) := by decide +kernel
theorem dX12_bad_12 : decode cX12_bad 12 = .ok (.iload_n 1, 1) := by decide +kernel
theorem dX12_bad_13 : decode cX12_bad 13 = .ok (.invokestatic 164, 3) := by decide +kernel
theorem dX12_bad_16 : decode cX12_bad 16 = .ok (.ifCond .eq 24, 3) := by decide +kernel
theorem dX12_bad_19 : decode cX12_bad 19 = .ok (.iload_n 3, 1) := by decide +kernel
theorem dX12_bad_20 : decode cX12_bad 20 = .ok (.iconst 0, 1) := by decide +kernel
theorem dX12_bad_21 : decode cX12_bad 21 = .ok (.iload_n 2, 1) := by decide +kernel
theorem dX12_bad_22 : decode cX12_bad 22 = .ok (.invokestatic 164, 3) := by decide +kernel
theorem dX12_bad_25 : decode cX12_bad 25 = .ok (.ifCond .eq 15, 3) := by decide +kernel
theorem dX12_bad_28 : decode cX12_bad 28 = .ok (.iload 4, 2) := by decide +kernel
theorem dX12_bad_30 : decode cX12_bad 30 = .ok (.iconst 1, 1) := by decide +kernel
theorem dX12_bad_31 : decode cX12_bad 31 = .ok (.sipush 9999, 3) := by decide +kernel
theorem dX12_bad_34 : decode cX12_bad 34 = .ok (.invokestatic 164, 3) := by decide +kernel
theorem dX12_bad_37 : decode cX12_bad 37 = .ok (.ifCond .ne 5, 3) := by decide +kernel
theorem dX12_bad_40 : decode cX12_bad 40 = .ok (.iconst (-1), 1) := by decide +kernel
theorem dX12_bad_41 : decode cX12_bad 41 = .ok (.ireturn, 1) := by decide +kernel
theorem dX12_bad_42 : decode cX12_bad 42 = .ok (.iconst 0, 1) := by decide +kernel
theorem dX12_bad_43 : decode cX12_bad 43 = .ok (.istore 5, 2) := by decide +kernel
theorem dX12_bad_45 : decode cX12_bad 45 = .ok (.iload 5, 2) := by decide +kernel
theorem dX12_bad_47 : decode cX12_bad 47 = .ok (.bipush 40, 2) := by decide +kernel
theorem dX12_bad_49 : decode cX12_bad 49 = .ok (.if_icmp .gt 87, 3) := by decide +kernel
theorem dX12_bad_52 : decode cX12_bad 52 = .ok (.iconst 0, 1) := by decide +kernel
theorem dX12_bad_53 : decode cX12_bad 53 = .ok (.istore 6, 2) := by decide +kernel
theorem dX12_bad_55 : decode cX12_bad 55 = .ok (.iload 6, 2) := by decide +kernel
theorem dX12_bad_57 : decode cX12_bad 57 = .ok (.iload 5, 2) := by decide +kernel
theorem dX12_bad_59 : decode cX12_bad 59 = .ok (.if_icmp .gt 71, 3) := by decide +kernel
theorem dX12_bad_62 : decode cX12_bad 62 = .ok (.aload_n 0, 1) := by decide +kernel
theorem dX12_bad_63 : decode cX12_bad 63 = .ok (.getfield 154, 3) := by decide +kernel
theorem dX12_bad_66 : decode cX12_bad 66 = .ok (.bipush 41, 2) := by decide +kernel
theorem dX12_bad_68 : decode cX12_bad 68 = .ok (.iload 5, 2) := by decide +kernel
theorem dX12_bad_70 : decode cX12_bad 70 = .ok (.imul, 1) := by decide +kernel
theorem dX12_bad_71 : decode cX12_bad 71 = .ok (.iload 6, 2) := by decide +kernel
theorem dX12_bad_73 : decode cX12_bad 73 = .ok (.iadd, 1) := by decide +kernel
theorem dX12_bad_74 : decode cX12_bad 74 = .ok (.iload 6, 2) := by decide +kernel
theorem dX12_bad_76 : decode cX12_bad 76 = .ok (.ifCond .eq 10, 3) := by decide +kernel
theorem dX12_bad_79 : decode cX12_bad 79 = .ok (.iload 6, 2) := by decide +kernel
theorem dX12_bad_81 : decode cX12_bad 81 = .ok (.iload 5, 2) := by decide +kernel
theorem dX12_bad_83 : decode cX12_bad 83 = .ok (.if_icmp .ne 7, 3) := by decide +kernel
theorem dX12_bad_86 : decode cX12_bad 86 = .ok (.lconst 1, 1) := by decide +kernel
theorem dX12_bad_87 : decode cX12_bad 87 = .ok (.goto 36, 3) := by decide +kernel
theorem dX12_bad_90 : decode cX12_bad 90 = .ok (.aload_n 0, 1) := by decide +kernel
theorem dX12_bad_91 : decode cX12_bad 91 = .ok (.getfield 154, 3) := by decide +kernel
theorem dX12_bad_94 : decode cX12_bad 94 = .ok (.bipush 41, 2) := by decide +kernel
theorem dX12_bad_96 : decode cX12_bad 96 = .ok (.iload 5, 2) := by decide +kernel
theorem dX12_bad_98 : decode cX12_bad 98 = .ok (.iconst 1, 1) := by decide +kernel
theorem dX12_bad_99 : decode cX12_bad 99 = .ok (.isub, 1) := by decide +kernel
theorem dX12_bad_100 : decode cX12_bad 100 = .ok (.imul, 1) := by decide +kernel
theorem dX12_bad_101 : decode cX12_bad 101 = .ok (.iload 6, 2) := by decide +kernel
theorem dX12_bad_103 : decode cX12_bad 103 = .ok (.iadd, 1) := by decide +kernel
theorem dX12_bad_104 : decode cX12_bad 104 = .ok (.iconst 1, 1) := by decide +kernel
theorem dX12_bad_105 : decode cX12_bad 105 = .ok (.isub, 1) := by decide +kernel
theorem dX12_bad_106 : decode cX12_bad 106 = .ok (.laload, 1) := by decide +kernel
theorem dX12_bad_107 : decode cX12_bad 107 = .ok (.aload_n 0, 1) := by decide +kernel
theorem dX12_bad_108 : decode cX12_bad 108 = .ok (.getfield 154, 3) := by decide +kernel
theorem dX12_bad_111 : decode cX12_bad 111 = .ok (.bipush 41, 2) := by decide +kernel
theorem dX12_bad_113 : decode cX12_bad 113 = .ok (.iload 5, 2) := by decide +kernel
theorem dX12_bad_115 : decode cX12_bad 115 = .ok (.iconst 1, 1) := by decide +kernel
theorem dX12_bad_116 : decode cX12_bad 116 = .ok (.isub, 1) := by decide +kernel
theorem dX12_bad_117 : decode cX12_bad 117 = .ok (.imul, 1) := by decide +kernel
theorem dX12_bad_118 : decode cX12_bad 118 = .ok (.iload 6, 2) := by decide +kernel
theorem dX12_bad_120 : decode cX12_bad 120 = .ok (.iadd, 1) := by decide +kernel
theorem dX12_bad_121 : decode cX12_bad 121 = .ok (.laload, 1) := by decide +kernel
theorem dX12_bad_122 : decode cX12_bad 122 = .ok (.ladd, 1) := by decide +kernel
theorem dX12_bad_123 : decode cX12_bad 123 = .ok (.lastore, 1) := by decide +kernel
theorem dX12_bad_124 : decode cX12_bad 124 = .ok (.iinc 6 1, 3) := by decide +kernel
theorem dX12_bad_127 : decode cX12_bad 127 = .ok (.goto (-72), 3) := by decide +kernel
theorem dX12_bad_130 : decode cX12_bad 130 = .ok (.iinc 5 1, 3) := by decide +kernel
theorem dX12_bad_133 : decode cX12_bad 133 = .ok (.goto (-88), 3) := by decide +kernel
theorem dX12_bad_136 : decode cX12_bad 136 = .ok (.iload_n 1, 1) := by decide +kernel
theorem dX12_bad_137 : decode cX12_bad 137 = .ok (.iload_n 2, 1) := by decide +kernel
theorem dX12_bad_138 : decode cX12_bad 138 = .ok (.isub, 1) := by decide +kernel
theorem dX12_bad_139 : decode cX12_bad 139 = .ok (.iload_n 3, 1) := by decide +kernel
theorem dX12_bad_140 : decode cX12_bad 140 = .ok (.iadd, 1) := by decide +kernel
theorem dX12_bad_141 : decode cX12_bad 141 = .ok (.istore 5, 2) := by decide +kernel
theorem dX12_bad_143 : decode cX12_bad 143 = .ok (.iload 5, 2) := by decide +kernel
theorem dX12_bad_145 : decode cX12_bad 145 = .ok (.iload_n 3, 1) := by decide +kernel
theorem dX12_bad_146 : decode cX12_bad 146 = .ok (.if_icmp .le 76, 3) := by decide +kernel
theorem dX12_bad_149 : decode cX12_bad 149 = .ok (.lconst 0, 1) := by decide +kernel
theorem dX12_bad_150 : decode cX12_bad 150 = .ok (.lstore 6, 2) := by decide +kernel
theorem dX12_bad_152 : decode cX12_bad 152 = .ok (.iconst 0, 1) := by decide +kernel
theorem dX12_bad_153 : decode cX12_bad 153 = .ok (.istore 8, 2) := by decide +kernel
theorem dX12_bad_155 : decode cX12_bad 155 = .ok (.iload 8, 2) := by decide +kernel
theorem dX12_bad_157 : decode cX12_bad 157 = .ok (.iload_n 3, 1) := by decide +kernel
theorem dX12_bad_158 : decode cX12_bad 158 = .ok (.if_icmp .gt 35, 3) := by decide +kernel
theorem dX12_bad_161 : decode cX12_bad 161 = .ok (.lload 6, 2) := by decide +kernel
theorem dX12_bad_163 : decode cX12_bad 163 = .ok (.aload_n 0, 1) := by decide +kernel
theorem dX12_bad_164 : decode cX12_bad 164 = .ok (.iload 5, 2) := by decide +kernel
theorem dX12_bad_166 : decode cX12_bad 166 = .ok (.iload 8, 2) := by decide +kernel
theorem dX12_bad_168 : decode cX12_bad 168 = .ok (.invokevirtual 327, 3) := by decide +kernel
theorem dX12_bad_171 : decode cX12_bad 171 = .ok (.aload_n 0, 1) := by decide +kernel
theorem dX12_bad_172 : decode cX12_bad 172 = .ok (.iload_n 1, 1) := by decide +kernel
theorem dX12_bad_173 : decode cX12_bad 173 = .ok (.iload 5, 2) := by decide +kernel
theorem dX12_bad_175 : decode cX12_bad 175 = .ok (.isub, 1) := by decide +kernel
theorem dX12_bad_176 : decode cX12_bad 176 = .ok (.iload_n 2, 1) := by decide +kernel
theorem dX12_bad_177 : decode cX12_bad 177 = .ok (.iload 8, 2) := by decide +kernel
theorem dX12_bad_179 : decode cX12_bad 179 = .ok (.isub, 1) := by decide +kernel
theorem dX12_bad_180 : decode cX12_bad 180 = .ok (.invokevirtual 327, 3) := by decide +kernel
theorem dX12_bad_183 : decode cX12_bad 183 = .ok (.lmul, 1) := by decide +kernel
theorem dX12_bad_184 : decode cX12_bad 184 = .ok (.ladd, 1) := by decide +kernel
theorem dX12_bad_185 : decode cX12_bad 185 = .ok (.lstore 6, 2) := by decide +kernel
theorem dX12_bad_187 : decode cX12_bad 187 = .ok (.iinc 8 1, 3) := by decide +kernel
theorem dX12_bad_190 : decode cX12_bad 190 = .ok (.goto (-35), 3) := by decide +kernel
theorem dX12_bad_193 : decode cX12_bad 193 = .ok (.ldc2_w 331, 3) := by decide +kernel
theorem dX12_bad_196 : decode cX12_bad 196 = .ok (.lload 6, 2) := by decide +kernel
theorem dX12_bad_198 : decode cX12_bad 198 = .ok (.lmul, 1) := by decide +kernel
theorem dX12_bad_199 : decode cX12_bad 199 = .ok (.iload 4, 2) := by decide +kernel
theorem dX12_bad_201 : decode cX12_bad 201 = .ok (.i2l, 1) := by decide +kernel
theorem dX12_bad_202 : decode cX12_bad 202 = .ok (.aload_n 0, 1) := by decide +kernel
theorem dX12_bad_203 : decode cX12_bad 203 = .ok (.iload_n 1, 1) := by decide +kernel
theorem dX12_bad_204 : decode cX12_bad 204 = .ok (.iload_n 2, 1) := by decide +kernel
theorem dX12_bad_205 : decode cX12_bad 205 = .ok (.invokevirtual 327, 3) := by decide +kernel
theorem dX12_bad_208 : decode cX12_bad 208 = .ok (.lmul, 1) := by decide +kernel
theorem dX12_bad_209 : decode cX12_bad 209 = .ok (.lcmp, 1) := by decide +kernel
theorem dX12_bad_210 : decode cX12_bad 210 = .ok (.ifCond .lt 6, 3) := by decide +kernel
theorem dX12_bad_213 : decode cX12_bad 213 = .ok (.iload 5, 2) := by decide +kernel
theorem dX12_bad_215 : decode cX12_bad 215 = .ok (.ireturn, 1) := by decide +kernel
theorem dX12_bad_216 : decode cX12_bad 216 = .ok (.iinc 5 (-1), 3) := by decide +kernel
theorem dX12_bad_219 : decode cX12_bad 219 = .ok (.goto (-76), 3) := by decide +kernel
theorem dX12_bad_222 : decode cX12_bad 222 = .ok (.iload_n 3, 1) := by decide +kernel
theorem dX12_bad_223 : decode cX12_bad 223 = .ok (.ireturn, 1) := by decide +kernel
theorem dX12_count_0 : decode cX12_count 0 = .ok (.iconst 0, 1) := by decide +kernel
theorem dX12_count_1 : decode cX12_count 1 = .ok (.istore_n 2, 1) := by decide +kernel
theorem dX12_count_2 : decode cX12_count 2 = .ok (.iload_n 1, 1) := by decide +kernel
theorem dX12_count_3 : decode cX12_count 3 = .ok (.tableswitch 144 0 8 #[49, 54, 59, 64, 69, 104, 109, 114, 119], 49) := by decide +kernel
theorem dX12_count_52 : decode cX12_count 52 = .ok (.aload_n 0, 1) := by decide +kernel
theorem dX12_count_53 : decode cX12_count 53 = .ok (.getfield 161, 3) := by decide +kernel
theorem dX12_count_56 : decode cX12_count 56 = .ok (.ireturn, 1) := by decide +kernel
theorem dX12_count_57 : decode cX12_count 57 = .ok (.aload_n 0, 1) := by decide +kernel
theorem dX12_count_58 : decode cX12_count 58 = .ok (.getfield 234, 3) := by decide +kernel
theorem dX12_count_61 : decode cX12_count 61 = .ok (.ireturn, 1) := by decide +kernel
theorem dX12_count_62 : decode cX12_count 62 = .ok (.aload_n 0, 1) := by decide +kernel
theorem dX12_count_63 : decode cX12_count 63 = .ok (.getfield 279, 3) := by decide +kernel
theorem dX12_count_66 : decode cX12_count 66 = .ok (.ireturn, 1) := by decide +kernel
theorem dX12_count_67 : decode cX12_count 67 = .ok (.aload_n 0, 1) := by decide +kernel
theorem dX12_count_68 : decode cX12_count 68 = .ok (.getfield 311, 3) := by decide +kernel
theorem dX12_count_71 : decode cX12_count 71 = .ok (.ireturn, 1) := by decide +kernel
theorem dX12_count_72 : decode cX12_count 72 = .ok (.iconst 0, 1) := by decide +kernel
theorem dX12_count_73 : decode cX12_count 73 = .ok (.istore_n 3, 1) := by decide +kernel
theorem dX12_count_74 : decode cX12_count 74 = .ok (.iload_n 3, 1) := by decide +kernel
theorem dX12_count_75 : decode cX12_count 75 = .ok (.aload_n 0, 1) := by decide +kernel
end
section
theorem dX12_count_76 : decode cX12_count 76 = .ok (.getfield 311, 3) := by decide +kernel
theorem dX12_count_79 : decode cX12_count 79 = .ok (.if_icmp .ge 26, 3) := by decide +kernel
theorem dX12_count_82 : decode cX12_count 82 = .ok (.iload_n 2, 1) := by decide +kernel
theorem dX12_count_83 : decode cX12_count 83 = .ok (.aload_n 0, 1) := by decide +kernel
theorem dX12_count_84 : decode cX12_count 84 = .ok (.getfield 145, 3) := by decide +kernel
theorem dX12_count_87 : decode cX12_count 87 = .ok (.iload_n 3, 1) := by decide +kernel
theorem dX12_count_88 : decode cX12_count 88 = .ok (.iaload, 1) := by decide +kernel
theorem dX12_count_89 : decode cX12_count 89 = .ok (.ifCond .ge 7, 3) := by decide +kernel
theorem dX12_count_92 : decode cX12_count 92 = .ok (.iconst 1, 1) := by decide +kernel
theorem dX12_count_93 : decode cX12_count 93 = .ok (.goto 4, 3) := by decide +kernel
theorem dX12_count_96 : decode cX12_count 96 = .ok (.iconst 0, 1) := by decide +kernel
theorem dX12_count_97 : decode cX12_count 97 = .ok (.iadd, 1) := by decide +kernel
theorem dX12_count_98 : decode cX12_count 98 = .ok (.istore_n 2, 1) := by decide +kernel
theorem dX12_count_99 : decode cX12_count 99 = .ok (.iinc 3 1, 3) := by decide +kernel
theorem dX12_count_102 : decode cX12_count 102 = .ok (.goto (-28), 3) := by decide +kernel
theorem dX12_count_105 : decode cX12_count 105 = .ok (.iload_n 2, 1) := by decide +kernel
theorem dX12_count_106 : decode cX12_count 106 = .ok (.ireturn, 1) := by decide +kernel
theorem dX12_count_107 : decode cX12_count 107 = .ok (.aload_n 0, 1) := by decide +kernel
theorem dX12_count_108 : decode cX12_count 108 = .ok (.getfield 237, 3) := by decide +kernel
theorem dX12_count_111 : decode cX12_count 111 = .ok (.ireturn, 1) := by decide +kernel
theorem dX12_count_112 : decode cX12_count 112 = .ok (.aload_n 0, 1) := by decide +kernel
theorem dX12_count_113 : decode cX12_count 113 = .ok (.getfield 211, 3) := by decide +kernel
theorem dX12_count_116 : decode cX12_count 116 = .ok (.ireturn, 1) := by decide +kernel
theorem dX12_count_117 : decode cX12_count 117 = .ok (.aload_n 0, 1) := by decide +kernel
theorem dX12_count_118 : decode cX12_count 118 = .ok (.getfield 240, 3) := by decide +kernel
theorem dX12_count_121 : decode cX12_count 121 = .ok (.ireturn, 1) := by decide +kernel
theorem dX12_count_122 : decode cX12_count 122 = .ok (.iconst 1, 1) := by decide +kernel
theorem dX12_count_123 : decode cX12_count 123 = .ok (.istore_n 3, 1) := by decide +kernel
theorem dX12_count_124 : decode cX12_count 124 = .ok (.iload_n 3, 1) := by decide +kernel
theorem dX12_count_125 : decode cX12_count 125 = .ok (.bipush 9, 2) := by decide +kernel
theorem dX12_count_127 : decode cX12_count 127 = .ok (.if_icmp .gt 18, 3) := by decide +kernel
theorem dX12_count_130 : decode cX12_count 130 = .ok (.iload_n 2, 1) := by decide +kernel
theorem dX12_count_131 : decode cX12_count 131 = .ok (.aload_n 0, 1) := by decide +kernel
theorem dX12_count_132 : decode cX12_count 132 = .ok (.getfield 42, 3) := by decide +kernel
theorem dX12_count_135 : decode cX12_count 135 = .ok (.iload_n 3, 1) := by decide +kernel
theorem dX12_count_136 : decode cX12_count 136 = .ok (.iaload, 1) := by decide +kernel
theorem dX12_count_137 : decode cX12_count 137 = .ok (.iadd, 1) := by decide +kernel
theorem dX12_count_138 : decode cX12_count 138 = .ok (.istore_n 2, 1) := by decide +kernel
theorem dX12_count_139 : decode cX12_count 139 = .ok (.iinc 3 1, 3) := by decide +kernel
theorem dX12_count_142 : decode cX12_count 142 = .ok (.goto (-18), 3) := by decide +kernel
theorem dX12_count_145 : decode cX12_count 145 = .ok (.iload_n 2, 1) := by decide +kernel
theorem dX12_count_146 : decode cX12_count 146 = .ok (.ireturn, 1) := by decide +kernel
theorem dX12_count_147 : decode cX12_count 147 = .ok (.iconst (-1), 1) := by decide +kernel
theorem dX12_count_148 : decode cX12_count 148 = .ok (.ireturn, 1) := by decide +kernel
theorem dJ11_isValidCodePoint_9a6ad_0 : decode cJ11_isValidCodePoint_9a6ad 0 = .ok (.iload_n 0, 1) := by decide +kernel
theorem dJ11_isValidCodePoint_9a6ad_1 : decode cJ11_isValidCodePoint_9a6ad 1 = .ok (.bipush 16, 2) := by decide +kernel
theorem dJ11_isValidCodePoint_9a6ad_3 : decode cJ11_isValidCodePoint_9a6ad 3 = .ok (.iushr, 1) := by decide +kernel
theorem dJ11_isValidCodePoint_9a6ad_4 : decode cJ11_isValidCodePoint_9a6ad 4 = .ok (.istore_n 1, 1) := by decide +kernel
theorem dJ11_isValidCodePoint_9a6ad_5 : decode cJ11_isValidCodePoint_9a6ad 5 = .ok (.iload_n 1, 1) := by decide +kernel
theorem dJ11_isValidCodePoint_9a6ad_6 : decode cJ11_isValidCodePoint_9a6ad 6 = .ok (.bipush 17, 2) := by decide +kernel
theorem dJ11_isValidCodePoint_9a6ad_8 : decode cJ11_isValidCodePoint_9a6ad 8 = .ok (.if_icmp .ge 7, 3) := by decide +kernel
theorem dJ11_isValidCodePoint_9a6ad_11 : decode cJ11_isValidCodePoint_9a6ad 11 = .ok (.iconst 1, 1) := by decide +kernel
theorem dJ11_isValidCodePoint_9a6ad_12 : decode cJ11_isValidCodePoint_9a6ad 12 = .ok (.goto 4, 3) := by decide +kernel
theorem dJ11_isValidCodePoint_9a6ad_15 : decode cJ11_isValidCodePoint_9a6ad 15 = .ok (.iconst 0, 1) := by decide +kernel
theorem dJ11_isValidCodePoint_9a6ad_16 : decode cJ11_isValidCodePoint_9a6ad 16 = .ok (.ireturn, 1) := by decide +kernel
theorem dJ11_highSurrogate_5068e_0 : decode cJ11_highSurrogate_5068e 0 = .ok (.iload_n 0, 1) := by decide +kernel
theorem dJ11_highSurrogate_5068e_1 : decode cJ11_highSurrogate_5068e 1 = .ok (.bipush 10, 2) := by decide +kernel
theorem dJ11_highSurrogate_5068e_3 : decode cJ11_highSurrogate_5068e 3 = .ok (.iushr, 1) := by decide +kernel
theorem dJ11_highSurrogate_5068e_4 : decode cJ11_highSurrogate_5068e 4 = .ok (.ldc 110, 2) := by decide +kernel
theorem dJ11_highSurrogate_5068e_6 : decode cJ11_highSurrogate_5068e 6 = .ok (.iadd, 1) := by decide +kernel
theorem dJ11_highSurrogate_5068e_7 : decode cJ11_highSurrogate_5068e 7 = .ok (.i2c, 1) := by decide +kernel
theorem dJ11_highSurrogate_5068e_8 : decode cJ11_highSurrogate_5068e 8 = .ok (.ireturn, 1) := by decide +kernel
theorem dJ11_lowSurrogate_5068e_0 : decode cJ11_lowSurrogate_5068e 0 = .ok (.iload_n 0, 1) := by decide +kernel
theorem dJ11_lowSurrogate_5068e_1 : decode cJ11_lowSurrogate_5068e 1 = .ok (.sipush 1023, 3) := by decide +kernel
theorem dJ11_lowSurrogate_5068e_4 : decode cJ11_lowSurrogate_5068e 4 = .ok (.iand, 1) := by decide +kernel
theorem dJ11_lowSurrogate_5068e_5 : decode cJ11_lowSurrogate_5068e 5 = .ok (.ldc 76, 2) := by decide +kernel
theorem dJ11_lowSurrogate_5068e_7 : decode cJ11_lowSurrogate_5068e 7 = .ok (.iadd, 1) := by decide +kernel
theorem dJ11_lowSurrogate_5068e_8 : decode cJ11_lowSurrogate_5068e 8 = .ok (.i2c, 1) := by decide +kernel
theorem dJ11_lowSurrogate_5068e_9 : decode cJ11_lowSurrogate_5068e 9 = .ok (.ireturn, 1) := by decide +kernel
theorem dJ6_bitCount_0f7a4_0 : decode cJ6_bitCount_0f7a4 0 = .ok (.iload_n 0, 1) := by decide +kernel
theorem dJ6_bitCount_0f7a4_1 : decode cJ6_bitCount_0f7a4 1 = .ok (.iload_n 0, 1) := by decide +kernel
theorem dJ6_bitCount_0f7a4_2 : decode cJ6_bitCount_0f7a4 2 = .ok (.iconst 1, 1) := by decide +kernel
theorem dJ6_bitCount_0f7a4_3 : decode cJ6_bitCount_0f7a4 3 = .ok (.iushr, 1) := by decide +kernel
theorem dJ6_bitCount_0f7a4_4 : decode cJ6_bitCount_0f7a4 4 = .ok (.ldc_w 265, 3) := by decide +kernel
theorem dJ6_bitCount_0f7a4_7 : decode cJ6_bitCount_0f7a4 7 = .ok (.iand, 1) := by decide +kernel
theorem dJ6_bitCount_0f7a4_8 : decode cJ6_bitCount_0f7a4 8 = .ok (.isub, 1) := by decide +kernel
theorem dJ6_bitCount_0f7a4_9 : decode cJ6_bitCount_0f7a4 9 = .ok (.istore_n 0, 1) := by decide +kernel
theorem dJ6_bitCount_0f7a4_10 : decode cJ6_bitCount_0f7a4 10 = .ok (.iload_n 0, 1) := by decide +kernel
theorem dJ6_bitCount_0f7a4_11 : decode cJ6_bitCount_0f7a4 11 = .ok (.ldc_w 266, 3) := by decide +kernel
theorem dJ6_bitCount_0f7a4_14 : decode cJ6_bitCount_0f7a4 14 = .ok (.iand, 1) := by decide +kernel
theorem dJ6_bitCount_0f7a4_15 : decode cJ6_bitCount_0f7a4 15 = .ok (.iload_n 0, 1) := by decide +kernel
theorem dJ6_bitCount_0f7a4_16 : decode cJ6_bitCount_0f7a4 16 = .ok (.iconst 2, 1) := by decide +kernel
theorem dJ6_bitCount_0f7a4_17 : decode cJ6_bitCount_0f7a4 17 = .ok (.iushr, 1) := by decide +kernel
theorem dJ6_bitCount_0f7a4_18 : decode cJ6_bitCount_0f7a4 18 = .ok (.ldc_w 266, 3) := by decide +kernel
theorem dJ6_bitCount_0f7a4_21 : decode cJ6_bitCount_0f7a4 21 = .ok (.iand, 1) := by decide +kernel
theorem dJ6_bitCount_0f7a4_22 : decode cJ6_bitCount_0f7a4 22 = .ok (.iadd, 1) := by decide +kernel
theorem dJ6_bitCount_0f7a4_23 : decode cJ6_bitCount_0f7a4 23 = .ok (.istore_n 0, 1) := by decide +kernel
theorem dJ6_bitCount_0f7a4_24 : decode cJ6_bitCount_0f7a4 24 = .ok (.iload_n 0, 1) := by decide +kernel
theorem dJ6_bitCount_0f7a4_25 : decode cJ6_bitCount_0f7a4 25 = .ok (.iload_n 0, 1) := by decide +kernel
theorem dJ6_bitCount_0f7a4_26 : decode cJ6_bitCount_0f7a4 26 = .ok (.iconst 4, 1) := by decide +kernel
theorem dJ6_bitCount_0f7a4_27 : decode cJ6_bitCount_0f7a4 27 = .ok (.iushr, 1) := by decide +kernel
theorem dJ6_bitCount_0f7a4_28 : decode cJ6_bitCount_0f7a4 28 = .ok (.iadd, 1) := by decide +kernel
theorem dJ6_bitCount_0f7a4_29 : decode cJ6_bitCount_0f7a4 29 = .ok (.ldc_w 267, 3) := by decide +kernel
theorem dJ6_bitCount_0f7a4_32 : decode cJ6_bitCount_0f7a4 32 = .ok (.iand, 1) := by decide +kernel
theorem dJ6_bitCount_0f7a4_33 : decode cJ6_bitCount_0f7a4 33 = .ok (.istore_n 0, 1) := by decide +kernel
theorem dJ6_bitCount_0f7a4_34 : decode cJ6_bitCount_0f7a4 34 = .ok (.iload_n 0, 1) := by decide +kernel
theorem dJ6_bitCount_0f7a4_35 : decode cJ6_bitCount_0f7a4 35 = .ok (.iload_n 0, 1) := by decide +kernel
theorem dJ6_bitCount_0f7a4_36 : decode cJ6_bitCount_0f7a4 36 = .ok (.bipush 8, 2) := by decide +kernel
theorem dJ6_bitCount_0f7a4_38 : decode cJ6_bitCount_0f7a4 38 = .ok (.iushr, 1) := by decide +kernel
theorem dJ6_bitCount_0f7a4_39 : decode cJ6_bitCount_0f7a4 39 = .ok (.iadd, 1) := by decide +kernel
theorem dJ6_bitCount_0f7a4_40 : decode cJ6_bitCount_0f7a4 40 = .ok (.istore_n 0, 1) := by decide +kernel
theorem dJ6_bitCount_0f7a4_41 : decode cJ6_bitCount_0f7a4 41 = .ok (.iload_n 0, 1) := by decide +kernel
theorem dJ6_bitCount_0f7a4_42 : decode cJ6_bitCount_0f7a4 42 = .ok (.iload_n 0, 1) := by decide +kernel
theorem dJ6_bitCount_0f7a4_43 : decode cJ6_bitCount_0f7a4 43 = .ok (.bipush 16, 2) := by decide +kernel
theorem dJ6_bitCount_0f7a4_45 : decode cJ6_bitCount_0f7a4 45 = .ok (.iushr, 1) := by decide +kernel
theorem dJ6_bitCount_0f7a4_46 : decode cJ6_bitCount_0f7a4 46 = .ok (.iadd, 1) := by decide +kernel
theorem dJ6_bitCount_0f7a4_47 : decode cJ6_bitCount_0f7a4 47 = .ok (.istore_n 0, 1) := by decide +kernel
theorem dJ6_bitCount_0f7a4_48 : decode cJ6_bitCount_0f7a4 48 = .ok (.iload_n 0, 1) := by decide +kernel
theorem dJ6_bitCount_0f7a4_49 : decode cJ6_bitCount_0f7a4 49 = .ok (.bipush 63, 2) := by decide +kernel
theorem dJ6_bitCount_0f7a4_51 : decode cJ6_bitCount_0f7a4 51 = .ok (.iand, 1) := by decide +kernel
theorem dJ6_bitCount_0f7a4_52 : decode cJ6_bitCount_0f7a4 52 = .ok (.ireturn, 1) := by decide +kernel
theorem dJ9_abs_0f7a4_0 : decode cJ9_abs_0f7a4 0 = .ok (.iload_n 0, 1) := by decide +kernel
theorem dJ9_abs_0f7a4_1 : decode cJ9_abs_0f7a4 1 = .ok (.ifCond .ge 8, 3) := by decide +kernel
theorem dJ9_abs_0f7a4_4 : decode cJ9_abs_0f7a4 4 = .ok (.iload_n 0, 1) := by decide +kernel
theorem dJ9_abs_0f7a4_5 : decode cJ9_abs_0f7a4 5 = .ok (.ineg, 1) := by decide +kernel
theorem dJ9_abs_0f7a4_6 : decode cJ9_abs_0f7a4 6 = .ok (.goto 4, 3) := by decide +kernel
theorem dJ9_abs_0f7a4_9 : decode cJ9_abs_0f7a4 9 = .ok (.iload_n 0, 1) := by decide +kernel
theorem dJ9_abs_0f7a4_10 : decode cJ9_abs_0f7a4 10 = .ok (.ireturn, 1) := by decide +kernel
theorem dJ9_max_7cf53_0 : decode cJ9_max_7cf53 0 = .ok (.iload_n 0, 1) := by decide +kernel
theorem dJ9_max_7cf53_1 : decode cJ9_max_7cf53 1 = .ok (.iload_n 1, 1) := by decide +kernel
theorem dJ9_max_7cf53_2 : decode cJ9_max_7cf53 2 = .ok (.if_icmp .lt 7, 3) := by decide +kernel
theorem dJ9_max_7cf53_5 : decode cJ9_max_7cf53 5 = .ok (.iload_n 0, 1) := by decide +kernel
theorem dJ9_max_7cf53_6 : decode cJ9_max_7cf53 6 = .ok (.goto 4, 3) := by decide +kernel
theorem dJ9_max_7cf53_9 : decode cJ9_max_7cf53 9 = .ok (.iload_n 1, 1) := by decide +kernel
theorem dJ9_max_7cf53_10 : decode cJ9_max_7cf53 10 = .ok (.ireturn, 1) := by decide +kernel
theorem dJ9_min_7cf53_0 : decode cJ9_min_7cf53 0 = .ok (.iload_n 0, 1) := by decide +kernel
theorem dJ9_min_7cf53_1 : decode cJ9_min_7cf53 1 = .ok (.iload_n 1, 1) := by decide +kernel
theorem dJ9_min_7cf53_2 : decode cJ9_min_7cf53 2 = .ok (.if_icmp .gt 7, 3) := by decide +kernel
theorem dJ9_min_7cf53_5 : decode cJ9_min_7cf53 5 = .ok (.iload_n 0, 1) := by decide +kernel
theorem dJ9_min_7cf53_6 : decode cJ9_min_7cf53 6 = .ok (.goto 4, 3) := by decide +kernel
theorem dJ9_min_7cf53_9 : decode cJ9_min_7cf53 9 = .ok (.iload_n 1, 1) := by decide +kernel
theorem dJ9_min_7cf53_10 : decode cJ9_min_7cf53 10 = .ok (.ireturn, 1) := by decide +kernel
theorem dJ0_length_8abf5_0 : decode cJ0_length_8abf5 0 = .ok (.aload_n 0, 1) := by decide +kernel
theorem dJ0_length_8abf5_1 : decode cJ0_length_8abf5 1 = .ok (.getfield 9, 3) := by decide +kernel
theorem dJ0_length_8abf5_4 : decode cJ0_length_8abf5 4 = .ok (.arraylength, 1) := by decide +kernel
theorem dJ0_length_8abf5_5 : decode cJ0_length_8abf5 5 = .ok (.aload_n 0, 1) := by decide +kernel
theorem dJ0_length_8abf5_6 : decode cJ0_length_8abf5 6 = .ok (.invokevirtual 335, 3) := by decide +kernel
theorem dJ0_length_8abf5_9 : decode cJ0_length_8abf5 9 = .ok (.ishr, 1) := by decide +kernel
theorem dJ0_length_8abf5_10 : decode cJ0_length_8abf5 10 = .ok (.ireturn, 1) := by decide +kernel
theorem dJ0_indexOf_0f7a4_0 : decode cJ0_indexOf_0f7a4 0 = .ok (.aload_n 0, 1) := by decide +kernel
theorem dJ0_indexOf_0f7a4_1 : decode cJ0_indexOf_0f7a4 1 = .ok (.iload_n 1, 1) := by decide +kernel
theorem dJ0_indexOf_0f7a4_2 : decode cJ0_indexOf_0f7a4 2 = .ok (.iconst 0, 1) := by decide +kernel
theorem dJ0_indexOf_0f7a4_3 : decode cJ0_indexOf_0f7a4 3 = .ok (.invokevirtual 633, 3) := by decide +kernel
theorem dJ0_indexOf_0f7a4_6 : decode cJ0_indexOf_0f7a4 6 = .ok (.ireturn, 1) := by decide +kernel
theorem dJ0_indexOf_7cf53_0 : decode cJ0_indexOf_7cf53 0 = .ok (.aload_n 0, 1) := by decide +kernel
theorem dJ0_indexOf_7cf53_1 : decode cJ0_indexOf_7cf53 1 = .ok (.invokevirtual 492, 3) := by decide +kernel
theorem dJ0_indexOf_7cf53_4 : decode cJ0_indexOf_7cf53 4 = .ok (.ifCond .eq 19, 3) := by decide +kernel
theorem dJ0_indexOf_7cf53_7 : decode cJ0_indexOf_7cf53 7 = .ok (.aload_n 0, 1) := by decide +kernel
theorem dJ0_indexOf_7cf53_8 : decode cJ0_indexOf_7cf53 8 = .ok (.getfield 9, 3) := by decide +kernel
theorem dJ0_indexOf_7cf53_11 : decode cJ0_indexOf_7cf53 11 = .ok (.iload_n 1, 1) := by decide +kernel
theorem dJ0_indexOf_7cf53_12 : decode cJ0_indexOf_7cf53 12 = .ok (.iload_n 2, 1) := by decide +kernel
theorem dJ0_indexOf_7cf53_13 : decode cJ0_indexOf_7cf53 13 = .ok (.aload_n 0, 1) := by decide +kernel
theorem dJ0_indexOf_7cf53_14 : decode cJ0_indexOf_7cf53 14 = .ok (.invokevirtual 505, 3) := by decide +kernel
theorem dJ0_indexOf_7cf53_17 : decode cJ0_indexOf_7cf53 17 = .ok (.invokestatic 637, 3) := by decide +kernel
theorem dJ0_indexOf_7cf53_20 : decode cJ0_indexOf_7cf53 20 = .ok (.goto 16, 3) := by decide +kernel
theorem dJ0_indexOf_7cf53_23 : decode cJ0_indexOf_7cf53 23 = .ok (.aload_n 0, 1) := by decide +kernel
theorem dJ0_indexOf_7cf53_24 : decode cJ0_indexOf_7cf53 24 = .ok (.getfield 9, 3) := by decide +kernel
theorem dJ0_indexOf_7cf53_27 : decode cJ0_indexOf_7cf53 27 = .ok (.iload_n 1, 1) := by decide +kernel
theorem dJ0_indexOf_7cf53_28 : decode cJ0_indexOf_7cf53 28 = .ok (.iload_n 2, 1) := by decide +kernel
theorem dJ0_indexOf_7cf53_29 : decode cJ0_indexOf_7cf53 29 = .ok (.aload_n 0, 1) := by decide +kernel
theorem dJ0_indexOf_7cf53_30 : decode cJ0_indexOf_7cf53 30 = .ok (.invokevirtual 505, 3) := by decide +kernel
theorem dJ0_indexOf_7cf53_33 : decode cJ0_indexOf_7cf53 33 = .ok (.invokestatic 640, 3) := by decide +kernel
theorem dJ0_indexOf_7cf53_36 : decode cJ0_indexOf_7cf53 36 = .ok (.ireturn, 1) := by decide +kernel
theorem dJ0_coder_7d493_0 : decode cJ0_coder_7d493 0 = .ok (.getstatic 38, 3) := by decide +kernel
theorem dJ0_coder_7d493_3 : decode cJ0_coder_7d493 3 = .ok (.ifCond .eq 10, 3) := by decide +kernel
theorem dJ0_coder_7d493_6 : decode cJ0_coder_7d493 6 = .ok (.aload_n 0, 1) := by decide +kernel
theorem dJ0_coder_7d493_7 : decode cJ0_coder_7d493 7 = .ok (.getfield 15, 3) := by decide +kernel
theorem dJ0_coder_7d493_10 : decode cJ0_coder_7d493 10 = .ok (.goto 4, 3) := by decide +kernel
theorem dJ0_coder_7d493_13 : decode cJ0_coder_7d493 13 = .ok (.iconst 1, 1) := by decide +kernel
theorem dJ0_coder_7d493_14 : decode cJ0_coder_7d493 14 = .ok (.ireturn, 1) := by decide +kernel
theorem dJ0_isLatin1_aae02_0 : decode cJ0_isLatin1_aae02 0 = .ok (.getstatic 38, 3) := by decide +kernel
theorem dJ0_isLatin1_aae02_3 : decode cJ0_isLatin1_aae02 3 = .ok (.ifCond .eq 14, 3) := by decide +kernel
theorem dJ0_isLatin1_aae02_6 : decode cJ0_isLatin1_aae02 6 = .ok (.aload_n 0, 1) := by decide +kernel
theorem dJ0_isLatin1_aae02_7 : decode cJ0_isLatin1_aae02 7 = .ok (.getfield 15, 3) := by decide +kernel
theorem dJ0_isLatin1_aae02_10 : decode cJ0_isLatin1_aae02 10 = .ok (.ifCond .ne 7, 3) := by decide +kernel
theorem dJ0_isLatin1_aae02_13 : decode cJ0_isLatin1_aae02 13 = .ok (.iconst 1, 1) := by decide +kernel
theorem dJ0_isLatin1_aae02_14 : decode cJ0_isLatin1_aae02 14 = .ok (.goto 4, 3) := by decide +kernel
theorem dJ0_isLatin1_aae02_17 : decode cJ0_isLatin1_aae02 17 = .ok (.iconst 0, 1) := by decide +kernel
theorem dJ0_isLatin1_aae02_18 : decode cJ0_isLatin1_aae02 18 = .ok (.ireturn, 1) := by decide +kernel
theorem dJ0_checkBoundsBeginEnd_23922_0 : decode cJ0_checkBoundsBeginEnd_23922 0 = .ok (.iload_n 0, 1) := by decide +kernel
theorem dJ0_checkBoundsBeginEnd_23922_1 : decode cJ0_checkBoundsBeginEnd_23922 1 = .ok (.iload_n 1, 1) := by decide +kernel
theorem dJ0_checkBoundsBeginEnd_23922_2 : decode cJ0_checkBoundsBeginEnd_23922 2 = .ok (.iload_n 2, 1) := by decide +kernel
theorem dJ0_checkBoundsBeginEnd_23922_3 : decode cJ0_checkBoundsBeginEnd_23922 3 = .ok (.getstatic 1053, 3) := by decide +kernel
theorem dJ0_checkBoundsBeginEnd_23922_6 : decode cJ0_checkBoundsBeginEnd_23922 6 = .ok (.invokestatic 1062, 3) := by decide +kernel
theorem dJ0_checkBoundsBeginEnd_23922_9 : decode cJ0_checkBoundsBeginEnd_23922 9 = .ok (.pop, 1) := by decide +kernel
theorem dJ0_checkBoundsBeginEnd_23922_10 : decode cJ0_checkBoundsBeginEnd_23922 10 = .ok (.return_, 1) := by decide +kernel
theorem dJ1_canEncode_9a6ad_0 : decode cJ1_canEncode_9a6ad 0 = .ok (.iload_n 0, 1) := by decide +kernel
theorem dJ1_canEncode_9a6ad_1 : decode cJ1_canEncode_9a6ad 1 = .ok (.ifCond .lt 14, 3) := by decide +kernel
theorem dJ1_canEncode_9a6ad_4 : decode cJ1_canEncode_9a6ad 4 = .ok (.iload_n 0, 1) := by decide +kernel
theorem dJ1_canEncode_9a6ad_5 : decode cJ1_canEncode_9a6ad 5 = .ok (.sipush 255, 3) := by decide +kernel
theorem dJ1_canEncode_9a6ad_8 : decode cJ1_canEncode_9a6ad 8 = .ok (.if_icmp .gt 7, 3) := by decide +kernel
theorem dJ1_canEncode_9a6ad_11 : decode cJ1_canEncode_9a6ad 11 = .ok (.iconst 1, 1) := by decide +kernel
theorem dJ1_canEncode_9a6ad_12 : decode cJ1_canEncode_9a6ad 12 = .ok (.goto 4, 3) := by decide +kernel
theorem dJ1_canEncode_9a6ad_15 : decode cJ1_canEncode_9a6ad 15 = .ok (.iconst 0, 1) := by decide +kernel
theorem dJ1_canEncode_9a6ad_16 : decode cJ1_canEncode_9a6ad 16 = .ok (.ireturn, 1) := by decide +kernel
theorem dJ1_indexOf_4cfef_0 : decode cJ1_indexOf_4cfef 0 = .ok (.iload_n 1, 1) := by decide +kernel
theorem dJ1_indexOf_4cfef_1 : decode cJ1_indexOf_4cfef 1 = .ok (.invokestatic 88, 3) := by decide +kernel
theorem dJ1_indexOf_4cfef_4 : decode cJ1_indexOf_4cfef 4 = .ok (.ifCond .ne 5, 3) := by decide +kernel
theorem dJ1_indexOf_4cfef_7 : decode cJ1_indexOf_4cfef 7 = .ok (.iconst (-1), 1) := by decide +kernel
theorem dJ1_indexOf_4cfef_8 : decode cJ1_indexOf_4cfef 8 = .ok (.ireturn, 1) := by decide +kernel
theorem dJ1_indexOf_4cfef_9 : decode cJ1_indexOf_4cfef 9 = .ok (.iload_n 2, 1) := by decide +kernel
theorem dJ1_indexOf_4cfef_10 : decode cJ1_indexOf_4cfef 10 = .ok (.iconst 0, 1) := by decide +kernel
theorem dJ1_indexOf_4cfef_11 : decode cJ1_indexOf_4cfef 11 = .ok (.invokestatic 92, 3) := by decide +kernel
theorem dJ1_indexOf_4cfef_14 : decode cJ1_indexOf_4cfef 14 = .ok (.istore_n 2, 1) := by decide +kernel
theorem dJ1_indexOf_4cfef_15 : decode cJ1_indexOf_4cfef 15 = .ok (.iload_n 3, 1) := by decide +kernel
theorem dJ1_indexOf_4cfef_16 : decode cJ1_indexOf_4cfef 16 = .ok (.aload_n 0, 1) := by decide +kernel
theorem dJ1_indexOf_4cfef_17 : decode cJ1_indexOf_4cfef 17 = .ok (.arraylength, 1) := by decide +kernel
theorem dJ1_indexOf_4cfef_18 : decode cJ1_indexOf_4cfef 18 = .ok (.invokestatic 38, 3) := by decide +kernel
theorem dJ1_indexOf_4cfef_21 : decode cJ1_indexOf_4cfef 21 = .ok (.istore_n 3, 1) := by decide +kernel
theorem dJ1_indexOf_4cfef_22 : decode cJ1_indexOf_4cfef 22 = .ok (.iload_n 2, 1) := by decide +kernel
theorem dJ1_indexOf_4cfef_23 : decode cJ1_indexOf_4cfef 23 = .ok (.iload_n 3, 1) := by decide +kernel
theorem dJ1_indexOf_4cfef_24 : decode cJ1_indexOf_4cfef 24 = .ok (.if_icmp .lt 5, 3) := by decide +kernel
theorem dJ1_indexOf_4cfef_27 : decode cJ1_indexOf_4cfef 27 = .ok (.iconst (-1), 1) := by decide +kernel
theorem dJ1_indexOf_4cfef_28 : decode cJ1_indexOf_4cfef 28 = .ok (.ireturn, 1) := by decide +kernel
theorem dJ1_indexOf_4cfef_29 : decode cJ1_indexOf_4cfef 29 = .ok (.aload_n 0, 1) := by decide +kernel
theorem dJ1_indexOf_4cfef_30 : decode cJ1_indexOf_4cfef 30 = .ok (.iload_n 1, 1) := by decide +kernel
theorem dJ1_indexOf_4cfef_31 : decode cJ1_indexOf_4cfef 31 = .ok (.iload_n 2, 1) := by decide +kernel
theorem dJ1_indexOf_4cfef_32 : decode cJ1_indexOf_4cfef 32 = .ok (.iload_n 3, 1) := by decide +kernel
theorem dJ1_indexOf_4cfef_33 : decode cJ1_indexOf_4cfef 33 = .ok (.invokestatic 95, 3) := by decide +kernel
theorem dJ1_indexOf_4cfef_36 : decode cJ1_indexOf_4cfef 36 = .ok (.ireturn, 1) := by decide +kernel
theorem dJ1_indexOfChar_4cfef_0 : decode cJ1_indexOfChar_4cfef 0 = .ok (.iload_n 1, 1) := by decide +kernel
theorem dJ1_indexOfChar_4cfef_1 : decode cJ1_indexOfChar_4cfef 1 = .ok (.i2b, 1) := by decide +kernel
theorem dJ1_indexOfChar_4cfef_2 : decode cJ1_indexOfChar_4cfef 2 = .ok (.istore 4, 2) := by decide +kernel
theorem dJ1_indexOfChar_4cfef_4 : decode cJ1_indexOfChar_4cfef 4 = .ok (.iload_n 2, 1) := by decide +kernel
theorem dJ1_indexOfChar_4cfef_5 : decode cJ1_indexOfChar_4cfef 5 = .ok (.istore 5, 2) := by decide +kernel
theorem dJ1_indexOfChar_4cfef_7 : decode cJ1_indexOfChar_4cfef 7 = .ok (.iload 5, 2) := by decide +kernel
theorem dJ1_indexOfChar_4cfef_9 : decode cJ1_indexOfChar_4cfef 9 = .ok (.iload_n 3, 1) := by decide +kernel
theorem dJ1_indexOfChar_4cfef_10 : decode cJ1_indexOfChar_4cfef 10 = .ok (.if_icmp .ge 21, 3) := by decide +kernel
theorem dJ1_indexOfChar_4cfef_13 : decode cJ1_indexOfChar_4cfef 13 = .ok (.aload_n 0, 1) := by decide +kernel
theorem dJ1_indexOfChar_4cfef_14 : decode cJ1_indexOfChar_4cfef 14 = .ok (.iload 5, 2) := by decide +kernel
theorem dJ1_indexOfChar_4cfef_16 : decode cJ1_indexOfChar_4cfef 16 = .ok (.baload, 1) := by decide +kernel
theorem dJ1_indexOfChar_4cfef_17 : decode cJ1_indexOfChar_4cfef 17 = .ok (.iload 4, 2) := by decide +kernel
theorem dJ1_indexOfChar_4cfef_19 : decode cJ1_indexOfChar_4cfef 19 = .ok (.if_icmp .ne 6, 3) := by decide +kernel
theorem dJ1_indexOfChar_4cfef_22 : decode cJ1_indexOfChar_4cfef 22 = .ok (.iload 5, 2) := by decide +kernel
theorem dJ1_indexOfChar_4cfef_24 : decode cJ1_indexOfChar_4cfef 24 = .ok (.ireturn, 1) := by decide +kernel
theorem dJ1_indexOfChar_4cfef_25 : decode cJ1_indexOfChar_4cfef 25 = .ok (.iinc 5 1, 3) := by decide +kernel
theorem dJ1_indexOfChar_4cfef_28 : decode cJ1_indexOfChar_4cfef 28 = .ok (.goto (-21), 3) := by decide +kernel
theorem dJ1_indexOfChar_4cfef_31 : decode cJ1_indexOfChar_4cfef 31 = .ok (.iconst (-1), 1) := by decide +kernel
theorem dJ1_indexOfChar_4cfef_32 : decode cJ1_indexOfChar_4cfef 32 = .ok (.ireturn, 1) := by decide +kernel
theorem dJ2_getChar_3b067_0 : decode cJ2_getChar_3b067 0 = .ok (.getstatic 44, 3) := by decide +kernel
theorem dJ2_getChar_3b067_3 : decode cJ2_getChar_3b067 3 = .ok (.ifCond .ne 25, 3) := by decide +kernel
theorem dJ2_getChar_3b067_6 : decode cJ2_getChar_3b067 6 = .ok (.iload_n 1, 1) := by decide +kernel
theorem dJ2_getChar_3b067_7 : decode cJ2_getChar_3b067 7 = .ok (.ifCond .lt 11, 3) := by decide +kernel
theorem dJ2_getChar_3b067_10 : decode cJ2_getChar_3b067 10 = .ok (.iload_n 1, 1) := by decide +kernel
theorem dJ2_getChar_3b067_11 : decode cJ2_getChar_3b067 11 = .ok (.aload_n 0, 1) := by decide +kernel
theorem dJ2_getChar_3b067_12 : decode cJ2_getChar_3b067 12 = .ok (.invokestatic 48, 3) := by decide +kernel
theorem dJ2_getChar_3b067_15 : decode cJ2_getChar_3b067 15 = .ok (.if_icmp .lt 13, 3) := by decide +kernel
theorem dJ2_getChar_3b067_18 : decode cJ2_getChar_3b067 18 = .ok (.new 52, 3) := by decide +kernel
theorem dJ2_getChar_3b067_21 : decode cJ2_getChar_3b067 21 = .ok (.dup, 1) := by decide +kernel
theorem dJ2_getChar_3b067_22 : decode cJ2_getChar_3b067 22 = .ok (.ldc 54, 2) := by decide +kernel
theorem dJ2_getChar_3b067_24 : decode cJ2_getChar_3b067 24 = .ok (.invokespecial 56, 3) := by decide +kernel
theorem dJ2_getChar_3b067_27 : decode cJ2_getChar_3b067 27 = .ok (.athrow, 1) := by decide +kernel
theorem dJ2_getChar_3b067_28 : decode cJ2_getChar_3b067 28 = .ok (.iload_n 1, 1) := by decide +kernel
theorem dJ2_getChar_3b067_29 : decode cJ2_getChar_3b067 29 = .ok (.iconst 1, 1) := by decide +kernel
theorem dJ2_getChar_3b067_30 : decode cJ2_getChar_3b067 30 = .ok (.ishl, 1) := by decide +kernel
theorem dJ2_getChar_3b067_31 : decode cJ2_getChar_3b067 31 = .ok (.istore_n 1, 1) := by decide +kernel
theorem dJ2_getChar_3b067_32 : decode cJ2_getChar_3b067 32 = .ok (.aload_n 0, 1) := by decide +kernel
theorem dJ2_getChar_3b067_33 : decode cJ2_getChar_3b067 33 = .ok (.iload_n 1, 1) := by decide +kernel
theorem dJ2_getChar_3b067_34 : decode cJ2_getChar_3b067 34 = .ok (.iinc 1 1, 3) := by decide +kernel
theorem dJ2_getChar_3b067_37 : decode cJ2_getChar_3b067 37 = .ok (.baload, 1) := by decide +kernel
theorem dJ2_getChar_3b067_38 : decode cJ2_getChar_3b067 38 = .ok (.sipush 255, 3) := by decide +kernel
theorem dJ2_getChar_3b067_41 : decode cJ2_getChar_3b067 41 = .ok (.iand, 1) := by decide +kernel
theorem dJ2_getChar_3b067_42 : decode cJ2_getChar_3b067 42 = .ok (.getstatic 59, 3) := by decide +kernel
theorem dJ2_getChar_3b067_45 : decode cJ2_getChar_3b067 45 = .ok (.ishl, 1) := by decide +kernel
theorem dJ2_getChar_3b067_46 : decode cJ2_getChar_3b067 46 = .ok (.aload_n 0, 1) := by decide +kernel
theorem dJ2_getChar_3b067_47 : decode cJ2_getChar_3b067 47 = .ok (.iload_n 1, 1) := by decide +kernel
theorem dJ2_getChar_3b067_48 : decode cJ2_getChar_3b067 48 = .ok (.baload, 1) := by decide +kernel
theorem dJ2_getChar_3b067_49 : decode cJ2_getChar_3b067 49 = .ok (.sipush 255, 3) := by decide +kernel
theorem dJ2_getChar_3b067_52 : decode cJ2_getChar_3b067 52 = .ok (.iand, 1) := by decide +kernel
theorem dJ2_getChar_3b067_53 : decode cJ2_getChar_3b067 53 = .ok (.getstatic 63, 3) := by decide +kernel
theorem dJ2_getChar_3b067_56 : decode cJ2_getChar_3b067 56 = .ok (.ishl, 1) := by decide +kernel
theorem dJ2_getChar_3b067_57 : decode cJ2_getChar_3b067 57 = .ok (.ior, 1) := by decide +kernel
theorem dJ2_getChar_3b067_58 : decode cJ2_getChar_3b067 58 = .ok (.i2c, 1) := by decide +kernel
theorem dJ2_getChar_3b067_59 : decode cJ2_getChar_3b067 59 = .ok (.ireturn, 1) := by decide +kernel
theorem dJ2_length_9d52b_0 : decode cJ2_length_9d52b 0 = .ok (.aload_n 0, 1) := by decide +kernel
theorem dJ2_length_9d52b_1 : decode cJ2_length_9d52b 1 = .ok (.arraylength, 1) := by decide +kernel
theorem dJ2_length_9d52b_2 : decode cJ2_length_9d52b 2 = .ok (.iconst 1, 1) := by decide +kernel
theorem dJ2_length_9d52b_3 : decode cJ2_length_9d52b 3 = .ok (.ishr, 1) := by decide +kernel
theorem dJ2_length_9d52b_4 : decode cJ2_length_9d52b 4 = .ok (.ireturn, 1) := by decide +kernel
theorem dJ2_indexOf_4cfef_0 : decode cJ2_indexOf_4cfef 0 = .ok (.iload_n 2, 1) := by decide +kernel
theorem dJ2_indexOf_4cfef_1 : decode cJ2_indexOf_4cfef 1 = .ok (.iconst 0, 1) := by decide +kernel
theorem dJ2_indexOf_4cfef_2 : decode cJ2_indexOf_4cfef 2 = .ok (.invokestatic 224, 3) := by decide +kernel
theorem dJ2_indexOf_4cfef_5 : decode cJ2_indexOf_4cfef 5 = .ok (.istore_n 2, 1) := by decide +kernel
theorem dJ2_indexOf_4cfef_6 : decode cJ2_indexOf_4cfef 6 = .ok (.iload_n 3, 1) := by decide +kernel
theorem dJ2_indexOf_4cfef_7 : decode cJ2_indexOf_4cfef 7 = .ok (.aload_n 0, 1) := by decide +kernel
theorem dJ2_indexOf_4cfef_8 : decode cJ2_indexOf_4cfef 8 = .ok (.arraylength, 1) := by decide +kernel
theorem dJ2_indexOf_4cfef_9 : decode cJ2_indexOf_4cfef 9 = .ok (.iconst 1, 1) := by decide +kernel
theorem dJ2_indexOf_4cfef_10 : decode cJ2_indexOf_4cfef 10 = .ok (.ishr, 1) := by decide +kernel
theorem dJ2_indexOf_4cfef_11 : decode cJ2_indexOf_4cfef 11 = .ok (.invokestatic 183, 3) := by decide +kernel
theorem dJ2_indexOf_4cfef_14 : decode cJ2_indexOf_4cfef 14 = .ok (.istore_n 3, 1) := by decide +kernel
theorem dJ2_indexOf_4cfef_15 : decode cJ2_indexOf_4cfef 15 = .ok (.iload_n 2, 1) := by decide +kernel
theorem dJ2_indexOf_4cfef_16 : decode cJ2_indexOf_4cfef 16 = .ok (.iload_n 3, 1) := by decide +kernel
theorem dJ2_indexOf_4cfef_17 : decode cJ2_indexOf_4cfef 17 = .ok (.if_icmp .lt 5, 3) := by decide +kernel
theorem dJ2_indexOf_4cfef_20 : decode cJ2_indexOf_4cfef 20 = .ok (.iconst (-1), 1) := by decide +kernel
theorem dJ2_indexOf_4cfef_21 : decode cJ2_indexOf_4cfef 21 = .ok (.ireturn, 1) := by decide +kernel
theorem dJ2_indexOf_4cfef_22 : decode cJ2_indexOf_4cfef 22 = .ok (.iload_n 1, 1) := by decide +kernel
theorem dJ2_indexOf_4cfef_23 : decode cJ2_indexOf_4cfef 23 = .ok (.ldc 227, 2) := by decide +kernel
theorem dJ2_indexOf_4cfef_25 : decode cJ2_indexOf_4cfef 25 = .ok (.if_icmp .ge 11, 3) := by decide +kernel
theorem dJ2_indexOf_4cfef_28 : decode cJ2_indexOf_4cfef 28 = .ok (.aload_n 0, 1) := by decide +kernel
theorem dJ2_indexOf_4cfef_29 : decode cJ2_indexOf_4cfef 29 = .ok (.iload_n 1, 1) := by decide +kernel
theorem dJ2_indexOf_4cfef_30 : decode cJ2_indexOf_4cfef 30 = .ok (.iload_n 2, 1) := by decide +kernel
theorem dJ2_indexOf_4cfef_31 : decode cJ2_indexOf_4cfef 31 = .ok (.iload_n 3, 1) := by decide +kernel
theorem dJ2_indexOf_4cfef_32 : decode cJ2_indexOf_4cfef 32 = .ok (.invokestatic 228, 3) := by decide +kernel
theorem dJ2_indexOf_4cfef_35 : decode cJ2_indexOf_4cfef 35 = .ok (.ireturn, 1) := by decide +kernel
theorem dJ2_indexOf_4cfef_36 : decode cJ2_indexOf_4cfef 36 = .ok (.aload_n 0, 1) := by decide +kernel
theorem dJ2_indexOf_4cfef_37 : decode cJ2_indexOf_4cfef 37 = .ok (.iload_n 1, 1) := by decide +kernel
theorem dJ2_indexOf_4cfef_38 : decode cJ2_indexOf_4cfef 38 = .ok (.iload_n 2, 1) := by decide +kernel
theorem dJ2_indexOf_4cfef_39 : decode cJ2_indexOf_4cfef 39 = .ok (.iload_n 3, 1) := by decide +kernel
theorem dJ2_indexOf_4cfef_40 : decode cJ2_indexOf_4cfef 40 = .ok (.invokestatic 232, 3) := by decide +kernel
theorem dJ2_indexOf_4cfef_43 : decode cJ2_indexOf_4cfef 43 = .ok (.ireturn, 1) := by decide +kernel
theorem dJ2_indexOfChar_4cfef_0 : decode cJ2_indexOfChar_4cfef 0 = .ok (.iload_n 2, 1) := by decide +kernel
theorem dJ2_indexOfChar_4cfef_1 : decode cJ2_indexOfChar_4cfef 1 = .ok (.iload_n 3, 1) := by decide +kernel
theorem dJ2_indexOfChar_4cfef_2 : decode cJ2_indexOfChar_4cfef 2 = .ok (.aload_n 0, 1) := by decide +kernel
theorem dJ2_indexOfChar_4cfef_3 : decode cJ2_indexOfChar_4cfef 3 = .ok (.invokestatic 96, 3) := by decide +kernel
theorem dJ2_indexOfChar_4cfef_6 : decode cJ2_indexOfChar_4cfef 6 = .ok (.aload_n 0, 1) := by decide +kernel
theorem dJ2_indexOfChar_4cfef_7 : decode cJ2_indexOfChar_4cfef 7 = .ok (.iload_n 1, 1) := by decide +kernel
theorem dJ2_indexOfChar_4cfef_8 : decode cJ2_indexOfChar_4cfef 8 = .ok (.iload_n 2, 1) := by decide +kernel
theorem dJ2_indexOfChar_4cfef_9 : decode cJ2_indexOfChar_4cfef 9 = .ok (.iload_n 3, 1) := by decide +kernel
theorem dJ2_indexOfChar_4cfef_10 : decode cJ2_indexOfChar_4cfef 10 = .ok (.invokestatic 244, 3) := by decide +kernel
theorem dJ2_indexOfChar_4cfef_13 : decode cJ2_indexOfChar_4cfef 13 = .ok (.ireturn, 1) := by decide +kernel
theorem dJ2_indexOfCharUnsafe_4cfef_0 : decode cJ2_indexOfCharUnsafe_4cfef 0 = .ok (.iload_n 2, 1) := by decide +kernel
theorem dJ2_indexOfCharUnsafe_4cfef_1 : decode cJ2_indexOfCharUnsafe_4cfef 1 = .ok (.istore 4, 2) := by decide +kernel
theorem dJ2_indexOfCharUnsafe_4cfef_3 : decode cJ2_indexOfCharUnsafe_4cfef 3 = .ok (.iload 4, 2) := by decide +kernel
theorem dJ2_indexOfCharUnsafe_4cfef_5 : decode cJ2_indexOfCharUnsafe_4cfef 5 = .ok (.iload_n 3, 1) := by decide +kernel
theorem dJ2_indexOfCharUnsafe_4cfef_6 : decode cJ2_indexOfCharUnsafe_4cfef 6 = .ok (.if_icmp .ge 22, 3) := by decide +kernel
theorem dJ2_indexOfCharUnsafe_4cfef_9 : decode cJ2_indexOfCharUnsafe_4cfef 9 = .ok (.aload_n 0, 1) := by decide +kernel
theorem dJ2_indexOfCharUnsafe_4cfef_10 : decode cJ2_indexOfCharUnsafe_4cfef 10 = .ok (.iload 4, 2) := by decide +kernel
theorem dJ2_indexOfCharUnsafe_4cfef_12 : decode cJ2_indexOfCharUnsafe_4cfef 12 = .ok (.invokestatic 71, 3) := by decide +kernel
theorem dJ2_indexOfCharUnsafe_4cfef_15 : decode cJ2_indexOfCharUnsafe_4cfef 15 = .ok (.iload_n 1, 1) := by decide +kernel
theorem dJ2_indexOfCharUnsafe_4cfef_16 : decode cJ2_indexOfCharUnsafe_4cfef 16 = .ok (.if_icmp .ne 6, 3) := by decide +kernel
theorem dJ2_indexOfCharUnsafe_4cfef_19 : decode cJ2_indexOfCharUnsafe_4cfef 19 = .ok (.iload 4, 2) := by decide +kernel
theorem dJ2_indexOfCharUnsafe_4cfef_21 : decode cJ2_indexOfCharUnsafe_4cfef 21 = .ok (.ireturn, 1) := by decide +kernel
theorem dJ2_indexOfCharUnsafe_4cfef_22 : decode cJ2_indexOfCharUnsafe_4cfef 22 = .ok (.iinc 4 1, 3) := by decide +kernel
theorem dJ2_indexOfCharUnsafe_4cfef_25 : decode cJ2_indexOfCharUnsafe_4cfef 25 = .ok (.goto (-22), 3) := by decide +kernel
theorem dJ2_indexOfCharUnsafe_4cfef_28 : decode cJ2_indexOfCharUnsafe_4cfef 28 = .ok (.iconst (-1), 1) := by decide +kernel
theorem dJ2_indexOfCharUnsafe_4cfef_29 : decode cJ2_indexOfCharUnsafe_4cfef 29 = .ok (.ireturn, 1) := by decide +kernel
theorem dJ2_indexOfSupplementary_4cfef_0 : decode cJ2_indexOfSupplementary_4cfef 0 = .ok (.iload_n 1, 1) := by decide +kernel
theorem dJ2_indexOfSupplementary_4cfef_1 : decode cJ2_indexOfSupplementary_4cfef 1 = .ok (.invokestatic 164, 3) := by decide +kernel
theorem dJ2_indexOfSupplementary_4cfef_4 : decode cJ2_indexOfSupplementary_4cfef 4 = .ok (.ifCond .eq 65, 3) := by decide +kernel
theorem dJ2_indexOfSupplementary_4cfef_7 : decode cJ2_indexOfSupplementary_4cfef 7 = .ok (.iload_n 1, 1) := by decide +kernel
theorem dJ2_indexOfSupplementary_4cfef_8 : decode cJ2_indexOfSupplementary_4cfef 8 = .ok (.invokestatic 157, 3) := by decide +kernel
theorem dJ2_indexOfSupplementary_4cfef_11 : decode cJ2_indexOfSupplementary_4cfef 11 = .ok (.istore 4, 2) := by decide +kernel
theorem dJ2_indexOfSupplementary_4cfef_13 : decode cJ2_indexOfSupplementary_4cfef 13 = .ok (.iload_n 1, 1) := by decide +kernel
theorem dJ2_indexOfSupplementary_4cfef_14 : decode cJ2_indexOfSupplementary_4cfef 14 = .ok (.invokestatic 161, 3) := by decide +kernel
theorem dJ2_indexOfSupplementary_4cfef_17 : decode cJ2_indexOfSupplementary_4cfef 17 = .ok (.istore 5, 2) := by decide +kernel
theorem dJ2_indexOfSupplementary_4cfef_19 : decode cJ2_indexOfSupplementary_4cfef 19 = .ok (.iload_n 2, 1) := by decide +kernel
theorem dJ2_indexOfSupplementary_4cfef_20 : decode cJ2_indexOfSupplementary_4cfef 20 = .ok (.iload_n 3, 1) := by decide +kernel
theorem dJ2_indexOfSupplementary_4cfef_21 : decode cJ2_indexOfSupplementary_4cfef 21 = .ok (.aload_n 0, 1) := by decide +kernel
theorem dJ2_indexOfSupplementary_4cfef_22 : decode cJ2_indexOfSupplementary_4cfef 22 = .ok (.invokestatic 96, 3) := by decide +kernel
theorem dJ2_indexOfSupplementary_4cfef_25 : decode cJ2_indexOfSupplementary_4cfef 25 = .ok (.iload_n 2, 1) := by decide +kernel
theorem dJ2_indexOfSupplementary_4cfef_26 : decode cJ2_indexOfSupplementary_4cfef 26 = .ok (.istore 6, 2) := by decide +kernel
theorem dJ2_indexOfSupplementary_4cfef_28 : decode cJ2_indexOfSupplementary_4cfef 28 = .ok (.iload 6, 2) := by decide +kernel
theorem dJ2_indexOfSupplementary_4cfef_30 : decode cJ2_indexOfSupplementary_4cfef 30 = .ok (.iload_n 3, 1) := by decide +kernel
theorem dJ2_indexOfSupplementary_4cfef_31 : decode cJ2_indexOfSupplementary_4cfef 31 = .ok (.iconst 1, 1) := by decide +kernel
theorem dJ2_indexOfSupplementary_4cfef_32 : decode cJ2_indexOfSupplementary_4cfef 32 = .ok (.isub, 1) := by decide +kernel
theorem dJ2_indexOfSupplementary_4cfef_33 : decode cJ2_indexOfSupplementary_4cfef 33 = .ok (.if_icmp .ge 36, 3) := by decide +kernel
theorem dJ2_indexOfSupplementary_4cfef_36 : decode cJ2_indexOfSupplementary_4cfef 36 = .ok (.aload_n 0, 1) := by decide +kernel
theorem dJ2_indexOfSupplementary_4cfef_37 : decode cJ2_indexOfSupplementary_4cfef 37 = .ok (.iload 6, 2) := by decide +kernel
theorem dJ2_indexOfSupplementary_4cfef_39 : decode cJ2_indexOfSupplementary_4cfef 39 = .ok (.invokestatic 71, 3) := by decide +kernel
theorem dJ2_indexOfSupplementary_4cfef_42 : decode cJ2_indexOfSupplementary_4cfef 42 = .ok (.iload 4, 2) := by decide +kernel
theorem dJ2_indexOfSupplementary_4cfef_44 : decode cJ2_indexOfSupplementary_4cfef 44 = .ok (.if_icmp .ne 19, 3) := by decide +kernel
theorem dJ2_indexOfSupplementary_4cfef_47 : decode cJ2_indexOfSupplementary_4cfef 47 = .ok (.aload_n 0, 1) := by decide +kernel
theorem dJ2_indexOfSupplementary_4cfef_48 : decode cJ2_indexOfSupplementary_4cfef 48 = .ok (.iload 6, 2) := by decide +kernel
theorem dJ2_indexOfSupplementary_4cfef_50 : decode cJ2_indexOfSupplementary_4cfef 50 = .ok (.iconst 1, 1) := by decide +kernel
theorem dJ2_indexOfSupplementary_4cfef_51 : decode cJ2_indexOfSupplementary_4cfef 51 = .ok (.iadd, 1) := by decide +kernel
theorem dJ2_indexOfSupplementary_4cfef_52 : decode cJ2_indexOfSupplementary_4cfef 52 = .ok (.invokestatic 71, 3) := by decide +kernel
theorem dJ2_indexOfSupplementary_4cfef_55 : decode cJ2_indexOfSupplementary_4cfef 55 = .ok (.iload 5, 2) := by decide +kernel
theorem dJ2_indexOfSupplementary_4cfef_57 : decode cJ2_indexOfSupplementary_4cfef 57 = .ok (.if_icmp .ne 6, 3) := by decide +kernel
theorem dJ2_indexOfSupplementary_4cfef_60 : decode cJ2_indexOfSupplementary_4cfef 60 = .ok (.iload 6, 2) := by decide +kernel
theorem dJ2_indexOfSupplementary_4cfef_62 : decode cJ2_indexOfSupplementary_4cfef 62 = .ok (.ireturn, 1) := by decide +kernel
theorem dJ2_indexOfSupplementary_4cfef_63 : decode cJ2_indexOfSupplementary_4cfef 63 = .ok (.iinc 6 1, 3) := by decide +kernel
theorem dJ2_indexOfSupplementary_4cfef_66 : decode cJ2_indexOfSupplementary_4cfef 66 = .ok (.goto (-38), 3) := by decide +kernel
theorem dJ2_indexOfSupplementary_4cfef_69 : decode cJ2_indexOfSupplementary_4cfef 69 = .ok (.iconst (-1), 1) := by decide +kernel
theorem dJ2_indexOfSupplementary_4cfef_70 : decode cJ2_indexOfSupplementary_4cfef 70 = .ok (.ireturn, 1) := by decide +kernel
theorem dJ2_checkBoundsBeginEnd_d044e_0 : decode cJ2_checkBoundsBeginEnd_d044e 0 = .ok (.iload_n 0, 1) := by decide +kernel
theorem dJ2_checkBoundsBeginEnd_d044e_1 : decode cJ2_checkBoundsBeginEnd_d044e 1 = .ok (.iload_n 1, 1) := by decide +kernel
theorem dJ2_checkBoundsBeginEnd_d044e_2 : decode cJ2_checkBoundsBeginEnd_d044e 2 = .ok (.aload_n 2, 1) := by decide +kernel
theorem dJ2_checkBoundsBeginEnd_d044e_3 : decode cJ2_checkBoundsBeginEnd_d044e 3 = .ok (.invokestatic 48, 3) := by decide +kernel
theorem dJ2_checkBoundsBeginEnd_d044e_6 : decode cJ2_checkBoundsBeginEnd_d044e 6 = .ok (.invokestatic 241, 3) := by decide +kernel
theorem dJ2_checkBoundsBeginEnd_d044e_9 : decode cJ2_checkBoundsBeginEnd_d044e 9 = .ok (.return_, 1) := by decide +kernel
theorem dJ7_fill_53178_0 : decode cJ7_fill_53178 0 = .ok (.iconst 0, 1) := by decide +kernel
theorem dJ7_fill_53178_1 : decode cJ7_fill_53178 1 = .ok (.istore_n 2, 1) := by decide +kernel
theorem dJ7_fill_53178_2 : decode cJ7_fill_53178 2 = .ok (.aload_n 0, 1) := by decide +kernel
theorem dJ7_fill_53178_3 : decode cJ7_fill_53178 3 = .ok (.arraylength, 1) := by decide +kernel
theorem dJ7_fill_53178_4 : decode cJ7_fill_53178 4 = .ok (.istore_n 3, 1) := by decide +kernel
theorem dJ7_fill_53178_5 : decode cJ7_fill_53178 5 = .ok (.iload_n 2, 1) := by decide +kernel
theorem dJ7_fill_53178_6 : decode cJ7_fill_53178 6 = .ok (.iload_n 3, 1) := by decide +kernel
theorem dJ7_fill_53178_7 : decode cJ7_fill_53178 7 = .ok (.if_icmp .ge 13, 3) := by decide +kernel
theorem dJ7_fill_53178_10 : decode cJ7_fill_53178 10 = .ok (.aload_n 0, 1) := by decide +kernel
theorem dJ7_fill_53178_11 : decode cJ7_fill_53178 11 = .ok (.iload_n 2, 1) := by decide +kernel
theorem dJ7_fill_53178_12 : decode cJ7_fill_53178 12 = .ok (.iload_n 1, 1) := by decide +kernel
theorem dJ7_fill_53178_13 : decode cJ7_fill_53178 13 = .ok (.iastore, 1) := by decide +kernel
theorem dJ7_fill_53178_14 : decode cJ7_fill_53178 14 = .ok (.iinc 2 1, 3) := by decide +kernel
theorem dJ7_fill_53178_17 : decode cJ7_fill_53178 17 = .ok (.goto (-12), 3) := by decide +kernel
theorem dJ7_fill_53178_20 : decode cJ7_fill_53178 20 = .ok (.return_, 1) := by decide +kernel
theorem dJ7_copyOf_9075b_0 : decode cJ7_copyOf_9075b 0 = .ok (.iload_n 1, 1) := by decide +kernel
theorem dJ7_copyOf_9075b_1 : decode cJ7_copyOf_9075b 1 = .ok (.aload_n 0, 1) := by decide +kernel
theorem dJ7_copyOf_9075b_2 : decode cJ7_copyOf_9075b 2 = .ok (.arraylength, 1) := by decide +kernel
theorem dJ7_copyOf_9075b_3 : decode cJ7_copyOf_9075b 3 = .ok (.if_icmp .ne 11, 3) := by decide +kernel
theorem dJ7_copyOf_9075b_6 : decode cJ7_copyOf_9075b 6 = .ok (.aload_n 0, 1) := by decide +kernel
theorem dJ7_copyOf_9075b_7 : decode cJ7_copyOf_9075b 7 = .ok (.invokevirtual 310, 3) := by decide +kernel
theorem dJ7_copyOf_9075b_10 : decode cJ7_copyOf_9075b 10 = .ok (.checkcast 311, 3) := by decide +kernel
theorem dJ7_copyOf_9075b_13 : decode cJ7_copyOf_9075b 13 = .ok (.areturn, 1) := by decide +kernel
theorem dJ7_copyOf_9075b_14 : decode cJ7_copyOf_9075b 14 = .ok (.iload_n 1, 1) := by decide +kernel
theorem dJ7_copyOf_9075b_15 : decode cJ7_copyOf_9075b 15 = .ok (.newarray .byte, 2) := by decide +kernel
theorem dJ7_copyOf_9075b_17 : decode cJ7_copyOf_9075b 17 = .ok (.astore_n 2, 1) := by decide +kernel
theorem dJ7_copyOf_9075b_18 : decode cJ7_copyOf_9075b 18 = .ok (.aload_n 0, 1) := by decide +kernel
theorem dJ7_copyOf_9075b_19 : decode cJ7_copyOf_9075b 19 = .ok (.iconst 0, 1) := by decide +kernel
theorem dJ7_copyOf_9075b_20 : decode cJ7_copyOf_9075b 20 = .ok (.aload_n 2, 1) := by decide +kernel
theorem dJ7_copyOf_9075b_21 : decode cJ7_copyOf_9075b 21 = .ok (.iconst 0, 1) := by decide +kernel
theorem dJ7_copyOf_9075b_22 : decode cJ7_copyOf_9075b 22 = .ok (.aload_n 0, 1) := by decide +kernel
theorem dJ7_copyOf_9075b_23 : decode cJ7_copyOf_9075b 23 = .ok (.arraylength, 1) := by decide +kernel
theorem dJ7_copyOf_9075b_24 : decode cJ7_copyOf_9075b 24 = .ok (.iload_n 1, 1) := by decide +kernel
theorem dJ7_copyOf_9075b_25 : decode cJ7_copyOf_9075b 25 = .ok (.invokestatic 304, 3) := by decide +kernel
theorem dJ7_copyOf_9075b_28 : decode cJ7_copyOf_9075b 28 = .ok (.invokestatic 150, 3) := by decide +kernel
theorem dJ7_copyOf_9075b_31 : decode cJ7_copyOf_9075b 31 = .ok (.aload_n 2, 1) := by decide +kernel
theorem dJ7_copyOf_9075b_32 : decode cJ7_copyOf_9075b 32 = .ok (.areturn, 1) := by decide +kernel
theorem dJ3_checkFromToIndex_8c36e_0 : decode cJ3_checkFromToIndex_8c36e 0 = .ok (.iload_n 0, 1) := by decide +kernel
theorem dJ3_checkFromToIndex_8c36e_1 : decode cJ3_checkFromToIndex_8c36e 1 = .ok (.ifCond .lt 13, 3) := by decide +kernel
theorem dJ3_checkFromToIndex_8c36e_4 : decode cJ3_checkFromToIndex_8c36e 4 = .ok (.iload_n 0, 1) := by decide +kernel
theorem dJ3_checkFromToIndex_8c36e_5 : decode cJ3_checkFromToIndex_8c36e 5 = .ok (.iload_n 1, 1) := by decide +kernel
theorem dJ3_checkFromToIndex_8c36e_6 : decode cJ3_checkFromToIndex_8c36e 6 = .ok (.if_icmp .gt 8, 3) := by decide +kernel
theorem dJ3_checkFromToIndex_8c36e_9 : decode cJ3_checkFromToIndex_8c36e 9 = .ok (.iload_n 1, 1) := by decide +kernel
theorem dJ3_checkFromToIndex_8c36e_10 : decode cJ3_checkFromToIndex_8c36e 10 = .ok (.iload_n 2, 1) := by decide +kernel
theorem dJ3_checkFromToIndex_8c36e_11 : decode cJ3_checkFromToIndex_8c36e 11 = .ok (.if_icmp .le 11, 3) := by decide +kernel
theorem dJ3_checkFromToIndex_8c36e_14 : decode cJ3_checkFromToIndex_8c36e 14 = .ok (.aload_n 3, 1) := by decide +kernel
theorem dJ3_checkFromToIndex_8c36e_15 : decode cJ3_checkFromToIndex_8c36e 15 = .ok (.iload_n 0, 1) := by decide +kernel
theorem dJ3_checkFromToIndex_8c36e_16 : decode cJ3_checkFromToIndex_8c36e 16 = .ok (.iload_n 1, 1) := by decide +kernel
theorem dJ3_checkFromToIndex_8c36e_17 : decode cJ3_checkFromToIndex_8c36e 17 = .ok (.iload_n 2, 1) := by decide +kernel
theorem dJ3_checkFromToIndex_8c36e_18 : decode cJ3_checkFromToIndex_8c36e 18 = .ok (.invokestatic 99, 3) := by decide +kernel
theorem dJ3_checkFromToIndex_8c36e_21 : decode cJ3_checkFromToIndex_8c36e 21 = .ok (.athrow, 1) := by decide +kernel
theorem dJ3_checkFromToIndex_8c36e_22 : decode cJ3_checkFromToIndex_8c36e 22 = .ok (.iload_n 0, 1) := by decide +kernel
theorem dJ3_checkFromToIndex_8c36e_23 : decode cJ3_checkFromToIndex_8c36e 23 = .ok (.ireturn, 1) := by decide +kernel
theorem dL_law_0 : decode cL_law 0 = .ok (.new 7, 3) := by decide +kernel
theorem dL_law_3 : decode cL_law 3 = .ok (.dup, 1) := by decide +kernel
theorem dL_law_4 : decode cL_law 4 = .ok (.invokespecial 9, 3) := by decide +kernel
theorem dL_law_7 : decode cL_law 7 = .ok (.astore_n 1, 1) := by decide +kernel
theorem dL_law_8 : decode cL_law 8 = .ok (.new 10, 3) := by decide +kernel
theorem dL_law_11 : decode cL_law 11 = .ok (.dup, 1) := by decide +kernel
theorem dL_law_12 : decode cL_law 12 = .ok (.invokespecial 12, 3) := by decide +kernel
theorem dL_law_15 : decode cL_law 15 = .ok (.astore_n 2, 1) := by decide +kernel
theorem dL_law_16 : decode cL_law 16 = .ok (.iconst 0, 1) := by decide +kernel
theorem dL_law_17 : decode cL_law 17 = .ok (.istore_n 3, 1) := by decide +kernel
theorem dL_law_18 : decode cL_law 18 = .ok (.iload_n 3, 1) := by decide +kernel
theorem dL_law_19 : decode cL_law 19 = .ok (.aload_n 0, 1) := by decide +kernel
theorem dL_law_20 : decode cL_law 20 = .ok (.arraylength, 1) := by decide +kernel
theorem dL_law_21 : decode cL_law 21 = .ok (.bipush 6, 2) := by decide +kernel
theorem dL_law_23 : decode cL_law 23 = .ok (.isub, 1) := by decide +kernel
theorem dL_law_24 : decode cL_law 24 = .ok (.if_icmp .gt 1516, 3) := by decide +kernel
theorem dL_law_27 : decode cL_law 27 = .ok (.aload_n 0, 1) := by decide +kernel
theorem dL_law_28 : decode cL_law 28 = .ok (.iload_n 3, 1) := by decide +kernel
theorem dL_law_29 : decode cL_law 29 = .ok (.iaload, 1) := by decide +kernel
theorem dL_law_30 : decode cL_law 30 = .ok (.bipush 63, 2) := by decide +kernel
theorem dL_law_32 : decode cL_law 32 = .ok (.iand, 1) := by decide +kernel
theorem dL_law_33 : decode cL_law 33 = .ok (.tableswitch 1501 0 37 #[167, 210, 263, 306, 359, 402, 425, 448, 501, 524, 537, 570, 593, 616, 639, 652, 695, 718, 751, 804, 867, 890, 933, 956, 989, 1022, 1065, 1108, 1141, 1174, 1227, 1250, 1293, 1326, 1359, 1402, 1425, 1478], 167) := by decide +kernel
theorem dL_law_200 : decode cL_law 200 = .ok (.aload_n 1, 1) := by decide +kernel
theorem dL_law_201 : decode cL_law 201 = .ok (.aload_n 0, 1) := by decide +kernel
theorem dL_law_202 : decode cL_law 202 = .ok (.iload_n 3, 1) := by decide +kernel
theorem dL_law_203 : decode cL_law 203 = .ok (.iconst 1, 1) := by decide +kernel
theorem dL_law_204 : decode cL_law 204 = .ok (.iadd, 1) := by decide +kernel
theorem dL_law_205 : decode cL_law 205 = .ok (.iaload, 1) := by decide +kernel
theorem dL_law_206 : decode cL_law 206 = .ok (.aload_n 0, 1) := by decide +kernel
theorem dL_law_207 : decode cL_law 207 = .ok (.iload_n 3, 1) := by decide +kernel
theorem dL_law_208 : decode cL_law 208 = .ok (.iconst 2, 1) := by decide +kernel
theorem dL_law_209 : decode cL_law 209 = .ok (.iadd, 1) := by decide +kernel
theorem dL_law_210 : decode cL_law 210 = .ok (.iaload, 1) := by decide +kernel
theorem dL_law_211 : decode cL_law 211 = .ok (.aload_n 0, 1) := by decide +kernel
theorem dL_law_212 : decode cL_law 212 = .ok (.iload_n 3, 1) := by decide +kernel
theorem dL_law_213 : decode cL_law 213 = .ok (.iconst 3, 1) := by decide +kernel
theorem dL_law_214 : decode cL_law 214 = .ok (.iadd, 1) := by decide +kernel
theorem dL_law_215 : decode cL_law 215 = .ok (.iaload, 1) := by decide +kernel
theorem dL_law_216 : decode cL_law 216 = .ok (.invokevirtual 13, 3) := by decide +kernel
theorem dL_law_219 : decode cL_law 219 = .ok (.aload_n 2, 1) := by decide +kernel
theorem dL_law_220 : decode cL_law 220 = .ok (.aload_n 0, 1) := by decide +kernel
theorem dL_law_221 : decode cL_law 221 = .ok (.iload_n 3, 1) := by decide +kernel
theorem dL_law_222 : decode cL_law 222 = .ok (.iconst 1, 1) := by decide +kernel
theorem dL_law_223 : decode cL_law 223 = .ok (.iadd, 1) := by decide +kernel
theorem dL_law_224 : decode cL_law 224 = .ok (.iaload, 1) := by decide +kernel
theorem dL_law_225 : decode cL_law 225 = .ok (.aload_n 0, 1) := by decide +kernel
theorem dL_law_226 : decode cL_law 226 = .ok (.iload_n 3, 1) := by decide +kernel
theorem dL_law_227 : decode cL_law 227 = .ok (.iconst 2, 1) := by decide +kernel
theorem dL_law_228 : decode cL_law 228 = .ok (.iadd, 1) := by decide +kernel
theorem dL_law_229 : decode cL_law 229 = .ok (.iaload, 1) := by decide +kernel
theorem dL_law_230 : decode cL_law 230 = .ok (.aload_n 0, 1) := by decide +kernel
theorem dL_law_231 : decode cL_law 231 = .ok (.iload_n 3, 1) := by decide +kernel
theorem dL_law_232 : decode cL_law 232 = .ok (.iconst 3, 1) := by decide +kernel
theorem dL_law_233 : decode cL_law 233 = .ok (.iadd, 1) := by decide +kernel
theorem dL_law_234 : decode cL_law 234 = .ok (.iaload, 1) := by decide +kernel
theorem dL_law_235 : decode cL_law 235 = .ok (.invokevirtual 17, 3) := by decide +kernel
theorem dL_law_238 : decode cL_law 238 = .ok (.if_icmp .eq 1296, 3) := by decide +kernel
theorem dL_law_241 : decode cL_law 241 = .ok (.iconst 0, 1) := by decide +kernel
theorem dL_law_242 : decode cL_law 242 = .ok (.ireturn, 1) := by decide +kernel
theorem dL_law_243 : decode cL_law 243 = .ok (.aload_n 1, 1) := by decide +kernel
theorem dL_law_244 : decode cL_law 244 = .ok (.aload_n 0, 1) := by decide +kernel
theorem dL_law_245 : decode cL_law 245 = .ok (.iload_n 3, 1) := by decide +kernel
theorem dL_law_246 : decode cL_law 246 = .ok (.iconst 1, 1) := by decide +kernel
theorem dL_law_247 : decode cL_law 247 = .ok (.iadd, 1) := by decide +kernel
theorem dL_law_248 : decode cL_law 248 = .ok (.iaload, 1) := by decide +kernel
theorem dL_law_249 : decode cL_law 249 = .ok (.aload_n 0, 1) := by decide +kernel
theorem dL_law_250 : decode cL_law 250 = .ok (.iload_n 3, 1) := by decide +kernel
theorem dL_law_251 : decode cL_law 251 = .ok (.iconst 2, 1) := by decide +kernel
theorem dL_law_252 : decode cL_law 252 = .ok (.iadd, 1) := by decide +kernel
theorem dL_law_253 : decode cL_law 253 = .ok (.iaload, 1) := by decide +kernel
theorem dL_law_254 : decode cL_law 254 = .ok (.aload_n 0, 1) := by decide +kernel
theorem dL_law_255 : decode cL_law 255 = .ok (.iload_n 3, 1) := by decide +kernel
theorem dL_law_256 : decode cL_law 256 = .ok (.iconst 3, 1) := by decide +kernel
theorem dL_law_257 : decode cL_law 257 = .ok (.iadd, 1) := by decide +kernel
theorem dL_law_258 : decode cL_law 258 = .ok (.iaload, 1) := by decide +kernel
theorem dL_law_259 : decode cL_law 259 = .ok (.aload_n 0, 1) := by decide +kernel
theorem dL_law_260 : decode cL_law 260 = .ok (.iload_n 3, 1) := by decide +kernel
theorem dL_law_261 : decode cL_law 261 = .ok (.iconst 4, 1) := by decide +kernel
theorem dL_law_262 : decode cL_law 262 = .ok (.iadd, 1) := by decide +kernel
theorem dL_law_263 : decode cL_law 263 = .ok (.iaload, 1) := by decide +kernel
theorem dL_law_264 : decode cL_law 264 = .ok (.invokevirtual 18, 3) := by decide +kernel
theorem dL_law_267 : decode cL_law 267 = .ok (.aload_n 2, 1) := by decide +kernel
theorem dL_law_268 : decode cL_law 268 = .ok (.aload_n 0, 1) := by decide +kernel
theorem dL_law_269 : decode cL_law 269 = .ok (.iload_n 3, 1) := by decide +kernel
theorem dL_law_270 : decode cL_law 270 = .ok (.iconst 1, 1) := by decide +kernel
theorem dL_law_271 : decode cL_law 271 = .ok (.iadd, 1) := by decide +kernel
theorem dL_law_272 : decode cL_law 272 = .ok (.iaload, 1) := by decide +kernel
theorem dL_law_273 : decode cL_law 273 = .ok (.aload_n 0, 1) := by decide +kernel
theorem dL_law_274 : decode cL_law 274 = .ok (.iload_n 3, 1) := by decide +kernel
theorem dL_law_275 : decode cL_law 275 = .ok (.iconst 2, 1) := by decide +kernel
theorem dL_law_276 : decode cL_law 276 = .ok (.iadd, 1) := by decide +kernel
theorem dL_law_277 : decode cL_law 277 = .ok (.iaload, 1) := by decide +kernel
theorem dL_law_278 : decode cL_law 278 = .ok (.aload_n 0, 1) := by decide +kernel
theorem dL_law_279 : decode cL_law 279 = .ok (.iload_n 3, 1) := by decide +kernel
theorem dL_law_280 : decode cL_law 280 = .ok (.iconst 3, 1) := by decide +kernel
theorem dL_law_281 : decode cL_law 281 = .ok (.iadd, 1) := by decide +kernel
theorem dL_law_282 : decode cL_law 282 = .ok (.iaload, 1) := by decide +kernel
theorem dL_law_283 : decode cL_law 283 = .ok (.aload_n 0, 1) := by decide +kernel
theorem dL_law_284 : decode cL_law 284 = .ok (.iload_n 3, 1) := by decide +kernel
theorem dL_law_285 : decode cL_law 285 = .ok (.iconst 4, 1) := by decide +kernel
theorem dL_law_286 : decode cL_law 286 = .ok (.iadd, 1) := by decide +kernel
theorem dL_law_287 : decode cL_law 287 = .ok (.iaload, 1) := by decide +kernel
theorem dL_law_288 : decode cL_law 288 = .ok (.invokevirtual 22, 3) := by decide +kernel
theorem dL_law_291 : decode cL_law 291 = .ok (.if_icmp .eq 1243, 3) := by decide +kernel
theorem dL_law_294 : decode cL_law 294 = .ok (.iconst 0, 1) := by decide +kernel
theorem dL_law_295 : decode cL_law 295 = .ok (.ireturn, 1) := by decide +kernel
theorem dL_law_296 : decode cL_law 296 = .ok (.aload_n 1, 1) := by decide +kernel
theorem dL_law_297 : decode cL_law 297 = .ok (.aload_n 0, 1) := by decide +kernel
theorem dL_law_298 : decode cL_law 298 = .ok (.iload_n 3, 1) := by decide +kernel
theorem dL_law_299 : decode cL_law 299 = .ok (.iconst 1, 1) := by decide +kernel
theorem dL_law_300 : decode cL_law 300 = .ok (.iadd, 1) := by decide +kernel
theorem dL_law_301 : decode cL_law 301 = .ok (.iaload, 1) := by decide +kernel
theorem dL_law_302 : decode cL_law 302 = .ok (.aload_n 0, 1) := by decide +kernel
theorem dL_law_303 : decode cL_law 303 = .ok (.iload_n 3, 1) := by decide +kernel
theorem dL_law_304 : decode cL_law 304 = .ok (.iconst 2, 1) := by decide +kernel
theorem dL_law_305 : decode cL_law 305 = .ok (.iadd, 1) := by decide +kernel
theorem dL_law_306 : decode cL_law 306 = .ok (.iaload, 1) := by decide +kernel
theorem dL_law_307 : decode cL_law 307 = .ok (.aload_n 0, 1) := by decide +kernel
theorem dL_law_308 : decode cL_law 308 = .ok (.iload_n 3, 1) := by decide +kernel
theorem dL_law_309 : decode cL_law 309 = .ok (.iconst 3, 1) := by decide +kernel
theorem dL_law_310 : decode cL_law 310 = .ok (.iadd, 1) := by decide +kernel
theorem dL_law_311 : decode cL_law 311 = .ok (.iaload, 1) := by decide +kernel
theorem dL_law_312 : decode cL_law 312 = .ok (.invokevirtual 23, 3) := by decide +kernel
theorem dL_law_315 : decode cL_law 315 = .ok (.aload_n 2, 1) := by decide +kernel
theorem dL_law_316 : decode cL_law 316 = .ok (.aload_n 0, 1) := by decide +kernel
theorem dL_law_317 : decode cL_law 317 = .ok (.iload_n 3, 1) := by decide +kernel
theorem dL_law_318 : decode cL_law 318 = .ok (.iconst 1, 1) := by decide +kernel
theorem dL_law_319 : decode cL_law 319 = .ok (.iadd, 1) := by decide +kernel
theorem dL_law_320 : decode cL_law 320 = .ok (.iaload, 1) := by decide +kernel
theorem dL_law_321 : decode cL_law 321 = .ok (.aload_n 0, 1) := by decide +kernel
theorem dL_law_322 : decode cL_law 322 = .ok (.iload_n 3, 1) := by decide +kernel
theorem dL_law_323 : decode cL_law 323 = .ok (.iconst 2, 1) := by decide +kernel
theorem dL_law_324 : decode cL_law 324 = .ok (.iadd, 1) := by decide +kernel
theorem dL_law_325 : decode cL_law 325 = .ok (.iaload, 1) := by decide +kernel
theorem dL_law_326 : decode cL_law 326 = .ok (.aload_n 0, 1) := by decide +kernel
theorem dL_law_327 : decode cL_law 327 = .ok (.iload_n 3, 1) := by decide +kernel
theorem dL_law_328 : decode cL_law 328 = .ok (.iconst 3, 1) := by decide +kernel
theorem dL_law_329 : decode cL_law 329 = .ok (.iadd, 1) := by decide +kernel
theorem dL_law_330 : decode cL_law 330 = .ok (.iaload, 1) := by decide +kernel
theorem dL_law_331 : decode cL_law 331 = .ok (.invokevirtual 26, 3) := by decide +kernel
theorem dL_law_334 : decode cL_law 334 = .ok (.if_icmp .eq 1200, 3) := by decide +kernel
theorem dL_law_337 : decode cL_law 337 = .ok (.iconst 0, 1) := by decide +kernel
theorem dL_law_338 : decode cL_law 338 = .ok (.ireturn, 1) := by decide +kernel
theorem dL_law_339 : decode cL_law 339 = .ok (.aload_n 1, 1) := by decide +kernel
theorem dL_law_340 : decode cL_law 340 = .ok (.aload_n 0, 1) := by decide +kernel
theorem dL_law_341 : decode cL_law 341 = .ok (.iload_n 3, 1) := by decide +kernel
theorem dL_law_342 : decode cL_law 342 = .ok (.iconst 1, 1) := by decide +kernel
theorem dL_law_343 : decode cL_law 343 = .ok (.iadd, 1) := by decide +kernel
theorem dL_law_344 : decode cL_law 344 = .ok (.iaload, 1) := by decide +kernel
theorem dL_law_345 : decode cL_law 345 = .ok (.aload_n 0, 1) := by decide +kernel
theorem dL_law_346 : decode cL_law 346 = .ok (.iload_n 3, 1) := by decide +kernel
theorem dL_law_347 : decode cL_law 347 = .ok (.iconst 2, 1) := by decide +kernel
theorem dL_law_348 : decode cL_law 348 = .ok (.iadd, 1) := by decide +kernel
theorem dL_law_349 : decode cL_law 349 = .ok (.iaload, 1) := by decide +kernel
theorem dL_law_350 : decode cL_law 350 = .ok (.aload_n 0, 1) := by decide +kernel
theorem dL_law_351 : decode cL_law 351 = .ok (.iload_n 3, 1) := by decide +kernel
theorem dL_law_352 : decode cL_law 352 = .ok (.iconst 3, 1) := by decide +kernel
theorem dL_law_353 : decode cL_law 353 = .ok (.iadd, 1) := by decide +kernel
theorem dL_law_354 : decode cL_law 354 = .ok (.iaload, 1) := by decide +kernel
theorem dL_law_355 : decode cL_law 355 = .ok (.aload_n 0, 1) := by decide +kernel
theorem dL_law_356 : decode cL_law 356 = .ok (.iload_n 3, 1) := by decide +kernel
theorem dL_law_357 : decode cL_law 357 = .ok (.iconst 4, 1) := by decide +kernel
theorem dL_law_358 : decode cL_law 358 = .ok (.iadd, 1) := by decide +kernel
theorem dL_law_359 : decode cL_law 359 = .ok (.iaload, 1) := by decide +kernel
theorem dL_law_360 : decode cL_law 360 = .ok (.invokevirtual 27, 3) := by decide +kernel
theorem dL_law_363 : decode cL_law 363 = .ok (.aload_n 2, 1) := by decide +kernel
theorem dL_law_364 : decode cL_law 364 = .ok (.aload_n 0, 1) := by decide +kernel
theorem dL_law_365 : decode cL_law 365 = .ok (.iload_n 3, 1) := by decide +kernel
theorem dL_law_366 : decode cL_law 366 = .ok (.iconst 1, 1) := by decide +kernel
theorem dL_law_367 : decode cL_law 367 = .ok (.iadd, 1) := by decide +kernel
theorem dL_law_368 : decode cL_law 368 = .ok (.iaload, 1) := by decide +kernel
theorem dL_law_369 : decode cL_law 369 = .ok (.aload_n 0, 1) := by decide +kernel
theorem dL_law_370 : decode cL_law 370 = .ok (.iload_n 3, 1) := by decide +kernel
theorem dL_law_371 : decode cL_law 371 = .ok (.iconst 2, 1) := by decide +kernel
theorem dL_law_372 : decode cL_law 372 = .ok (.iadd, 1) := by decide +kernel
theorem dL_law_373 : decode cL_law 373 = .ok (.iaload, 1) := by decide +kernel
theorem dL_law_374 : decode cL_law 374 = .ok (.aload_n 0, 1) := by decide +kernel
theorem dL_law_375 : decode cL_law 375 = .ok (.iload_n 3, 1) := by decide +kernel
theorem dL_law_376 : decode cL_law 376 = .ok (.iconst 3, 1) := by decide +kernel
theorem dL_law_377 : decode cL_law 377 = .ok (.iadd, 1) := by decide +kernel
theorem dL_law_378 : decode cL_law 378 = .ok (.iaload, 1) := by decide +kernel
theorem dL_law_379 : decode cL_law 379 = .ok (.aload_n 0, 1) := by decide +kernel
theorem dL_law_380 : decode cL_law 380 = .ok (.iload_n 3, 1) := by decide +kernel
theorem dL_law_381 : decode cL_law 381 = .ok (.iconst 4, 1) := by decide +kernel
theorem dL_law_382 : decode cL_law 382 = .ok (.iadd, 1) := by decide +kernel
theorem dL_law_383 : decode cL_law 383 = .ok (.iaload, 1) := by decide +kernel
theorem dL_law_384 : decode cL_law 384 = .ok (.invokevirtual 30, 3) := by decide +kernel
theorem dL_law_387 : decode cL_law 387 = .ok (.if_icmp .eq 1147, 3) := by decide +kernel
theorem dL_law_390 : decode cL_law 390 = .ok (.iconst 0, 1) := by decide +kernel
theorem dL_law_391 : decode cL_law 391 = .ok (.ireturn, 1) := by decide +kernel
theorem dL_law_392 : decode cL_law 392 = .ok (.aload_n 1, 1) := by decide +kernel
theorem dL_law_393 : decode cL_law 393 = .ok (.aload_n 0, 1) := by decide +kernel
theorem dL_law_394 : decode cL_law 394 = .ok (.iload_n 3, 1) := by decide +kernel
theorem dL_law_395 : decode cL_law 395 = .ok (.iconst 1, 1) := by decide +kernel
theorem dL_law_396 : decode cL_law 396 = .ok (.iadd, 1) := by decide +kernel
theorem dL_law_397 : decode cL_law 397 = .ok (.iaload, 1) := by decide +kernel
theorem dL_law_398 : decode cL_law 398 = .ok (.aload_n 0, 1) := by decide +kernel
theorem dL_law_399 : decode cL_law 399 = .ok (.iload_n 3, 1) := by decide +kernel
theorem dL_law_400 : decode cL_law 400 = .ok (.iconst 2, 1) := by decide +kernel
theorem dL_law_401 : decode cL_law 401 = .ok (.iadd, 1) := by decide +kernel
theorem dL_law_402 : decode cL_law 402 = .ok (.iaload, 1) := by decide +kernel
theorem dL_law_403 : decode cL_law 403 = .ok (.aload_n 0, 1) := by decide +kernel
theorem dL_law_404 : decode cL_law 404 = .ok (.iload_n 3, 1) := by decide +kernel
theorem dL_law_405 : decode cL_law 405 = .ok (.iconst 3, 1) := by decide +kernel
theorem dL_law_406 : decode cL_law 406 = .ok (.iadd, 1) := by decide +kernel
theorem dL_law_407 : decode cL_law 407 = .ok (.iaload, 1) := by decide +kernel
theorem dL_law_408 : decode cL_law 408 = .ok (.invokevirtual 31, 3) := by decide +kernel
theorem dL_law_411 : decode cL_law 411 = .ok (.aload_n 2, 1) := by decide +kernel
theorem dL_law_412 : decode cL_law 412 = .ok (.aload_n 0, 1) := by decide +kernel
theorem dL_law_413 : decode cL_law 413 = .ok (.iload_n 3, 1) := by decide +kernel
theorem dL_law_414 : decode cL_law 414 = .ok (.iconst 1, 1) := by decide +kernel
theorem dL_law_415 : decode cL_law 415 = .ok (.iadd, 1) := by decide +kernel
theorem dL_law_416 : decode cL_law 416 = .ok (.iaload, 1) := by decide +kernel
theorem dL_law_417 : decode cL_law 417 = .ok (.aload_n 0, 1) := by decide +kernel
theorem dL_law_418 : decode cL_law 418 = .ok (.iload_n 3, 1) := by decide +kernel
theorem dL_law_419 : decode cL_law 419 = .ok (.iconst 2, 1) := by decide +kernel
theorem dL_law_420 : decode cL_law 420 = .ok (.iadd, 1) := by decide +kernel
theorem dL_law_421 : decode cL_law 421 = .ok (.iaload, 1) := by decide +kernel
theorem dL_law_422 : decode cL_law 422 = .ok (.aload_n 0, 1) := by decide +kernel
theorem dL_law_423 : decode cL_law 423 = .ok (.iload_n 3, 1) := by decide +kernel
theorem dL_law_424 : decode cL_law 424 = .ok (.iconst 3, 1) := by decide +kernel
theorem dL_law_425 : decode cL_law 425 = .ok (.iadd, 1) := by decide +kernel
theorem dL_law_426 : decode cL_law 426 = .ok (.iaload, 1) := by decide +kernel
theorem dL_law_427 : decode cL_law 427 = .ok (.invokevirtual 34, 3) := by decide +kernel
theorem dL_law_430 : decode cL_law 430 = .ok (.if_icmp .eq 1104, 3) := by decide +kernel
theorem dL_law_433 : decode cL_law 433 = .ok (.iconst 0, 1) := by decide +kernel
theorem dL_law_434 : decode cL_law 434 = .ok (.ireturn, 1) := by decide +kernel
theorem dL_law_435 : decode cL_law 435 = .ok (.aload_n 1, 1) := by decide +kernel
theorem dL_law_436 : decode cL_law 436 = .ok (.aload_n 0, 1) := by decide +kernel
theorem dL_law_437 : decode cL_law 437 = .ok (.iload_n 3, 1) := by decide +kernel
theorem dL_law_438 : decode cL_law 438 = .ok (.iconst 1, 1) := by decide +kernel
theorem dL_law_439 : decode cL_law 439 = .ok (.iadd, 1) := by decide +kernel
theorem dL_law_440 : decode cL_law 440 = .ok (.iaload, 1) := by decide +kernel
theorem dL_law_441 : decode cL_law 441 = .ok (.invokevirtual 35, 3) := by decide +kernel
theorem dL_law_444 : decode cL_law 444 = .ok (.aload_n 2, 1) := by decide +kernel
theorem dL_law_445 : decode cL_law 445 = .ok (.aload_n 0, 1) := by decide +kernel
theorem dL_law_446 : decode cL_law 446 = .ok (.iload_n 3, 1) := by decide +kernel
theorem dL_law_447 : decode cL_law 447 = .ok (.iconst 1, 1) := by decide +kernel
theorem dL_law_448 : decode cL_law 448 = .ok (.iadd, 1) := by decide +kernel
theorem dL_law_449 : decode cL_law 449 = .ok (.iaload, 1) := by decide +kernel
theorem dL_law_450 : decode cL_law 450 = .ok (.invokevirtual 39, 3) := by decide +kernel
theorem dL_law_453 : decode cL_law 453 = .ok (.if_icmp .eq 1081, 3) := by decide +kernel
theorem dL_law_456 : decode cL_law 456 = .ok (.iconst 0, 1) := by decide +kernel
theorem dL_law_457 : decode cL_law 457 = .ok (.ireturn, 1) := by decide +kernel
theorem dL_law_458 : decode cL_law 458 = .ok (.aload_n 1, 1) := by decide +kernel
theorem dL_law_459 : decode cL_law 459 = .ok (.aload_n 0, 1) := by decide +kernel
theorem dL_law_460 : decode cL_law 460 = .ok (.iload_n 3, 1) := by decide +kernel
theorem dL_law_461 : decode cL_law 461 = .ok (.iconst 1, 1) := by decide +kernel
theorem dL_law_462 : decode cL_law 462 = .ok (.iadd, 1) := by decide +kernel
theorem dL_law_463 : decode cL_law 463 = .ok (.iaload, 1) := by decide +kernel
theorem dL_law_464 : decode cL_law 464 = .ok (.invokevirtual 40, 3) := by decide +kernel
theorem dL_law_467 : decode cL_law 467 = .ok (.aload_n 2, 1) := by decide +kernel
theorem dL_law_468 : decode cL_law 468 = .ok (.aload_n 0, 1) := by decide +kernel
theorem dL_law_469 : decode cL_law 469 = .ok (.iload_n 3, 1) := by decide +kernel
theorem dL_law_470 : decode cL_law 470 = .ok (.iconst 1, 1) := by decide +kernel
theorem dL_law_471 : decode cL_law 471 = .ok (.iadd, 1) := by decide +kernel
theorem dL_law_472 : decode cL_law 472 = .ok (.iaload, 1) := by decide +kernel
theorem dL_law_473 : decode cL_law 473 = .ok (.invokevirtual 43, 3) := by decide +kernel
theorem dL_law_476 : decode cL_law 476 = .ok (.if_icmp .eq 1058, 3) := by decide +kernel
theorem dL_law_479 : decode cL_law 479 = .ok (.iconst 0, 1) := by decide +kernel
theorem dL_law_480 : decode cL_law 480 = .ok (.ireturn, 1) := by decide +kernel
theorem dL_law_481 : decode cL_law 481 = .ok (.aload_n 1, 1) := by decide +kernel
theorem dL_law_482 : decode cL_law 482 = .ok (.aload_n 0, 1) := by decide +kernel
theorem dL_law_483 : decode cL_law 483 = .ok (.iload_n 3, 1) := by decide +kernel
theorem dL_law_484 : decode cL_law 484 = .ok (.iconst 1, 1) := by decide +kernel
theorem dL_law_485 : decode cL_law 485 = .ok (.iadd, 1) := by decide +kernel
theorem dL_law_486 : decode cL_law 486 = .ok (.iaload, 1) := by decide +kernel
theorem dL_law_487 : decode cL_law 487 = .ok (.aload_n 0, 1) := by decide +kernel
theorem dL_law_488 : decode cL_law 488 = .ok (.iload_n 3, 1) := by decide +kernel
theorem dL_law_489 : decode cL_law 489 = .ok (.iconst 2, 1) := by decide +kernel
theorem dL_law_490 : decode cL_law 490 = .ok (.iadd, 1) := by decide +kernel
theorem dL_law_491 : decode cL_law 491 = .ok (.iaload, 1) := by decide +kernel
theorem dL_law_492 : decode cL_law 492 = .ok (.aload_n 0, 1) := by decide +kernel
theorem dL_law_493 : decode cL_law 493 = .ok (.iload_n 3, 1) := by decide +kernel
theorem dL_law_494 : decode cL_law 494 = .ok (.iconst 3, 1) := by decide +kernel
theorem dL_law_495 : decode cL_law 495 = .ok (.iadd, 1) := by decide +kernel
theorem dL_law_496 : decode cL_law 496 = .ok (.iaload, 1) := by decide +kernel
theorem dL_law_497 : decode cL_law 497 = .ok (.aload_n 0, 1) := by decide +kernel
theorem dL_law_498 : decode cL_law 498 = .ok (.iload_n 3, 1) := by decide +kernel
theorem dL_law_499 : decode cL_law 499 = .ok (.iconst 4, 1) := by decide +kernel
theorem dL_law_500 : decode cL_law 500 = .ok (.iadd, 1) := by decide +kernel
theorem dL_law_501 : decode cL_law 501 = .ok (.iaload, 1) := by decide +kernel
theorem dL_law_502 : decode cL_law 502 = .ok (.invokevirtual 44, 3) := by decide +kernel
theorem dL_law_505 : decode cL_law 505 = .ok (.aload_n 2, 1) := by decide +kernel
theorem dL_law_506 : decode cL_law 506 = .ok (.aload_n 0, 1) := by decide +kernel
theorem dL_law_507 : decode cL_law 507 = .ok (.iload_n 3, 1) := by decide +kernel
theorem dL_law_508 : decode cL_law 508 = .ok (.iconst 1, 1) := by decide +kernel
theorem dL_law_509 : decode cL_law 509 = .ok (.iadd, 1) := by decide +kernel
theorem dL_law_510 : decode cL_law 510 = .ok (.iaload, 1) := by decide +kernel
theorem dL_law_511 : decode cL_law 511 = .ok (.aload_n 0, 1) := by decide +kernel
theorem dL_law_512 : decode cL_law 512 = .ok (.iload_n 3, 1) := by decide +kernel
theorem dL_law_513 : decode cL_law 513 = .ok (.iconst 2, 1) := by decide +kernel
theorem dL_law_514 : decode cL_law 514 = .ok (.iadd, 1) := by decide +kernel
theorem dL_law_515 : decode cL_law 515 = .ok (.iaload, 1) := by decide +kernel
theorem dL_law_516 : decode cL_law 516 = .ok (.aload_n 0, 1) := by decide +kernel
theorem dL_law_517 : decode cL_law 517 = .ok (.iload_n 3, 1) := by decide +kernel
theorem dL_law_518 : decode cL_law 518 = .ok (.iconst 3, 1) := by decide +kernel
theorem dL_law_519 : decode cL_law 519 = .ok (.iadd, 1) := by decide +kernel
theorem dL_law_520 : decode cL_law 520 = .ok (.iaload, 1) := by decide +kernel
theorem dL_law_521 : decode cL_law 521 = .ok (.aload_n 0, 1) := by decide +kernel
theorem dL_law_522 : decode cL_law 522 = .ok (.iload_n 3, 1) := by decide +kernel
theorem dL_law_523 : decode cL_law 523 = .ok (.iconst 4, 1) := by decide +kernel
theorem dL_law_524 : decode cL_law 524 = .ok (.iadd, 1) := by decide +kernel
theorem dL_law_525 : decode cL_law 525 = .ok (.iaload, 1) := by decide +kernel
theorem dL_law_526 : decode cL_law 526 = .ok (.invokevirtual 47, 3) := by decide +kernel
theorem dL_law_529 : decode cL_law 529 = .ok (.if_icmp .eq 1005, 3) := by decide +kernel
theorem dL_law_532 : decode cL_law 532 = .ok (.iconst 0, 1) := by decide +kernel
theorem dL_law_533 : decode cL_law 533 = .ok (.ireturn, 1) := by decide +kernel
theorem dL_law_534 : decode cL_law 534 = .ok (.aload_n 1, 1) := by decide +kernel
theorem dL_law_535 : decode cL_law 535 = .ok (.aload_n 0, 1) := by decide +kernel
theorem dL_law_536 : decode cL_law 536 = .ok (.iload_n 3, 1) := by decide +kernel
theorem dL_law_537 : decode cL_law 537 = .ok (.iconst 1, 1) := by decide +kernel
theorem dL_law_538 : decode cL_law 538 = .ok (.iadd, 1) := by decide +kernel
theorem dL_law_539 : decode cL_law 539 = .ok (.iaload, 1) := by decide +kernel
theorem dL_law_540 : decode cL_law 540 = .ok (.invokevirtual 48, 3) := by decide +kernel
theorem dL_law_543 : decode cL_law 543 = .ok (.aload_n 2, 1) := by decide +kernel
theorem dL_law_544 : decode cL_law 544 = .ok (.aload_n 0, 1) := by decide +kernel
theorem dL_law_545 : decode cL_law 545 = .ok (.iload_n 3, 1) := by decide +kernel
theorem dL_law_546 : decode cL_law 546 = .ok (.iconst 1, 1) := by decide +kernel
theorem dL_law_547 : decode cL_law 547 = .ok (.iadd, 1) := by decide +kernel
theorem dL_law_548 : decode cL_law 548 = .ok (.iaload, 1) := by decide +kernel
theorem dL_law_549 : decode cL_law 549 = .ok (.invokevirtual 51, 3) := by decide +kernel
theorem dL_law_552 : decode cL_law 552 = .ok (.if_icmp .eq 982, 3) := by decide +kernel
theorem dL_law_555 : decode cL_law 555 = .ok (.iconst 0, 1) := by decide +kernel
theorem dL_law_556 : decode cL_law 556 = .ok (.ireturn, 1) := by decide +kernel
theorem dL_law_557 : decode cL_law 557 = .ok (.aload_n 1, 1) := by decide +kernel
theorem dL_law_558 : decode cL_law 558 = .ok (.invokevirtual 52, 3) := by decide +kernel
theorem dL_law_561 : decode cL_law 561 = .ok (.aload_n 2, 1) := by decide +kernel
theorem dL_law_562 : decode cL_law 562 = .ok (.invokevirtual 56, 3) := by decide +kernel
theorem dL_law_565 : decode cL_law 565 = .ok (.if_icmp .eq 969, 3) := by decide +kernel
theorem dL_law_568 : decode cL_law 568 = .ok (.iconst 0, 1) := by decide +kernel
theorem dL_law_569 : decode cL_law 569 = .ok (.ireturn, 1) := by decide +kernel
theorem dL_law_570 : decode cL_law 570 = .ok (.aload_n 1, 1) := by decide +kernel
theorem dL_law_571 : decode cL_law 571 = .ok (.aload_n 0, 1) := by decide +kernel
theorem dL_law_572 : decode cL_law 572 = .ok (.iload_n 3, 1) := by decide +kernel
theorem dL_law_573 : decode cL_law 573 = .ok (.iconst 1, 1) := by decide +kernel
theorem dL_law_574 : decode cL_law 574 = .ok (.iadd, 1) := by decide +kernel
theorem dL_law_575 : decode cL_law 575 = .ok (.iaload, 1) := by decide +kernel
theorem dL_law_576 : decode cL_law 576 = .ok (.aload_n 0, 1) := by decide +kernel
theorem dL_law_577 : decode cL_law 577 = .ok (.iload_n 3, 1) := by decide +kernel
theorem dL_law_578 : decode cL_law 578 = .ok (.iconst 2, 1) := by decide +kernel
theorem dL_law_579 : decode cL_law 579 = .ok (.iadd, 1) := by decide +kernel
theorem dL_law_580 : decode cL_law 580 = .ok (.iaload, 1) := by decide +kernel
theorem dL_law_581 : decode cL_law 581 = .ok (.invokevirtual 57, 3) := by decide +kernel
theorem dL_law_584 : decode cL_law 584 = .ok (.aload_n 2, 1) := by decide +kernel
theorem dL_law_585 : decode cL_law 585 = .ok (.aload_n 0, 1) := by decide +kernel
theorem dL_law_586 : decode cL_law 586 = .ok (.iload_n 3, 1) := by decide +kernel
theorem dL_law_587 : decode cL_law 587 = .ok (.iconst 1, 1) := by decide +kernel
theorem dL_law_588 : decode cL_law 588 = .ok (.iadd, 1) := by decide +kernel
theorem dL_law_589 : decode cL_law 589 = .ok (.iaload, 1) := by decide +kernel
theorem dL_law_590 : decode cL_law 590 = .ok (.aload_n 0, 1) := by decide +kernel
theorem dL_law_591 : decode cL_law 591 = .ok (.iload_n 3, 1) := by decide +kernel
theorem dL_law_592 : decode cL_law 592 = .ok (.iconst 2, 1) := by decide +kernel
theorem dL_law_593 : decode cL_law 593 = .ok (.iadd, 1) := by decide +kernel
theorem dL_law_594 : decode cL_law 594 = .ok (.iaload, 1) := by decide +kernel
theorem dL_law_595 : decode cL_law 595 = .ok (.invokevirtual 61, 3) := by decide +kernel
theorem dL_law_598 : decode cL_law 598 = .ok (.if_icmp .eq 936, 3) := by decide +kernel
theorem dL_law_601 : decode cL_law 601 = .ok (.iconst 0, 1) := by decide +kernel
theorem dL_law_602 : decode cL_law 602 = .ok (.ireturn, 1) := by decide +kernel
theorem dL_law_603 : decode cL_law 603 = .ok (.aload_n 1, 1) := by decide +kernel
theorem dL_law_604 : decode cL_law 604 = .ok (.aload_n 0, 1) := by decide +kernel
theorem dL_law_605 : decode cL_law 605 = .ok (.iload_n 3, 1) := by decide +kernel
theorem dL_law_606 : decode cL_law 606 = .ok (.iconst 1, 1) := by decide +kernel
theorem dL_law_607 : decode cL_law 607 = .ok (.iadd, 1) := by decide +kernel
theorem dL_law_608 : decode cL_law 608 = .ok (.iaload, 1) := by decide +kernel
theorem dL_law_609 : decode cL_law 609 = .ok (.invokevirtual 62, 3) := by decide +kernel
theorem dL_law_612 : decode cL_law 612 = .ok (.aload_n 2, 1) := by decide +kernel
theorem dL_law_613 : decode cL_law 613 = .ok (.aload_n 0, 1) := by decide +kernel
theorem dL_law_614 : decode cL_law 614 = .ok (.iload_n 3, 1) := by decide +kernel
theorem dL_law_615 : decode cL_law 615 = .ok (.iconst 1, 1) := by decide +kernel
theorem dL_law_616 : decode cL_law 616 = .ok (.iadd, 1) := by decide +kernel
theorem dL_law_617 : decode cL_law 617 = .ok (.iaload, 1) := by decide +kernel
theorem dL_law_618 : decode cL_law 618 = .ok (.invokevirtual 65, 3) := by decide +kernel
theorem dL_law_621 : decode cL_law 621 = .ok (.if_icmp .eq 913, 3) := by decide +kernel
theorem dL_law_624 : decode cL_law 624 = .ok (.iconst 0, 1) := by decide +kernel
theorem dL_law_625 : decode cL_law 625 = .ok (.ireturn, 1) := by decide +kernel
theorem dL_law_626 : decode cL_law 626 = .ok (.aload_n 1, 1) := by decide +kernel
theorem dL_law_627 : decode cL_law 627 = .ok (.aload_n 0, 1) := by decide +kernel
theorem dL_law_628 : decode cL_law 628 = .ok (.iload_n 3, 1) := by decide +kernel
theorem dL_law_629 : decode cL_law 629 = .ok (.iconst 1, 1) := by decide +kernel
theorem dL_law_630 : decode cL_law 630 = .ok (.iadd, 1) := by decide +kernel
theorem dL_law_631 : decode cL_law 631 = .ok (.iaload, 1) := by decide +kernel
theorem dL_law_632 : decode cL_law 632 = .ok (.invokevirtual 66, 3) := by decide +kernel
theorem dL_law_635 : decode cL_law 635 = .ok (.aload_n 2, 1) := by decide +kernel
theorem dL_law_636 : decode cL_law 636 = .ok (.aload_n 0, 1) := by decide +kernel
theorem dL_law_637 : decode cL_law 637 = .ok (.iload_n 3, 1) := by decide +kernel
theorem dL_law_638 : decode cL_law 638 = .ok (.iconst 1, 1) := by decide +kernel
theorem dL_law_639 : decode cL_law 639 = .ok (.iadd, 1) := by decide +kernel
theorem dL_law_640 : decode cL_law 640 = .ok (.iaload, 1) := by decide +kernel
theorem dL_law_641 : decode cL_law 641 = .ok (.invokevirtual 69, 3) := by decide +kernel
theorem dL_law_644 : decode cL_law 644 = .ok (.if_icmp .eq 890, 3) := by decide +kernel
theorem dL_law_647 : decode cL_law 647 = .ok (.iconst 0, 1) := by decide +kernel
theorem dL_law_648 : decode cL_law 648 = .ok (.ireturn, 1) := by decide +kernel
theorem dL_law_649 : decode cL_law 649 = .ok (.aload_n 1, 1) := by decide +kernel
theorem dL_law_650 : decode cL_law 650 = .ok (.aload_n 0, 1) := by decide +kernel
theorem dL_law_651 : decode cL_law 651 = .ok (.iload_n 3, 1) := by decide +kernel
theorem dL_law_652 : decode cL_law 652 = .ok (.iconst 1, 1) := by decide +kernel
theorem dL_law_653 : decode cL_law 653 = .ok (.iadd, 1) := by decide +kernel
theorem dL_law_654 : decode cL_law 654 = .ok (.iaload, 1) := by decide +kernel
theorem dL_law_655 : decode cL_law 655 = .ok (.invokevirtual 70, 3) := by decide +kernel
theorem dL_law_658 : decode cL_law 658 = .ok (.aload_n 2, 1) := by decide +kernel
theorem dL_law_659 : decode cL_law 659 = .ok (.aload_n 0, 1) := by decide +kernel
theorem dL_law_660 : decode cL_law 660 = .ok (.iload_n 3, 1) := by decide +kernel
theorem dL_law_661 : decode cL_law 661 = .ok (.iconst 1, 1) := by decide +kernel
theorem dL_law_662 : decode cL_law 662 = .ok (.iadd, 1) := by decide +kernel
theorem dL_law_663 : decode cL_law 663 = .ok (.iaload, 1) := by decide +kernel
theorem dL_law_664 : decode cL_law 664 = .ok (.invokevirtual 73, 3) := by decide +kernel
theorem dL_law_667 : decode cL_law 667 = .ok (.if_icmp .eq 867, 3) := by decide +kernel
theorem dL_law_670 : decode cL_law 670 = .ok (.iconst 0, 1) := by decide +kernel
theorem dL_law_671 : decode cL_law 671 = .ok (.ireturn, 1) := by decide +kernel
theorem dL_law_672 : decode cL_law 672 = .ok (.aload_n 1, 1) := by decide +kernel
theorem dL_law_673 : decode cL_law 673 = .ok (.invokevirtual 74, 3) := by decide +kernel
theorem dL_law_676 : decode cL_law 676 = .ok (.aload_n 2, 1) := by decide +kernel
theorem dL_law_677 : decode cL_law 677 = .ok (.invokevirtual 77, 3) := by decide +kernel
theorem dL_law_680 : decode cL_law 680 = .ok (.if_icmp .eq 854, 3) := by decide +kernel
theorem dL_law_683 : decode cL_law 683 = .ok (.iconst 0, 1) := by decide +kernel
theorem dL_law_684 : decode cL_law 684 = .ok (.ireturn, 1) := by decide +kernel
theorem dL_law_685 : decode cL_law 685 = .ok (.aload_n 1, 1) := by decide +kernel
theorem dL_law_686 : decode cL_law 686 = .ok (.aload_n 0, 1) := by decide +kernel
theorem dL_law_687 : decode cL_law 687 = .ok (.iload_n 3, 1) := by decide +kernel
theorem dL_law_688 : decode cL_law 688 = .ok (.iconst 1, 1) := by decide +kernel
theorem dL_law_689 : decode cL_law 689 = .ok (.iadd, 1) := by decide +kernel
theorem dL_law_690 : decode cL_law 690 = .ok (.iaload, 1) := by decide +kernel
theorem dL_law_691 : decode cL_law 691 = .ok (.aload_n 0, 1) := by decide +kernel
theorem dL_law_692 : decode cL_law 692 = .ok (.iload_n 3, 1) := by decide +kernel
theorem dL_law_693 : decode cL_law 693 = .ok (.iconst 2, 1) := by decide +kernel
theorem dL_law_694 : decode cL_law 694 = .ok (.iadd, 1) := by decide +kernel
theorem dL_law_695 : decode cL_law 695 = .ok (.iaload, 1) := by decide +kernel
theorem dL_law_696 : decode cL_law 696 = .ok (.aload_n 0, 1) := by decide +kernel
theorem dL_law_697 : decode cL_law 697 = .ok (.iload_n 3, 1) := by decide +kernel
theorem dL_law_698 : decode cL_law 698 = .ok (.iconst 3, 1) := by decide +kernel
theorem dL_law_699 : decode cL_law 699 = .ok (.iadd, 1) := by decide +kernel
theorem dL_law_700 : decode cL_law 700 = .ok (.iaload, 1) := by decide +kernel
theorem dL_law_701 : decode cL_law 701 = .ok (.invokevirtual 78, 3) := by decide +kernel
theorem dL_law_704 : decode cL_law 704 = .ok (.aload_n 2, 1) := by decide +kernel
theorem dL_law_705 : decode cL_law 705 = .ok (.aload_n 0, 1) := by decide +kernel
theorem dL_law_706 : decode cL_law 706 = .ok (.iload_n 3, 1) := by decide +kernel
theorem dL_law_707 : decode cL_law 707 = .ok (.iconst 1, 1) := by decide +kernel
theorem dL_law_708 : decode cL_law 708 = .ok (.iadd, 1) := by decide +kernel
theorem dL_law_709 : decode cL_law 709 = .ok (.iaload, 1) := by decide +kernel
theorem dL_law_710 : decode cL_law 710 = .ok (.aload_n 0, 1) := by decide +kernel
theorem dL_law_711 : decode cL_law 711 = .ok (.iload_n 3, 1) := by decide +kernel
theorem dL_law_712 : decode cL_law 712 = .ok (.iconst 2, 1) := by decide +kernel
theorem dL_law_713 : decode cL_law 713 = .ok (.iadd, 1) := by decide +kernel
theorem dL_law_714 : decode cL_law 714 = .ok (.iaload, 1) := by decide +kernel
theorem dL_law_715 : decode cL_law 715 = .ok (.aload_n 0, 1) := by decide +kernel
theorem dL_law_716 : decode cL_law 716 = .ok (.iload_n 3, 1) := by decide +kernel
theorem dL_law_717 : decode cL_law 717 = .ok (.iconst 3, 1) := by decide +kernel
theorem dL_law_718 : decode cL_law 718 = .ok (.iadd, 1) := by decide +kernel
theorem dL_law_719 : decode cL_law 719 = .ok (.iaload, 1) := by decide +kernel
theorem dL_law_720 : decode cL_law 720 = .ok (.invokevirtual 81, 3) := by decide +kernel
theorem dL_law_723 : decode cL_law 723 = .ok (.if_icmp .eq 811, 3) := by decide +kernel
theorem dL_law_726 : decode cL_law 726 = .ok (.iconst 0, 1) := by decide +kernel
theorem dL_law_727 : decode cL_law 727 = .ok (.ireturn, 1) := by decide +kernel
theorem dL_law_728 : decode cL_law 728 = .ok (.aload_n 1, 1) := by decide +kernel
theorem dL_law_729 : decode cL_law 729 = .ok (.aload_n 0, 1) := by decide +kernel
theorem dL_law_730 : decode cL_law 730 = .ok (.iload_n 3, 1) := by decide +kernel
theorem dL_law_731 : decode cL_law 731 = .ok (.iconst 1, 1) := by decide +kernel
theorem dL_law_732 : decode cL_law 732 = .ok (.iadd, 1) := by decide +kernel
theorem dL_law_733 : decode cL_law 733 = .ok (.iaload, 1) := by decide +kernel
theorem dL_law_734 : decode cL_law 734 = .ok (.invokevirtual 82, 3) := by decide +kernel
theorem dL_law_737 : decode cL_law 737 = .ok (.aload_n 2, 1) := by decide +kernel
theorem dL_law_738 : decode cL_law 738 = .ok (.aload_n 0, 1) := by decide +kernel
theorem dL_law_739 : decode cL_law 739 = .ok (.iload_n 3, 1) := by decide +kernel
theorem dL_law_740 : decode cL_law 740 = .ok (.iconst 1, 1) := by decide +kernel
theorem dL_law_741 : decode cL_law 741 = .ok (.iadd, 1) := by decide +kernel
theorem dL_law_742 : decode cL_law 742 = .ok (.iaload, 1) := by decide +kernel
theorem dL_law_743 : decode cL_law 743 = .ok (.invokevirtual 85, 3) := by decide +kernel
theorem dL_law_746 : decode cL_law 746 = .ok (.if_icmp .eq 788, 3) := by decide +kernel
theorem dL_law_749 : decode cL_law 749 = .ok (.iconst 0, 1) := by decide +kernel
theorem dL_law_750 : decode cL_law 750 = .ok (.ireturn, 1) := by decide +kernel
theorem dL_law_751 : decode cL_law 751 = .ok (.aload_n 1, 1) := by decide +kernel
theorem dL_law_752 : decode cL_law 752 = .ok (.aload_n 0, 1) := by decide +kernel
theorem dL_law_753 : decode cL_law 753 = .ok (.iload_n 3, 1) := by decide +kernel
theorem dL_law_754 : decode cL_law 754 = .ok (.iconst 1, 1) := by decide +kernel
theorem dL_law_755 : decode cL_law 755 = .ok (.iadd, 1) := by decide +kernel
theorem dL_law_756 : decode cL_law 756 = .ok (.iaload, 1) := by decide +kernel
theorem dL_law_757 : decode cL_law 757 = .ok (.aload_n 0, 1) := by decide +kernel
theorem dL_law_758 : decode cL_law 758 = .ok (.iload_n 3, 1) := by decide +kernel
theorem dL_law_759 : decode cL_law 759 = .ok (.iconst 2, 1) := by decide +kernel
theorem dL_law_760 : decode cL_law 760 = .ok (.iadd, 1) := by decide +kernel
theorem dL_law_761 : decode cL_law 761 = .ok (.iaload, 1) := by decide +kernel
theorem dL_law_762 : decode cL_law 762 = .ok (.invokevirtual 86, 3) := by decide +kernel
theorem dL_law_765 : decode cL_law 765 = .ok (.aload_n 2, 1) := by decide +kernel
theorem dL_law_766 : decode cL_law 766 = .ok (.aload_n 0, 1) := by decide +kernel
theorem dL_law_767 : decode cL_law 767 = .ok (.iload_n 3, 1) := by decide +kernel
theorem dL_law_768 : decode cL_law 768 = .ok (.iconst 1, 1) := by decide +kernel
theorem dL_law_769 : decode cL_law 769 = .ok (.iadd, 1) := by decide +kernel
theorem dL_law_770 : decode cL_law 770 = .ok (.iaload, 1) := by decide +kernel
theorem dL_law_771 : decode cL_law 771 = .ok (.aload_n 0, 1) := by decide +kernel
theorem dL_law_772 : decode cL_law 772 = .ok (.iload_n 3, 1) := by decide +kernel
theorem dL_law_773 : decode cL_law 773 = .ok (.iconst 2, 1) := by decide +kernel
theorem dL_law_774 : decode cL_law 774 = .ok (.iadd, 1) := by decide +kernel
theorem dL_law_775 : decode cL_law 775 = .ok (.iaload, 1) := by decide +kernel
theorem dL_law_776 : decode cL_law 776 = .ok (.invokevirtual 89, 3) := by decide +kernel
theorem dL_law_779 : decode cL_law 779 = .ok (.if_icmp .eq 755, 3) := by decide +kernel
theorem dL_law_782 : decode cL_law 782 = .ok (.iconst 0, 1) := by decide +kernel
theorem dL_law_783 : decode cL_law 783 = .ok (.ireturn, 1) := by decide +kernel
theorem dL_law_784 : decode cL_law 784 = .ok (.aload_n 1, 1) := by decide +kernel
theorem dL_law_785 : decode cL_law 785 = .ok (.aload_n 0, 1) := by decide +kernel
theorem dL_law_786 : decode cL_law 786 = .ok (.iload_n 3, 1) := by decide +kernel
theorem dL_law_787 : decode cL_law 787 = .ok (.iconst 1, 1) := by decide +kernel
theorem dL_law_788 : decode cL_law 788 = .ok (.iadd, 1) := by decide +kernel
theorem dL_law_789 : decode cL_law 789 = .ok (.iaload, 1) := by decide +kernel
theorem dL_law_790 : decode cL_law 790 = .ok (.aload_n 0, 1) := by decide +kernel
theorem dL_law_791 : decode cL_law 791 = .ok (.iload_n 3, 1) := by decide +kernel
theorem dL_law_792 : decode cL_law 792 = .ok (.iconst 2, 1) := by decide +kernel
theorem dL_law_793 : decode cL_law 793 = .ok (.iadd, 1) := by decide +kernel
theorem dL_law_794 : decode cL_law 794 = .ok (.iaload, 1) := by decide +kernel
theorem dL_law_795 : decode cL_law 795 = .ok (.aload_n 0, 1) := by decide +kernel
theorem dL_law_796 : decode cL_law 796 = .ok (.iload_n 3, 1) := by decide +kernel
theorem dL_law_797 : decode cL_law 797 = .ok (.iconst 3, 1) := by decide +kernel
theorem dL_law_798 : decode cL_law 798 = .ok (.iadd, 1) := by decide +kernel
theorem dL_law_799 : decode cL_law 799 = .ok (.iaload, 1) := by decide +kernel
theorem dL_law_800 : decode cL_law 800 = .ok (.aload_n 0, 1) := by decide +kernel
theorem dL_law_801 : decode cL_law 801 = .ok (.iload_n 3, 1) := by decide +kernel
theorem dL_law_802 : decode cL_law 802 = .ok (.iconst 4, 1) := by decide +kernel
theorem dL_law_803 : decode cL_law 803 = .ok (.iadd, 1) := by decide +kernel
theorem dL_law_804 : decode cL_law 804 = .ok (.iaload, 1) := by decide +kernel
theorem dL_law_805 : decode cL_law 805 = .ok (.invokevirtual 90, 3) := by decide +kernel
theorem dL_law_808 : decode cL_law 808 = .ok (.aload_n 2, 1) := by decide +kernel
theorem dL_law_809 : decode cL_law 809 = .ok (.aload_n 0, 1) := by decide +kernel
theorem dL_law_810 : decode cL_law 810 = .ok (.iload_n 3, 1) := by decide +kernel
theorem dL_law_811 : decode cL_law 811 = .ok (.iconst 1, 1) := by decide +kernel
theorem dL_law_812 : decode cL_law 812 = .ok (.iadd, 1) := by decide +kernel
theorem dL_law_813 : decode cL_law 813 = .ok (.iaload, 1) := by decide +kernel
theorem dL_law_814 : decode cL_law 814 = .ok (.aload_n 0, 1) := by decide +kernel
theorem dL_law_815 : decode cL_law 815 = .ok (.iload_n 3, 1) := by decide +kernel
theorem dL_law_816 : decode cL_law 816 = .ok (.iconst 2, 1) := by decide +kernel
theorem dL_law_817 : decode cL_law 817 = .ok (.iadd, 1) := by decide +kernel
theorem dL_law_818 : decode cL_law 818 = .ok (.iaload, 1) := by decide +kernel
theorem dL_law_819 : decode cL_law 819 = .ok (.aload_n 0, 1) := by decide +kernel
theorem dL_law_820 : decode cL_law 820 = .ok (.iload_n 3, 1) := by decide +kernel
theorem dL_law_821 : decode cL_law 821 = .ok (.iconst 3, 1) := by decide +kernel
theorem dL_law_822 : decode cL_law 822 = .ok (.iadd, 1) := by decide +kernel
theorem dL_law_823 : decode cL_law 823 = .ok (.iaload, 1) := by decide +kernel
theorem dL_law_824 : decode cL_law 824 = .ok (.aload_n 0, 1) := by decide +kernel
theorem dL_law_825 : decode cL_law 825 = .ok (.iload_n 3, 1) := by decide +kernel
theorem dL_law_826 : decode cL_law 826 = .ok (.iconst 4, 1) := by decide +kernel
theorem dL_law_827 : decode cL_law 827 = .ok (.iadd, 1) := by decide +kernel
theorem dL_law_828 : decode cL_law 828 = .ok (.iaload, 1) := by decide +kernel
theorem dL_law_829 : decode cL_law 829 = .ok (.invokevirtual 93, 3) := by decide +kernel
theorem dL_law_832 : decode cL_law 832 = .ok (.if_icmp .eq 702, 3) := by decide +kernel
theorem dL_law_835 : decode cL_law 835 = .ok (.iconst 0, 1) := by decide +kernel
theorem dL_law_836 : decode cL_law 836 = .ok (.ireturn, 1) := by decide +kernel
theorem dL_law_837 : decode cL_law 837 = .ok (.aload_n 1, 1) := by decide +kernel
theorem dL_law_838 : decode cL_law 838 = .ok (.aload_n 0, 1) := by decide +kernel
theorem dL_law_839 : decode cL_law 839 = .ok (.iload_n 3, 1) := by decide +kernel
theorem dL_law_840 : decode cL_law 840 = .ok (.iconst 1, 1) := by decide +kernel
theorem dL_law_841 : decode cL_law 841 = .ok (.iadd, 1) := by decide +kernel
theorem dL_law_842 : decode cL_law 842 = .ok (.iaload, 1) := by decide +kernel
theorem dL_law_843 : decode cL_law 843 = .ok (.aload_n 0, 1) := by decide +kernel
theorem dL_law_844 : decode cL_law 844 = .ok (.iload_n 3, 1) := by decide +kernel
theorem dL_law_845 : decode cL_law 845 = .ok (.iconst 2, 1) := by decide +kernel
theorem dL_law_846 : decode cL_law 846 = .ok (.iadd, 1) := by decide +kernel
theorem dL_law_847 : decode cL_law 847 = .ok (.iaload, 1) := by decide +kernel
theorem dL_law_848 : decode cL_law 848 = .ok (.aload_n 0, 1) := by decide +kernel
theorem dL_law_849 : decode cL_law 849 = .ok (.iload_n 3, 1) := by decide +kernel
theorem dL_law_850 : decode cL_law 850 = .ok (.iconst 3, 1) := by decide +kernel
theorem dL_law_851 : decode cL_law 851 = .ok (.iadd, 1) := by decide +kernel
theorem dL_law_852 : decode cL_law 852 = .ok (.iaload, 1) := by decide +kernel
theorem dL_law_853 : decode cL_law 853 = .ok (.aload_n 0, 1) := by decide +kernel
theorem dL_law_854 : decode cL_law 854 = .ok (.iload_n 3, 1) := by decide +kernel
theorem dL_law_855 : decode cL_law 855 = .ok (.iconst 4, 1) := by decide +kernel
theorem dL_law_856 : decode cL_law 856 = .ok (.iadd, 1) := by decide +kernel
theorem dL_law_857 : decode cL_law 857 = .ok (.iaload, 1) := by decide +kernel
theorem dL_law_858 : decode cL_law 858 = .ok (.aload_n 0, 1) := by decide +kernel
theorem dL_law_859 : decode cL_law 859 = .ok (.iload_n 3, 1) := by decide +kernel
theorem dL_law_860 : decode cL_law 860 = .ok (.iconst 5, 1) := by decide +kernel
theorem dL_law_861 : decode cL_law 861 = .ok (.iadd, 1) := by decide +kernel
theorem dL_law_862 : decode cL_law 862 = .ok (.iaload, 1) := by decide +kernel
theorem dL_law_863 : decode cL_law 863 = .ok (.invokevirtual 94, 3) := by decide +kernel
theorem dL_law_866 : decode cL_law 866 = .ok (.aload_n 2, 1) := by decide +kernel
theorem dL_law_867 : decode cL_law 867 = .ok (.aload_n 0, 1) := by decide +kernel
theorem dL_law_868 : decode cL_law 868 = .ok (.iload_n 3, 1) := by decide +kernel
theorem dL_law_869 : decode cL_law 869 = .ok (.iconst 1, 1) := by decide +kernel
theorem dL_law_870 : decode cL_law 870 = .ok (.iadd, 1) := by decide +kernel
theorem dL_law_871 : decode cL_law 871 = .ok (.iaload, 1) := by decide +kernel
theorem dL_law_872 : decode cL_law 872 = .ok (.aload_n 0, 1) := by decide +kernel
theorem dL_law_873 : decode cL_law 873 = .ok (.iload_n 3, 1) := by decide +kernel
theorem dL_law_874 : decode cL_law 874 = .ok (.iconst 2, 1) := by decide +kernel
theorem dL_law_875 : decode cL_law 875 = .ok (.iadd, 1) := by decide +kernel
theorem dL_law_876 : decode cL_law 876 = .ok (.iaload, 1) := by decide +kernel
theorem dL_law_877 : decode cL_law 877 = .ok (.aload_n 0, 1) := by decide +kernel
theorem dL_law_878 : decode cL_law 878 = .ok (.iload_n 3, 1) := by decide +kernel
theorem dL_law_879 : decode cL_law 879 = .ok (.iconst 3, 1) := by decide +kernel
theorem dL_law_880 : decode cL_law 880 = .ok (.iadd, 1) := by decide +kernel
theorem dL_law_881 : decode cL_law 881 = .ok (.iaload, 1) := by decide +kernel
theorem dL_law_882 : decode cL_law 882 = .ok (.aload_n 0, 1) := by decide +kernel
theorem dL_law_883 : decode cL_law 883 = .ok (.iload_n 3, 1) := by decide +kernel
theorem dL_law_884 : decode cL_law 884 = .ok (.iconst 4, 1) := by decide +kernel
theorem dL_law_885 : decode cL_law 885 = .ok (.iadd, 1) := by decide +kernel
theorem dL_law_886 : decode cL_law 886 = .ok (.iaload, 1) := by decide +kernel
theorem dL_law_887 : decode cL_law 887 = .ok (.aload_n 0, 1) := by decide +kernel
theorem dL_law_888 : decode cL_law 888 = .ok (.iload_n 3, 1) := by decide +kernel
theorem dL_law_889 : decode cL_law 889 = .ok (.iconst 5, 1) := by decide +kernel
theorem dL_law_890 : decode cL_law 890 = .ok (.iadd, 1) := by decide +kernel
theorem dL_law_891 : decode cL_law 891 = .ok (.iaload, 1) := by decide +kernel
theorem dL_law_892 : decode cL_law 892 = .ok (.invokevirtual 98, 3) := by decide +kernel
theorem dL_law_895 : decode cL_law 895 = .ok (.if_icmp .eq 639, 3) := by decide +kernel
theorem dL_law_898 : decode cL_law 898 = .ok (.iconst 0, 1) := by decide +kernel
theorem dL_law_899 : decode cL_law 899 = .ok (.ireturn, 1) := by decide +kernel
theorem dL_law_900 : decode cL_law 900 = .ok (.aload_n 1, 1) := by decide +kernel
theorem dL_law_901 : decode cL_law 901 = .ok (.aload_n 0, 1) := by decide +kernel
theorem dL_law_902 : decode cL_law 902 = .ok (.iload_n 3, 1) := by decide +kernel
theorem dL_law_903 : decode cL_law 903 = .ok (.iconst 1, 1) := by decide +kernel
theorem dL_law_904 : decode cL_law 904 = .ok (.iadd, 1) := by decide +kernel
theorem dL_law_905 : decode cL_law 905 = .ok (.iaload, 1) := by decide +kernel
theorem dL_law_906 : decode cL_law 906 = .ok (.invokevirtual 99, 3) := by decide +kernel
theorem dL_law_909 : decode cL_law 909 = .ok (.aload_n 2, 1) := by decide +kernel
theorem dL_law_910 : decode cL_law 910 = .ok (.aload_n 0, 1) := by decide +kernel
theorem dL_law_911 : decode cL_law 911 = .ok (.iload_n 3, 1) := by decide +kernel
theorem dL_law_912 : decode cL_law 912 = .ok (.iconst 1, 1) := by decide +kernel
theorem dL_law_913 : decode cL_law 913 = .ok (.iadd, 1) := by decide +kernel
theorem dL_law_914 : decode cL_law 914 = .ok (.iaload, 1) := by decide +kernel
theorem dL_law_915 : decode cL_law 915 = .ok (.invokevirtual 102, 3) := by decide +kernel
theorem dL_law_918 : decode cL_law 918 = .ok (.if_icmp .eq 616, 3) := by decide +kernel
theorem dL_law_921 : decode cL_law 921 = .ok (.iconst 0, 1) := by decide +kernel
theorem dL_law_922 : decode cL_law 922 = .ok (.ireturn, 1) := by decide +kernel
theorem dL_law_923 : decode cL_law 923 = .ok (.aload_n 1, 1) := by decide +kernel
theorem dL_law_924 : decode cL_law 924 = .ok (.aload_n 0, 1) := by decide +kernel
theorem dL_law_925 : decode cL_law 925 = .ok (.iload_n 3, 1) := by decide +kernel
theorem dL_law_926 : decode cL_law 926 = .ok (.iconst 1, 1) := by decide +kernel
theorem dL_law_927 : decode cL_law 927 = .ok (.iadd, 1) := by decide +kernel
theorem dL_law_928 : decode cL_law 928 = .ok (.iaload, 1) := by decide +kernel
theorem dL_law_929 : decode cL_law 929 = .ok (.aload_n 0, 1) := by decide +kernel
theorem dL_law_930 : decode cL_law 930 = .ok (.iload_n 3, 1) := by decide +kernel
theorem dL_law_931 : decode cL_law 931 = .ok (.iconst 2, 1) := by decide +kernel
theorem dL_law_932 : decode cL_law 932 = .ok (.iadd, 1) := by decide +kernel
theorem dL_law_933 : decode cL_law 933 = .ok (.iaload, 1) := by decide +kernel
theorem dL_law_934 : decode cL_law 934 = .ok (.aload_n 0, 1) := by decide +kernel
theorem dL_law_935 : decode cL_law 935 = .ok (.iload_n 3, 1) := by decide +kernel
theorem dL_law_936 : decode cL_law 936 = .ok (.iconst 3, 1) := by decide +kernel
theorem dL_law_937 : decode cL_law 937 = .ok (.iadd, 1) := by decide +kernel
theorem dL_law_938 : decode cL_law 938 = .ok (.iaload, 1) := by decide +kernel
theorem dL_law_939 : decode cL_law 939 = .ok (.invokevirtual 103, 3) := by decide +kernel
theorem dL_law_942 : decode cL_law 942 = .ok (.aload_n 2, 1) := by decide +kernel
theorem dL_law_943 : decode cL_law 943 = .ok (.aload_n 0, 1) := by decide +kernel
theorem dL_law_944 : decode cL_law 944 = .ok (.iload_n 3, 1) := by decide +kernel
theorem dL_law_945 : decode cL_law 945 = .ok (.iconst 1, 1) := by decide +kernel
theorem dL_law_946 : decode cL_law 946 = .ok (.iadd, 1) := by decide +kernel
theorem dL_law_947 : decode cL_law 947 = .ok (.iaload, 1) := by decide +kernel
theorem dL_law_948 : decode cL_law 948 = .ok (.aload_n 0, 1) := by decide +kernel
theorem dL_law_949 : decode cL_law 949 = .ok (.iload_n 3, 1) := by decide +kernel
theorem dL_law_950 : decode cL_law 950 = .ok (.iconst 2, 1) := by decide +kernel
theorem dL_law_951 : decode cL_law 951 = .ok (.iadd, 1) := by decide +kernel
theorem dL_law_952 : decode cL_law 952 = .ok (.iaload, 1) := by decide +kernel
theorem dL_law_953 : decode cL_law 953 = .ok (.aload_n 0, 1) := by decide +kernel
theorem dL_law_954 : decode cL_law 954 = .ok (.iload_n 3, 1) := by decide +kernel
theorem dL_law_955 : decode cL_law 955 = .ok (.iconst 3, 1) := by decide +kernel
theorem dL_law_956 : decode cL_law 956 = .ok (.iadd, 1) := by decide +kernel
theorem dL_law_957 : decode cL_law 957 = .ok (.iaload, 1) := by decide +kernel
theorem dL_law_958 : decode cL_law 958 = .ok (.invokevirtual 106, 3) := by decide +kernel
theorem dL_law_961 : decode cL_law 961 = .ok (.if_icmp .eq 573, 3) := by decide +kernel
theorem dL_law_964 : decode cL_law 964 = .ok (.iconst 0, 1) := by decide +kernel
theorem dL_law_965 : decode cL_law 965 = .ok (.ireturn, 1) := by decide +kernel
theorem dL_law_966 : decode cL_law 966 = .ok (.aload_n 1, 1) := by decide +kernel
theorem dL_law_967 : decode cL_law 967 = .ok (.aload_n 0, 1) := by decide +kernel
theorem dL_law_968 : decode cL_law 968 = .ok (.iload_n 3, 1) := by decide +kernel
theorem dL_law_969 : decode cL_law 969 = .ok (.iconst 1, 1) := by decide +kernel
theorem dL_law_970 : decode cL_law 970 = .ok (.iadd, 1) := by decide +kernel
theorem dL_law_971 : decode cL_law 971 = .ok (.iaload, 1) := by decide +kernel
theorem dL_law_972 : decode cL_law 972 = .ok (.invokevirtual 107, 3) := by decide +kernel
theorem dL_law_975 : decode cL_law 975 = .ok (.aload_n 2, 1) := by decide +kernel
theorem dL_law_976 : decode cL_law 976 = .ok (.aload_n 0, 1) := by decide +kernel
theorem dL_law_977 : decode cL_law 977 = .ok (.iload_n 3, 1) := by decide +kernel
theorem dL_law_978 : decode cL_law 978 = .ok (.iconst 1, 1) := by decide +kernel
theorem dL_law_979 : decode cL_law 979 = .ok (.iadd, 1) := by decide +kernel
theorem dL_law_980 : decode cL_law 980 = .ok (.iaload, 1) := by decide +kernel
theorem dL_law_981 : decode cL_law 981 = .ok (.invokevirtual 110, 3) := by decide +kernel
theorem dL_law_984 : decode cL_law 984 = .ok (.if_icmp .eq 550, 3) := by decide +kernel
theorem dL_law_987 : decode cL_law 987 = .ok (.iconst 0, 1) := by decide +kernel
theorem dL_law_988 : decode cL_law 988 = .ok (.ireturn, 1) := by decide +kernel
theorem dL_law_989 : decode cL_law 989 = .ok (.aload_n 1, 1) := by decide +kernel
theorem dL_law_990 : decode cL_law 990 = .ok (.aload_n 0, 1) := by decide +kernel
theorem dL_law_991 : decode cL_law 991 = .ok (.iload_n 3, 1) := by decide +kernel
theorem dL_law_992 : decode cL_law 992 = .ok (.iconst 1, 1) := by decide +kernel
theorem dL_law_993 : decode cL_law 993 = .ok (.iadd, 1) := by decide +kernel
theorem dL_law_994 : decode cL_law 994 = .ok (.iaload, 1) := by decide +kernel
theorem dL_law_995 : decode cL_law 995 = .ok (.aload_n 0, 1) := by decide +kernel
theorem dL_law_996 : decode cL_law 996 = .ok (.iload_n 3, 1) := by decide +kernel
theorem dL_law_997 : decode cL_law 997 = .ok (.iconst 2, 1) := by decide +kernel
theorem dL_law_998 : decode cL_law 998 = .ok (.iadd, 1) := by decide +kernel
theorem dL_law_999 : decode cL_law 999 = .ok (.iaload, 1) := by decide +kernel
theorem dL_law_1000 : decode cL_law 1000 = .ok (.invokevirtual 111, 3) := by decide +kernel
theorem dL_law_1003 : decode cL_law 1003 = .ok (.aload_n 2, 1) := by decide +kernel
theorem dL_law_1004 : decode cL_law 1004 = .ok (.aload_n 0, 1) := by decide +kernel
theorem dL_law_1005 : decode cL_law 1005 = .ok (.iload_n 3, 1) := by decide +kernel
theorem dL_law_1006 : decode cL_law 1006 = .ok (.iconst 1, 1) := by decide +kernel
theorem dL_law_1007 : decode cL_law 1007 = .ok (.iadd, 1) := by decide +kernel
theorem dL_law_1008 : decode cL_law 1008 = .ok (.iaload, 1) := by decide +kernel
theorem dL_law_1009 : decode cL_law 1009 = .ok (.aload_n 0, 1) := by decide +kernel
theorem dL_law_1010 : decode cL_law 1010 = .ok (.iload_n 3, 1) := by decide +kernel
theorem dL_law_1011 : decode cL_law 1011 = .ok (.iconst 2, 1) := by decide +kernel
theorem dL_law_1012 : decode cL_law 1012 = .ok (.iadd, 1) := by decide +kernel
theorem dL_law_1013 : decode cL_law 1013 = .ok (.iaload, 1) := by decide +kernel
theorem dL_law_1014 : decode cL_law 1014 = .ok (.invokevirtual 114, 3) := by decide +kernel
theorem dL_law_1017 : decode cL_law 1017 = .ok (.if_icmp .eq 517, 3) := by decide +kernel
theorem dL_law_1020 : decode cL_law 1020 = .ok (.iconst 0, 1) := by decide +kernel
theorem dL_law_1021 : decode cL_law 1021 = .ok (.ireturn, 1) := by decide +kernel
theorem dL_law_1022 : decode cL_law 1022 = .ok (.aload_n 1, 1) := by decide +kernel
theorem dL_law_1023 : decode cL_law 1023 = .ok (.aload_n 0, 1) := by decide +kernel
theorem dL_law_1024 : decode cL_law 1024 = .ok (.iload_n 3, 1) := by decide +kernel
theorem dL_law_1025 : decode cL_law 1025 = .ok (.iconst 1, 1) := by decide +kernel
theorem dL_law_1026 : decode cL_law 1026 = .ok (.iadd, 1) := by decide +kernel
theorem dL_law_1027 : decode cL_law 1027 = .ok (.iaload, 1) := by decide +kernel
theorem dL_law_1028 : decode cL_law 1028 = .ok (.aload_n 0, 1) := by decide +kernel
theorem dL_law_1029 : decode cL_law 1029 = .ok (.iload_n 3, 1) := by decide +kernel
theorem dL_law_1030 : decode cL_law 1030 = .ok (.iconst 2, 1) := by decide +kernel
theorem dL_law_1031 : decode cL_law 1031 = .ok (.iadd, 1) := by decide +kernel
theorem dL_law_1032 : decode cL_law 1032 = .ok (.iaload, 1) := by decide +kernel
theorem dL_law_1033 : decode cL_law 1033 = .ok (.invokevirtual 115, 3) := by decide +kernel
theorem dL_law_1036 : decode cL_law 1036 = .ok (.aload_n 2, 1) := by decide +kernel
theorem dL_law_1037 : decode cL_law 1037 = .ok (.aload_n 0, 1) := by decide +kernel
theorem dL_law_1038 : decode cL_law 1038 = .ok (.iload_n 3, 1) := by decide +kernel
theorem dL_law_1039 : decode cL_law 1039 = .ok (.iconst 1, 1) := by decide +kernel
theorem dL_law_1040 : decode cL_law 1040 = .ok (.iadd, 1) := by decide +kernel
theorem dL_law_1041 : decode cL_law 1041 = .ok (.iaload, 1) := by decide +kernel
theorem dL_law_1042 : decode cL_law 1042 = .ok (.aload_n 0, 1) := by decide +kernel
theorem dL_law_1043 : decode cL_law 1043 = .ok (.iload_n 3, 1) := by decide +kernel
theorem dL_law_1044 : decode cL_law 1044 = .ok (.iconst 2, 1) := by decide +kernel
theorem dL_law_1045 : decode cL_law 1045 = .ok (.iadd, 1) := by decide +kernel
theorem dL_law_1046 : decode cL_law 1046 = .ok (.iaload, 1) := by decide +kernel
theorem dL_law_1047 : decode cL_law 1047 = .ok (.invokevirtual 118, 3) := by decide +kernel
theorem dL_law_1050 : decode cL_law 1050 = .ok (.if_icmp .eq 484, 3) := by decide +kernel
theorem dL_law_1053 : decode cL_law 1053 = .ok (.iconst 0, 1) := by decide +kernel
theorem dL_law_1054 : decode cL_law 1054 = .ok (.ireturn, 1) := by decide +kernel
theorem dL_law_1055 : decode cL_law 1055 = .ok (.aload_n 1, 1) := by decide +kernel
theorem dL_law_1056 : decode cL_law 1056 = .ok (.aload_n 0, 1) := by decide +kernel
theorem dL_law_1057 : decode cL_law 1057 = .ok (.iload_n 3, 1) := by decide +kernel
theorem dL_law_1058 : decode cL_law 1058 = .ok (.iconst 1, 1) := by decide +kernel
theorem dL_law_1059 : decode cL_law 1059 = .ok (.iadd, 1) := by decide +kernel
theorem dL_law_1060 : decode cL_law 1060 = .ok (.iaload, 1) := by decide +kernel
theorem dL_law_1061 : decode cL_law 1061 = .ok (.aload_n 0, 1) := by decide +kernel
theorem dL_law_1062 : decode cL_law 1062 = .ok (.iload_n 3, 1) := by decide +kernel
theorem dL_law_1063 : decode cL_law 1063 = .ok (.iconst 2, 1) := by decide +kernel
theorem dL_law_1064 : decode cL_law 1064 = .ok (.iadd, 1) := by decide +kernel
theorem dL_law_1065 : decode cL_law 1065 = .ok (.iaload, 1) := by decide +kernel
theorem dL_law_1066 : decode cL_law 1066 = .ok (.aload_n 0, 1) := by decide +kernel
theorem dL_law_1067 : decode cL_law 1067 = .ok (.iload_n 3, 1) := by decide +kernel
theorem dL_law_1068 : decode cL_law 1068 = .ok (.iconst 3, 1) := by decide +kernel
theorem dL_law_1069 : decode cL_law 1069 = .ok (.iadd, 1) := by decide +kernel
theorem dL_law_1070 : decode cL_law 1070 = .ok (.iaload, 1) := by decide +kernel
theorem dL_law_1071 : decode cL_law 1071 = .ok (.invokevirtual 119, 3) := by decide +kernel
theorem dL_law_1074 : decode cL_law 1074 = .ok (.aload_n 2, 1) := by decide +kernel
theorem dL_law_1075 : decode cL_law 1075 = .ok (.aload_n 0, 1) := by decide +kernel
theorem dL_law_1076 : decode cL_law 1076 = .ok (.iload_n 3, 1) := by decide +kernel
theorem dL_law_1077 : decode cL_law 1077 = .ok (.iconst 1, 1) := by decide +kernel
theorem dL_law_1078 : decode cL_law 1078 = .ok (.iadd, 1) := by decide +kernel
theorem dL_law_1079 : decode cL_law 1079 = .ok (.iaload, 1) := by decide +kernel
theorem dL_law_1080 : decode cL_law 1080 = .ok (.aload_n 0, 1) := by decide +kernel
theorem dL_law_1081 : decode cL_law 1081 = .ok (.iload_n 3, 1) := by decide +kernel
theorem dL_law_1082 : decode cL_law 1082 = .ok (.iconst 2, 1) := by decide +kernel
theorem dL_law_1083 : decode cL_law 1083 = .ok (.iadd, 1) := by decide +kernel
theorem dL_law_1084 : decode cL_law 1084 = .ok (.iaload, 1) := by decide +kernel
theorem dL_law_1085 : decode cL_law 1085 = .ok (.aload_n 0, 1) := by decide +kernel
theorem dL_law_1086 : decode cL_law 1086 = .ok (.iload_n 3, 1) := by decide +kernel
theorem dL_law_1087 : decode cL_law 1087 = .ok (.iconst 3, 1) := by decide +kernel
theorem dL_law_1088 : decode cL_law 1088 = .ok (.iadd, 1) := by decide +kernel
theorem dL_law_1089 : decode cL_law 1089 = .ok (.iaload, 1) := by decide +kernel
theorem dL_law_1090 : decode cL_law 1090 = .ok (.invokevirtual 122, 3) := by decide +kernel
theorem dL_law_1093 : decode cL_law 1093 = .ok (.if_icmp .eq 441, 3) := by decide +kernel
theorem dL_law_1096 : decode cL_law 1096 = .ok (.iconst 0, 1) := by decide +kernel
theorem dL_law_1097 : decode cL_law 1097 = .ok (.ireturn, 1) := by decide +kernel
theorem dL_law_1098 : decode cL_law 1098 = .ok (.aload_n 1, 1) := by decide +kernel
theorem dL_law_1099 : decode cL_law 1099 = .ok (.aload_n 0, 1) := by decide +kernel
theorem dL_law_1100 : decode cL_law 1100 = .ok (.iload_n 3, 1) := by decide +kernel
theorem dL_law_1101 : decode cL_law 1101 = .ok (.iconst 1, 1) := by decide +kernel
theorem dL_law_1102 : decode cL_law 1102 = .ok (.iadd, 1) := by decide +kernel
theorem dL_law_1103 : decode cL_law 1103 = .ok (.iaload, 1) := by decide +kernel
theorem dL_law_1104 : decode cL_law 1104 = .ok (.aload_n 0, 1) := by decide +kernel
theorem dL_law_1105 : decode cL_law 1105 = .ok (.iload_n 3, 1) := by decide +kernel
theorem dL_law_1106 : decode cL_law 1106 = .ok (.iconst 2, 1) := by decide +kernel
theorem dL_law_1107 : decode cL_law 1107 = .ok (.iadd, 1) := by decide +kernel
theorem dL_law_1108 : decode cL_law 1108 = .ok (.iaload, 1) := by decide +kernel
theorem dL_law_1109 : decode cL_law 1109 = .ok (.aload_n 0, 1) := by decide +kernel
theorem dL_law_1110 : decode cL_law 1110 = .ok (.iload_n 3, 1) := by decide +kernel
theorem dL_law_1111 : decode cL_law 1111 = .ok (.iconst 3, 1) := by decide +kernel
theorem dL_law_1112 : decode cL_law 1112 = .ok (.iadd, 1) := by decide +kernel
theorem dL_law_1113 : decode cL_law 1113 = .ok (.iaload, 1) := by decide +kernel
theorem dL_law_1114 : decode cL_law 1114 = .ok (.invokevirtual 123, 3) := by decide +kernel
theorem dL_law_1117 : decode cL_law 1117 = .ok (.aload_n 2, 1) := by decide +kernel
theorem dL_law_1118 : decode cL_law 1118 = .ok (.aload_n 0, 1) := by decide +kernel
theorem dL_law_1119 : decode cL_law 1119 = .ok (.iload_n 3, 1) := by decide +kernel
theorem dL_law_1120 : decode cL_law 1120 = .ok (.iconst 1, 1) := by decide +kernel
theorem dL_law_1121 : decode cL_law 1121 = .ok (.iadd, 1) := by decide +kernel
theorem dL_law_1122 : decode cL_law 1122 = .ok (.iaload, 1) := by decide +kernel
theorem dL_law_1123 : decode cL_law 1123 = .ok (.aload_n 0, 1) := by decide +kernel
theorem dL_law_1124 : decode cL_law 1124 = .ok (.iload_n 3, 1) := by decide +kernel
theorem dL_law_1125 : decode cL_law 1125 = .ok (.iconst 2, 1) := by decide +kernel
theorem dL_law_1126 : decode cL_law 1126 = .ok (.iadd, 1) := by decide +kernel
theorem dL_law_1127 : decode cL_law 1127 = .ok (.iaload, 1) := by decide +kernel
theorem dL_law_1128 : decode cL_law 1128 = .ok (.aload_n 0, 1) := by decide +kernel
theorem dL_law_1129 : decode cL_law 1129 = .ok (.iload_n 3, 1) := by decide +kernel
theorem dL_law_1130 : decode cL_law 1130 = .ok (.iconst 3, 1) := by decide +kernel
theorem dL_law_1131 : decode cL_law 1131 = .ok (.iadd, 1) := by decide +kernel
theorem dL_law_1132 : decode cL_law 1132 = .ok (.iaload, 1) := by decide +kernel
theorem dL_law_1133 : decode cL_law 1133 = .ok (.invokevirtual 126, 3) := by decide +kernel
theorem dL_law_1136 : decode cL_law 1136 = .ok (.if_icmp .eq 398, 3) := by decide +kernel
theorem dL_law_1139 : decode cL_law 1139 = .ok (.iconst 0, 1) := by decide +kernel
theorem dL_law_1140 : decode cL_law 1140 = .ok (.ireturn, 1) := by decide +kernel
theorem dL_law_1141 : decode cL_law 1141 = .ok (.aload_n 1, 1) := by decide +kernel
theorem dL_law_1142 : decode cL_law 1142 = .ok (.aload_n 0, 1) := by decide +kernel
theorem dL_law_1143 : decode cL_law 1143 = .ok (.iload_n 3, 1) := by decide +kernel
theorem dL_law_1144 : decode cL_law 1144 = .ok (.iconst 1, 1) := by decide +kernel
theorem dL_law_1145 : decode cL_law 1145 = .ok (.iadd, 1) := by decide +kernel
theorem dL_law_1146 : decode cL_law 1146 = .ok (.iaload, 1) := by decide +kernel
theorem dL_law_1147 : decode cL_law 1147 = .ok (.aload_n 0, 1) := by decide +kernel
theorem dL_law_1148 : decode cL_law 1148 = .ok (.iload_n 3, 1) := by decide +kernel
theorem dL_law_1149 : decode cL_law 1149 = .ok (.iconst 2, 1) := by decide +kernel
theorem dL_law_1150 : decode cL_law 1150 = .ok (.iadd, 1) := by decide +kernel
theorem dL_law_1151 : decode cL_law 1151 = .ok (.iaload, 1) := by decide +kernel
theorem dL_law_1152 : decode cL_law 1152 = .ok (.invokevirtual 127, 3) := by decide +kernel
theorem dL_law_1155 : decode cL_law 1155 = .ok (.aload_n 2, 1) := by decide +kernel
theorem dL_law_1156 : decode cL_law 1156 = .ok (.aload_n 0, 1) := by decide +kernel
theorem dL_law_1157 : decode cL_law 1157 = .ok (.iload_n 3, 1) := by decide +kernel
theorem dL_law_1158 : decode cL_law 1158 = .ok (.iconst 1, 1) := by decide +kernel
theorem dL_law_1159 : decode cL_law 1159 = .ok (.iadd, 1) := by decide +kernel
theorem dL_law_1160 : decode cL_law 1160 = .ok (.iaload, 1) := by decide +kernel
theorem dL_law_1161 : decode cL_law 1161 = .ok (.aload_n 0, 1) := by decide +kernel
theorem dL_law_1162 : decode cL_law 1162 = .ok (.iload_n 3, 1) := by decide +kernel
theorem dL_law_1163 : decode cL_law 1163 = .ok (.iconst 2, 1) := by decide +kernel
theorem dL_law_1164 : decode cL_law 1164 = .ok (.iadd, 1) := by decide +kernel
theorem dL_law_1165 : decode cL_law 1165 = .ok (.iaload, 1) := by decide +kernel
theorem dL_law_1166 : decode cL_law 1166 = .ok (.invokevirtual 130, 3) := by decide +kernel
theorem dL_law_1169 : decode cL_law 1169 = .ok (.if_icmp .eq 365, 3) := by decide +kernel
theorem dL_law_1172 : decode cL_law 1172 = .ok (.iconst 0, 1) := by decide +kernel
theorem dL_law_1173 : decode cL_law 1173 = .ok (.ireturn, 1) := by decide +kernel
theorem dL_law_1174 : decode cL_law 1174 = .ok (.aload_n 1, 1) := by decide +kernel
theorem dL_law_1175 : decode cL_law 1175 = .ok (.aload_n 0, 1) := by decide +kernel
theorem dL_law_1176 : decode cL_law 1176 = .ok (.iload_n 3, 1) := by decide +kernel
theorem dL_law_1177 : decode cL_law 1177 = .ok (.iconst 1, 1) := by decide +kernel
theorem dL_law_1178 : decode cL_law 1178 = .ok (.iadd, 1) := by decide +kernel
theorem dL_law_1179 : decode cL_law 1179 = .ok (.iaload, 1) := by decide +kernel
theorem dL_law_1180 : decode cL_law 1180 = .ok (.aload_n 0, 1) := by decide +kernel
theorem dL_law_1181 : decode cL_law 1181 = .ok (.iload_n 3, 1) := by decide +kernel
theorem dL_law_1182 : decode cL_law 1182 = .ok (.iconst 2, 1) := by decide +kernel
theorem dL_law_1183 : decode cL_law 1183 = .ok (.iadd, 1) := by decide +kernel
theorem dL_law_1184 : decode cL_law 1184 = .ok (.iaload, 1) := by decide +kernel
theorem dL_law_1185 : decode cL_law 1185 = .ok (.invokevirtual 131, 3) := by decide +kernel
theorem dL_law_1188 : decode cL_law 1188 = .ok (.aload_n 2, 1) := by decide +kernel
theorem dL_law_1189 : decode cL_law 1189 = .ok (.aload_n 0, 1) := by decide +kernel
theorem dL_law_1190 : decode cL_law 1190 = .ok (.iload_n 3, 1) := by decide +kernel
theorem dL_law_1191 : decode cL_law 1191 = .ok (.iconst 1, 1) := by decide +kernel
theorem dL_law_1192 : decode cL_law 1192 = .ok (.iadd, 1) := by decide +kernel
theorem dL_law_1193 : decode cL_law 1193 = .ok (.iaload, 1) := by decide +kernel
theorem dL_law_1194 : decode cL_law 1194 = .ok (.aload_n 0, 1) := by decide +kernel
theorem dL_law_1195 : decode cL_law 1195 = .ok (.iload_n 3, 1) := by decide +kernel
theorem dL_law_1196 : decode cL_law 1196 = .ok (.iconst 2, 1) := by decide +kernel
theorem dL_law_1197 : decode cL_law 1197 = .ok (.iadd, 1) := by decide +kernel
theorem dL_law_1198 : decode cL_law 1198 = .ok (.iaload, 1) := by decide +kernel
theorem dL_law_1199 : decode cL_law 1199 = .ok (.invokevirtual 134, 3) := by decide +kernel
theorem dL_law_1202 : decode cL_law 1202 = .ok (.if_icmp .eq 332, 3) := by decide +kernel
theorem dL_law_1205 : decode cL_law 1205 = .ok (.iconst 0, 1) := by decide +kernel
theorem dL_law_1206 : decode cL_law 1206 = .ok (.ireturn, 1) := by decide +kernel
theorem dL_law_1207 : decode cL_law 1207 = .ok (.aload_n 1, 1) := by decide +kernel
theorem dL_law_1208 : decode cL_law 1208 = .ok (.aload_n 0, 1) := by decide +kernel
theorem dL_law_1209 : decode cL_law 1209 = .ok (.iload_n 3, 1) := by decide +kernel
theorem dL_law_1210 : decode cL_law 1210 = .ok (.iconst 1, 1) := by decide +kernel
theorem dL_law_1211 : decode cL_law 1211 = .ok (.iadd, 1) := by decide +kernel
theorem dL_law_1212 : decode cL_law 1212 = .ok (.iaload, 1) := by decide +kernel
theorem dL_law_1213 : decode cL_law 1213 = .ok (.aload_n 0, 1) := by decide +kernel
theorem dL_law_1214 : decode cL_law 1214 = .ok (.iload_n 3, 1) := by decide +kernel
theorem dL_law_1215 : decode cL_law 1215 = .ok (.iconst 2, 1) := by decide +kernel
theorem dL_law_1216 : decode cL_law 1216 = .ok (.iadd, 1) := by decide +kernel
theorem dL_law_1217 : decode cL_law 1217 = .ok (.iaload, 1) := by decide +kernel
theorem dL_law_1218 : decode cL_law 1218 = .ok (.aload_n 0, 1) := by decide +kernel
theorem dL_law_1219 : decode cL_law 1219 = .ok (.iload_n 3, 1) := by decide +kernel
theorem dL_law_1220 : decode cL_law 1220 = .ok (.iconst 3, 1) := by decide +kernel
theorem dL_law_1221 : decode cL_law 1221 = .ok (.iadd, 1) := by decide +kernel
theorem dL_law_1222 : decode cL_law 1222 = .ok (.iaload, 1) := by decide +kernel
theorem dL_law_1223 : decode cL_law 1223 = .ok (.aload_n 0, 1) := by decide +kernel
theorem dL_law_1224 : decode cL_law 1224 = .ok (.iload_n 3, 1) := by decide +kernel
theorem dL_law_1225 : decode cL_law 1225 = .ok (.iconst 4, 1) := by decide +kernel
theorem dL_law_1226 : decode cL_law 1226 = .ok (.iadd, 1) := by decide +kernel
theorem dL_law_1227 : decode cL_law 1227 = .ok (.iaload, 1) := by decide +kernel
theorem dL_law_1228 : decode cL_law 1228 = .ok (.invokevirtual 135, 3) := by decide +kernel
theorem dL_law_1231 : decode cL_law 1231 = .ok (.aload_n 2, 1) := by decide +kernel
theorem dL_law_1232 : decode cL_law 1232 = .ok (.aload_n 0, 1) := by decide +kernel
theorem dL_law_1233 : decode cL_law 1233 = .ok (.iload_n 3, 1) := by decide +kernel
theorem dL_law_1234 : decode cL_law 1234 = .ok (.iconst 1, 1) := by decide +kernel
theorem dL_law_1235 : decode cL_law 1235 = .ok (.iadd, 1) := by decide +kernel
theorem dL_law_1236 : decode cL_law 1236 = .ok (.iaload, 1) := by decide +kernel
theorem dL_law_1237 : decode cL_law 1237 = .ok (.aload_n 0, 1) := by decide +kernel
theorem dL_law_1238 : decode cL_law 1238 = .ok (.iload_n 3, 1) := by decide +kernel
theorem dL_law_1239 : decode cL_law 1239 = .ok (.iconst 2, 1) := by decide +kernel
theorem dL_law_1240 : decode cL_law 1240 = .ok (.iadd, 1) := by decide +kernel
theorem dL_law_1241 : decode cL_law 1241 = .ok (.iaload, 1) := by decide +kernel
theorem dL_law_1242 : decode cL_law 1242 = .ok (.aload_n 0, 1) := by decide +kernel
theorem dL_law_1243 : decode cL_law 1243 = .ok (.iload_n 3, 1) := by decide +kernel
theorem dL_law_1244 : decode cL_law 1244 = .ok (.iconst 3, 1) := by decide +kernel
theorem dL_law_1245 : decode cL_law 1245 = .ok (.iadd, 1) := by decide +kernel
theorem dL_law_1246 : decode cL_law 1246 = .ok (.iaload, 1) := by decide +kernel
theorem dL_law_1247 : decode cL_law 1247 = .ok (.aload_n 0, 1) := by decide +kernel
theorem dL_law_1248 : decode cL_law 1248 = .ok (.iload_n 3, 1) := by decide +kernel
theorem dL_law_1249 : decode cL_law 1249 = .ok (.iconst 4, 1) := by decide +kernel
theorem dL_law_1250 : decode cL_law 1250 = .ok (.iadd, 1) := by decide +kernel
theorem dL_law_1251 : decode cL_law 1251 = .ok (.iaload, 1) := by decide +kernel
theorem dL_law_1252 : decode cL_law 1252 = .ok (.invokevirtual 138, 3) := by decide +kernel
theorem dL_law_1255 : decode cL_law 1255 = .ok (.if_icmp .eq 279, 3) := by decide +kernel
theorem dL_law_1258 : decode cL_law 1258 = .ok (.iconst 0, 1) := by decide +kernel
theorem dL_law_1259 : decode cL_law 1259 = .ok (.ireturn, 1) := by decide +kernel
theorem dL_law_1260 : decode cL_law 1260 = .ok (.aload_n 1, 1) := by decide +kernel
theorem dL_law_1261 : decode cL_law 1261 = .ok (.aload_n 0, 1) := by decide +kernel
theorem dL_law_1262 : decode cL_law 1262 = .ok (.iload_n 3, 1) := by decide +kernel
theorem dL_law_1263 : decode cL_law 1263 = .ok (.iconst 1, 1) := by decide +kernel
theorem dL_law_1264 : decode cL_law 1264 = .ok (.iadd, 1) := by decide +kernel
theorem dL_law_1265 : decode cL_law 1265 = .ok (.iaload, 1) := by decide +kernel
theorem dL_law_1266 : decode cL_law 1266 = .ok (.invokevirtual 139, 3) := by decide +kernel
theorem dL_law_1269 : decode cL_law 1269 = .ok (.aload_n 2, 1) := by decide +kernel
theorem dL_law_1270 : decode cL_law 1270 = .ok (.aload_n 0, 1) := by decide +kernel
theorem dL_law_1271 : decode cL_law 1271 = .ok (.iload_n 3, 1) := by decide +kernel
theorem dL_law_1272 : decode cL_law 1272 = .ok (.iconst 1, 1) := by decide +kernel
theorem dL_law_1273 : decode cL_law 1273 = .ok (.iadd, 1) := by decide +kernel
theorem dL_law_1274 : decode cL_law 1274 = .ok (.iaload, 1) := by decide +kernel
theorem dL_law_1275 : decode cL_law 1275 = .ok (.invokevirtual 142, 3) := by decide +kernel
theorem dL_law_1278 : decode cL_law 1278 = .ok (.if_icmp .eq 256, 3) := by decide +kernel
theorem dL_law_1281 : decode cL_law 1281 = .ok (.iconst 0, 1) := by decide +kernel
theorem dL_law_1282 : decode cL_law 1282 = .ok (.ireturn, 1) := by decide +kernel
theorem dL_law_1283 : decode cL_law 1283 = .ok (.aload_n 1, 1) := by decide +kernel
theorem dL_law_1284 : decode cL_law 1284 = .ok (.aload_n 0, 1) := by decide +kernel
theorem dL_law_1285 : decode cL_law 1285 = .ok (.iload_n 3, 1) := by decide +kernel
theorem dL_law_1286 : decode cL_law 1286 = .ok (.iconst 1, 1) := by decide +kernel
theorem dL_law_1287 : decode cL_law 1287 = .ok (.iadd, 1) := by decide +kernel
theorem dL_law_1288 : decode cL_law 1288 = .ok (.iaload, 1) := by decide +kernel
theorem dL_law_1289 : decode cL_law 1289 = .ok (.aload_n 0, 1) := by decide +kernel
theorem dL_law_1290 : decode cL_law 1290 = .ok (.iload_n 3, 1) := by decide +kernel
theorem dL_law_1291 : decode cL_law 1291 = .ok (.iconst 2, 1) := by decide +kernel
theorem dL_law_1292 : decode cL_law 1292 = .ok (.iadd, 1) := by decide +kernel
theorem dL_law_1293 : decode cL_law 1293 = .ok (.iaload, 1) := by decide +kernel
theorem dL_law_1294 : decode cL_law 1294 = .ok (.aload_n 0, 1) := by decide +kernel
theorem dL_law_1295 : decode cL_law 1295 = .ok (.iload_n 3, 1) := by decide +kernel
theorem dL_law_1296 : decode cL_law 1296 = .ok (.iconst 3, 1) := by decide +kernel
theorem dL_law_1297 : decode cL_law 1297 = .ok (.iadd, 1) := by decide +kernel
theorem dL_law_1298 : decode cL_law 1298 = .ok (.iaload, 1) := by decide +kernel
theorem dL_law_1299 : decode cL_law 1299 = .ok (.invokevirtual 143, 3) := by decide +kernel
theorem dL_law_1302 : decode cL_law 1302 = .ok (.aload_n 2, 1) := by decide +kernel
theorem dL_law_1303 : decode cL_law 1303 = .ok (.aload_n 0, 1) := by decide +kernel
theorem dL_law_1304 : decode cL_law 1304 = .ok (.iload_n 3, 1) := by decide +kernel
theorem dL_law_1305 : decode cL_law 1305 = .ok (.iconst 1, 1) := by decide +kernel
theorem dL_law_1306 : decode cL_law 1306 = .ok (.iadd, 1) := by decide +kernel
theorem dL_law_1307 : decode cL_law 1307 = .ok (.iaload, 1) := by decide +kernel
theorem dL_law_1308 : decode cL_law 1308 = .ok (.aload_n 0, 1) := by decide +kernel
theorem dL_law_1309 : decode cL_law 1309 = .ok (.iload_n 3, 1) := by decide +kernel
theorem dL_law_1310 : decode cL_law 1310 = .ok (.iconst 2, 1) := by decide +kernel
theorem dL_law_1311 : decode cL_law 1311 = .ok (.iadd, 1) := by decide +kernel
theorem dL_law_1312 : decode cL_law 1312 = .ok (.iaload, 1) := by decide +kernel
theorem dL_law_1313 : decode cL_law 1313 = .ok (.aload_n 0, 1) := by decide +kernel
theorem dL_law_1314 : decode cL_law 1314 = .ok (.iload_n 3, 1) := by decide +kernel
theorem dL_law_1315 : decode cL_law 1315 = .ok (.iconst 3, 1) := by decide +kernel
theorem dL_law_1316 : decode cL_law 1316 = .ok (.iadd, 1) := by decide +kernel
theorem dL_law_1317 : decode cL_law 1317 = .ok (.iaload, 1) := by decide +kernel
theorem dL_law_1318 : decode cL_law 1318 = .ok (.invokevirtual 146, 3) := by decide +kernel
theorem dL_law_1321 : decode cL_law 1321 = .ok (.if_icmp .eq 213, 3) := by decide +kernel
theorem dL_law_1324 : decode cL_law 1324 = .ok (.iconst 0, 1) := by decide +kernel
theorem dL_law_1325 : decode cL_law 1325 = .ok (.ireturn, 1) := by decide +kernel
theorem dL_law_1326 : decode cL_law 1326 = .ok (.aload_n 1, 1) := by decide +kernel
theorem dL_law_1327 : decode cL_law 1327 = .ok (.aload_n 0, 1) := by decide +kernel
theorem dL_law_1328 : decode cL_law 1328 = .ok (.iload_n 3, 1) := by decide +kernel
theorem dL_law_1329 : decode cL_law 1329 = .ok (.iconst 1, 1) := by decide +kernel
theorem dL_law_1330 : decode cL_law 1330 = .ok (.iadd, 1) := by decide +kernel
theorem dL_law_1331 : decode cL_law 1331 = .ok (.iaload, 1) := by decide +kernel
theorem dL_law_1332 : decode cL_law 1332 = .ok (.aload_n 0, 1) := by decide +kernel
theorem dL_law_1333 : decode cL_law 1333 = .ok (.iload_n 3, 1) := by decide +kernel
theorem dL_law_1334 : decode cL_law 1334 = .ok (.iconst 2, 1) := by decide +kernel
theorem dL_law_1335 : decode cL_law 1335 = .ok (.iadd, 1) := by decide +kernel
theorem dL_law_1336 : decode cL_law 1336 = .ok (.iaload, 1) := by decide +kernel
theorem dL_law_1337 : decode cL_law 1337 = .ok (.invokevirtual 147, 3) := by decide +kernel
theorem dL_law_1340 : decode cL_law 1340 = .ok (.aload_n 2, 1) := by decide +kernel
theorem dL_law_1341 : decode cL_law 1341 = .ok (.aload_n 0, 1) := by decide +kernel
theorem dL_law_1342 : decode cL_law 1342 = .ok (.iload_n 3, 1) := by decide +kernel
theorem dL_law_1343 : decode cL_law 1343 = .ok (.iconst 1, 1) := by decide +kernel
theorem dL_law_1344 : decode cL_law 1344 = .ok (.iadd, 1) := by decide +kernel
theorem dL_law_1345 : decode cL_law 1345 = .ok (.iaload, 1) := by decide +kernel
theorem dL_law_1346 : decode cL_law 1346 = .ok (.aload_n 0, 1) := by decide +kernel
theorem dL_law_1347 : decode cL_law 1347 = .ok (.iload_n 3, 1) := by decide +kernel
theorem dL_law_1348 : decode cL_law 1348 = .ok (.iconst 2, 1) := by decide +kernel
theorem dL_law_1349 : decode cL_law 1349 = .ok (.iadd, 1) := by decide +kernel
theorem dL_law_1350 : decode cL_law 1350 = .ok (.iaload, 1) := by decide +kernel
theorem dL_law_1351 : decode cL_law 1351 = .ok (.invokevirtual 150, 3) := by decide +kernel
theorem dL_law_1354 : decode cL_law 1354 = .ok (.if_icmp .eq 180, 3) := by decide +kernel
theorem dL_law_1357 : decode cL_law 1357 = .ok (.iconst 0, 1) := by decide +kernel
theorem dL_law_1358 : decode cL_law 1358 = .ok (.ireturn, 1) := by decide +kernel
theorem dL_law_1359 : decode cL_law 1359 = .ok (.aload_n 1, 1) := by decide +kernel
theorem dL_law_1360 : decode cL_law 1360 = .ok (.aload_n 0, 1) := by decide +kernel
theorem dL_law_1361 : decode cL_law 1361 = .ok (.iload_n 3, 1) := by decide +kernel
theorem dL_law_1362 : decode cL_law 1362 = .ok (.iconst 1, 1) := by decide +kernel
theorem dL_law_1363 : decode cL_law 1363 = .ok (.iadd, 1) := by decide +kernel
theorem dL_law_1364 : decode cL_law 1364 = .ok (.iaload, 1) := by decide +kernel
theorem dL_law_1365 : decode cL_law 1365 = .ok (.aload_n 0, 1) := by decide +kernel
theorem dL_law_1366 : decode cL_law 1366 = .ok (.iload_n 3, 1) := by decide +kernel
theorem dL_law_1367 : decode cL_law 1367 = .ok (.iconst 2, 1) := by decide +kernel
theorem dL_law_1368 : decode cL_law 1368 = .ok (.iadd, 1) := by decide +kernel
theorem dL_law_1369 : decode cL_law 1369 = .ok (.iaload, 1) := by decide +kernel
theorem dL_law_1370 : decode cL_law 1370 = .ok (.invokevirtual 151, 3) := by decide +kernel
theorem dL_law_1373 : decode cL_law 1373 = .ok (.aload_n 2, 1) := by decide +kernel
theorem dL_law_1374 : decode cL_law 1374 = .ok (.aload_n 0, 1) := by decide +kernel
theorem dL_law_1375 : decode cL_law 1375 = .ok (.iload_n 3, 1) := by decide +kernel
theorem dL_law_1376 : decode cL_law 1376 = .ok (.iconst 1, 1) := by decide +kernel
theorem dL_law_1377 : decode cL_law 1377 = .ok (.iadd, 1) := by decide +kernel
theorem dL_law_1378 : decode cL_law 1378 = .ok (.iaload, 1) := by decide +kernel
theorem dL_law_1379 : decode cL_law 1379 = .ok (.aload_n 0, 1) := by decide +kernel
theorem dL_law_1380 : decode cL_law 1380 = .ok (.iload_n 3, 1) := by decide +kernel
theorem dL_law_1381 : decode cL_law 1381 = .ok (.iconst 2, 1) := by decide +kernel
theorem dL_law_1382 : decode cL_law 1382 = .ok (.iadd, 1) := by decide +kernel
theorem dL_law_1383 : decode cL_law 1383 = .ok (.iaload, 1) := by decide +kernel
theorem dL_law_1384 : decode cL_law 1384 = .ok (.invokevirtual 154, 3) := by decide +kernel
theorem dL_law_1387 : decode cL_law 1387 = .ok (.if_icmp .eq 147, 3) := by decide +kernel
theorem dL_law_1390 : decode cL_law 1390 = .ok (.iconst 0, 1) := by decide +kernel
theorem dL_law_1391 : decode cL_law 1391 = .ok (.ireturn, 1) := by decide +kernel
theorem dL_law_1392 : decode cL_law 1392 = .ok (.aload_n 1, 1) := by decide +kernel
theorem dL_law_1393 : decode cL_law 1393 = .ok (.aload_n 0, 1) := by decide +kernel
theorem dL_law_1394 : decode cL_law 1394 = .ok (.iload_n 3, 1) := by decide +kernel
theorem dL_law_1395 : decode cL_law 1395 = .ok (.iconst 1, 1) := by decide +kernel
theorem dL_law_1396 : decode cL_law 1396 = .ok (.iadd, 1) := by decide +kernel
theorem dL_law_1397 : decode cL_law 1397 = .ok (.iaload, 1) := by decide +kernel
theorem dL_law_1398 : decode cL_law 1398 = .ok (.aload_n 0, 1) := by decide +kernel
theorem dL_law_1399 : decode cL_law 1399 = .ok (.iload_n 3, 1) := by decide +kernel
theorem dL_law_1400 : decode cL_law 1400 = .ok (.iconst 2, 1) := by decide +kernel
theorem dL_law_1401 : decode cL_law 1401 = .ok (.iadd, 1) := by decide +kernel
theorem dL_law_1402 : decode cL_law 1402 = .ok (.iaload, 1) := by decide +kernel
theorem dL_law_1403 : decode cL_law 1403 = .ok (.aload_n 0, 1) := by decide +kernel
theorem dL_law_1404 : decode cL_law 1404 = .ok (.iload_n 3, 1) := by decide +kernel
theorem dL_law_1405 : decode cL_law 1405 = .ok (.iconst 3, 1) := by decide +kernel
theorem dL_law_1406 : decode cL_law 1406 = .ok (.iadd, 1) := by decide +kernel
theorem dL_law_1407 : decode cL_law 1407 = .ok (.iaload, 1) := by decide +kernel
theorem dL_law_1408 : decode cL_law 1408 = .ok (.invokevirtual 155, 3) := by decide +kernel
theorem dL_law_1411 : decode cL_law 1411 = .ok (.aload_n 2, 1) := by decide +kernel
theorem dL_law_1412 : decode cL_law 1412 = .ok (.aload_n 0, 1) := by decide +kernel
theorem dL_law_1413 : decode cL_law 1413 = .ok (.iload_n 3, 1) := by decide +kernel
theorem dL_law_1414 : decode cL_law 1414 = .ok (.iconst 1, 1) := by decide +kernel
theorem dL_law_1415 : decode cL_law 1415 = .ok (.iadd, 1) := by decide +kernel
theorem dL_law_1416 : decode cL_law 1416 = .ok (.iaload, 1) := by decide +kernel
theorem dL_law_1417 : decode cL_law 1417 = .ok (.aload_n 0, 1) := by decide +kernel
theorem dL_law_1418 : decode cL_law 1418 = .ok (.iload_n 3, 1) := by decide +kernel
theorem dL_law_1419 : decode cL_law 1419 = .ok (.iconst 2, 1) := by decide +kernel
theorem dL_law_1420 : decode cL_law 1420 = .ok (.iadd, 1) := by decide +kernel
theorem dL_law_1421 : decode cL_law 1421 = .ok (.iaload, 1) := by decide +kernel
theorem dL_law_1422 : decode cL_law 1422 = .ok (.aload_n 0, 1) := by decide +kernel
theorem dL_law_1423 : decode cL_law 1423 = .ok (.iload_n 3, 1) := by decide +kernel
theorem dL_law_1424 : decode cL_law 1424 = .ok (.iconst 3, 1) := by decide +kernel
theorem dL_law_1425 : decode cL_law 1425 = .ok (.iadd, 1) := by decide +kernel
theorem dL_law_1426 : decode cL_law 1426 = .ok (.iaload, 1) := by decide +kernel
theorem dL_law_1427 : decode cL_law 1427 = .ok (.invokevirtual 158, 3) := by decide +kernel
theorem dL_law_1430 : decode cL_law 1430 = .ok (.if_icmp .eq 104, 3) := by decide +kernel
theorem dL_law_1433 : decode cL_law 1433 = .ok (.iconst 0, 1) := by decide +kernel
theorem dL_law_1434 : decode cL_law 1434 = .ok (.ireturn, 1) := by decide +kernel
theorem dL_law_1435 : decode cL_law 1435 = .ok (.aload_n 1, 1) := by decide +kernel
theorem dL_law_1436 : decode cL_law 1436 = .ok (.aload_n 0, 1) := by decide +kernel
theorem dL_law_1437 : decode cL_law 1437 = .ok (.iload_n 3, 1) := by decide +kernel
theorem dL_law_1438 : decode cL_law 1438 = .ok (.iconst 1, 1) := by decide +kernel
theorem dL_law_1439 : decode cL_law 1439 = .ok (.iadd, 1) := by decide +kernel
theorem dL_law_1440 : decode cL_law 1440 = .ok (.iaload, 1) := by decide +kernel
theorem dL_law_1441 : decode cL_law 1441 = .ok (.invokevirtual 159, 3) := by decide +kernel
theorem dL_law_1444 : decode cL_law 1444 = .ok (.aload_n 2, 1) := by decide +kernel
theorem dL_law_1445 : decode cL_law 1445 = .ok (.aload_n 0, 1) := by decide +kernel
theorem dL_law_1446 : decode cL_law 1446 = .ok (.iload_n 3, 1) := by decide +kernel
theorem dL_law_1447 : decode cL_law 1447 = .ok (.iconst 1, 1) := by decide +kernel
theorem dL_law_1448 : decode cL_law 1448 = .ok (.iadd, 1) := by decide +kernel
theorem dL_law_1449 : decode cL_law 1449 = .ok (.iaload, 1) := by decide +kernel
theorem dL_law_1450 : decode cL_law 1450 = .ok (.invokevirtual 162, 3) := by decide +kernel
theorem dL_law_1453 : decode cL_law 1453 = .ok (.if_icmp .eq 81, 3) := by decide +kernel
theorem dL_law_1456 : decode cL_law 1456 = .ok (.iconst 0, 1) := by decide +kernel
theorem dL_law_1457 : decode cL_law 1457 = .ok (.ireturn, 1) := by decide +kernel
theorem dL_law_1458 : decode cL_law 1458 = .ok (.aload_n 1, 1) := by decide +kernel
theorem dL_law_1459 : decode cL_law 1459 = .ok (.aload_n 0, 1) := by decide +kernel
theorem dL_law_1460 : decode cL_law 1460 = .ok (.iload_n 3, 1) := by decide +kernel
end
section
theorem dL_law_1461 : decode cL_law 1461 = .ok (.iconst 1, 1) := by decide +kernel
theorem dL_law_1462 : decode cL_law 1462 = .ok (.iadd, 1) := by decide +kernel
theorem dL_law_1463 : decode cL_law 1463 = .ok (.iaload, 1) := by decide +kernel
theorem dL_law_1464 : decode cL_law 1464 = .ok (.aload_n 0, 1) := by decide +kernel
theorem dL_law_1465 : decode cL_law 1465 = .ok (.iload_n 3, 1) := by decide +kernel
theorem dL_law_1466 : decode cL_law 1466 = .ok (.iconst 2, 1) := by decide +kernel
theorem dL_law_1467 : decode cL_law 1467 = .ok (.iadd, 1) := by decide +kernel
theorem dL_law_1468 : decode cL_law 1468 = .ok (.iaload, 1) := by decide +kernel
theorem dL_law_1469 : decode cL_law 1469 = .ok (.aload_n 0, 1) := by decide +kernel
theorem dL_law_1470 : decode cL_law 1470 = .ok (.iload_n 3, 1) := by decide +kernel
theorem dL_law_1471 : decode cL_law 1471 = .ok (.iconst 3, 1) := by decide +kernel
theorem dL_law_1472 : decode cL_law 1472 = .ok (.iadd, 1) := by decide +kernel
theorem dL_law_1473 : decode cL_law 1473 = .ok (.iaload, 1) := by decide +kernel
theorem dL_law_1474 : decode cL_law 1474 = .ok (.aload_n 0, 1) := by decide +kernel
theorem dL_law_1475 : decode cL_law 1475 = .ok (.iload_n 3, 1) := by decide +kernel
theorem dL_law_1476 : decode cL_law 1476 = .ok (.iconst 4, 1) := by decide +kernel
theorem dL_law_1477 : decode cL_law 1477 = .ok (.iadd, 1) := by decide +kernel
theorem dL_law_1478 : decode cL_law 1478 = .ok (.iaload, 1) := by decide +kernel
theorem dL_law_1479 : decode cL_law 1479 = .ok (.invokevirtual 163, 3) := by decide +kernel
theorem dL_law_1482 : decode cL_law 1482 = .ok (.aload_n 2, 1) := by decide +kernel
theorem dL_law_1483 : decode cL_law 1483 = .ok (.aload_n 0, 1) := by decide +kernel
theorem dL_law_1484 : decode cL_law 1484 = .ok (.iload_n 3, 1) := by decide +kernel
theorem dL_law_1485 : decode cL_law 1485 = .ok (.iconst 1, 1) := by decide +kernel
theorem dL_law_1486 : decode cL_law 1486 = .ok (.iadd, 1) := by decide +kernel
theorem dL_law_1487 : decode cL_law 1487 = .ok (.iaload, 1) := by decide +kernel
theorem dL_law_1488 : decode cL_law 1488 = .ok (.aload_n 0, 1) := by decide +kernel
theorem dL_law_1489 : decode cL_law 1489 = .ok (.iload_n 3, 1) := by decide +kernel
theorem dL_law_1490 : decode cL_law 1490 = .ok (.iconst 2, 1) := by decide +kernel
theorem dL_law_1491 : decode cL_law 1491 = .ok (.iadd, 1) := by decide +kernel
theorem dL_law_1492 : decode cL_law 1492 = .ok (.iaload, 1) := by decide +kernel
theorem dL_law_1493 : decode cL_law 1493 = .ok (.aload_n 0, 1) := by decide +kernel
theorem dL_law_1494 : decode cL_law 1494 = .ok (.iload_n 3, 1) := by decide +kernel
theorem dL_law_1495 : decode cL_law 1495 = .ok (.iconst 3, 1) := by decide +kernel
theorem dL_law_1496 : decode cL_law 1496 = .ok (.iadd, 1) := by decide +kernel
theorem dL_law_1497 : decode cL_law 1497 = .ok (.iaload, 1) := by decide +kernel
theorem dL_law_1498 : decode cL_law 1498 = .ok (.aload_n 0, 1) := by decide +kernel
theorem dL_law_1499 : decode cL_law 1499 = .ok (.iload_n 3, 1) := by decide +kernel
theorem dL_law_1500 : decode cL_law 1500 = .ok (.iconst 4, 1) := by decide +kernel
theorem dL_law_1501 : decode cL_law 1501 = .ok (.iadd, 1) := by decide +kernel
theorem dL_law_1502 : decode cL_law 1502 = .ok (.iaload, 1) := by decide +kernel
theorem dL_law_1503 : decode cL_law 1503 = .ok (.invokevirtual 166, 3) := by decide +kernel
theorem dL_law_1506 : decode cL_law 1506 = .ok (.if_icmp .eq 28, 3) := by decide +kernel
theorem dL_law_1509 : decode cL_law 1509 = .ok (.iconst 0, 1) := by decide +kernel
theorem dL_law_1510 : decode cL_law 1510 = .ok (.ireturn, 1) := by decide +kernel
theorem dL_law_1511 : decode cL_law 1511 = .ok (.aload_n 1, 1) := by decide +kernel
theorem dL_law_1512 : decode cL_law 1512 = .ok (.aload_n 0, 1) := by decide +kernel
theorem dL_law_1513 : decode cL_law 1513 = .ok (.iload_n 3, 1) := by decide +kernel
theorem dL_law_1514 : decode cL_law 1514 = .ok (.iconst 1, 1) := by decide +kernel
theorem dL_law_1515 : decode cL_law 1515 = .ok (.iadd, 1) := by decide +kernel
theorem dL_law_1516 : decode cL_law 1516 = .ok (.iaload, 1) := by decide +kernel
theorem dL_law_1517 : decode cL_law 1517 = .ok (.invokevirtual 167, 3) := by decide +kernel
theorem dL_law_1520 : decode cL_law 1520 = .ok (.aload_n 2, 1) := by decide +kernel
theorem dL_law_1521 : decode cL_law 1521 = .ok (.aload_n 0, 1) := by decide +kernel
theorem dL_law_1522 : decode cL_law 1522 = .ok (.iload_n 3, 1) := by decide +kernel
theorem dL_law_1523 : decode cL_law 1523 = .ok (.iconst 1, 1) := by decide +kernel
theorem dL_law_1524 : decode cL_law 1524 = .ok (.iadd, 1) := by decide +kernel
theorem dL_law_1525 : decode cL_law 1525 = .ok (.iaload, 1) := by decide +kernel
theorem dL_law_1526 : decode cL_law 1526 = .ok (.invokevirtual 170, 3) := by decide +kernel
theorem dL_law_1529 : decode cL_law 1529 = .ok (.if_icmp .eq 5, 3) := by decide +kernel
theorem dL_law_1532 : decode cL_law 1532 = .ok (.iconst 0, 1) := by decide +kernel
theorem dL_law_1533 : decode cL_law 1533 = .ok (.ireturn, 1) := by decide +kernel
theorem dL_law_1534 : decode cL_law 1534 = .ok (.iinc 3 6, 3) := by decide +kernel
theorem dL_law_1537 : decode cL_law 1537 = .ok (.goto (-1519), 3) := by decide +kernel
theorem dL_law_1540 : decode cL_law 1540 = .ok (.iconst 1, 1) := by decide +kernel
theorem dL_law_1541 : decode cL_law 1541 = .ok (.ireturn, 1) := by decide +kernel
end
section
/-! ===== the named heap: cells by names; a state is (kinds and lengths, ints, references by names, longs) ===== -/
abbrev pv_T : Type := Nat → Option (Nat × Nat)
abbrev pv_H : Type := Nat → Nat → Int32
abbrev pv_R : Type := Nat → Nat → Nat
abbrev pv_G : Type := Nat → Nat → Int64
/-- what is fixed over the whole run: launch, heap at the law's start, class numbers and slots, the script (address, length, ints), the two text constants (addresses of objects and of their bytes) -/
abbrev pv_C : Type := Launch × Heap × va_G × Nat × Nat × (Nat → Int32) × (Nat → Nat) × (Nat → Nat)
abbrev pv_M : Type := MethodName × ByteArray × Nat × Option FieldType
abbrev pv_Q : Type := Option Value → pv_T → pv_H → pv_R → pv_G → Prop
abbrev pv_h0 (Γ : pv_C) : Heap := Γ.2.1
abbrev pv_D (Γ : pv_C) : va_G := Γ.2.2.1
abbrev pv_b (Γ : pv_C) : Nat := Γ.2.2.2.1
abbrev pv_L (Γ : pv_C) : Nat := Γ.2.2.2.2.1
abbrev pv_xs (Γ : pv_C) : Nat → Int32 := Γ.2.2.2.2.2.1
abbrev pv_aK (Γ : pv_C) : Nat → Nat := Γ.2.2.2.2.2.2.1
abbrev pv_aV (Γ : pv_C) : Nat → Nat := Γ.2.2.2.2.2.2.2
def pv_cv (ρ : Nat → Nat) : Value → Value
  | .ref 0 => .null
  | .ref (n + 1) => .ref (ρ (n + 1))
  | v => v
def pv_wv (ty : pv_T) : Value → Prop
  | .ref (n + 1) => ty (n + 1) ≠ none
  | _ => True
def pv_fT : Nat → Nat → FieldType
  | 0 => tyX0
  | 1 => tyX1
  | 2 => tyX2
  | 3 => tyX3
  | 4 => tyX4
  | 5 => tyX5
  | 6 => tyX6
  | 7 => tyX7
  | 8 => tyX8
  | 9 => tyX9
  | 10 => tyX10
  | 11 => tyX11
  | 12 => tyX12
  | _ => fun _ => .int
def pv_isR : FieldType → Bool
  | .object _ => true
  | .array _ => true
  | _ => false
def pv_eT : Nat → FieldType
  | 20 => .int
  | 21 => .byte
  | 22 => .boolean
  | 23 => .long
  | 24 => .object RX8
  | 25 => .object RX3
  | 26 => .object RX0
  | 27 => .object RX6
  | _ => .int
/-- the value of a field, of an element -/
def pv_fV (ρ : Nat → Nat) (h : pv_H) (r : pv_R) (a c j : Nat) : Value := if pv_isR (pv_fT c j) = true then pv_cv ρ (.ref (r a j)) else .int (h a j)
def pv_eV (ρ : Nat → Nat) (h : pv_H) (r : pv_R) (g : pv_G) (a k j : Nat) : Value := if k < 23 then .int (h a j) else if k = 23 then .long (g a j) else pv_cv ρ (.ref (r a j))
def pv_str (i : Nat) : List Int32 := if i = 0 then [102, 103, 118, 115, 99, 121] else [100, 108, 119, 115, 110]
def pv_cRel (Γ : pv_C) (ρ : Nat → Nat) (U : State) (H : Heap) (h : pv_H) (r : pv_R) (g : pv_G) (a k n : Nat) : Prop :=
  (k < 13 ∧ ∃ q : vw_C, vwCl[k]? = some q ∧ t_OB (ρ a) ((pv_D Γ).1 k) q.2.2 ((pv_D Γ).2 k) H (fun j => pv_fV ρ h r a k j)) ∨
  (20 ≤ k ∧ k ≤ 27 ∧ ∃ cA : ClassId, H[ρ a]? = some (arrV cA n (fun j => pv_eV ρ h r g a k j)) ∧ ArrOfT U cA (pv_eT k) ∧ va_RA U cA (pv_eT k) ∧ ∀ j, j < n → fits (pv_eT k) (pv_eV ρ h r g a k j) = true)
def pv_oRel (Γ : pv_C) (ρ : Nat → Nat) (h : pv_H) (r : pv_R) (a k n : Nat) : Prop :=
  (a = 1 ∧ k = 20 ∧ n = pv_L Γ ∧ ρ 1 = pv_b Γ ∧ ∀ j, j < n → h 1 j = pv_xs Γ j) ∨
  (∃ i, i < 2 ∧ a = 2 + i ∧ k = 30 ∧ ρ (2 + i) = pv_aK Γ i ∧ r (2 + i) 0 = 4 + i) ∨
  (∃ i, i < 2 ∧ a = 4 + i ∧ k = 21 ∧ n = (pv_str i).length ∧ ρ (4 + i) = pv_aV Γ i ∧ ∀ j, j < n → h (4 + i) j = (pv_str i).getD j 0)
def pv_Rep (Γ : pv_C) (ρ : Nat → Nat) (U : State) (H : Heap) (ty : pv_T) (h : pv_H) (r : pv_R) (g : pv_G) : Prop :=
  ((pv_h0 Γ).size ≤ H.size ∧ ∀ q : Nat, q < (pv_h0 Γ).size → H[q]? = (pv_h0 Γ)[q]?) ∧
  (∀ a k n, ty a = some (k, n) → 10 ≤ a → (pv_h0 Γ).size ≤ ρ a ∧ pv_cRel Γ ρ U H h r g a k n) ∧
  (∀ a k n, ty a = some (k, n) → a < 10 → pv_oRel Γ ρ h r a k n) ∧
  (∀ a b, 10 ≤ a → 10 ≤ b → ty a ≠ none → ty b ≠ none → ρ a = ρ b → a = b) ∧
  (∀ a j, ty a ≠ none → r a j ≠ 0 → ty (r a j) ≠ none) ∧ ty 0 = none
def pv_Env (Γ : pv_C) (U : State) : Prop :=
  (∀ (c : Nat) (q : vw_C), vwCl[c]? = some q → u_Kn U q.1 q.2.1 q.2.2 ((pv_D Γ).1 c) ((pv_D Γ).2 c)) ∧
  va_X (pv_b Γ) (pv_L Γ) (pv_xs Γ) U (pv_h0 Γ) ∧ pv_b Γ < (pv_h0 Γ).size ∧
  va_Z "java/lang/String" "COMPACT_STRINGS" "Z" (.int 1) (fun q => (pv_h0 Γ).size ≤ q) U (pv_h0 Γ) ∧
  vk_S 2 [6, 5] [pv_str 0, pv_str 1] (pv_aK Γ) (pv_aV Γ) (fun q => (pv_h0 Γ).size ≤ q) U (pv_h0 Γ) ∧
  (∀ i, i < 2 → vk_R RX9 (if i = 0 then 19 else 38) (if i = 0 then "fgvscy" else "dlwsn") (pv_aK Γ i) U)
/-- the words that every method has -/
def pv_gt : List Cond := lw_tbl.filter goodWord
def pv_ws (M : pv_M) : List Cond := .code M.1 M.2.1 M.2.2.1 M.2.2.2 :: pv_gt
def pv_Ctx (Γ : pv_C) (d : Nat) (M : pv_M) (p : Program) (R : Room) (s : State) (m : MethodId) (args : Array Value) (meth : Method) (c : Code) : Prop :=
  p.tables.exec = Jvm.exec ∧ c.code = M.2.1 ∧ c.maxLocals = M.2.2.1 ∧ s.vm.findClass M.1.cls = some m.cls ∧ meth.sig.returnType = M.2.2.2 ∧ meth.locks = false ∧ meth.name = M.1.name ∧ (∀ w ∈ pv_gt, w.before args s = true) ∧ pv_Env Γ s ∧ d ≤ R.frames ∧ 64 * d ≤ R.locals
def pv_ext (ρ : Nat → Nat) (ty : pv_T) (ρ' : Nat → Nat) (ty' : pv_T) : Prop := ∀ a, ty a ≠ none → ρ' a = ρ a ∧ ty' a ≠ none
/-- locals -/
def pv_lAt (ls : List (Option Value)) (i : Nat) : Option Value := (ls[i]?).join
def pv_lRel (ρ : Nat → Nat) (lz : Array Slot) (nL : Nat) (ls : List (Option Value)) : Prop := lz.size = nL ∧ lv_wf lz ∧ ∀ i v, pv_lAt ls i = some v → lz[i]? = some (.val (pv_cv ρ v))
def pv_wl (ty : pv_T) (ls : List (Option Value)) : Prop := ∀ i v, pv_lAt ls i = some v → pv_wv ty v
def pv_wst (ty : pv_T) (st : List Value) : Prop := ∀ v ∈ st, pv_wv ty v
def pv_retOK (M : pv_M) (pc : Nat) (v : Option Value) : Prop := match v with
  | none => decode M.2.1 pc = .ok (.return_, 1) ∧ M.2.2.2 = none
  | some (.int x) => decode M.2.1 pc = .ok (.ireturn, 1) ∧ ∃ t, M.2.2.2 = some t ∧ narrow t (.int x) = .int x
  | some (.long _) => decode M.2.1 pc = .ok (.lreturn, 1) ∧ M.2.2.2 = some .long
  | some (.ref _) => decode M.2.1 pc = .ok (.areturn, 1) ∧ ∃ t, M.2.2.2 = some t ∧ ((∃ n, t = .object n) ∨ ∃ u, t = .array u)
  | _ => False
def pv_Ret (Γ : pv_C) (M : pv_M) (p : Program) (e : Env) (R : Room) (s : State) (m : MethodId) (args : Array Value) (below : List Frame) (meth : Method) (c : Code) (ρ : Nat → Nat) (ty : pv_T) (Q : pv_Q) (Z : State → Prop) : Prop :=
  ∀ (H' : Heap) (locs' : List Loc) (cells' slots' : Nat) (ρ' : Nat → Nat) (lz' : Array Slot) (pc' : Nat) (v : Option Value) (ty' : pv_T) (h' : pv_H) (r' : pv_R) (g' : pv_G), Q v ty' h' r' g' → cells' ≤ R.cells → slots' ≤ R.slots → pv_Rep Γ ρ' s H' ty' h' r' g' → pv_ext ρ ty ρ' ty' → (∀ x, v = some x → pv_wv ty' x) → (∀ q ∈ locs', (pv_h0 Γ).size ≤ q.base) → pv_retOK M pc' v →
    W p Γ.1 e R s m args below meth c H' locs' cells' slots' Z (F0 m pc' lz' ((v.map (pv_cv ρ')).toList))
def pv_K (Γ : pv_C) (d kc ks : Nat) (M : pv_M) (ls : List (Option Value)) (st : List Value) (ty : pv_T) (h : pv_H) (r : pv_R) (g : pv_G) (Q : pv_Q)
    (p : Program) (e : Env) (R : Room) (s : State) (m : MethodId) (args : Array Value) (below : List Frame) (meth : Method) (c : Code) (H : Heap) (locs : List Loc) (cells slots : Nat) (ρ : Nat → Nat) (lz : Array Slot) (Z : State → Prop) : Prop :=
  pv_Ctx Γ d M p R s m args meth c ∧ (cells + kc ≤ R.cells ∧ slots + ks ≤ R.slots) ∧ pv_Rep Γ ρ s H ty h r g ∧ pv_lRel ρ lz M.2.2.1 ls ∧ pv_wst ty st ∧ pv_wl ty ls ∧ (∀ q ∈ locs, (pv_h0 Γ).size ≤ q.base) ∧ pv_Ret Γ M p e R s m args below meth c ρ ty Q Z
/-- THE JUDGEMENT: method M stands at pc with locals ls, stack st, in the named state; it returns, and Q holds then -/
def pv_E (Γ : pv_C) (d kc ks : Nat) (M : pv_M) (pc : Nat) (ls : List (Option Value)) (st : List Value) (ty : pv_T) (h : pv_H) (r : pv_R) (g : pv_G) (Q : pv_Q) : Prop :=
  ∀ (p : Program) (e : Env) (R : Room) (s : State) (m : MethodId) (args : Array Value) (below : List Frame) (meth : Method) (c : Code) (H : Heap) (locs : List Loc) (cells slots : Nat) (ρ : Nat → Nat) (lz : Array Slot) (Z : State → Prop),
    pv_K Γ d kc ks M ls st ty h r g Q p e R s m args below meth c H locs cells slots ρ lz Z →
    W p Γ.1 e R s m args below meth c H locs cells slots Z (F0 m pc lz (st.map (pv_cv ρ)))
/-- THE CONTRACT of a method at arguments and a named state -/
def pv_CT (Γ : pv_C) (d kc ks : Nat) (M : pv_M) (As : List Value) (ty : pv_T) (h : pv_H) (r : pv_R) (g : pv_G) (Q : pv_Q) : Prop :=
  ∀ ρ : Nat → Nat, Met Γ.1 M.1 (pv_ws M) ({ frames := d, cells := kc, slots := ks, locals := 64 * d } : Room)
    (va_Pc (As.map (pv_cv ρ)) (fun U => pv_Env Γ U ∧ pv_Rep Γ ρ U U.heap ty h r g ∧ pv_wst ty As))
    (fun _ _ o t => ∃ (ρ' : Nat → Nat) (v : Option Value) (ty' : pv_T) (h' : pv_H) (r' : pv_R) (g' : pv_G), o = .returned (v.map (pv_cv ρ')) ∧ Q v ty' h' r' g' ∧ pv_Rep Γ ρ' t t.heap ty' h' r' g' ∧ pv_ext ρ ty ρ' ty' ∧ (∀ x, v = some x → pv_wv ty' x))
    kc ks (fun q => (pv_h0 Γ).size ≤ q)
/-! ===== first facts ===== -/
theorem pv_ext_rfl {ρ : Nat → Nat} {ty : pv_T} : pv_ext ρ ty ρ ty := fun _ h => ⟨rfl, h⟩
theorem pv_ext_tr {ρ ρ1 ρ2 : Nat → Nat} {ty ty1 ty2 : pv_T} (a : pv_ext ρ ty ρ1 ty1) (b : pv_ext ρ1 ty1 ρ2 ty2) : pv_ext ρ ty ρ2 ty2 := fun x h => ⟨(b x (a x h).2).1.trans (a x h).1, (b x (a x h).2).2⟩
theorem pv_cv_cat (ρ : Nat → Nat) (v : Value) : (pv_cv ρ v).category = v.category := by
  cases v with
  | ref n => cases n <;> rfl
  | _ => rfl
theorem pv_cv_ext {ρ ρ' : Nat → Nat} {ty ty' : pv_T} (h : pv_ext ρ ty ρ' ty') {v : Value} (hv : pv_wv ty v) : pv_cv ρ' v = pv_cv ρ v := by
  cases v with
  | ref n =>
    cases n with
    | zero => rfl
    | succ n => show Value.ref _ = Value.ref _; rw [(h _ hv).1]
  | _ => rfl
theorem pv_wv_ext {ρ ρ' : Nat → Nat} {ty ty' : pv_T} (h : pv_ext ρ ty ρ' ty') {v : Value} (hv : pv_wv ty v) : pv_wv ty' v := by
  cases v with
  | ref n =>
    cases n with
    | zero => trivial
    | succ n => exact (h _ hv).2
  | _ => trivial
theorem pv_map_ext {ρ ρ' : Nat → Nat} {ty ty' : pv_T} (h : pv_ext ρ ty ρ' ty') {st : List Value} (hv : pv_wst ty st) : st.map (pv_cv ρ') = st.map (pv_cv ρ) :=
  List.map_congr_left fun v hm => pv_cv_ext h (hv v hm)
theorem pv_Ret.ext {Γ : pv_C} {M : pv_M} {p : Program} {e : Env} {R : Room} {s : State} {m : MethodId} {args : Array Value} {below : List Frame} {meth : Method} {c : Code} {ρ ρ1 : Nat → Nat} {ty ty1 : pv_T} {Q : pv_Q} {Z : State → Prop}
    (hx : pv_ext ρ ty ρ1 ty1) (h : pv_Ret Γ M p e R s m args below meth c ρ ty Q Z) : pv_Ret Γ M p e R s m args below meth c ρ1 ty1 Q Z := fun H' locs' cells' slots' ρ' lz' pc' v ty' h' r' g' hq h1 h2 h3 h4 h5 h6 h7 =>
  h H' locs' cells' slots' ρ' lz' pc' v ty' h' r' g' hq h1 h2 h3 (pv_ext_tr hx h4) h5 h6 h7
theorem pv_lRel.ext {ρ ρ1 : Nat → Nat} {ty ty1 : pv_T} {lz : Array Slot} {nL : Nat} {ls : List (Option Value)} (hx : pv_ext ρ ty ρ1 ty1) (hw : pv_wl ty ls) (h : pv_lRel ρ lz nL ls) : pv_lRel ρ1 lz nL ls :=
  ⟨h.1, h.2.1, fun i v hv => by rw [h.2.2 i v hv, pv_cv_ext hx (hw i v hv)]⟩
theorem pv_wl.ext {ρ ρ1 : Nat → Nat} {ty ty1 : pv_T} {ls : List (Option Value)} (hx : pv_ext ρ ty ρ1 ty1) (hw : pv_wl ty ls) : pv_wl ty1 ls := fun i v hv => pv_wv_ext hx (hw i v hv)
theorem pv_wst.ext {ρ ρ1 : Nat → Nat} {ty ty1 : pv_T} {st : List Value} (hx : pv_ext ρ ty ρ1 ty1) (hw : pv_wst ty st) : pv_wst ty1 st := fun v hv => pv_wv_ext hx (hw v hv)
theorem pv_wst_c {ty : pv_T} {v : Value} {st : List Value} : pv_wst ty (v :: st) ↔ pv_wv ty v ∧ pv_wst ty st := List.forall_mem_cons
theorem pv_gt_in {w : Cond} (h : w ∈ lw_tbl) (hg : goodWord w = true) : w ∈ pv_gt := List.mem_filter.mpr ⟨h, hg⟩
theorem pv_gt_good {w : Cond} (h : w ∈ pv_gt) : (w.onTables && w.keeps) = true ∨ ∃ ty, w = .arrayClass ty := good_of_word (List.mem_filter.mp h).2
theorem pv_cRel.moved {Γ : pv_C} {ρ : Nat → Nat} {u U : State} {H : Heap} {h : pv_H} {r : pv_R} {g : pv_G} {a k n : Nat} (hvm : u.vm.Alike U.vm) (x : pv_cRel Γ ρ u H h r g a k n) : pv_cRel Γ ρ U H h r g a k n := by
  rcases x with x | ⟨h1, h2, cA, h3, h4, h5, h6⟩
  · exact Or.inl x
  · exact Or.inr ⟨h1, h2, cA, h3, arrOfT_moved hvm h4, h5.moved hvm, h6⟩
theorem pv_Rep.moved {Γ : pv_C} {ρ : Nat → Nat} {u U : State} {H : Heap} {ty : pv_T} {h : pv_H} {r : pv_R} {g : pv_G} (hvm : u.vm.Alike U.vm) (x : pv_Rep Γ ρ u H ty h r g) : pv_Rep Γ ρ U H ty h r g :=
  ⟨x.1, fun a k n ht ha => ⟨(x.2.1 a k n ht ha).1, (x.2.1 a k n ht ha).2.moved hvm⟩, x.2.2⟩
theorem pv_Env.warm {Γ : pv_C} {s U : State} (hW : s.WarmedH U.vm) (h : pv_Env Γ s) : pv_Env Γ U :=
  ⟨fun c q hq => u_Kn_moved hW.alike (h.1 c q hq), h.2.1.moved hW.alike, h.2.2.1, h.2.2.2.1.moved hW.alike, h.2.2.2.2.1.moved hW.alike, fun i hi => (h.2.2.2.2.2 i hi).warm hW⟩
theorem pv_Env.same {Γ : pv_C} {s U : State} (hv : U.vm = s.vm) (h : pv_Env Γ s) : pv_Env Γ U := by
  have hal : s.vm.Alike U.vm := by rw [hv]; exact Vm.Alike.refl _
  exact ⟨fun c q hq => u_Kn_moved hal (h.1 c q hq), h.2.1.moved hal, h.2.2.1, h.2.2.2.1.moved hal, h.2.2.2.2.1.moved hal, fun i hi => (h.2.2.2.2.2 i hi).same hv⟩
end
section
section PVR
variable {Γ : pv_C} {d kc ks : Nat} {M : pv_M} {pc : Nat} {ls : List (Option Value)} {st : List Value} {ty : pv_T} {h : pv_H} {r : pv_R} {g : pv_G} {Q : pv_Q}
theorem pv_stk {pc' : Nat} {st' : List Value} (hw : pv_wst ty st → pv_wst ty st')
    (hst : ∀ (p : Program) (e : Env) (R : Room) (s : State) (m : MethodId) (args : Array Value) (below : List Frame) (meth : Method) (c : Code) (H : Heap) (locs : List Loc) (cells slots : Nat) (ρ : Nat → Nat) (lz : Array Slot) (Z : State → Prop), p.tables.exec = Jvm.exec → c.code = M.2.1 →
      W p Γ.1 e R s m args below meth c H locs cells slots Z (F0 m pc' lz (st'.map (pv_cv ρ))) → W p Γ.1 e R s m args below meth c H locs cells slots Z (F0 m pc lz (st.map (pv_cv ρ))))
    (k : pv_E Γ d kc ks M pc' ls st' ty h r g Q) : pv_E Γ d kc ks M pc ls st ty h r g Q := by
  intro p e R s m args below meth c H locs cells slots ρ lz Z hK
  exact hst _ _ _ _ _ _ _ _ _ _ _ _ _ ρ _ _ hK.1.1 hK.1.2.1 (k _ _ _ _ _ _ _ _ _ _ _ _ _ ρ _ _ ⟨hK.1, hK.2.1, hK.2.2.1, hK.2.2.2.1, hw hK.2.2.2.2.1, hK.2.2.2.2.2⟩)
theorem pv_br {pc' pc'' : Nat} {st' : List Value} {P : Prop} (hw : pv_wst ty st → pv_wst ty st')
    (hst : ∀ (p : Program) (e : Env) (R : Room) (s : State) (m : MethodId) (args : Array Value) (below : List Frame) (meth : Method) (c : Code) (H : Heap) (locs : List Loc) (cells slots : Nat) (ρ : Nat → Nat) (lz : Array Slot) (Z : State → Prop), p.tables.exec = Jvm.exec → c.code = M.2.1 →
      (P → W p Γ.1 e R s m args below meth c H locs cells slots Z (F0 m pc' lz (st'.map (pv_cv ρ)))) → (¬ P → W p Γ.1 e R s m args below meth c H locs cells slots Z (F0 m pc'' lz (st'.map (pv_cv ρ)))) → W p Γ.1 e R s m args below meth c H locs cells slots Z (F0 m pc lz (st.map (pv_cv ρ))))
    (kt : P → pv_E Γ d kc ks M pc' ls st' ty h r g Q) (kf : ¬ P → pv_E Γ d kc ks M pc'' ls st' ty h r g Q) : pv_E Γ d kc ks M pc ls st ty h r g Q := by
  intro p e R s m args below meth c H locs cells slots ρ lz Z hK
  have hK' : pv_K Γ d kc ks M ls st' ty h r g Q p e R s m args below meth c H locs cells slots ρ lz Z := ⟨hK.1, hK.2.1, hK.2.2.1, hK.2.2.2.1, hw hK.2.2.2.2.1, hK.2.2.2.2.2⟩
  exact hst _ _ _ _ _ _ _ _ _ _ _ _ _ ρ _ _ hK.1.1 hK.1.2.1 (fun q => kt q _ _ _ _ _ _ _ _ _ _ _ _ _ ρ _ _ hK') (fun q => kf q _ _ _ _ _ _ _ _ _ _ _ _ _ ρ _ _ hK')
theorem pv_iconst {n : Int} {v : Int32} (hv : Int32.ofInt n = v) (hdg : decode M.2.1 pc = .ok (.iconst n, 1)) (k : pv_E Γ d kc ks M (pc + 1) ls (.int v :: st) ty h r g Q) : pv_E Γ d kc ks M pc ls (st) ty h r g Q := pv_stk (fun w => by simp_all [pv_wst_c, pv_wv]) (fun _ _ _ _ _ _ _ _ _ _ _ _ _ _ _ _ hx hb w => lv_iconst hx hb hdg hv w) k
theorem pv_bipush {n : Int} {v : Int32} (hv : (Int8.ofInt n).toInt32 = v) (hdg : decode M.2.1 pc = .ok (.bipush n, 2)) (k : pv_E Γ d kc ks M (pc + 2) ls (.int v :: st) ty h r g Q) : pv_E Γ d kc ks M pc ls (st) ty h r g Q := pv_stk (fun w => by simp_all [pv_wst_c, pv_wv]) (fun _ _ _ _ _ _ _ _ _ _ _ _ _ _ _ _ hx hb w => lv_bipush hx hb hdg hv w) k
theorem pv_sipush {n : Int} {v : Int32} (hv : (Int16.ofInt n).toInt32 = v) (hdg : decode M.2.1 pc = .ok (.sipush n, 3)) (k : pv_E Γ d kc ks M (pc + 3) ls (.int v :: st) ty h r g Q) : pv_E Γ d kc ks M pc ls (st) ty h r g Q := pv_stk (fun w => by simp_all [pv_wst_c, pv_wv]) (fun _ _ _ _ _ _ _ _ _ _ _ _ _ _ _ _ hx hb w => lv_sipush hx hb hdg hv w) k
theorem pv_lconst {n : Fin 2} {v : Int64} (hv : Int64.ofNat (n : Nat) = v) (hdg : decode M.2.1 pc = .ok (.lconst n, 1)) (k : pv_E Γ d kc ks M (pc + 1) ls (.long v :: st) ty h r g Q) : pv_E Γ d kc ks M pc ls (st) ty h r g Q := pv_stk (fun w => by simp_all [pv_wst_c, pv_wv]) (fun _ _ _ _ _ _ _ _ _ _ _ _ _ _ _ _ hx hb w => lv_lconst hx hb hdg hv w) k
theorem pv_null  (hdg : decode M.2.1 pc = .ok (.aconst_null, 1)) (k : pv_E Γ d kc ks M (pc + 1) ls (.ref 0 :: st) ty h r g Q) : pv_E Γ d kc ks M pc ls (st) ty h r g Q := pv_stk (fun w => by simp_all [pv_wst_c, pv_wv]) (fun _ _ _ _ _ _ _ _ _ _ _ _ _ _ _ _ hx hb w => lv_null hx hb hdg w) k
theorem pv_iadd {x y : Int32} (hdg : decode M.2.1 pc = .ok (.iadd, 1)) (k : pv_E Γ d kc ks M (pc + 1) ls (.int (x + y) :: st) ty h r g Q) : pv_E Γ d kc ks M pc ls (.int y :: .int x :: st) ty h r g Q := pv_stk (fun w => by simp_all [pv_wst_c, pv_wv]) (fun _ _ _ _ _ _ _ _ _ _ _ _ _ _ _ _ hx hb w => lv_iadd hx hb hdg w) k
theorem pv_isub {x y : Int32} (hdg : decode M.2.1 pc = .ok (.isub, 1)) (k : pv_E Γ d kc ks M (pc + 1) ls (.int (x - y) :: st) ty h r g Q) : pv_E Γ d kc ks M pc ls (.int y :: .int x :: st) ty h r g Q := pv_stk (fun w => by simp_all [pv_wst_c, pv_wv]) (fun _ _ _ _ _ _ _ _ _ _ _ _ _ _ _ _ hx hb w => lv_isub hx hb hdg w) k
theorem pv_imul {x y : Int32} (hdg : decode M.2.1 pc = .ok (.imul, 1)) (k : pv_E Γ d kc ks M (pc + 1) ls (.int (x * y) :: st) ty h r g Q) : pv_E Γ d kc ks M pc ls (.int y :: .int x :: st) ty h r g Q := pv_stk (fun w => by simp_all [pv_wst_c, pv_wv]) (fun _ _ _ _ _ _ _ _ _ _ _ _ _ _ _ _ hx hb w => lv_imul hx hb hdg w) k
theorem pv_iand {x y : Int32} (hdg : decode M.2.1 pc = .ok (.iand, 1)) (k : pv_E Γ d kc ks M (pc + 1) ls (.int (x &&& y) :: st) ty h r g Q) : pv_E Γ d kc ks M pc ls (.int y :: .int x :: st) ty h r g Q := pv_stk (fun w => by simp_all [pv_wst_c, pv_wv]) (fun _ _ _ _ _ _ _ _ _ _ _ _ _ _ _ _ hx hb w => lv_iand hx hb hdg w) k
theorem pv_ior {x y : Int32} (hdg : decode M.2.1 pc = .ok (.ior, 1)) (k : pv_E Γ d kc ks M (pc + 1) ls (.int (x ||| y) :: st) ty h r g Q) : pv_E Γ d kc ks M pc ls (.int y :: .int x :: st) ty h r g Q := pv_stk (fun w => by simp_all [pv_wst_c, pv_wv]) (fun _ _ _ _ _ _ _ _ _ _ _ _ _ _ _ _ hx hb w => lv_ior hx hb hdg w) k
theorem pv_ixor {x y : Int32} (hdg : decode M.2.1 pc = .ok (.ixor, 1)) (k : pv_E Γ d kc ks M (pc + 1) ls (.int (x ^^^ y) :: st) ty h r g Q) : pv_E Γ d kc ks M pc ls (.int y :: .int x :: st) ty h r g Q := pv_stk (fun w => by simp_all [pv_wst_c, pv_wv]) (fun _ _ _ _ _ _ _ _ _ _ _ _ _ _ _ _ hx hb w => lv_ixor hx hb hdg w) k
theorem pv_ishl {x y : Int32} (hdg : decode M.2.1 pc = .ok (.ishl, 1)) (k : pv_E Γ d kc ks M (pc + 1) ls (.int (x <<< (y &&& 31)) :: st) ty h r g Q) : pv_E Γ d kc ks M pc ls (.int y :: .int x :: st) ty h r g Q := pv_stk (fun w => by simp_all [pv_wst_c, pv_wv]) (fun _ _ _ _ _ _ _ _ _ _ _ _ _ _ _ _ hx hb w => lv_ishl hx hb hdg w) k
theorem pv_ishr {x y : Int32} (hdg : decode M.2.1 pc = .ok (.ishr, 1)) (k : pv_E Γ d kc ks M (pc + 1) ls (.int (x >>> (y &&& 31)) :: st) ty h r g Q) : pv_E Γ d kc ks M pc ls (.int y :: .int x :: st) ty h r g Q := pv_stk (fun w => by simp_all [pv_wst_c, pv_wv]) (fun _ _ _ _ _ _ _ _ _ _ _ _ _ _ _ _ hx hb w => lv_ishr hx hb hdg w) k
theorem pv_idiv {x y : Int32} (hne : ¬ y = 0) (hdg : decode M.2.1 pc = .ok (.idiv, 1)) (k : pv_E Γ d kc ks M (pc + 1) ls (.int (x / y) :: st) ty h r g Q) : pv_E Γ d kc ks M pc ls (.int y :: .int x :: st) ty h r g Q := pv_stk (fun w => by simp_all [pv_wst_c, pv_wv]) (fun _ _ _ _ _ _ _ _ _ _ _ _ _ _ _ _ hx hb w => lv_idiv hx hb hdg hne w) k
theorem pv_irem {x y : Int32} (hne : ¬ y = 0) (hdg : decode M.2.1 pc = .ok (.irem, 1)) (k : pv_E Γ d kc ks M (pc + 1) ls (.int (x - x / y * y) :: st) ty h r g Q) : pv_E Γ d kc ks M pc ls (.int y :: .int x :: st) ty h r g Q := pv_stk (fun w => by simp_all [pv_wst_c, pv_wv]) (fun _ _ _ _ _ _ _ _ _ _ _ _ _ _ _ _ hx hb w => lv_irem hx hb hdg hne w) k
theorem pv_ineg {x : Int32} (hdg : decode M.2.1 pc = .ok (.ineg, 1)) (k : pv_E Γ d kc ks M (pc + 1) ls (.int (-x) :: st) ty h r g Q) : pv_E Γ d kc ks M pc ls (.int x :: st) ty h r g Q := pv_stk (fun w => by simp_all [pv_wst_c, pv_wv]) (fun _ _ _ _ _ _ _ _ _ _ _ _ _ _ _ _ hx hb w => lv_ineg hx hb hdg w) k
theorem pv_iushr {x y : Int32} (hdg : decode M.2.1 pc = .ok (.iushr, 1)) (k : pv_E Γ d kc ks M (pc + 1) ls (.int ((x.toUInt32 >>> (y.toUInt32 &&& Int32.toUInt32 31)).toInt32) :: st) ty h r g Q) : pv_E Γ d kc ks M pc ls (.int y :: .int x :: st) ty h r g Q := pv_stk (fun w => by simp_all [pv_wst_c, pv_wv]) (fun _ _ _ _ _ _ _ _ _ _ _ _ _ _ _ _ hx hb w => lv_iushr hx hb hdg rfl w) k
theorem pv_ladd {x y : Int64} (hdg : decode M.2.1 pc = .ok (.ladd, 1)) (k : pv_E Γ d kc ks M (pc + 1) ls (.long (x + y) :: st) ty h r g Q) : pv_E Γ d kc ks M pc ls (.long y :: .long x :: st) ty h r g Q := pv_stk (fun w => by simp_all [pv_wst_c, pv_wv]) (fun _ _ _ _ _ _ _ _ _ _ _ _ _ _ _ _ hx hb w => lv_ladd hx hb hdg w) k
theorem pv_lsub {x y : Int64} (hdg : decode M.2.1 pc = .ok (.lsub, 1)) (k : pv_E Γ d kc ks M (pc + 1) ls (.long (x - y) :: st) ty h r g Q) : pv_E Γ d kc ks M pc ls (.long y :: .long x :: st) ty h r g Q := pv_stk (fun w => by simp_all [pv_wst_c, pv_wv]) (fun _ _ _ _ _ _ _ _ _ _ _ _ _ _ _ _ hx hb w => lv_lsub hx hb hdg w) k
theorem pv_lmul {x y : Int64} (hdg : decode M.2.1 pc = .ok (.lmul, 1)) (k : pv_E Γ d kc ks M (pc + 1) ls (.long (x * y) :: st) ty h r g Q) : pv_E Γ d kc ks M pc ls (.long y :: .long x :: st) ty h r g Q := pv_stk (fun w => by simp_all [pv_wst_c, pv_wv]) (fun _ _ _ _ _ _ _ _ _ _ _ _ _ _ _ _ hx hb w => lv_lmul hx hb hdg w) k
theorem pv_lcmp {x y : Int64} (hdg : decode M.2.1 pc = .ok (.lcmp, 1)) (k : pv_E Γ d kc ks M (pc + 1) ls (.int (lg_cmp x y) :: st) ty h r g Q) : pv_E Γ d kc ks M pc ls (.long y :: .long x :: st) ty h r g Q := pv_stk (fun w => by simp_all [pv_wst_c, pv_wv]) (fun _ _ _ _ _ _ _ _ _ _ _ _ _ _ _ _ hx hb w => W.lcmp hx hb hdg w) k
theorem pv_i2l {x : Int32} (hdg : decode M.2.1 pc = .ok (.i2l, 1)) (k : pv_E Γ d kc ks M (pc + 1) ls (.long x.toInt64 :: st) ty h r g Q) : pv_E Γ d kc ks M pc ls (.int x :: st) ty h r g Q := pv_stk (fun w => by simp_all [pv_wst_c, pv_wv]) (fun _ _ _ _ _ _ _ _ _ _ _ _ _ _ _ _ hx hb w => lv_i2l hx hb hdg rfl w) k
theorem pv_i2b {x : Int32} (hdg : decode M.2.1 pc = .ok (.i2b, 1)) (k : pv_E Γ d kc ks M (pc + 1) ls (.int x.toInt8.toInt32 :: st) ty h r g Q) : pv_E Γ d kc ks M pc ls (.int x :: st) ty h r g Q := pv_stk (fun w => by simp_all [pv_wst_c, pv_wv]) (fun _ _ _ _ _ _ _ _ _ _ _ _ _ _ _ _ hx hb w => lv_i2b hx hb hdg rfl w) k
theorem pv_i2c {x : Int32} (hdg : decode M.2.1 pc = .ok (.i2c, 1)) (k : pv_E Γ d kc ks M (pc + 1) ls (.int (x.toUInt32 % 65536).toInt32 :: st) ty h r g Q) : pv_E Γ d kc ks M pc ls (.int x :: st) ty h r g Q := pv_stk (fun w => by simp_all [pv_wst_c, pv_wv]) (fun _ _ _ _ _ _ _ _ _ _ _ _ _ _ _ _ hx hb w => lv_i2c hx hb hdg rfl w) k
theorem pv_dup {v : Value} (hv : v.category = 1) (hdg : decode M.2.1 pc = .ok (.dup, 1)) (k : pv_E Γ d kc ks M (pc + 1) ls (v :: v :: st) ty h r g Q) : pv_E Γ d kc ks M pc ls (v :: st) ty h r g Q := pv_stk (fun w => by simp_all [pv_wst_c]) (fun _ _ _ _ _ _ _ _ _ _ _ _ _ _ _ _ hx hb w => lv_dup hx hb hdg (by rw [pv_cv_cat]; exact hv) w) k
theorem pv_pop {v : Value} (hv : v.category = 1) (hdg : decode M.2.1 pc = .ok (.pop, 1)) (k : pv_E Γ d kc ks M (pc + 1) ls (st) ty h r g Q) : pv_E Γ d kc ks M pc ls (v :: st) ty h r g Q := pv_stk (fun w => by simp_all [pv_wst_c]) (fun _ _ _ _ _ _ _ _ _ _ _ _ _ _ _ _ hx hb w => lv_pop hx hb hdg (by rw [pv_cv_cat]; exact hv) w) k
theorem pv_dup2 {v u : Value} (hv : v.category = 1) (hu : u.category = 1) (hdg : decode M.2.1 pc = .ok (.dup2, 1)) (k : pv_E Γ d kc ks M (pc + 1) ls (v :: u :: v :: u :: st) ty h r g Q) : pv_E Γ d kc ks M pc ls (v :: u :: st) ty h r g Q := pv_stk (fun w => by simp_all [pv_wst_c]) (fun _ _ _ _ _ _ _ _ _ _ _ _ _ _ _ _ hx hb w => lv_dup2_11 hx hb hdg (by rw [pv_cv_cat]; exact hv) (by rw [pv_cv_cat]; exact hu) w) k
theorem pv_if_eq {x : Int32} {off : Int} {tgt : Nat} (hdg : decode M.2.1 pc = .ok (.ifCond .eq off, 3)) (ht : (pc : Int) + off = (tgt : Int)) (kt : x = 0 → pv_E Γ d kc ks M tgt ls st ty h r g Q) (kf : ¬ (x = 0) → pv_E Γ d kc ks M (pc + 3) ls st ty h r g Q) : pv_E Γ d kc ks M pc ls (.int x :: st) ty h r g Q := pv_br (fun w => by simp_all [pv_wst_c]) (fun _ _ _ _ _ _ _ _ _ _ _ _ _ _ _ _ hx hb w1 w2 => lv_if_eq hx hb hdg ht w1 w2) kt kf
theorem pv_icmp_eq {x y : Int32} {off : Int} {tgt : Nat} (hdg : decode M.2.1 pc = .ok (.if_icmp .eq off, 3)) (ht : (pc : Int) + off = (tgt : Int)) (kt : x = y → pv_E Γ d kc ks M tgt ls st ty h r g Q) (kf : ¬ (x = y) → pv_E Γ d kc ks M (pc + 3) ls st ty h r g Q) : pv_E Γ d kc ks M pc ls (.int y :: .int x :: st) ty h r g Q := pv_br (fun w => by simp_all [pv_wst_c]) (fun _ _ _ _ _ _ _ _ _ _ _ _ _ _ _ _ hx hb w1 w2 => lv_icmp_eq hx hb hdg ht w1 w2) kt kf
theorem pv_if_ne {x : Int32} {off : Int} {tgt : Nat} (hdg : decode M.2.1 pc = .ok (.ifCond .ne off, 3)) (ht : (pc : Int) + off = (tgt : Int)) (kt : ¬ x = 0 → pv_E Γ d kc ks M tgt ls st ty h r g Q) (kf : x = 0 → pv_E Γ d kc ks M (pc + 3) ls st ty h r g Q) : pv_E Γ d kc ks M pc ls (.int x :: st) ty h r g Q := pv_br (P := x = 0) (fun w => by simp_all [pv_wst_c]) (fun _ _ _ _ _ _ _ _ _ _ _ _ _ _ _ _ hx hb w1 w2 => lv_if_ne hx hb hdg ht w2 w1) kf kt
theorem pv_icmp_ne {x y : Int32} {off : Int} {tgt : Nat} (hdg : decode M.2.1 pc = .ok (.if_icmp .ne off, 3)) (ht : (pc : Int) + off = (tgt : Int)) (kt : ¬ x = y → pv_E Γ d kc ks M tgt ls st ty h r g Q) (kf : x = y → pv_E Γ d kc ks M (pc + 3) ls st ty h r g Q) : pv_E Γ d kc ks M pc ls (.int y :: .int x :: st) ty h r g Q := pv_br (P := x = y) (fun w => by simp_all [pv_wst_c]) (fun _ _ _ _ _ _ _ _ _ _ _ _ _ _ _ _ hx hb w1 w2 => lv_icmp_ne hx hb hdg ht w2 w1) kf kt
theorem pv_if_lt {x : Int32} {off : Int} {tgt : Nat} (hdg : decode M.2.1 pc = .ok (.ifCond .lt off, 3)) (ht : (pc : Int) + off = (tgt : Int)) (kt : x < 0 → pv_E Γ d kc ks M tgt ls st ty h r g Q) (kf : ¬ (x < 0) → pv_E Γ d kc ks M (pc + 3) ls st ty h r g Q) : pv_E Γ d kc ks M pc ls (.int x :: st) ty h r g Q := pv_br (fun w => by simp_all [pv_wst_c]) (fun _ _ _ _ _ _ _ _ _ _ _ _ _ _ _ _ hx hb w1 w2 => lv_if_lt hx hb hdg ht w1 w2) kt kf
theorem pv_icmp_lt {x y : Int32} {off : Int} {tgt : Nat} (hdg : decode M.2.1 pc = .ok (.if_icmp .lt off, 3)) (ht : (pc : Int) + off = (tgt : Int)) (kt : x < y → pv_E Γ d kc ks M tgt ls st ty h r g Q) (kf : ¬ (x < y) → pv_E Γ d kc ks M (pc + 3) ls st ty h r g Q) : pv_E Γ d kc ks M pc ls (.int y :: .int x :: st) ty h r g Q := pv_br (fun w => by simp_all [pv_wst_c]) (fun _ _ _ _ _ _ _ _ _ _ _ _ _ _ _ _ hx hb w1 w2 => lv_icmp_lt hx hb hdg ht w1 w2) kt kf
theorem pv_if_ge {x : Int32} {off : Int} {tgt : Nat} (hdg : decode M.2.1 pc = .ok (.ifCond .ge off, 3)) (ht : (pc : Int) + off = (tgt : Int)) (kt : 0 ≤ x → pv_E Γ d kc ks M tgt ls st ty h r g Q) (kf : ¬ (0 ≤ x) → pv_E Γ d kc ks M (pc + 3) ls st ty h r g Q) : pv_E Γ d kc ks M pc ls (.int x :: st) ty h r g Q := pv_br (fun w => by simp_all [pv_wst_c]) (fun _ _ _ _ _ _ _ _ _ _ _ _ _ _ _ _ hx hb w1 w2 => lv_if_ge hx hb hdg ht w1 w2) kt kf
theorem pv_icmp_ge {x y : Int32} {off : Int} {tgt : Nat} (hdg : decode M.2.1 pc = .ok (.if_icmp .ge off, 3)) (ht : (pc : Int) + off = (tgt : Int)) (kt : y ≤ x → pv_E Γ d kc ks M tgt ls st ty h r g Q) (kf : ¬ (y ≤ x) → pv_E Γ d kc ks M (pc + 3) ls st ty h r g Q) : pv_E Γ d kc ks M pc ls (.int y :: .int x :: st) ty h r g Q := pv_br (fun w => by simp_all [pv_wst_c]) (fun _ _ _ _ _ _ _ _ _ _ _ _ _ _ _ _ hx hb w1 w2 => lv_icmp_ge hx hb hdg ht w1 w2) kt kf
theorem pv_if_gt {x : Int32} {off : Int} {tgt : Nat} (hdg : decode M.2.1 pc = .ok (.ifCond .gt off, 3)) (ht : (pc : Int) + off = (tgt : Int)) (kt : 0 < x → pv_E Γ d kc ks M tgt ls st ty h r g Q) (kf : ¬ (0 < x) → pv_E Γ d kc ks M (pc + 3) ls st ty h r g Q) : pv_E Γ d kc ks M pc ls (.int x :: st) ty h r g Q := pv_br (fun w => by simp_all [pv_wst_c]) (fun _ _ _ _ _ _ _ _ _ _ _ _ _ _ _ _ hx hb w1 w2 => lv_if_gt hx hb hdg ht w1 w2) kt kf
theorem pv_icmp_gt {x y : Int32} {off : Int} {tgt : Nat} (hdg : decode M.2.1 pc = .ok (.if_icmp .gt off, 3)) (ht : (pc : Int) + off = (tgt : Int)) (kt : y < x → pv_E Γ d kc ks M tgt ls st ty h r g Q) (kf : ¬ (y < x) → pv_E Γ d kc ks M (pc + 3) ls st ty h r g Q) : pv_E Γ d kc ks M pc ls (.int y :: .int x :: st) ty h r g Q := pv_br (fun w => by simp_all [pv_wst_c]) (fun _ _ _ _ _ _ _ _ _ _ _ _ _ _ _ _ hx hb w1 w2 => lv_icmp_gt hx hb hdg ht w1 w2) kt kf
theorem pv_if_le {x : Int32} {off : Int} {tgt : Nat} (hdg : decode M.2.1 pc = .ok (.ifCond .le off, 3)) (ht : (pc : Int) + off = (tgt : Int)) (kt : x ≤ 0 → pv_E Γ d kc ks M tgt ls st ty h r g Q) (kf : ¬ (x ≤ 0) → pv_E Γ d kc ks M (pc + 3) ls st ty h r g Q) : pv_E Γ d kc ks M pc ls (.int x :: st) ty h r g Q := pv_br (fun w => by simp_all [pv_wst_c]) (fun _ _ _ _ _ _ _ _ _ _ _ _ _ _ _ _ hx hb w1 w2 => lv_if_le hx hb hdg ht w1 w2) kt kf
theorem pv_icmp_le {x y : Int32} {off : Int} {tgt : Nat} (hdg : decode M.2.1 pc = .ok (.if_icmp .le off, 3)) (ht : (pc : Int) + off = (tgt : Int)) (kt : x ≤ y → pv_E Γ d kc ks M tgt ls st ty h r g Q) (kf : ¬ (x ≤ y) → pv_E Γ d kc ks M (pc + 3) ls st ty h r g Q) : pv_E Γ d kc ks M pc ls (.int y :: .int x :: st) ty h r g Q := pv_br (fun w => by simp_all [pv_wst_c]) (fun _ _ _ _ _ _ _ _ _ _ _ _ _ _ _ _ hx hb w1 w2 => lv_icmp_le hx hb hdg ht w1 w2) kt kf
theorem pv_goto {off : Int} {tgt : Nat} (hdg : decode M.2.1 pc = .ok (.goto off, 3)) (ht : (pc : Int) + off = (tgt : Int)) (k : pv_E Γ d kc ks M tgt ls st ty h r g Q) : pv_E Γ d kc ks M pc ls st ty h r g Q := pv_stk id (fun _ _ _ _ _ _ _ _ _ _ _ _ _ _ _ _ hx hb w => lv_goto hx hb hdg ht w) k
theorem pv_ifnull {a : Nat} {off : Int} {tgt : Nat} (hdg : decode M.2.1 pc = .ok (.ifnull off, 3)) (ht : (pc : Int) + off = (tgt : Int)) (kt : a = 0 → pv_E Γ d kc ks M tgt ls st ty h r g Q) (kf : ¬ a = 0 → pv_E Γ d kc ks M (pc + 3) ls st ty h r g Q) : pv_E Γ d kc ks M pc ls (.ref a :: st) ty h r g Q :=
  pv_br (P := a = 0) (fun w => by simp_all [pv_wst_c]) (fun _ _ _ _ _ _ _ _ _ _ _ _ _ ρ _ _ hx hb w1 w2 => by
    cases a with
    | zero => exact lv_ifnullN hx hb hdg ht (w1 rfl)
    | succ n => exact lv_ifnull hx hb hdg (w2 (Nat.succ_ne_zero n))) kt kf
theorem pv_ifnonnull {a : Nat} {off : Int} {tgt : Nat} (hdg : decode M.2.1 pc = .ok (.ifnonnull off, 3)) (ht : (pc : Int) + off = (tgt : Int)) (kt : ¬ a = 0 → pv_E Γ d kc ks M tgt ls st ty h r g Q) (kf : a = 0 → pv_E Γ d kc ks M (pc + 3) ls st ty h r g Q) : pv_E Γ d kc ks M pc ls (.ref a :: st) ty h r g Q :=
  pv_br (P := a = 0) (fun w => by simp_all [pv_wst_c]) (fun _ _ _ _ _ _ _ _ _ _ _ _ _ ρ _ _ hx hb w1 w2 => by
    cases a with
    | zero => exact lv_ifnonnullN hx hb hdg (w1 rfl)
    | succ n => exact lv_ifnonnull hx hb hdg ht (w2 (Nat.succ_ne_zero n))) kf kt
theorem pv_tableIn {dflt lo hi : Int} {offs : Array Int} {len : Nat} {x : Int32} {off : Int} {tgt : Nat} (hdg : decode M.2.1 pc = .ok (.tableswitch dflt lo hi offs, len)) (h1 : ¬ x.toInt < lo) (h2 : ¬ hi < x.toInt) (ho : offs[(x.toInt - lo).toNat]? = some off) (ht : (pc : Int) + off = (tgt : Int)) (k : pv_E Γ d kc ks M tgt ls st ty h r g Q) : pv_E Γ d kc ks M pc ls (.int x :: st) ty h r g Q := pv_stk (fun w => by simp_all [pv_wst_c]) (fun _ _ _ _ _ _ _ _ _ _ _ _ _ _ _ _ hx hb w => lv_tableIn hx hb hdg h1 h2 ho ht w) k
theorem pv_tableOut {dflt lo hi : Int} {offs : Array Int} {len : Nat} {x : Int32} {tgt : Nat} (hdg : decode M.2.1 pc = .ok (.tableswitch dflt lo hi offs, len)) (hx0 : x.toInt < lo ∨ hi < x.toInt) (ht : (pc : Int) + dflt = (tgt : Int)) (k : pv_E Γ d kc ks M tgt ls st ty h r g Q) : pv_E Γ d kc ks M pc ls (.int x :: st) ty h r g Q := pv_stk (fun w => by simp_all [pv_wst_c]) (fun _ _ _ _ _ _ _ _ _ _ _ _ _ _ _ _ hx hb w => lv_tableOut hx hb hdg hx0 ht w) k
theorem pv_lookup {dflt : Int} {ps : Array (Int × Int)} {len : Nat} {x : Int32} {off : Int} {tgt : Nat} (hdg : decode M.2.1 pc = .ok (.lookupswitch dflt ps, len)) (hp : (ps.toList.zip (ps.toList.drop 1)).all (fun (a, next) => a.1 < next.1) = true) (ho : Op.lookupswitch.offset ps.toList dflt x.toInt = off) (ht : (pc : Int) + off = (tgt : Int)) (k : pv_E Γ d kc ks M tgt ls st ty h r g Q) : pv_E Γ d kc ks M pc ls (.int x :: st) ty h r g Q := pv_stk (fun w => by simp_all [pv_wst_c]) (fun _ _ _ _ _ _ _ _ _ _ _ _ _ _ _ _ hx hb w => lv_lookup hx hb hdg hp ho ht w) k
theorem pv_ldc {index : Nat} {v : Int32} (hdg : decode M.2.1 pc = .ok (.ldc index, 2)) (hc : Cond.constant M.1.cls index v ∈ pv_gt) (k : pv_E Γ d kc ks M (pc + 2) ls (.int v :: st) ty h r g Q) : pv_E Γ d kc ks M pc ls st ty h r g Q := by
  intro p e R s m args below meth c H locs cells slots ρ lz Z hK
  obtain ⟨hx, hb, hml, hown, hr, hlk, hnm, hts, henv, hdd⟩ := hK.1
  exact lv_ldc hx hb hown (hts _ hc) hdg (k _ _ _ _ _ _ _ _ _ _ _ _ _ ρ _ _ ⟨hK.1, hK.2.1, hK.2.2.1, hK.2.2.2.1, pv_wst_c.mpr ⟨trivial, hK.2.2.2.2.1⟩, hK.2.2.2.2.2⟩)
theorem pv_ldcw {index : Nat} {v : Int32} (hdg : decode M.2.1 pc = .ok (.ldc_w index, 3)) (hc : Cond.constant M.1.cls index v ∈ pv_gt) (k : pv_E Γ d kc ks M (pc + 3) ls (.int v :: st) ty h r g Q) : pv_E Γ d kc ks M pc ls st ty h r g Q := by
  intro p e R s m args below meth c H locs cells slots ρ lz Z hK
  obtain ⟨hx, hb, hml, hown, hr, hlk, hnm, hts, henv, hdd⟩ := hK.1
  exact lv_ldcw hx hb hown (hts _ hc) hdg (k _ _ _ _ _ _ _ _ _ _ _ _ _ ρ _ _ ⟨hK.1, hK.2.1, hK.2.2.1, hK.2.2.2.1, pv_wst_c.mpr ⟨trivial, hK.2.2.2.2.1⟩, hK.2.2.2.2.2⟩)
theorem pv_ldc2 {index : Nat} {v : Int64} (hdg : decode M.2.1 pc = .ok (.ldc2_w index, 3)) (hc : Cond.constantLong M.1.cls index v ∈ pv_gt) (k : pv_E Γ d kc ks M (pc + 3) ls (.long v :: st) ty h r g Q) : pv_E Γ d kc ks M pc ls st ty h r g Q := by
  intro p e R s m args below meth c H locs cells slots ρ lz Z hK
  obtain ⟨hx, hb, hml, hown, hr, hlk, hnm, hts, henv, hdd⟩ := hK.1
  exact lv_ldc2 hx hb hown (hts _ hc) hdg (k _ _ _ _ _ _ _ _ _ _ _ _ _ ρ _ _ ⟨hK.1, hK.2.1, hK.2.2.1, hK.2.2.2.1, pv_wst_c.mpr ⟨trivial, hK.2.2.2.2.1⟩, hK.2.2.2.2.2⟩)
theorem pv_iload_n {i : Fin 4} {x : Int32} (hdg : decode M.2.1 pc = .ok (.iload_n i, 1)) (hl : pv_lAt ls i = some (.int x)) (k : pv_E Γ d kc ks M (pc + 1) ls (.int x :: st) ty h r g Q) : pv_E Γ d kc ks M pc ls st ty h r g Q := by
  intro p e R s m args below meth c H locs cells slots ρ lz Z hK
  have hb := hK.1.2.1
  have hx := hK.1.1
  exact lv_iload_n hx hb hdg rfl (hK.2.2.2.1.2.2 _ _ hl) (k _ _ _ _ _ _ _ _ _ _ _ _ _ ρ _ _ ⟨hK.1, hK.2.1, hK.2.2.1, hK.2.2.2.1, pv_wst_c.mpr ⟨trivial, hK.2.2.2.2.1⟩, hK.2.2.2.2.2⟩)
theorem pv_iload {i : Nat} {x : Int32} (hdg : decode M.2.1 pc = .ok (.iload i, 2)) (hl : pv_lAt ls i = some (.int x)) (k : pv_E Γ d kc ks M (pc + 2) ls (.int x :: st) ty h r g Q) : pv_E Γ d kc ks M pc ls st ty h r g Q := by
  intro p e R s m args below meth c H locs cells slots ρ lz Z hK
  have hb := hK.1.2.1
  have hx := hK.1.1
  exact lv_iload hx hb hdg (hK.2.2.2.1.2.2 _ _ hl) (k _ _ _ _ _ _ _ _ _ _ _ _ _ ρ _ _ ⟨hK.1, hK.2.1, hK.2.2.1, hK.2.2.2.1, pv_wst_c.mpr ⟨trivial, hK.2.2.2.2.1⟩, hK.2.2.2.2.2⟩)
theorem pv_lload_n {i : Fin 4} {x : Int64} (hdg : decode M.2.1 pc = .ok (.lload_n i, 1)) (hl : pv_lAt ls i = some (.long x)) (k : pv_E Γ d kc ks M (pc + 1) ls (.long x :: st) ty h r g Q) : pv_E Γ d kc ks M pc ls st ty h r g Q := by
  intro p e R s m args below meth c H locs cells slots ρ lz Z hK
  have hb := hK.1.2.1
  have hx := hK.1.1
  exact lv_lload_n hx hb hdg rfl (hK.2.2.2.1.2.2 _ _ hl) (k _ _ _ _ _ _ _ _ _ _ _ _ _ ρ _ _ ⟨hK.1, hK.2.1, hK.2.2.1, hK.2.2.2.1, pv_wst_c.mpr ⟨trivial, hK.2.2.2.2.1⟩, hK.2.2.2.2.2⟩)
theorem pv_lload {i : Nat} {x : Int64} (hdg : decode M.2.1 pc = .ok (.lload i, 2)) (hl : pv_lAt ls i = some (.long x)) (k : pv_E Γ d kc ks M (pc + 2) ls (.long x :: st) ty h r g Q) : pv_E Γ d kc ks M pc ls st ty h r g Q := by
  intro p e R s m args below meth c H locs cells slots ρ lz Z hK
  have hb := hK.1.2.1
  have hx := hK.1.1
  exact lv_lload hx hb hdg (hK.2.2.2.1.2.2 _ _ hl) (k _ _ _ _ _ _ _ _ _ _ _ _ _ ρ _ _ ⟨hK.1, hK.2.1, hK.2.2.1, hK.2.2.2.1, pv_wst_c.mpr ⟨trivial, hK.2.2.2.2.1⟩, hK.2.2.2.2.2⟩)
theorem pv_aload_n {i : Fin 4} {x : Nat} (hdg : decode M.2.1 pc = .ok (.aload_n i, 1)) (hl : pv_lAt ls i = some (.ref x)) (k : pv_E Γ d kc ks M (pc + 1) ls (.ref x :: st) ty h r g Q) : pv_E Γ d kc ks M pc ls st ty h r g Q := by
  intro p e R s m args below meth c H locs cells slots ρ lz Z hK
  have hb := hK.1.2.1
  have hx := hK.1.1
  have hg := hK.2.2.2.1.2.2 _ _ hl
  have hw := hK.2.2.2.2.2.1 _ _ hl
  have kk := k _ _ _ _ _ _ _ _ _ _ _ _ _ ρ _ _ ⟨hK.1, hK.2.1, hK.2.2.1, hK.2.2.2.1, pv_wst_c.mpr ⟨hw, hK.2.2.2.2.1⟩, hK.2.2.2.2.2⟩
  cases x with
  | zero => exact lv_aload_nN hx hb hdg rfl hg kk
  | succ n => exact lv_aload_n hx hb hdg rfl hg kk
theorem pv_aload {i : Nat} {x : Nat} (hdg : decode M.2.1 pc = .ok (.aload i, 2)) (hl : pv_lAt ls i = some (.ref x)) (k : pv_E Γ d kc ks M (pc + 2) ls (.ref x :: st) ty h r g Q) : pv_E Γ d kc ks M pc ls st ty h r g Q := by
  intro p e R s m args below meth c H locs cells slots ρ lz Z hK
  have hb := hK.1.2.1
  have hx := hK.1.1
  have hg := hK.2.2.2.1.2.2 _ _ hl
  have hw := hK.2.2.2.2.2.1 _ _ hl
  have kk := k _ _ _ _ _ _ _ _ _ _ _ _ _ ρ _ _ ⟨hK.1, hK.2.1, hK.2.2.1, hK.2.2.2.1, pv_wst_c.mpr ⟨hw, hK.2.2.2.2.1⟩, hK.2.2.2.2.2⟩
  cases x with
  | zero => exact lv_aloadN hx hb hdg hg kk
  | succ n => exact lv_aload hx hb hdg hg kk
def pv_lOK (ls : List (Option Value)) (i : Nat) : Bool := match i with
  | 0 => true
  | k + 1 => match pv_lAt ls k with
    | some v => v.category == 1
    | none => true
def pv_lv (ρ : Nat → Nat) (ls : List (Option Value)) : List (Nat × Value) := (List.range ls.length).filterMap (fun j => (pv_lAt ls j).map (fun w => (j, pv_cv ρ w)))
theorem pv_lAt_lt {ls : List (Option Value)} {i : Nat} {v : Value} (h : pv_lAt ls i = some v) : i < ls.length := by
  unfold pv_lAt at h
  cases hq : ls[i]? with
  | none => rw [hq] at h; cases h
  | some x => exact (List.getElem?_eq_some_iff.mp hq).1
theorem pv_lv_in {ρ : Nat → Nat} {ls : List (Option Value)} {q : Nat × Value} : q ∈ pv_lv ρ ls ↔ ∃ v, pv_lAt ls q.1 = some v ∧ q.2 = pv_cv ρ v := by
  unfold pv_lv
  rw [List.mem_filterMap]
  constructor
  · rintro ⟨j, -, hj⟩
    cases hq : pv_lAt ls j with
    | none => rw [hq] at hj; cases hj
    | some v => rw [hq] at hj; cases hj; exact ⟨v, hq, rfl⟩
  · rintro ⟨v, h1, h2⟩
    obtain ⟨i, w⟩ := q
    exact ⟨i, List.mem_range.mpr (pv_lAt_lt h1), by dsimp only at h1 h2 ⊢; rw [h1, h2]; rfl⟩
theorem pv_lv_has {ρ : Nat → Nat} {lz : Array Slot} {nL : Nat} {ls : List (Option Value)} (h : pv_lRel ρ lz nL ls) : lv_has lz nL (pv_lv ρ ls) := by
  refine ⟨h.1, h.2.1, fun q hq => ?_⟩
  obtain ⟨v, h1, h2⟩ := pv_lv_in.mp hq
  rw [h2]; exact h.2.2 _ _ h1
theorem pv_lAt_set {ls : List (Option Value)} {i j : Nat} {x : Option Value} {v : Value} (h : pv_lAt (ls.set i x) j = some v) : (j = i ∧ x = some v) ∨ (j ≠ i ∧ pv_lAt ls j = some v) := by
  unfold pv_lAt at h ⊢
  by_cases e : j = i
  · subst e
    by_cases hl : j < ls.length
    · rw [List.getElem?_set_self hl] at h
      exact Or.inl ⟨rfl, h⟩
    · rw [List.getElem?_eq_none (by simp; omega)] at h
      cases h
  · rw [List.getElem?_set_ne (Ne.symm e)] at h
    exact Or.inr ⟨e, h⟩
theorem pv_set1 {ρ : Nat → Nat} {lz' : Array Slot} {nL : Nat} {ls : List (Option Value)} {i : Nat} {v : Value} (hok : pv_lOK ls i = true) (h : lv_has lz' nL ((i, pv_cv ρ v) :: (pv_lv ρ ls).filter (fun q => !(q.1 == i) && !(q.1 + 1 == i && q.2.category == 2)))) : pv_lRel ρ lz' nL (ls.set i (some v)) := by
  refine ⟨h.1, h.2.1, fun j w hj => ?_⟩
  rcases pv_lAt_set hj with ⟨rfl, e⟩ | ⟨ne, e⟩
  · cases e
    exact h.2.2 (j, _) List.mem_cons_self
  · refine h.2.2 (j, pv_cv ρ w) (List.mem_cons_of_mem _ (List.mem_filter.mpr ⟨pv_lv_in.mpr ⟨w, e, rfl⟩, ?_⟩))
    have hc : ¬ (j + 1 = i ∧ (pv_cv ρ w).category = 2) := by
      rintro ⟨rfl, h2⟩
      rw [pv_cv_cat] at h2
      simp [pv_lOK, e, h2] at hok
    simp only [Bool.and_eq_true, Bool.not_eq_true', Bool.and_eq_false_iff, beq_eq_false_iff_ne, ne_eq]
    exact ⟨ne, Classical.not_and_iff_not_or_not.mp hc⟩
theorem pv_set2 {ρ : Nat → Nat} {lz' : Array Slot} {nL : Nat} {ls : List (Option Value)} {i : Nat} {v : Value} (hok : pv_lOK ls i = true) (h : lv_has lz' nL ((i, pv_cv ρ v) :: (pv_lv ρ ls).filter (fun q => !(q.1 == i) && (!(q.1 == i + 1) && !(q.1 + 1 == i && q.2.category == 2))))) : pv_lRel ρ lz' nL ((ls.set i (some v)).set (i + 1) none) := by
  refine ⟨h.1, h.2.1, fun j w hj => ?_⟩
  rcases pv_lAt_set hj with ⟨rfl, e0⟩ | ⟨ne1, e0⟩
  · cases e0
  · rcases pv_lAt_set e0 with ⟨rfl, e⟩ | ⟨ne, e⟩
    · cases e
      exact h.2.2 (j, _) List.mem_cons_self
    · refine h.2.2 (j, pv_cv ρ w) (List.mem_cons_of_mem _ (List.mem_filter.mpr ⟨pv_lv_in.mpr ⟨w, e, rfl⟩, ?_⟩))
      have hc : ¬ (j + 1 = i ∧ (pv_cv ρ w).category = 2) := by
        rintro ⟨rfl, h2⟩
        rw [pv_cv_cat] at h2
        simp [pv_lOK, e, h2] at hok
      simp only [Bool.and_eq_true, Bool.not_eq_true', Bool.and_eq_false_iff, beq_eq_false_iff_ne, ne_eq]
      exact ⟨ne, ne1, Classical.not_and_iff_not_or_not.mp hc⟩
theorem pv_wl_set {ls : List (Option Value)} {i : Nat} {x : Option Value} (h : pv_wl ty ls) (hx : ∀ v, x = some v → pv_wv ty v) : pv_wl ty (ls.set i x) := fun j w hj => by
  rcases pv_lAt_set hj with ⟨rfl, e⟩ | ⟨ne, e⟩
  · exact hx w e
  · exact h j w e
theorem pv_istore_n {i : Fin 4} {x : Int32} {ls' : List (Option Value)} (hdg : decode M.2.1 pc = .ok (.istore_n i, 1)) (hi : (i : Nat) < M.2.2.1) (hok : pv_lOK ls i = true) (hs : ls.set i (some (.int x)) = ls') (k : pv_E Γ d kc ks M (pc + 1) ls' st ty h r g Q) : pv_E Γ d kc ks M pc ls (.int x :: st) ty h r g Q := by
  intro p e R s m args below meth c H locs cells slots ρ lz Z hK
  have hb := hK.1.2.1
  have hx := hK.1.1
  subst hs
  exact lv_istore_n hx hb hdg rfl (pv_lv_has hK.2.2.2.1) hi rfl fun lz' hl' => k _ _ _ _ _ _ _ _ _ _ _ _ _ ρ _ _ ⟨hK.1, hK.2.1, hK.2.2.1, pv_set1 (v := .int x) hok hl', (pv_wst_c.mp hK.2.2.2.2.1).2, pv_wl_set hK.2.2.2.2.2.1 (fun v e => by cases e; trivial), hK.2.2.2.2.2.2⟩
theorem pv_istore {i : Nat} {x : Int32} {ls' : List (Option Value)} (hdg : decode M.2.1 pc = .ok (.istore i, 2)) (hi : (i : Nat) < M.2.2.1) (hok : pv_lOK ls i = true) (hs : ls.set i (some (.int x)) = ls') (k : pv_E Γ d kc ks M (pc + 2) ls' st ty h r g Q) : pv_E Γ d kc ks M pc ls (.int x :: st) ty h r g Q := by
  intro p e R s m args below meth c H locs cells slots ρ lz Z hK
  have hb := hK.1.2.1
  have hx := hK.1.1
  subst hs
  exact lv_istore hx hb hdg (pv_lv_has hK.2.2.2.1) hi rfl fun lz' hl' => k _ _ _ _ _ _ _ _ _ _ _ _ _ ρ _ _ ⟨hK.1, hK.2.1, hK.2.2.1, pv_set1 (v := .int x) hok hl', (pv_wst_c.mp hK.2.2.2.2.1).2, pv_wl_set hK.2.2.2.2.2.1 (fun v e => by cases e; trivial), hK.2.2.2.2.2.2⟩
theorem pv_lstore_n {i : Fin 4} {x : Int64} {ls' : List (Option Value)} (hdg : decode M.2.1 pc = .ok (.lstore_n i, 1)) (hi : (i : Nat) + 1 < M.2.2.1) (hok : pv_lOK ls i = true) (hs : (ls.set i (some (.long x))).set ((i : Nat) + 1) none = ls') (k : pv_E Γ d kc ks M (pc + 1) ls' st ty h r g Q) : pv_E Γ d kc ks M pc ls (.long x :: st) ty h r g Q := by
  intro p e R s m args below meth c H locs cells slots ρ lz Z hK
  have hb := hK.1.2.1
  have hx := hK.1.1
  subst hs
  exact lv_lstore_n hx hb hdg rfl (pv_lv_has hK.2.2.2.1) hi rfl fun lz' hl' => k _ _ _ _ _ _ _ _ _ _ _ _ _ ρ _ _ ⟨hK.1, hK.2.1, hK.2.2.1, pv_set2 (v := .long x) hok hl', (pv_wst_c.mp hK.2.2.2.2.1).2, pv_wl_set (pv_wl_set hK.2.2.2.2.2.1 (fun v e => by cases e; trivial)) (fun v e => by cases e), hK.2.2.2.2.2.2⟩
theorem pv_lstore {i : Nat} {x : Int64} {ls' : List (Option Value)} (hdg : decode M.2.1 pc = .ok (.lstore i, 2)) (hi : (i : Nat) + 1 < M.2.2.1) (hok : pv_lOK ls i = true) (hs : (ls.set i (some (.long x))).set ((i : Nat) + 1) none = ls') (k : pv_E Γ d kc ks M (pc + 2) ls' st ty h r g Q) : pv_E Γ d kc ks M pc ls (.long x :: st) ty h r g Q := by
  intro p e R s m args below meth c H locs cells slots ρ lz Z hK
  have hb := hK.1.2.1
  have hx := hK.1.1
  subst hs
  exact lv_lstore hx hb hdg (pv_lv_has hK.2.2.2.1) hi rfl fun lz' hl' => k _ _ _ _ _ _ _ _ _ _ _ _ _ ρ _ _ ⟨hK.1, hK.2.1, hK.2.2.1, pv_set2 (v := .long x) hok hl', (pv_wst_c.mp hK.2.2.2.2.1).2, pv_wl_set (pv_wl_set hK.2.2.2.2.2.1 (fun v e => by cases e; trivial)) (fun v e => by cases e), hK.2.2.2.2.2.2⟩
theorem pv_astore_n {i : Fin 4} {x : Nat} {ls' : List (Option Value)} (hdg : decode M.2.1 pc = .ok (.astore_n i, 1)) (hi : (i : Nat) < M.2.2.1) (hok : pv_lOK ls i = true) (hs : ls.set i (some (.ref x)) = ls') (k : pv_E Γ d kc ks M (pc + 1) ls' st ty h r g Q) : pv_E Γ d kc ks M pc ls (.ref x :: st) ty h r g Q := by
  intro p e R s m args below meth c H locs cells slots ρ lz Z hK
  have hb := hK.1.2.1
  have hx := hK.1.1
  subst hs
  have hw := pv_wst_c.mp hK.2.2.2.2.1
  have kk : ∀ lz', lv_has lz' M.2.2.1 (((i : Nat), pv_cv ρ (.ref x)) :: (pv_lv ρ ls).filter (fun q => !(q.1 == (i : Nat)) && !(q.1 + 1 == (i : Nat) && q.2.category == 2))) → W p Γ.1 e R s m args below meth c H locs cells slots Z (F0 m (pc + 1) lz' (st.map (pv_cv ρ))) := fun lz' hl' => k _ _ _ _ _ _ _ _ _ _ _ _ _ ρ _ _ ⟨hK.1, hK.2.1, hK.2.2.1, pv_set1 (v := .ref x) hok hl', hw.2, pv_wl_set hK.2.2.2.2.2.1 (fun v e => by cases e; exact hw.1), hK.2.2.2.2.2.2⟩
  cases x with
  | zero => exact lv_astore_nN hx hb hdg rfl (pv_lv_has hK.2.2.2.1) hi rfl kk
  | succ n => exact lv_astore_n hx hb hdg rfl (pv_lv_has hK.2.2.2.1) hi rfl kk
theorem pv_astore {i : Nat} {x : Nat} {ls' : List (Option Value)} (hdg : decode M.2.1 pc = .ok (.astore i, 2)) (hi : (i : Nat) < M.2.2.1) (hok : pv_lOK ls i = true) (hs : ls.set i (some (.ref x)) = ls') (k : pv_E Γ d kc ks M (pc + 2) ls' st ty h r g Q) : pv_E Γ d kc ks M pc ls (.ref x :: st) ty h r g Q := by
  intro p e R s m args below meth c H locs cells slots ρ lz Z hK
  have hb := hK.1.2.1
  have hx := hK.1.1
  subst hs
  have hw := pv_wst_c.mp hK.2.2.2.2.1
  have kk : ∀ lz', lv_has lz' M.2.2.1 (((i : Nat), pv_cv ρ (.ref x)) :: (pv_lv ρ ls).filter (fun q => !(q.1 == (i : Nat)) && !(q.1 + 1 == (i : Nat) && q.2.category == 2))) → W p Γ.1 e R s m args below meth c H locs cells slots Z (F0 m (pc + 2) lz' (st.map (pv_cv ρ))) := fun lz' hl' => k _ _ _ _ _ _ _ _ _ _ _ _ _ ρ _ _ ⟨hK.1, hK.2.1, hK.2.2.1, pv_set1 (v := .ref x) hok hl', hw.2, pv_wl_set hK.2.2.2.2.2.1 (fun v e => by cases e; exact hw.1), hK.2.2.2.2.2.2⟩
  cases x with
  | zero => exact lv_astoreN hx hb hdg (pv_lv_has hK.2.2.2.1) hi rfl kk
  | succ n => exact lv_astore hx hb hdg (pv_lv_has hK.2.2.2.1) hi rfl kk
theorem pv_iinc {i : Nat} {n : Int} {x v : Int32} {ls' : List (Option Value)} (hdg : decode M.2.1 pc = .ok (.iinc i n, 3)) (hl : pv_lAt ls i = some (.int x)) (hv : x + Int32.ofInt n = v) (hok : pv_lOK ls i = true) (hs : ls.set i (some (.int v)) = ls') (k : pv_E Γ d kc ks M (pc + 3) ls' st ty h r g Q) : pv_E Γ d kc ks M pc ls st ty h r g Q := by
  intro p e R s m args below meth c H locs cells slots ρ lz Z hK
  have hb := hK.1.2.1
  have hx := hK.1.1
  subst hs
  have hlr := hK.2.2.2.1
  have hi : i < M.2.2.1 := by rw [← hlr.1]; exact lv_lt (hlr.2.2 _ _ hl)
  obtain ⟨j, hj⟩ := List.getElem?_of_mem (pv_lv_in (ρ := ρ).mpr (show ∃ v, pv_lAt ls ((i, Value.int x) : Nat × Value).1 = some v ∧ ((i, Value.int x) : Nat × Value).2 = pv_cv ρ v from ⟨_, hl, rfl⟩))
  exact lv_iinc hx hb hdg (pv_lv_has hlr) hj hv hi rfl fun lz' hl' => k _ _ _ _ _ _ _ _ _ _ _ _ _ ρ _ _ ⟨hK.1, hK.2.1, hK.2.2.1, pv_set1 (v := .int v) hok hl', hK.2.2.2.2.1, pv_wl_set hK.2.2.2.2.2.1 (fun v e => by cases e; trivial), hK.2.2.2.2.2.2⟩
/-- fewer locals -/
theorem pv_forgetL {ls' : List (Option Value)} (hs : ∀ i v, pv_lAt ls' i = some v → pv_lAt ls i = some v) (k : pv_E Γ d kc ks M pc ls' st ty h r g Q) : pv_E Γ d kc ks M pc ls st ty h r g Q := by
  intro p e R s m args below meth c H locs cells slots ρ lz Z hK
  exact k _ _ _ _ _ _ _ _ _ _ _ _ _ ρ _ _ ⟨hK.1, hK.2.1, hK.2.2.1, ⟨hK.2.2.2.1.1, hK.2.2.2.1.2.1, fun i v hv => hK.2.2.2.1.2.2 i v (hs i v hv)⟩, hK.2.2.2.2.1, fun i v hv => hK.2.2.2.2.2.1 i v (hs i v hv), hK.2.2.2.2.2.2⟩
/-- returns -/
theorem pv_ireturn {x : Int32} {t : FieldType} (hdg : decode M.2.1 pc = .ok (.ireturn, 1)) (hret : M.2.2.2 = some t) (hn : narrow t (.int x) = .int x) (hQ : Q (some (.int x)) ty h r g) : pv_E Γ d kc ks M pc ls [.int x] ty h r g Q := by
  intro p e R s m args below meth c H locs cells slots ρ lz Z hK
  exact hK.2.2.2.2.2.2.2 _ _ _ _ ρ lz pc (some (.int x)) _ _ _ _ hQ (by have := hK.2.1.1; omega) (by have := hK.2.1.2; omega) hK.2.2.1 pv_ext_rfl (fun _ e => by cases e; trivial) hK.2.2.2.2.2.2.1 ⟨hdg, t, hret, hn⟩
theorem pv_lreturn {x : Int64} (hdg : decode M.2.1 pc = .ok (.lreturn, 1)) (hret : M.2.2.2 = some .long) (hQ : Q (some (.long x)) ty h r g) : pv_E Γ d kc ks M pc ls [.long x] ty h r g Q := by
  intro p e R s m args below meth c H locs cells slots ρ lz Z hK
  exact hK.2.2.2.2.2.2.2 _ _ _ _ ρ lz pc (some (.long x)) _ _ _ _ hQ (by have := hK.2.1.1; omega) (by have := hK.2.1.2; omega) hK.2.2.1 pv_ext_rfl (fun _ e => by cases e; trivial) hK.2.2.2.2.2.2.1 ⟨hdg, hret⟩
theorem pv_areturn {x : Nat} {t : FieldType} (hdg : decode M.2.1 pc = .ok (.areturn, 1)) (hret : M.2.2.2 = some t) (ht : (∃ n, t = .object n) ∨ ∃ u, t = .array u) (hQ : Q (some (.ref x)) ty h r g) : pv_E Γ d kc ks M pc ls [.ref x] ty h r g Q := by
  intro p e R s m args below meth c H locs cells slots ρ lz Z hK
  exact hK.2.2.2.2.2.2.2 _ _ _ _ ρ lz pc (some (.ref x)) _ _ _ _ hQ (by have := hK.2.1.1; omega) (by have := hK.2.1.2; omega) hK.2.2.1 pv_ext_rfl (fun _ e => by cases e; exact (pv_wst_c.mp hK.2.2.2.2.1).1) hK.2.2.2.2.2.2.1 ⟨hdg, t, hret, ht⟩
theorem pv_return (hdg : decode M.2.1 pc = .ok (.return_, 1)) (hret : M.2.2.2 = none) (hQ : Q none ty h r g) : pv_E Γ d kc ks M pc ls [] ty h r g Q := by
  intro p e R s m args below meth c H locs cells slots ρ lz Z hK
  exact hK.2.2.2.2.2.2.2 _ _ _ _ ρ lz pc none _ _ _ _ hQ (by have := hK.2.1.1; omega) (by have := hK.2.1.2; omega) hK.2.2.1 pv_ext_rfl (fun _ e => by cases e) hK.2.2.2.2.2.2.1 ⟨hdg, hret⟩
end PVR
end
section
def pv_up {α : Type} (f : Nat → Nat → α) (a j : Nat) (x : α) : Nat → Nat → α := fun b k => if b = a ∧ k = j then x else f b k
theorem pv_up_same {α : Type} (f : Nat → Nat → α) (a j : Nat) (x : α) : pv_up f a j x a j = x := by simp [pv_up]
theorem pv_up_a {α : Type} {f : Nat → Nat → α} {a b j k : Nat} {x : α} (h : b ≠ a) : pv_up f a j x b k = f b k := by simp [pv_up, h]
theorem pv_up_j {α : Type} {f : Nat → Nat → α} {a b j k : Nat} {x : α} (h : k ≠ j) : pv_up f a j x b k = f b k := by simp [pv_up, h]
/-! the classes' tables -/
theorem pv_good_lay (C : String) (T : u_T) (k : Nat) : goodWord (u_lay C T k) = true := by unfold u_lay; split <;> rfl
theorem pv_cls_of {C : String} {T : u_T} {N : Nat} (h : ∀ w ∈ u_ws C T N, w ∈ lw_tbl) : ∀ w ∈ u_ws C T N, w ∈ pv_gt := by
  intro w hw
  obtain ⟨k, -, rfl⟩ := List.mem_map.mp hw
  exact pv_gt_in (h _ hw) (pv_good_lay _ _ _)
theorem pv_cls {c : Nat} {q : vw_C} (h : vwCl[c]? = some q) : (∀ w ∈ u_ws q.1 q.2.1 q.2.2, w ∈ pv_gt) ∧ (∀ k, k < q.2.2 → parseFieldDescriptor (q.2.1 k).2.2.1 = some (pv_fT c k)) ∧ (∀ a, a < q.2.2 → ∀ b, b < q.2.2 → a ≠ b → (q.2.1 a).2.1 ≠ (q.2.1 b).2.1) := by
  match c, h with
  | 0, h => cases h; exact ⟨pv_cls_of inX0, tyX0_ok, nmX0⟩
  | 1, h => cases h; exact ⟨pv_cls_of inX1, tyX1_ok, nmX1⟩
  | 2, h => cases h; exact ⟨pv_cls_of inX2, tyX2_ok, nmX2⟩
  | 3, h => cases h; exact ⟨pv_cls_of inX3, tyX3_ok, nmX3⟩
  | 4, h => cases h; exact ⟨pv_cls_of inX4, tyX4_ok, nmX4⟩
  | 5, h => cases h; exact ⟨pv_cls_of inX5, tyX5_ok, nmX5⟩
  | 6, h => cases h; exact ⟨pv_cls_of inX6, tyX6_ok, nmX6⟩
  | 7, h => cases h; exact ⟨pv_cls_of inX7, tyX7_ok, nmX7⟩
  | 8, h => cases h; exact ⟨pv_cls_of inX8, tyX8_ok, nmX8⟩
  | 9, h => cases h; exact ⟨pv_cls_of inX9, tyX9_ok, nmX9⟩
  | 10, h => cases h; exact ⟨pv_cls_of inX10, tyX10_ok, nmX10⟩
  | 11, h => cases h; exact ⟨pv_cls_of inX11, tyX11_ok, nmX11⟩
  | 12, h => cases h; exact ⟨pv_cls_of inX12, tyX12_ok, nmX12⟩
  | c + 13, h => simp [vwCl] at h
theorem pv_cRel.congr {Γ : pv_C} {ρ ρ1 : Nat → Nat} {U : State} {H H1 : Heap} {h h1 : pv_H} {r r1 : pv_R} {g g1 : pv_G} {a k n : Nat} (x : pv_cRel Γ ρ U H h r g a k n) (hρ : ρ1 a = ρ a) (hH : H1[ρ a]? = H[ρ a]?) (hh : ∀ j, h1 a j = h a j) (hr : ∀ j, pv_cv ρ1 (.ref (r1 a j)) = pv_cv ρ (.ref (r a j))) (hg : ∀ j, g1 a j = g a j) : pv_cRel Γ ρ1 U H1 h1 r1 g1 a k n := by
  have e1 : ∀ j, pv_fV ρ1 h1 r1 a k j = pv_fV ρ h r a k j := fun j => by unfold pv_fV; rw [hh, hr]
  have e2 : ∀ j, pv_eV ρ1 h1 r1 g1 a k j = pv_eV ρ h r g a k j := fun j => by unfold pv_eV; rw [hh, hr, hg]
  rcases x with ⟨x1, q, x2, x3⟩ | ⟨x1, x2, cA, x3, x4, x5, x6⟩
  · refine Or.inl ⟨x1, q, x2, ?_⟩
    rw [hρ]
    exact (x3.kept hH).to (fun j _ => (e1 j).symm)
  · refine Or.inr ⟨x1, x2, cA, ?_, x4, x5, fun j hj => by rw [e2]; exact x6 j hj⟩
    rw [hρ, hH, x3]
    congr 2
    funext j
    exact (e2 j).symm
theorem pv_oRel.congr {Γ : pv_C} {ρ ρ1 : Nat → Nat} {h h1 : pv_H} {r r1 : pv_R} {a k n : Nat} (x : pv_oRel Γ ρ h r a k n) (hρ : ρ1 a = ρ a) (hh : ∀ j, h1 a j = h a j) (hr : ∀ j, r1 a j = r a j) : pv_oRel Γ ρ1 h1 r1 a k n := by
  rcases x with ⟨rfl, x1, x2, x3, x4⟩ | ⟨i, hi, rfl, x1, x2, x3⟩ | ⟨i, hi, rfl, x1, x2, x3, x4⟩
  · exact Or.inl ⟨rfl, x1, x2, hρ.trans x3, fun j hj => (hh j).trans (x4 j hj)⟩
  · exact Or.inr (Or.inl ⟨i, hi, rfl, x1, hρ.trans x2, (hr 0).trans x3⟩)
  · exact Or.inr (Or.inr ⟨i, hi, rfl, x1, x2, hρ.trans x3, fun j hj => (hh j).trans (x4 j hj)⟩)
/-- one cell was written -/
theorem pv_Rep.upd {Γ : pv_C} {ρ : Nat → Nat} {U : State} {H H1 : Heap} {ty : pv_T} {h h1 : pv_H} {r r1 : pv_R} {g g1 : pv_G} {a k n : Nat} (x : pv_Rep Γ ρ U H ty h r g) (ha : 10 ≤ a) (hta : ty a = some (k, n)) (hz : H1.size = H.size) (oq : ∀ q : Nat, q ≠ ρ a → H1[q]? = H[q]?)
    (hh : ∀ b, b ≠ a → ∀ j, h1 b j = h b j) (hr : ∀ b, b ≠ a → ∀ j, r1 b j = r b j) (hg : ∀ b, b ≠ a → ∀ j, g1 b j = g b j) (hc : pv_cRel Γ ρ U H1 h1 r1 g1 a k n) (hcl : ∀ j, r1 a j ≠ 0 → ty (r1 a j) ≠ none) : pv_Rep Γ ρ U H1 ty h1 r1 g1 := by
  have hta' : ty a ≠ none := by rw [hta]; exact Option.some_ne_none _
  have hlo := (x.2.1 a k n hta ha).1
  refine ⟨⟨by rw [hz]; exact x.1.1, fun q hq => ?_⟩, fun b kb nb hb hb10 => ?_, fun b kb nb hb hb10 => ?_, x.2.2.2.1, fun b j hb hne => ?_, x.2.2.2.2.2⟩
  · rw [oq q (by omega)]
    exact x.1.2 q hq
  · by_cases e : b = a
    · subst e
      cases hta.symm.trans hb
      exact ⟨hlo, hc⟩
    · obtain ⟨y1, y2⟩ := x.2.1 b kb nb hb hb10
      exact ⟨y1, y2.congr rfl (oq _ (fun z => e (x.2.2.2.1 b a hb10 ha (by rw [hb]; exact Option.some_ne_none _) hta' z))) (hh b e) (fun j => by rw [hr b e j]) (hg b e)⟩
  · exact (x.2.2.1 b kb nb hb hb10).congr rfl (hh b (by omega)) (hr b (by omega))
  · by_cases e : b = a
    · subst e
      exact hcl j hne
    · rw [hr b e] at hne ⊢
      exact x.2.2.2.2.1 b j hb hne
/-- a cell was made -/
def pv_new {α : Type} (f : Nat → Nat → α) (a : Nat) (x : α) : Nat → Nat → α := fun b k => if b = a then x else f b k
def pv_newT (ty : pv_T) (a k n : Nat) : pv_T := fun b => if b = a then some (k, n) else ty b
def pv_newρ (ρ : Nat → Nat) (a q : Nat) : Nat → Nat := fun b => if b = a then q else ρ b
theorem pv_ext_new {ρ : Nat → Nat} {ty : pv_T} {a q k n : Nat} (hf : ty a = none) : pv_ext ρ ty (pv_newρ ρ a q) (pv_newT ty a k n) := fun b hb => by
  have e : b ≠ a := fun z => hb (by rw [z]; exact hf)
  exact ⟨by simp [pv_newρ, e], by simp [pv_newT, e]; exact hb⟩
theorem pv_cRel.lt {Γ : pv_C} {ρ : Nat → Nat} {U : State} {H : Heap} {h : pv_H} {r : pv_R} {g : pv_G} {a k n : Nat} (x : pv_cRel Γ ρ U H h r g a k n) : ρ a < H.size := by
  rcases x with ⟨x1, q, x2, cell, x3, -⟩ | ⟨x1, x2, cA, x3, -⟩
  · exact (Array.getElem?_eq_some_iff.mp x3).1
  · exact (Array.getElem?_eq_some_iff.mp x3).1
theorem pv_Rep.made {Γ : pv_C} {ρ : Nat → Nat} {U : State} {H H1 : Heap} {ty : pv_T} {h : pv_H} {r : pv_R} {g : pv_G} {a k n : Nat} (x : pv_Rep Γ ρ U H ty h r g) (ha : 10 ≤ a) (hta : ty a = none) (hz : H1.size = H.size + 1) (oq : ∀ q : Nat, q < H.size → H1[q]? = H[q]?)
    (hc : pv_cRel Γ (pv_newρ ρ a H.size) U H1 (pv_new h a 0) (pv_new r a 0) (pv_new g a 0) a k n) : pv_Rep Γ (pv_newρ ρ a H.size) U H1 (pv_newT ty a k n) (pv_new h a 0) (pv_new r a 0) (pv_new g a 0) := by
  have hx := pv_ext_new (ρ := ρ) (q := H.size) (k := k) (n := n) hta
  have tyb : ∀ {b : Nat}, b ≠ a → pv_newT ty a k n b = ty b := fun e => by simp [pv_newT, e]
  have tya : pv_newT ty a k n a = some (k, n) := by simp [pv_newT]
  refine ⟨⟨by have := x.1.1; omega, fun q hq => ?_⟩, fun b kb nb hb hb10 => ?_, fun b kb nb hb hb10 => ?_, fun b c hb hc' hb1 hc1 he => ?_, fun b j hb hne => ?_, ?_⟩
  · rw [oq q (by have := x.1.1; omega)]
    exact x.1.2 q hq
  · by_cases e : b = a
    · subst e
      cases tya.symm.trans hb
      exact ⟨by simp [pv_newρ]; exact x.1.1, hc⟩
    · rw [tyb e] at hb
      obtain ⟨y1, y2⟩ := x.2.1 b kb nb hb hb10
      have hb' : ty b ≠ none := by rw [hb]; exact Option.some_ne_none _
      have eρ : pv_newρ ρ a H.size b = ρ b := by simp [pv_newρ, e]
      refine ⟨by rw [eρ]; exact y1, y2.congr eρ (oq _ y2.lt) (fun j => by simp [pv_new, e]) (fun j => ?_) (fun j => by simp [pv_new, e])⟩
      have e2 : pv_new r a 0 b j = r b j := by simp [pv_new, e]
      rw [e2]
      cases hrj : r b j with
      | zero => rfl
      | succ m =>
        have := x.2.2.2.2.1 b j hb' (by rw [hrj]; exact Nat.succ_ne_zero m)
        rw [hrj] at this
        exact pv_cv_ext hx (v := .ref (m + 1)) this
  · have e : b ≠ a := by omega
    rw [tyb e] at hb
    exact (x.2.2.1 b kb nb hb hb10).congr (by simp [pv_newρ, e]) (fun j => by simp [pv_new, e]) (fun j => by simp [pv_new, e])
  · by_cases e1 : b = a <;> by_cases e2 : c = a
    · rw [e1, e2]
    · rw [tyb e2] at hc1
      obtain ⟨kn, hkn⟩ := Option.ne_none_iff_exists'.mp hc1
      have := (x.2.1 c kn.1 kn.2 hkn hc').2.lt
      simp [pv_newρ, e1, e2] at he
      omega
    · rw [tyb e1] at hb1
      obtain ⟨kn, hkn⟩ := Option.ne_none_iff_exists'.mp hb1
      have := (x.2.1 b kn.1 kn.2 hkn hb).2.lt
      simp [pv_newρ, e1, e2] at he
      omega
    · rw [tyb e1] at hb1
      rw [tyb e2] at hc1
      simp [pv_newρ, e1, e2] at he
      exact x.2.2.2.1 b c hb hc' hb1 hc1 he
  · by_cases e : b = a
    · exact absurd (by simp [pv_new, e]) hne
    · rw [tyb e] at hb
      have e2 : pv_new r a 0 b j = r b j := by simp [pv_new, e]
      rw [e2] at hne ⊢
      exact (hx _ (x.2.2.2.2.1 b j hb hne)).2
  · rw [tyb (by omega)]
    exact x.2.2.2.2.2
/-- an object's cell -/
theorem pv_obj {Γ : pv_C} {ρ : Nat → Nat} {U : State} {H : Heap} {ty : pv_T} {h : pv_H} {r : pv_R} {g : pv_G} {a c n : Nat} (x : pv_Rep Γ ρ U H ty h r g) (hta : ty a = some (c, n)) (hc : c < 13) : 10 ≤ a ∧ ∃ q : vw_C, vwCl[c]? = some q ∧ t_OB (ρ a) ((pv_D Γ).1 c) q.2.2 ((pv_D Γ).2 c) H (fun j => pv_fV ρ h r a c j) := by
  by_cases ha : 10 ≤ a
  · rcases (x.2.1 a c n hta ha).2 with ⟨-, y⟩ | ⟨y, -⟩
    · exact ⟨ha, y⟩
    · omega
  · rcases x.2.2.1 a c n hta (by omega) with ⟨-, y, -⟩ | ⟨i, -, -, y, -⟩ | ⟨i, -, -, y, -⟩ <;> omega
/-- an array's cell, old or new -/
theorem pv_arr {Γ : pv_C} {ρ : Nat → Nat} {U : State} {H : Heap} {ty : pv_T} {h : pv_H} {r : pv_R} {g : pv_G} {a k n : Nat} (x : pv_Rep Γ ρ U H ty h r g) (hE : pv_Env Γ U) (hta : ty a = some (k, n)) (hk : 20 ≤ k) (hk2 : k ≤ 27) :
    ∃ cell : Cell, H[ρ a]? = some cell ∧ U.isArrayOf cell (pv_eT k) ∧ cell.vm ≠ .unknown ∧ n ≤ cell.slots.size ∧ cell.slots.size.toInt32 = Int32.ofNat n ∧ ∀ j, j < n → cell.slots[j]? = some (pv_eV ρ h r g a k j) := by
  by_cases ha : 10 ≤ a
  · rcases (x.2.1 a k n hta ha).2 with ⟨y, -⟩ | ⟨-, -, cA, y1, y2, -⟩
    · omega
    · exact ⟨_, y1, y2 n _, (fun q => by cases q), by rw [arrV_size]; exact Nat.le_refl n, by rw [arrV_size], fun j hj => arrV_read _ _ hj⟩
  · rcases x.2.2.1 a k n hta (by omega) with ⟨rfl, rfl, rfl, y3, y4⟩ | ⟨i, -, -, y, -⟩ | ⟨i, hi, rfl, rfl, rfl, y3, y4⟩
    · obtain ⟨scr, z1, z2, z3, z4, z5⟩ := hE.2.1
      refine ⟨scr, ?_, z2, z3, by omega, by rw [z4], fun j hj => ?_⟩
      · rw [y3, x.1.2 _ hE.2.2.1]; exact z1
      · rw [z5 j hj]
        show some (Value.int _) = some (if (20 : Nat) < 23 then Value.int (h 1 j) else _)
        rw [if_pos (by decide), y4 j hj]
    · omega
    · obtain ⟨-, -, -, cell, z1, z2, z3, z4, z5, z6, z7⟩ := hE.2.2.2.2.1.1 i hi
      have hlen : ([6, 5] : List Nat).getD i 0 = (pv_str i).length := by
        rcases (show i = 0 ∨ i = 1 by omega) with rfl | rfl <;> rfl
      have hby : ([pv_str 0, pv_str 1] : List (List Int32)).getD i [] = pv_str i := by
        rcases (show i = 0 ∨ i = 1 by omega) with rfl | rfl <;> rfl
      rw [hlen] at z4 z5 z6
      rw [hby] at z6
      refine ⟨cell, ?_, z2, z3, z4, z5, fun j hj => ?_⟩
      · rw [y3, x.1.2 _ (Nat.not_le.mp z7)]; exact z1
      · rw [z6 j hj]
        show some (Value.int _) = some (if (21 : Nat) < 23 then Value.int (h (4 + i) j) else _)
        rw [if_pos (by decide), y4 j hj]
/-- a new array's cell, to be written -/
theorem pv_arrW {Γ : pv_C} {ρ : Nat → Nat} {U : State} {H : Heap} {ty : pv_T} {h : pv_H} {r : pv_R} {g : pv_G} {a k n : Nat} (x : pv_Rep Γ ρ U H ty h r g) (hta : ty a = some (k, n)) (hk : 20 ≤ k) (ha : 10 ≤ a) :
    (pv_h0 Γ).size ≤ ρ a ∧ k ≤ 27 ∧ ∃ cA : ClassId, H[ρ a]? = some (arrV cA n (fun j => pv_eV ρ h r g a k j)) ∧ ArrOfT U cA (pv_eT k) ∧ va_RA U cA (pv_eT k) ∧ ∀ j, j < n → fits (pv_eT k) (pv_eV ρ h r g a k j) = true := by
  obtain ⟨y0, y⟩ := x.2.1 a k n hta ha
  rcases y with ⟨y, -⟩ | ⟨-, y1, y2⟩
  · omega
  · exact ⟨y0, y1, y2⟩
end
section
def pv_fld (own : String) (idx c j : Nat) : Prop := ∃ q : vw_C, vwCl[c]? = some q ∧ j < q.2.2 ∧ Cond.fieldLink own idx (q.2.1 j).1 (q.2.1 j).2.1 (q.2.1 j).2.2.1 ∈ pv_gt
def pv_fin (M : pv_M) (c j : Nat) : Prop := ∃ q : vw_C, vwCl[c]? = some q ∧ ((q.2.1 j).2.2.2 = false ∨ ((q.2.1 j).2.2.2 = true ∧ M.1.name = "<init>" ∧ (q.2.1 j).1 = M.1.cls))
theorem pv_c13 {c : Nat} {q : vw_C} (h : vwCl[c]? = some q) : c < 13 := (List.getElem?_eq_some_iff.mp h).1
section PVH
variable {Γ : pv_C} {d kc ks : Nat} {M : pv_M} {pc : Nat} {ls : List (Option Value)} {st : List Value} {ty : pv_T} {h : pv_H} {r : pv_R} {g : pv_G} {Q : pv_Q}
theorem pv_getV {a n idx : Nat} (c j : Nat) {v : Value} (hdg : decode M.2.1 pc = .ok (.getfield idx, 3)) (hf : pv_fld M.1.cls idx c j) (hta : ty a = some (c, n)) (hv : ∀ ρ, pv_fV ρ h r a c j = pv_cv ρ v) (hw : (∀ b i, ty b ≠ none → r b i ≠ 0 → ty (r b i) ≠ none) → pv_wv ty v)
    (k : pv_E Γ d kc ks M (pc + 3) ls (v :: st) ty h r g Q) : pv_E Γ d kc ks M pc ls (.ref a :: st) ty h r g Q := by
  intro p e R s m args below meth c' H locs cells slots ρ lz Z hK
  obtain ⟨hx, hb, hml, hown, hr, hlk, hnm, hts, henv, hdd⟩ := hK.1
  obtain ⟨q, hq, hj, hlink⟩ := hf
  obtain ⟨ha, q', hq', cell, q1, q2, q3, q4⟩ := pv_obj hK.2.2.1 hta (pv_c13 hq)
  cases hq.symm.trans hq'
  obtain ⟨hS, hfc, kC, hkC, hkind⟩ := henv.1 c _ hq
  obtain ⟨cf, kf, fi, f, hi, hsl⟩ := hS j hj
  obtain ⟨a', rfl⟩ : ∃ a', a = a' + 1 := ⟨a - 1, by omega⟩
  refine W.getf hx hb hown (hts _ hlink) hi (u_facts hfc hkC (u_lays hts (pv_cls hq).1 hj) hi).1 q1 (by rw [q3]; exact fun z => by cases z) (v := pv_cv ρ v) ?_ rfl rfl hdg
    (k _ _ _ _ _ _ _ _ _ _ _ _ _ ρ _ _ ⟨hK.1, hK.2.1, hK.2.2.1, hK.2.2.2.1, pv_wst_c.mpr ⟨hw hK.2.2.1.2.2.2.2.1, (pv_wst_c.mp hK.2.2.2.2.1).2⟩, hK.2.2.2.2.2⟩)
  rw [hsl, q4 j hj]
  exact congrArg some (hv ρ)
theorem pv_getI {a n idx : Nat} (c j : Nat) (hdg : decode M.2.1 pc = .ok (.getfield idx, 3)) (hf : pv_fld M.1.cls idx c j) (hR : pv_isR (pv_fT c j) = false) (hta : ty a = some (c, n)) (k : pv_E Γ d kc ks M (pc + 3) ls (.int (h a j) :: st) ty h r g Q) : pv_E Γ d kc ks M pc ls (.ref a :: st) ty h r g Q :=
  pv_getV (v := .int (h a j)) c j hdg hf hta (fun ρ => by simp [pv_fV, hR, pv_cv]) (fun _ => trivial) k
theorem pv_getR {a n idx : Nat} (c j : Nat) (hdg : decode M.2.1 pc = .ok (.getfield idx, 3)) (hf : pv_fld M.1.cls idx c j) (hR : pv_isR (pv_fT c j) = true) (hta : ty a = some (c, n)) (k : pv_E Γ d kc ks M (pc + 3) ls (.ref (r a j) :: st) ty h r g Q) : pv_E Γ d kc ks M pc ls (.ref a :: st) ty h r g Q :=
  pv_getV c j hdg hf hta (fun ρ => by simp [pv_fV, hR]) (fun hc => by
    cases hz : r a j with
    | zero => trivial
    | succ m =>
      have := hc a j (by rw [hta]; exact Option.some_ne_none _) (by rw [hz]; exact Nat.succ_ne_zero m)
      rw [hz] at this
      exact this) k
theorem pv_putV {a n idx : Nat} (c j : Nat) {v : Value} {h1 : pv_H} {r1 : pv_R} (hdg : decode M.2.1 pc = .ok (.putfield idx, 3)) (hf : pv_fld M.1.cls idx c j) (hfin : pv_fin M c j) (hta : ty a = some (c, n)) (hfit : ∀ ρ, narrow (pv_fT c j) (pv_cv ρ v) = pv_cv ρ v ∧ fits (pv_fT c j) (pv_cv ρ v) = true)
    (hh : ∀ b, b ≠ a → ∀ i, h1 b i = h b i) (hr1 : ∀ b, b ≠ a → ∀ i, r1 b i = r b i) (hv : ∀ ρ i, pv_fV ρ h1 r1 a c i = if i = j then pv_cv ρ v else pv_fV ρ h r a c i) (hcl : pv_wv ty v → (∀ b i, ty b ≠ none → r b i ≠ 0 → ty (r b i) ≠ none) → ∀ i, r1 a i ≠ 0 → ty (r1 a i) ≠ none)
    (k : pv_E Γ d kc ks M (pc + 3) ls st ty h1 r1 g Q) : pv_E Γ d kc ks M pc ls (v :: .ref a :: st) ty h r g Q := by
  intro p e R s m args below meth c' H locs cells slots ρ lz Z hK
  obtain ⟨hx, hb, hml, hown, hr, hlk, hnm, hts, henv, hdd⟩ := hK.1
  obtain ⟨q, hq, hj, hlink⟩ := hf
  obtain ⟨ha, q', hq', cell, q1, q2, q3, q4⟩ := pv_obj hK.2.2.1 hta (pv_c13 hq)
  cases hq.symm.trans hq'
  obtain ⟨q', hq', hfin⟩ := hfin
  cases hq.symm.trans hq'
  have hKn := henv.1 c _ hq
  obtain ⟨hS, hfc, kC, hkC, hkind⟩ := id hKn
  obtain ⟨cf, kf, fi, f, hi, hsl⟩ := hS j hj
  obtain ⟨hin, hty, hnm'⟩ := pv_cls hq
  obtain ⟨hn, hfi⟩ := hfit ρ
  have hst := (u_facts hfc hkC (u_lays hts hin hj) hi).1
  have hd := hty j hj
  have hap : ∀ x y, x < q.2.2 → y < q.2.2 → x ≠ y → ((pv_D Γ).2 c) x ≠ ((pv_D Γ).2 c) y := by
    intro x y hx' hy hne
    obtain ⟨_, _, _, fa, hia, ea⟩ := hS x hx'
    obtain ⟨_, _, _, fb, hib, eb⟩ := hS y hy
    rw [← ea, ← eb]
    refine u_apart (u_lays hts hin hx') (u_lays hts hin hy) hia hib ?_
    rw [(State.fieldFound?_type hia (hty x hx')).1, (State.fieldFound?_type hib (hty y hy)).1]
    exact hnm' x hx' y hy hne
  have h6 := u_fits hfc hkC hkind (u_lays hts hin hj) hi hd hn hfi
  have hlay := hts _ (hin _ (u_in_lay hj))
  have hff : hasFlag f.accessFlags Acc.final = false ∨ (m.cls = cf ∧ meth.name = "<init>") := by
    rcases hfin with h0 | ⟨h0, h2, h3⟩
    · unfold u_lay at hlay
      rw [if_neg (by rw [h0]; decide)] at hlay
      exact Or.inl (u_store hfc hkC hkind hlay hi hd hn hfi).1
    · unfold u_lay at hlay
      rw [if_pos h0] at hlay
      refine Or.inr ⟨?_, hnm.trans h2⟩
      obtain ⟨_, _, c', _, _, _, -, -, hf', -, -, -, hown2, -⟩ := Cond.laysFinal_spec hlay
      have e1 : c' = cf := by have := hi.symm.trans hf'; simp at this; exact this.1.symm
      rw [h3] at hown2
      rw [← e1]; exact Option.some.inj (hown.symm.trans hown2)
  obtain ⟨a', rfl⟩ : ∃ a', a = a' + 1 := ⟨a - 1, by omega⟩
  have hal : ρ (a' + 1) < H.size := (Array.getElem?_eq_some_iff.mp q1).1
  have hbase := (hK.2.2.1.2.1 _ _ _ hta ha).1
  refine W.putf hx hb hown (hts _ hlink) hi hst hff q1 (by rw [q3]; exact fun z => by cases z) (by rw [hsl]; exact k2_hasslot (q4 j hj)) h6.1 (by rw [q3, q2]; exact h6.2) rfl rfl hdg
    (k _ _ _ _ _ _ _ _ _ _ _ _ _ ρ _ _ ⟨hK.1, hK.2.1, ?_, hK.2.2.2.1, (pv_wst_c.mp (pv_wst_c.mp hK.2.2.2.2.1).2).2, hK.2.2.2.2.2.1, ?_, hK.2.2.2.2.2.2.2⟩)
  · refine hK.2.2.1.upd ha hta (by simp) (fun x hx' => by simp [Array.getElem?_setIfInBounds, Ne.symm hx']) hh hr1 (fun _ _ _ => rfl) (Or.inl ⟨pv_c13 hq, q, hq, ?_⟩) (hcl (pv_wst_c.mp hK.2.2.2.2.1).1 hK.2.2.1.2.2.2.2.1)
    rw [hsl]
    refine t_OB.to (V := updV (fun i => pv_fV ρ h r (a' + 1) c i) j (pv_cv ρ v)) ⟨cell.setSlot (((pv_D Γ).2 c) j) (pv_cv ρ v), by simp [Array.getElem?_setIfInBounds, hal], q2, q3, t_set q4 hap hj _⟩ (fun i _ => ?_)
    rw [hv]
    rfl
  · intro x hx'
    rcases List.mem_append.mp hx' with h0 | h0
    · exact hK.2.2.2.2.2.2.1 x h0
    · rw [List.mem_singleton.mp h0]
      exact hbase
theorem pv_putI {a n idx : Nat} (c j : Nat) {x : Int32} (hdg : decode M.2.1 pc = .ok (.putfield idx, 3)) (hf : pv_fld M.1.cls idx c j) (hfin : pv_fin M c j) (hT : pv_fT c j = .int ∨ (pv_fT c j = .boolean ∧ (x = 0 ∨ x = 1))) (hta : ty a = some (c, n)) (k : pv_E Γ d kc ks M (pc + 3) ls st ty (pv_up h a j x) r g Q) : pv_E Γ d kc ks M pc ls (.int x :: .ref a :: st) ty h r g Q := by
  have hR : pv_isR (pv_fT c j) = false := by rcases hT with e | ⟨e, -⟩ <;> rw [e] <;> rfl
  refine pv_putV c j hdg hf hfin hta (fun ρ => ?_) (fun b hb i => pv_up_a hb) (fun _ _ _ => rfl) (fun ρ i => ?_) (fun _ hc i hi => hc a i (by rw [hta]; exact Option.some_ne_none _) hi) k
  · rcases hT with e | ⟨e, rfl | rfl⟩ <;> rw [e] <;> exact ⟨rfl, rfl⟩
  · by_cases e : i = j
    · subst e
      rw [if_pos rfl]
      simp [pv_fV, hR, pv_up_same, pv_cv]
    · rw [if_neg e]
      simp only [pv_fV, pv_up_j e]
theorem pv_putR {a n idx : Nat} (c j : Nat) {x : Nat} (hdg : decode M.2.1 pc = .ok (.putfield idx, 3)) (hf : pv_fld M.1.cls idx c j) (hfin : pv_fin M c j) (hR : pv_isR (pv_fT c j) = true) (hta : ty a = some (c, n)) (k : pv_E Γ d kc ks M (pc + 3) ls st ty h (pv_up r a j x) g Q) : pv_E Γ d kc ks M pc ls (.ref x :: .ref a :: st) ty h r g Q := by
  refine pv_putV c j hdg hf hfin hta (fun ρ => ?_) (fun _ _ _ => rfl) (fun b hb i => pv_up_a hb) (fun ρ i => ?_) (fun hv hc i hi => ?_) k
  · cases hT : pv_fT c j with
    | object _ => cases x <;> exact ⟨rfl, rfl⟩
    | array _ => cases x <;> exact ⟨rfl, rfl⟩
    | _ => rw [hT] at hR; cases hR
  · by_cases e : i = j
    · subst e
      rw [if_pos rfl]
      simp [pv_fV, hR, pv_up_same]
    · rw [if_neg e]
      simp only [pv_fV, pv_up_j e]
  · by_cases e : i = j
    · subst e
      rw [pv_up_same] at hi ⊢
      cases x with
      | zero => exact absurd rfl hi
      | succ m => exact hv
    · rw [pv_up_j e] at hi ⊢
      exact hc a i (by rw [hta]; exact Option.some_ne_none _) hi
theorem pv_nz {Γ : pv_C} {ρ : Nat → Nat} {U : State} {H : Heap} {ty : pv_T} {h : pv_H} {r : pv_R} {g : pv_G} {a : Nat} {kn : Nat × Nat} (x : pv_Rep Γ ρ U H ty h r g) (hta : ty a = some kn) : ∃ a', a = a' + 1 := by
  cases a with
  | zero => rw [x.2.2.2.2.2] at hta; cases hta
  | succ m => exact ⟨m, rfl⟩
theorem pv_inlt {i : Int32} {n : Nat} (h : vp_in i n) : i.toNatClampNeg < n := Nat.not_le.mp fun q => h (Or.inr q)
/-- array loads -/
theorem pv_iald {a n : Nat} {i : Int32} (hdg : decode M.2.1 pc = .ok (.iaload, 1)) (hta : ty a = some (20, n)) (hin : vp_in i n) (k : pv_E Γ d kc ks M (pc + 1) ls (.int (h a i.toNatClampNeg) :: st) ty h r g Q) : pv_E Γ d kc ks M pc ls (.int i :: .ref a :: st) ty h r g Q := by
  intro p e R s m args below meth c' H locs cells slots ρ lz Z hK
  obtain ⟨cell, z1, z2, z3, z4, z5, z6⟩ := pv_arr hK.2.2.1 hK.1.2.2.2.2.2.2.2.2.1 hta (by decide) (by decide)
  obtain ⟨a', rfl⟩ := pv_nz hK.2.2.1 hta
  exact W.iald hK.1.1 hK.1.2.1 z1 z2 z3 (fun q => hin (q.imp id (fun q => Nat.le_trans z4 q))) (z6 _ (pv_inlt hin)) rfl rfl hdg (k _ _ _ _ _ _ _ _ _ _ _ _ _ ρ _ _ ⟨hK.1, hK.2.1, hK.2.2.1, hK.2.2.2.1, pv_wst_c.mpr ⟨trivial, (pv_wst_c.mp (pv_wst_c.mp hK.2.2.2.2.1).2).2⟩, hK.2.2.2.2.2⟩)
theorem pv_bald {a n : Nat} {i : Int32} (hdg : decode M.2.1 pc = .ok (.baload, 1)) (hta : ty a = some (21, n)) (hin : vp_in i n) (k : pv_E Γ d kc ks M (pc + 1) ls (.int (h a i.toNatClampNeg) :: st) ty h r g Q) : pv_E Γ d kc ks M pc ls (.int i :: .ref a :: st) ty h r g Q := by
  intro p e R s m args below meth c' H locs cells slots ρ lz Z hK
  obtain ⟨cell, z1, z2, z3, z4, z5, z6⟩ := pv_arr hK.2.2.1 hK.1.2.2.2.2.2.2.2.2.1 hta (by decide) (by decide)
  obtain ⟨a', rfl⟩ := pv_nz hK.2.2.1 hta
  exact W.bald hK.1.1 hK.1.2.1 z1 z2 z3 (fun q => hin (q.imp id (fun q => Nat.le_trans z4 q))) (z6 _ (pv_inlt hin)) rfl rfl hdg (k _ _ _ _ _ _ _ _ _ _ _ _ _ ρ _ _ ⟨hK.1, hK.2.1, hK.2.2.1, hK.2.2.2.1, pv_wst_c.mpr ⟨trivial, (pv_wst_c.mp (pv_wst_c.mp hK.2.2.2.2.1).2).2⟩, hK.2.2.2.2.2⟩)
theorem pv_zald {a n : Nat} {i : Int32} (hdg : decode M.2.1 pc = .ok (.baload, 1)) (hta : ty a = some (22, n)) (hin : vp_in i n) (k : pv_E Γ d kc ks M (pc + 1) ls (.int (h a i.toNatClampNeg) :: st) ty h r g Q) : pv_E Γ d kc ks M pc ls (.int i :: .ref a :: st) ty h r g Q := by
  intro p e R s m args below meth c' H locs cells slots ρ lz Z hK
  obtain ⟨cell, z1, z2, z3, z4, z5, z6⟩ := pv_arr hK.2.2.1 hK.1.2.2.2.2.2.2.2.2.1 hta (by decide) (by decide)
  obtain ⟨a', rfl⟩ := pv_nz hK.2.2.1 hta
  exact W.zald hK.1.1 hK.1.2.1 z1 z2 z3 (fun q => hin (q.imp id (fun q => Nat.le_trans z4 q))) (z6 _ (pv_inlt hin)) rfl rfl hdg (k _ _ _ _ _ _ _ _ _ _ _ _ _ ρ _ _ ⟨hK.1, hK.2.1, hK.2.2.1, hK.2.2.2.1, pv_wst_c.mpr ⟨trivial, (pv_wst_c.mp (pv_wst_c.mp hK.2.2.2.2.1).2).2⟩, hK.2.2.2.2.2⟩)
theorem pv_lald {a n : Nat} {i : Int32} (hdg : decode M.2.1 pc = .ok (.laload, 1)) (hta : ty a = some (23, n)) (hin : vp_in i n) (k : pv_E Γ d kc ks M (pc + 1) ls (.long (g a i.toNatClampNeg) :: st) ty h r g Q) : pv_E Γ d kc ks M pc ls (.int i :: .ref a :: st) ty h r g Q := by
  intro p e R s m args below meth c' H locs cells slots ρ lz Z hK
  obtain ⟨cell, z1, z2, z3, z4, z5, z6⟩ := pv_arr hK.2.2.1 hK.1.2.2.2.2.2.2.2.2.1 hta (by decide) (by decide)
  obtain ⟨a', rfl⟩ := pv_nz hK.2.2.1 hta
  exact W.lald hK.1.1 hK.1.2.1 z1 z2 z3 (fun q => hin (q.imp id (fun q => Nat.le_trans z4 q))) (z6 _ (pv_inlt hin)) rfl rfl hdg (k _ _ _ _ _ _ _ _ _ _ _ _ _ ρ _ _ ⟨hK.1, hK.2.1, hK.2.2.1, hK.2.2.2.1, pv_wst_c.mpr ⟨trivial, (pv_wst_c.mp (pv_wst_c.mp hK.2.2.2.2.1).2).2⟩, hK.2.2.2.2.2⟩)
theorem pv_aald {a n k0 : Nat} {i : Int32} (hdg : decode M.2.1 pc = .ok (.aaload, 1)) (hta : ty a = some (k0, n)) (hk : 24 ≤ k0 ∧ k0 ≤ 27) (hin : vp_in i n) (k : pv_E Γ d kc ks M (pc + 1) ls (.ref (r a i.toNatClampNeg) :: st) ty h r g Q) : pv_E Γ d kc ks M pc ls (.int i :: .ref a :: st) ty h r g Q := by
  intro p e R s m args below meth c' H locs cells slots ρ lz Z hK
  obtain ⟨cell, z1, z2, z3, z4, z5, z6⟩ := pv_arr hK.2.2.1 hK.1.2.2.2.2.2.2.2.2.1 hta (by omega) hk.2
  have hta' : ty a ≠ none := by rw [hta]; exact Option.some_ne_none _
  obtain ⟨a', rfl⟩ := pv_nz hK.2.2.1 hta
  have z7 := z6 _ (pv_inlt hin)
  unfold pv_eV at z7
  rw [if_neg (by omega), if_neg (by omega)] at z7
  refine W.aald hK.1.1 hK.1.2.1 z1 z2 (by rcases (show k0 = 24 ∨ k0 = 25 ∨ k0 = 26 ∨ k0 = 27 by omega) with rfl | rfl | rfl | rfl <;> rfl) z3 (fun q => hin (q.imp id (fun q => Nat.le_trans z4 q))) z7 rfl rfl hdg (k _ _ _ _ _ _ _ _ _ _ _ _ _ ρ _ _ ⟨hK.1, hK.2.1, hK.2.2.1, hK.2.2.2.1, pv_wst_c.mpr ⟨?_, (pv_wst_c.mp (pv_wst_c.mp hK.2.2.2.2.1).2).2⟩, hK.2.2.2.2.2⟩)
  cases hz : r (a' + 1) i.toNatClampNeg with
  | zero => trivial
  | succ b =>
    have := hK.2.2.1.2.2.2.2.1 (a' + 1) i.toNatClampNeg hta' (by rw [hz]; exact Nat.succ_ne_zero b)
    rw [hz] at this
    exact this
theorem pv_alen {a n k0 : Nat} (hdg : decode M.2.1 pc = .ok (.arraylength, 1)) (hta : ty a = some (k0, n)) (hk : 20 ≤ k0 ∧ k0 ≤ 27) (k : pv_E Γ d kc ks M (pc + 1) ls (.int (nI n) :: st) ty h r g Q) : pv_E Γ d kc ks M pc ls (.ref a :: st) ty h r g Q := by
  intro p e R s m args below meth c' H locs cells slots ρ lz Z hK
  obtain ⟨cell, z1, z2, z3, z4, z5, z6⟩ := pv_arr hK.2.2.1 hK.1.2.2.2.2.2.2.2.2.1 hta hk.1 hk.2
  obtain ⟨a', rfl⟩ := pv_nz hK.2.2.1 hta
  exact W.alen hK.1.1 hK.1.2.1 z1 z2 z5 rfl rfl hdg (k _ _ _ _ _ _ _ _ _ _ _ _ _ ρ _ _ ⟨hK.1, hK.2.1, hK.2.2.1, hK.2.2.2.1, pv_wst_c.mpr ⟨trivial, (pv_wst_c.mp hK.2.2.2.2.1).2⟩, hK.2.2.2.2.2⟩)
end PVH
end
section
theorem pv_eV_upI {ρ : Nat → Nat} {h : pv_H} {r : pv_R} {g : pv_G} {a k i : Nat} {x : Int32} (hk : k < 23) : (fun j => pv_eV ρ (pv_up h a i x) r g a k j) = updV (fun j => pv_eV ρ h r g a k j) i (.int x) := by
  funext j
  simp only [updV, pv_eV, if_pos hk]
  by_cases e : j = i
  · rw [if_pos e, e, pv_up_same]
  · rw [if_neg e, pv_up_j e]
theorem pv_eV_upL {ρ : Nat → Nat} {h : pv_H} {r : pv_R} {g : pv_G} {a i : Nat} {x : Int64} : (fun j => pv_eV ρ h r (pv_up g a i x) a 23 j) = updV (fun j => pv_eV ρ h r g a 23 j) i (.long x) := by
  funext j
  unfold updV pv_eV
  by_cases e : j = i
  · rw [if_pos e, e, pv_up_same]; rfl
  · rw [if_neg e, pv_up_j e]
theorem pv_eV_upR {ρ : Nat → Nat} {h : pv_H} {r : pv_R} {g : pv_G} {a k i b : Nat} (hk : 23 < k) : (fun j => pv_eV ρ h (pv_up r a i b) g a k j) = updV (fun j => pv_eV ρ h r g a k j) i (pv_cv ρ (.ref b)) := by
  funext j
  have k1 : ¬ k < 23 := by omega
  have k2 : ¬ k = 23 := by omega
  simp only [updV, pv_eV, if_neg k1, if_neg k2]
  by_cases e : j = i
  · rw [if_pos e, e, pv_up_same]
  · rw [if_neg e, pv_up_j e]
theorem pv_fits_z (x : Int32) : fits .boolean (.int (x &&& 1)) = true := by
  have h : x &&& 1 = 0 ∨ x &&& 1 = 1 := by
    have h1 := pk_and x (m := 1) 1 (by decide)
    have h2 : x.toBitVec.toNat % 2 ^ 1 = 0 ∨ x.toBitVec.toNat % 2 ^ 1 = 1 := by omega
    rcases h2 with h2 | h2 <;> rw [h1, h2]
    · exact Or.inl rfl
    · exact Or.inr rfl
  rcases h with h | h <;> rw [h] <;> rfl
section PVS
variable {Γ : pv_C} {d kc ks : Nat} {M : pv_M} {pc : Nat} {ls : List (Option Value)} {st : List Value} {ty : pv_T} {h : pv_H} {r : pv_R} {g : pv_G} {Q : pv_Q}
theorem pv_locs1 {Γ : pv_C} {locs : List Loc} {a i : Nat} (h1 : ∀ q ∈ locs, (pv_h0 Γ).size ≤ q.base) (h2 : (pv_h0 Γ).size ≤ a) : ∀ q ∈ locs ++ [(⟨a, i⟩ : Loc)], (pv_h0 Γ).size ≤ q.base := by
  intro x hx
  rcases List.mem_append.mp hx with h0 | h0
  · exact h1 x h0
  · rw [List.mem_singleton.mp h0]
    exact h2
theorem pv_iast {a n : Nat} {i x : Int32} (hdg : decode M.2.1 pc = .ok (.iastore, 1)) (hta : ty a = some (20, n)) (ha : 10 ≤ a) (hin : vp_in i n) (k : pv_E Γ d kc ks M (pc + 1) ls st ty (pv_up h a i.toNatClampNeg x) r g Q) : pv_E Γ d kc ks M pc ls (.int x :: .int i :: .ref a :: st) ty h r g Q := by
  intro p e R s m args below meth c' H locs cells slots ρ lz Z hK
  obtain ⟨y0, -, cA, y1, y2, y3, y4⟩ := pv_arrW hK.2.2.1 hta (by decide) ha
  obtain ⟨a', rfl⟩ := pv_nz hK.2.2.1 hta
  refine W.iast hK.1.1 hK.1.2.1 y1 (y2 n _) (fun q => by cases q) (by rw [arrV_size]; exact hin) rfl rfl hdg fun H1 e1 z1 oq => ?_
  refine k _ _ _ _ _ _ _ _ _ _ _ _ _ ρ _ _ ⟨hK.1, hK.2.1, hK.2.2.1.upd ha hta z1 oq (fun b hb j => pv_up_a hb) (fun _ _ _ => rfl) (fun _ _ _ => rfl) (Or.inr ⟨by decide, by decide, cA, ?_, y2, y3, fun j _ => rfl⟩) (fun j hj => hK.2.2.1.2.2.2.2.1 _ j (by rw [hta]; exact Option.some_ne_none _) hj), hK.2.2.2.1, (pv_wst_c.mp (pv_wst_c.mp (pv_wst_c.mp hK.2.2.2.2.1).2).2).2, hK.2.2.2.2.2.1, pv_locs1 hK.2.2.2.2.2.2.1 y0, hK.2.2.2.2.2.2.2⟩
  rw [e1, arrV_store, pv_eV_upI (by decide)]
theorem pv_bast {a n : Nat} {i x : Int32} (hdg : decode M.2.1 pc = .ok (.bastore, 1)) (hta : ty a = some (21, n)) (ha : 10 ≤ a) (hin : vp_in i n) (k : pv_E Γ d kc ks M (pc + 1) ls st ty (pv_up h a i.toNatClampNeg x.toInt8.toInt32) r g Q) : pv_E Γ d kc ks M pc ls (.int x :: .int i :: .ref a :: st) ty h r g Q := by
  intro p e R s m args below meth c' H locs cells slots ρ lz Z hK
  obtain ⟨y0, -, cA, y1, y2, y3, y4⟩ := pv_arrW hK.2.2.1 hta (by decide) ha
  obtain ⟨a', rfl⟩ := pv_nz hK.2.2.1 hta
  refine W.bast hK.1.1 hK.1.2.1 y1 (y2 n _) (fun q => by cases q) (by rw [arrV_size]; exact hin) rfl rfl hdg fun H1 e1 z1 oq => ?_
  refine k _ _ _ _ _ _ _ _ _ _ _ _ _ ρ _ _ ⟨hK.1, hK.2.1, hK.2.2.1.upd ha hta z1 oq (fun b hb j => pv_up_a hb) (fun _ _ _ => rfl) (fun _ _ _ => rfl) (Or.inr ⟨by decide, by decide, cA, ?_, y2, y3, fun j hj => ?_⟩) (fun j hj => hK.2.2.1.2.2.2.2.1 _ j (by rw [hta]; exact Option.some_ne_none _) hj), hK.2.2.2.1, (pv_wst_c.mp (pv_wst_c.mp (pv_wst_c.mp hK.2.2.2.2.1).2).2).2, hK.2.2.2.2.2.1, pv_locs1 hK.2.2.2.2.2.2.1 y0, hK.2.2.2.2.2.2.2⟩
  · rw [e1, arrV_store, pv_eV_upI (by decide)]
    rfl
  · have e2 := congrFun (pv_eV_upI (ρ := ρ) (h := h) (r := r) (g := g) (a := a' + 1) (k := 21) (i := i.toNatClampNeg) (x := x.toInt8.toInt32) (by decide)) j
    rw [e2]
    unfold updV
    split
    · exact pk_fb x
    · exact y4 j hj
theorem pv_zast {a n : Nat} {i x : Int32} (hdg : decode M.2.1 pc = .ok (.bastore, 1)) (hta : ty a = some (22, n)) (ha : 10 ≤ a) (hin : vp_in i n) (k : pv_E Γ d kc ks M (pc + 1) ls st ty (pv_up h a i.toNatClampNeg (x &&& 1)) r g Q) : pv_E Γ d kc ks M pc ls (.int x :: .int i :: .ref a :: st) ty h r g Q := by
  intro p e R s m args below meth c' H locs cells slots ρ lz Z hK
  obtain ⟨y0, -, cA, y1, y2, y3, y4⟩ := pv_arrW hK.2.2.1 hta (by decide) ha
  obtain ⟨a', rfl⟩ := pv_nz hK.2.2.1 hta
  refine W.zast hK.1.1 hK.1.2.1 y1 (y2 n _) (fun q => by cases q) (by rw [arrV_size]; exact hin) rfl rfl hdg fun H1 e1 z1 oq => ?_
  refine k _ _ _ _ _ _ _ _ _ _ _ _ _ ρ _ _ ⟨hK.1, hK.2.1, hK.2.2.1.upd ha hta z1 oq (fun b hb j => pv_up_a hb) (fun _ _ _ => rfl) (fun _ _ _ => rfl) (Or.inr ⟨by decide, by decide, cA, ?_, y2, y3, fun j hj => ?_⟩) (fun j hj => hK.2.2.1.2.2.2.2.1 _ j (by rw [hta]; exact Option.some_ne_none _) hj), hK.2.2.2.1, (pv_wst_c.mp (pv_wst_c.mp (pv_wst_c.mp hK.2.2.2.2.1).2).2).2, hK.2.2.2.2.2.1, pv_locs1 hK.2.2.2.2.2.2.1 y0, hK.2.2.2.2.2.2.2⟩
  · rw [e1, arrV_store, pv_eV_upI (by decide)]
    rfl
  · have e2 := congrFun (pv_eV_upI (ρ := ρ) (h := h) (r := r) (g := g) (a := a' + 1) (k := 22) (i := i.toNatClampNeg) (x := x &&& 1) (by decide)) j
    rw [e2]
    unfold updV
    split
    · exact pv_fits_z x
    · exact y4 j hj
theorem pv_last {a n : Nat} {i : Int32} {x : Int64} (hdg : decode M.2.1 pc = .ok (.lastore, 1)) (hta : ty a = some (23, n)) (ha : 10 ≤ a) (hin : vp_in i n) (k : pv_E Γ d kc ks M (pc + 1) ls st ty h r (pv_up g a i.toNatClampNeg x) Q) : pv_E Γ d kc ks M pc ls (.long x :: .int i :: .ref a :: st) ty h r g Q := by
  intro p e R s m args below meth c' H locs cells slots ρ lz Z hK
  obtain ⟨y0, -, cA, y1, y2, y3, y4⟩ := pv_arrW hK.2.2.1 hta (by decide) ha
  obtain ⟨a', rfl⟩ := pv_nz hK.2.2.1 hta
  refine W.last hK.1.1 hK.1.2.1 y1 (y2 n _) (fun q => by cases q) (by rw [arrV_size]; exact hin) rfl rfl hdg fun H1 e1 z1 oq => ?_
  refine k _ _ _ _ _ _ _ _ _ _ _ _ _ ρ _ _ ⟨hK.1, hK.2.1, hK.2.2.1.upd ha hta z1 oq (fun _ _ _ => rfl) (fun _ _ _ => rfl) (fun b hb j => pv_up_a hb) (Or.inr ⟨by decide, by decide, cA, ?_, y2, y3, fun j _ => rfl⟩) (fun j hj => hK.2.2.1.2.2.2.2.1 _ j (by rw [hta]; exact Option.some_ne_none _) hj), hK.2.2.2.1, (pv_wst_c.mp (pv_wst_c.mp (pv_wst_c.mp hK.2.2.2.2.1).2).2).2, hK.2.2.2.2.2.1, pv_locs1 hK.2.2.2.2.2.2.1 y0, hK.2.2.2.2.2.2.2⟩
  rw [e1, arrV_store, pv_eV_upL]
theorem pv_aast {a n v k0 c nv : Nat} {i : Int32} (hdg : decode M.2.1 pc = .ok (.aastore, 1)) (hta : ty a = some (k0, n)) (hk : (k0 = 24 ∧ c = 8) ∨ (k0 = 25 ∧ c = 3) ∨ (k0 = 26 ∧ c = 0) ∨ (k0 = 27 ∧ c = 6)) (ha : 10 ≤ a) (hin : vp_in i n) (hv : ty v = some (c, nv)) (k : pv_E Γ d kc ks M (pc + 1) ls st ty h (pv_up r a i.toNatClampNeg v) g Q) : pv_E Γ d kc ks M pc ls (.ref v :: .int i :: .ref a :: st) ty h r g Q := by
  intro p e R s m args below meth c' H locs cells slots ρ lz Z hK
  obtain ⟨y0, -, cA, y1, y2, y3, y4⟩ := pv_arrW hK.2.2.1 hta (by omega) ha
  obtain ⟨a', rfl⟩ := pv_nz hK.2.2.1 hta
  obtain ⟨v', rfl⟩ := pv_nz hK.2.2.1 hv
  obtain ⟨-, q, hq, cellV, g1, g2, g3, -⟩ := pv_obj hK.2.2.1 hv (by omega)
  have hcls := (hK.1.2.2.2.2.2.2.2.2.1.1 c q hq).2
  have hlt : i.toNatClampNeg < n := pv_inlt hin
  have h0 : ¬ i < 0 := fun z => hin (Or.inl z)
  have hRA : ∃ (kA : Class) (comp : ClassId), s.vm.classes[cA]? = some kA ∧ kA.kind = .array comp (pv_eT k0) ∧ s.vm.findClass q.1 = some comp := by
    rcases hk with ⟨rfl, rfl⟩ | ⟨rfl, rfl⟩ | ⟨rfl, rfl⟩ | ⟨rfl, rfl⟩ <;> (cases hq; obtain ⟨kA, comp, k1, k2, k3, -⟩ := y3; exact ⟨kA, comp, k1, k2, k3⟩)
  obtain ⟨kA, comp, k1, k2, k3⟩ := hRA
  have hcomp : comp = (pv_D Γ).1 c := Option.some.inj (k3.symm.trans hcls.1)
  subst hcomp
  obtain ⟨kC, hkC, -⟩ := hcls.2
  refine W.aast hK.1.1 hK.1.2.1 y1 (fun q h => by cases h) (fun h => by cases h) k1 k2 (by rcases hk with ⟨rfl, rfl⟩ | ⟨rfl, rfl⟩ | ⟨rfl, rfl⟩ | ⟨rfl, rfl⟩ <;> rfl) hkC ⟨h0, by rw [arrV_size]; exact hlt⟩ g1 (fun q h => by rw [g3] at h; cases h) (by rw [g2]; exact hkC) (by rw [g2]; exact va_assign hcls) rfl rfl hdg fun H1 e1 z1 oq => ?_
  have hta' : ty (a' + 1) ≠ none := by rw [hta]; exact Option.some_ne_none _
  refine k _ _ _ _ _ _ _ _ _ _ _ _ _ ρ _ _ ⟨hK.1, hK.2.1, hK.2.2.1.upd ha hta z1 oq (fun _ _ _ => rfl) (fun b hb j => pv_up_a hb) (fun _ _ _ => rfl) (Or.inr ⟨by omega, by omega, cA, ?_, y2, y3, fun j hj => ?_⟩) (fun j hj => ?_), hK.2.2.2.1, (pv_wst_c.mp (pv_wst_c.mp (pv_wst_c.mp hK.2.2.2.2.1).2).2).2, hK.2.2.2.2.2.1, pv_locs1 hK.2.2.2.2.2.2.1 y0, hK.2.2.2.2.2.2.2⟩
  · rw [e1, arrV_store, pv_eV_upR (by omega)]
    rfl
  · have e2 := congrFun (pv_eV_upR (ρ := ρ) (h := h) (r := r) (g := g) (a := a' + 1) (k := k0) (i := i.toNatClampNeg) (b := v' + 1) (by omega)) j
    rw [e2]
    unfold updV
    split
    · rcases hk with ⟨rfl, rfl⟩ | ⟨rfl, rfl⟩ | ⟨rfl, rfl⟩ | ⟨rfl, rfl⟩ <;> rfl
    · exact y4 j hj
  · by_cases e : j = i.toNatClampNeg
    · subst e
      rw [pv_up_same, hv]
      exact Option.some_ne_none _
    · rw [pv_up_j e] at hj ⊢
      exact hK.2.2.1.2.2.2.2.1 _ j hta' hj
/-! making -/
theorem pv_fT_dv (c j : Nat) : defaultValue (pv_fT c j) = if pv_isR (pv_fT c j) = true then .null else .int 0 := by
  have hall : ∀ t : FieldType, (t = .int ∨ t = .boolean ∨ (∃ n, t = .object n) ∨ ∃ u, t = .array u) → defaultValue t = if pv_isR t = true then .null else .int 0 := by
    rintro t (rfl | rfl | ⟨n, rfl⟩ | ⟨u, rfl⟩) <;> rfl
  apply hall
  unfold pv_fT
  split
  · unfold tyX0; split <;> simp
  · unfold tyX1; split <;> simp
  · unfold tyX2; split <;> simp
  · unfold tyX3; split <;> simp
  · unfold tyX4; split <;> simp
  · unfold tyX5; split <;> simp
  · unfold tyX6; split <;> simp
  · unfold tyX7; split <;> simp
  · unfold tyX8; split <;> simp
  · unfold tyX9; split <;> simp
  · unfold tyX10; split <;> simp
  · unfold tyX11; split <;> simp
  · unfold tyX12; split <;> simp
  · simp
theorem pv_newO {idx : Nat} (nm c : Nat) {q : vw_C} (hdg : decode M.2.1 pc = .ok (.new idx, 3)) (hq : vwCl[c]? = some q) (hcl : Cond.classLink M.1.cls idx q.1 ∈ pv_gt) (hin : Cond.instantiable q.1 q.2.2 ∈ pv_gt) (hini : Cond.initialized q.1 ∈ pv_gt) (hnm : 10 ≤ nm) (hf : ty nm = none) (hkc : 1 ≤ kc) (hks : q.2.2 ≤ ks)
    (k : pv_E Γ d (kc - 1) (ks - q.2.2) M (pc + 3) ls (.ref nm :: st) (pv_newT ty nm c 0) (pv_new h nm 0) (pv_new r nm 0) (pv_new g nm 0) Q) : pv_E Γ d kc ks M pc ls st ty h r g Q := by
  intro p e R s m args below meth c' H locs cells slots ρ lz Z hK
  obtain ⟨hx, hb, hml, hown, hr, hlk, hnm', hts, henv, hdd⟩ := hK.1
  have hKn := henv.1 c _ hq
  have hR := hK.2.1
  refine W.newcK hx hb hown (hts _ hcl) (hts _ hin) (hts _ hini) rfl hdg (by omega) (by omega) hKn.2.1 rfl fun H1 kC hkC e1 z1 o1 => ?_
  have hx2 := pv_ext_new (ρ := ρ) (q := H.size) (k := c) (n := 0) hf
  have es : pv_newρ ρ nm H.size nm = H.size := by simp [pv_newρ]
  obtain ⟨nm', rfl⟩ : ∃ x, nm = x + 1 := ⟨nm - 1, by omega⟩
  have kk := k p e R s m args below meth c' H1 locs (cells + 1) (slots + q.2.2) (pv_newρ ρ (nm' + 1) H.size) lz Z ⟨hK.1, ⟨by omega, by omega⟩, hK.2.2.1.made hnm hf z1 o1 (Or.inl ⟨pv_c13 hq, q, hq, ?_⟩), hK.2.2.2.1.ext hx2 hK.2.2.2.2.2.1, pv_wst_c.mpr ⟨by show pv_newT ty (nm' + 1) c 0 (nm' + 1) ≠ none; simp [pv_newT], hK.2.2.2.2.1.ext hx2⟩, hK.2.2.2.2.2.1.ext hx2, hK.2.2.2.2.2.2.1, hK.2.2.2.2.2.2.2.ext hx2⟩
  · rw [List.map_cons, pv_map_ext hx2 hK.2.2.2.2.1] at kk
    have e3 : pv_cv (pv_newρ ρ (nm' + 1) H.size) (.ref (nm' + 1)) = .ref H.size := congrArg Value.ref es
    rw [e3] at kk
    exact kk
  · rw [es]
    refine (u_born (pv_fT c) hts (pv_cls hq).1 hKn hkC e1 (pv_cls hq).2.1).to (fun j _ => ?_)
    rw [pv_fT_dv]
    unfold pv_fV
    simp [pv_new, pv_cv]
theorem pv_newA {atype : ArrayType} {n : Int32} (nm k0 N : Nat) (hdg : decode M.2.1 pc = .ok (.newarray atype, 2)) (hk : newarray.typeOf atype = pv_eT k0) (hk2 : 20 ≤ k0 ∧ k0 ≤ 23) (harr : Cond.arrayClass (pv_eT k0) ∈ pv_gt) (hn : ¬ n < 0) (hN : n.toNatClampNeg = N) (hbd : N ≤ 1000000) (hnm : 10 ≤ nm) (hf : ty nm = none) (hkc : 1 ≤ kc) (hks : N ≤ ks)
    (k : pv_E Γ d (kc - 1) (ks - N) M (pc + 2) ls (.ref nm :: st) (pv_newT ty nm k0 N) (pv_new h nm 0) (pv_new r nm 0) (pv_new g nm 0) Q) : pv_E Γ d kc ks M pc ls (.int n :: st) ty h r g Q := by
  intro p e R s m args below meth c' H locs cells slots ρ lz Z hK
  obtain ⟨hx, hb, hml, hown, hr, hlk, hnm', hts, henv, hdd⟩ := hK.1
  have hR := hK.2.1
  have hdv : ∀ ρ' : Nat → Nat, ∀ j, defaultValue (pv_eT k0) = pv_eV ρ' (pv_new h nm 0) (pv_new r nm 0) (pv_new g nm 0) nm k0 j := by
    intro ρ' j
    rcases (show k0 = 20 ∨ k0 = 21 ∨ k0 = 22 ∨ k0 = 23 by omega) with rfl | rfl | rfl | rfl <;> simp [pv_eV, pv_new, pv_eT] <;> rfl
  have hcb : componentBytes (pv_eT k0) ≤ 8 := by
    rcases (show k0 = 20 ∨ k0 = 21 ∨ k0 = 22 ∨ k0 = 23 by omega) with rfl | rfl | rfl | rfl <;> decide
  refine va_newaK hx hb (by rw [hk]; exact hts _ harr) rfl hdg rfl hn hN (by rw [hk]; exact Nat.le_trans (Nat.mul_le_mul hbd hcb) (by decide)) (by omega) (by omega) rfl fun H1 cA e1 z1 o1 a1 f1 => ?_
  rw [hk] at e1 a1 f1
  have hx2 := pv_ext_new (ρ := ρ) (q := H.size) (k := k0) (n := N) hf
  have es : pv_newρ ρ nm H.size nm = H.size := by simp [pv_newρ]
  obtain ⟨nm', rfl⟩ : ∃ x, nm = x + 1 := ⟨nm - 1, by omega⟩
  have kk := k p e R s m args below meth c' H1 locs (cells + 1) (slots + N) (pv_newρ ρ (nm' + 1) H.size) lz Z ⟨hK.1, ⟨by omega, by omega⟩, hK.2.2.1.made hnm hf z1 o1 (Or.inr ⟨hk2.1, by omega, cA, ?_, a1, ?_, fun j hj => ?_⟩), hK.2.2.2.1.ext hx2 hK.2.2.2.2.2.1, pv_wst_c.mpr ⟨by show pv_newT ty (nm' + 1) k0 N (nm' + 1) ≠ none; simp [pv_newT], (pv_wst_c.mp hK.2.2.2.2.1).2.ext hx2⟩, hK.2.2.2.2.2.1.ext hx2, hK.2.2.2.2.2.2.1, hK.2.2.2.2.2.2.2.ext hx2⟩
  · rw [List.map_cons, pv_map_ext hx2 (pv_wst_c.mp hK.2.2.2.2.1).2] at kk
    have e3 : pv_cv (pv_newρ ρ (nm' + 1) H.size) (.ref (nm' + 1)) = .ref H.size := congrArg Value.ref es
    rw [e3] at kk
    exact kk
  · rw [es, e1]
    congr 2
    funext j
    exact hdv _ j
  · rcases (show k0 = 20 ∨ k0 = 21 ∨ k0 = 22 ∨ k0 = 23 by omega) with rfl | rfl | rfl | rfl <;> exact f1
  · rw [← hdv]
    rcases (show k0 = 20 ∨ k0 = 21 ∨ k0 = 22 ∨ k0 = 23 by omega) with rfl | rfl | rfl | rfl <;> rfl
theorem pv_newQ {n : Int32} {idx : Nat} (nm k0 N : Nat) (C : String) (hdg : decode M.2.1 pc = .ok (.anewarray idx, 3)) (hk : pv_eT k0 = .object C) (hk2 : 24 ≤ k0 ∧ k0 ≤ 27) (hcl : Cond.classLink M.1.cls idx C ∈ pv_gt) (hov : Cond.arrayOver (.object C) ∈ pv_gt) (hn : ¬ n < 0) (hN : n.toNatClampNeg = N) (hbd : N ≤ 1000000) (hnm : 10 ≤ nm) (hf : ty nm = none) (hkc : 1 ≤ kc) (hks : N ≤ ks)
    (k : pv_E Γ d (kc - 1) (ks - N) M (pc + 3) ls (.ref nm :: st) (pv_newT ty nm k0 N) (pv_new h nm 0) (pv_new r nm 0) (pv_new g nm 0) Q) : pv_E Γ d kc ks M pc ls (.int n :: st) ty h r g Q := by
  intro p e R s m args below meth c' H locs cells slots ρ lz Z hK
  obtain ⟨hx, hb, hml, hown, hr, hlk, hnm', hts, henv, hdd⟩ := hK.1
  have hR := hK.2.1
  have hdv : ∀ ρ' : Nat → Nat, ∀ j, Value.null = pv_eV ρ' (pv_new h nm 0) (pv_new r nm 0) (pv_new g nm 0) nm k0 j := by
    intro ρ' j
    unfold pv_eV
    rw [if_neg (by omega), if_neg (by omega)]
    simp [pv_new, pv_cv]
  subst hN
  refine W.anew hx hb hown (hts _ hcl) (hts _ hov) rfl hdg rfl hn (by omega) (by omega) (by omega) fun cA kA comp f1 f2 f3 f4 => ?_
  generalize hH1 : H.push ({ cls := cA, slots := Array.replicate n.toNatClampNeg .null, vm := .none } : Cell) = H1
  have z1 : H1.size = H.size + 1 := by rw [← hH1, Array.size_push]
  have e1 : H1[H.size]? = some (arrV cA n.toNatClampNeg (fun _ => .null)) := by rw [← hH1, Array.getElem?_push_size, ← arrV_new]
  have o1 : ∀ q : Nat, q < H.size → H1[q]? = H[q]? := fun q hq => by rw [← hH1, Array.getElem?_push, if_neg (Nat.ne_of_lt hq)]
  have hAr : ArrOfT s cA (.object C) := fun N z => ⟨(fun k h => by cases h), kA, f2, comp, f3⟩
  have hx2 := pv_ext_new (ρ := ρ) (q := H.size) (k := k0) (n := n.toNatClampNeg) hf
  have es : pv_newρ ρ nm H.size nm = H.size := by simp [pv_newρ]
  obtain ⟨nm', rfl⟩ : ∃ x, nm = x + 1 := ⟨nm - 1, by omega⟩
  have kk := k p e R s m args below meth c' H1 locs (cells + 1) (slots + n.toNatClampNeg) (pv_newρ ρ (nm' + 1) H.size) lz Z ⟨hK.1, ⟨by omega, by omega⟩, hK.2.2.1.made hnm hf z1 o1 (Or.inr ⟨by omega, by omega, cA, ?_, by rw [hk]; exact hAr, by rw [hk]; exact ⟨kA, comp, f2, f3, f4, f1⟩, fun j hj => ?_⟩), hK.2.2.2.1.ext hx2 hK.2.2.2.2.2.1, pv_wst_c.mpr ⟨by show pv_newT ty (nm' + 1) k0 n.toNatClampNeg (nm' + 1) ≠ none; simp [pv_newT], (pv_wst_c.mp hK.2.2.2.2.1).2.ext hx2⟩, hK.2.2.2.2.2.1.ext hx2, hK.2.2.2.2.2.2.1, hK.2.2.2.2.2.2.2.ext hx2⟩
  · rw [List.map_cons, pv_map_ext hx2 (pv_wst_c.mp hK.2.2.2.2.1).2] at kk
    have e3 : pv_cv (pv_newρ ρ (nm' + 1) H.size) (.ref (nm' + 1)) = .ref H.size := congrArg Value.ref es
    rw [e3] at kk
    exact kk
  · rw [es, e1]
    congr 2
    funext j
    exact hdv _ j
  · rw [← hdv, hk]
    rfl
end PVS
end
section
def pv_mok (N : pv_M) (n : Nat) : Prop := (N.1.cls ≠ "java/lang/invoke/MethodHandle" ∧ N.1.cls ≠ "java/lang/invoke/VarHandle") ∧ Cond.code N.1 N.2.1 N.2.2.1 N.2.2.2 ∈ pv_gt ∧ Cond.initialized N.1.cls ∈ pv_gt ∧ (parseMethodDescriptor N.1.desc).map (fun d => d.parameters.length) = some n ∧ N.2.2.1 ≤ 45
def pv_mokV (N : pv_M) (n : Nat) : Prop := pv_mok N n ∧ Cond.instanceMethod N.1 ∈ pv_gt ∧ Cond.selects N.1.cls N.1 N.1 ∈ pv_gt
def pv_mokS (N : pv_M) (n : Nat) : Prop := pv_mok N n ∧ Cond.static N.1 ∈ pv_gt
def pv_mokI (N : pv_M) (n : Nat) : Prop := pv_mok N n ∧ N.1.name = "<init>" ∧ N.2.2.2 = none ∧ Cond.instanceMethod N.1 ∈ pv_gt
theorem pv_pay {N : pv_M} {args : Array Value} {s : State} (hts : ∀ w ∈ pv_gt, w.before args s = true) (hc : Cond.code N.1 N.2.1 N.2.2.1 N.2.2.2 ∈ pv_gt) : ∀ w ∈ pv_ws N, ∀ (a' : Array Value) (U : State), s.WarmedH U.vm → w.before a' U = true :=
  pay_in hts (fun w hw => by
    rcases List.mem_cons.mp hw with rfl | hw
    · exact ⟨hc, pv_gt_good hc⟩
    · exact ⟨hw, pv_gt_good hw⟩)
theorem pv_callB {R : Room} {s : State} {args : Array Value} {own : String} {idx n d d' kc ks : Nat} {N : pv_M} (hts : ∀ w ∈ pv_gt, w.before args s = true) (hm : pv_mok N n) (hl : Cond.methodLink own idx N.1 ∈ pv_gt) (hd : d' + 1 ≤ d) (hf : d ≤ R.frames) (hlo : 64 * d ≤ R.locals) :
    CallB R s args own idx N.1 N.2.1 N.2.2.1 N.2.2.2 (pv_ws N) ({ frames := d', cells := kc, slots := ks, locals := 64 * d' } : Room) kc ks n := by
  obtain ⟨h1, h2, h3, h4, h5⟩ := hm
  refine ⟨rfl, rfl, by show d' + 1 ≤ _; omega, by show 8 + (_ + 11) + 64 * d' ≤ _; omega, pv_pay hts h2, List.mem_cons_self, hts _ h2, hts _ h3, h1, fun sig hs => ?_, hts _ hl⟩
  rw [hs] at h4
  exact (Option.some.inj h4).symm
theorem pv_blind {Γ : pv_C} {ρ : Nat → Nat} {As Bs : List Value} {ty : pv_T} {h : pv_H} {r : pv_R} {g : pv_G} : FrameBlind (va_Pc As (fun U => pv_Env Γ U ∧ pv_Rep Γ ρ U U.heap ty h r g ∧ pv_wst ty Bs)) :=
  fun a U gg mk hp => ⟨hp.1, hp.2.1.same (U := U.calling gg mk a) rfl, hp.2.2.1.moved (U := U.calling gg mk a) (Vm.Alike.refl U.vm), hp.2.2.2⟩
def pv_Qc (Γ : pv_C) (ρ : Nat → Nat) (ty : pv_T) (Q : pv_Q) : Array Value → State → Outcome → State → Prop := fun _ _ o t => ∃ (ρ' : Nat → Nat) (v : Option Value) (ty' : pv_T) (h' : pv_H) (r' : pv_R) (g' : pv_G), o = .returned (v.map (pv_cv ρ')) ∧ Q v ty' h' r' g' ∧ pv_Rep Γ ρ' t t.heap ty' h' r' g' ∧ pv_ext ρ ty ρ' ty' ∧ (∀ x, v = some x → pv_wv ty' x)
section PVI
variable {Γ : pv_C} {d kc ks : Nat} {M : pv_M} {pc : Nat} {ls : List (Option Value)} {st : List Value} {ty : pv_T} {h : pv_H} {r : pv_R} {g : pv_G} {Q : pv_Q}
/-- behind a call -/
theorem pv_back {p : Program} {e : Env} {R : Room} {s : State} {m : MethodId} {args : Array Value} {below : List Frame} {meth : Method} {c : Code} {H : Heap} {locs : List Loc} {cells slots kc' ks' : Nat} {ρ : Nat → Nat} {lz : Array Slot} {Z : State → Prop} {st0 : List Value} {a : Array Value} {Q' : pv_Q}
    (hr : va_Run p Γ.1 e R s m args below meth c H locs cells slots kc' ks' (F0 m pc lz st0) (st.map (pv_cv ρ)) (pv_Qc Γ ρ ty Q' a) (fun q => (pv_h0 Γ).size ≤ q))
    (hC : pv_Ctx Γ d M p R s m args meth c) (hkc : kc' ≤ kc) (hks : ks' ≤ ks) (hcs : cells + kc ≤ R.cells ∧ slots + ks ≤ R.slots) (hl : pv_lRel ρ lz M.2.2.1 ls) (hw : pv_wst ty st) (hwl : pv_wl ty ls) (hlo : ∀ q ∈ locs, (pv_h0 Γ).size ≤ q.base) (hZ : pv_Ret Γ M p e R s m args below meth c ρ ty Q Z)
    (k : ∀ v ty' h' r' g', Q' v ty' h' r' g' → pv_E Γ d (kc - kc') (ks - ks') M (pc + 3) ls (v.toList ++ st) ty' h' r' g' Q) : W p Γ.1 e R s m args below meth c H locs cells slots Z (F0 m pc lz st0) := by
  intro T hT X
  obtain ⟨v, st₀, t, T', L, h0, X', hL, e1, e2, ⟨ρ', v', ty', h', r', g', hv, hq, hrep, hx, hwv⟩, stp⟩ := hr T hT X
  cases hv
  have hal : s.vm.Alike t.vm := by rw [← e2]; exact X'.warmed.alike
  have hrep' := hrep.moved hal.symm
  have kk := k v' ty' h' r' g' hq p e R s m args below meth c T'.heap (locs ++ L) (cells + kc') (slots + ks') ρ' lz Z ⟨hC, ⟨by omega, by omega⟩, by rw [e1]; exact hrep', hl.ext hx hwl, ?_, hwl.ext hx, ?_, hZ.ext hx⟩
  · have e3 : (v'.toList ++ st).map (pv_cv ρ') = (v'.map (pv_cv ρ')).toList ++ st.map (pv_cv ρ) := by
      rw [List.map_append, pv_map_ext hx hw]
      cases v' <;> rfl
    rw [e3] at kk
    obtain ⟨t2, a1, b1⟩ := kk T' rfl X'
    exact ⟨t2, stp t2 a1, b1⟩
  · intro x hx'
    rcases List.mem_append.mp hx' with h1 | h1
    · cases v' with
      | none => cases h1
      | some y => rw [List.mem_singleton.mp h1]; exact hwv y rfl
    · exact (hw.ext hx) x h1
  · intro q hq'
    rcases List.mem_append.mp hq' with h1 | h1
    · exact hlo q h1
    · exact hL q h1
/-- the receiver's class -/
def pv_recvOK (c : Nat) (C : String) : Prop := (∃ q : vw_C, vwCl[c]? = some q ∧ q.1 = C) ∨ (c = 30 ∧ C = "java/lang/String")
theorem pv_recv {ρ : Nat → Nat} {U : State} {H : Heap} {a c n : Nat} {C : String} (x : pv_Rep Γ ρ U H ty h r g) (hE : pv_Env Γ U) (hta : ty a = some (c, n)) (hc : pv_recvOK c C) : ∃ cell : Cell, H[ρ a]? = some cell ∧ cell.vm.isStatics = false ∧ U.vm.findClass C = some cell.cls := by
  rcases hc with ⟨q, hq, rfl⟩ | ⟨rfl, rfl⟩
  · obtain ⟨-, q', hq', cell, q1, q2, q3, -⟩ := pv_obj x hta (pv_c13 hq)
    cases hq.symm.trans hq'
    exact ⟨cell, q1, by rw [q3]; rfl, by rw [q2]; exact (hE.1 c _ hq).2.1⟩
  · by_cases ha : 10 ≤ a
    · rcases (x.2.1 a 30 n hta ha).2 with ⟨y, -⟩ | ⟨-, y, -⟩ <;> omega
    · rcases x.2.2.1 a 30 n hta (by omega) with ⟨-, y, -⟩ | ⟨i, hi, rfl, -, y, -⟩ | ⟨i, -, -, y, -⟩
      · omega
      · obtain ⟨⟨cell, z1, z2, z3, z4⟩, -⟩ := hE.2.2.2.2.1.1 i hi
        refine ⟨cell, ?_, z2, z3⟩
        rw [y, x.1.2 _ (Nat.not_le.mp z4)]
        exact z1
      · omega
theorem pv_cat8 {ρ : Nat → Nat} {mm : MethodId} {zl : Array Slot} {zst : List Value} (hs : (st.map fun v => v.category).sum ≤ 8) : 2 * (F0 mm pc zl zst).monitorRoom + ((st.map (pv_cv ρ)).map fun v => v.category).sum ≤ 8 := by
  have e : ((st.map (pv_cv ρ)).map fun v => v.category) = st.map fun v => v.category := by
    rw [List.map_map]
    exact List.map_congr_left fun v _ => pv_cv_cat ρ v
  rw [e]
  show 2 * 0 + _ ≤ 8
  omega
theorem pv_invV {idx a n c d' kc' ks' : Nat} {N : pv_M} {As : List Value} {Q' : pv_Q} (hdg : decode M.2.1 pc = .ok (.invokevirtual idx, 3)) (hm : pv_mokV N As.length) (hl : Cond.methodLink M.1.cls idx N.1 ∈ pv_gt) (hta : ty a = some (c, n)) (hc : pv_recvOK c N.1.cls) (hs : (st.map fun v => v.category).sum ≤ 8) (hd : d' + 1 ≤ d) (hkc : kc' ≤ kc) (hks : ks' ≤ ks)
    (hct : pv_CT Γ d' kc' ks' N (.ref a :: As) ty h r g Q') (k : ∀ v ty' h' r' g', Q' v ty' h' r' g' → pv_E Γ d (kc - kc') (ks - ks') M (pc + 3) ls (v.toList ++ st) ty' h' r' g' Q) {stk : List Value} (hst : stk = As.reverse ++ .ref a :: st) : pv_E Γ d kc ks M pc ls stk ty h r g Q := by
  subst hst
  intro p e R s m args below meth c' H locs cells slots ρ lz Z hK
  obtain ⟨hx, hb, hml, hown, hr, hlk, hnm, hts, henv, hdd, hdl⟩ := id hK.1
  have hR := hK.2.1
  obtain ⟨a', rfl⟩ := pv_nz hK.2.2.1 hta
  have hw1 : pv_wst ty st ∧ pv_wst ty (.ref (a' + 1) :: As) := ⟨fun v hv => hK.2.2.2.2.1 v (List.mem_append_right _ (List.mem_cons_of_mem _ hv)), fun v hv => hK.2.2.2.2.1 v (by
    rcases List.mem_cons.mp hv with rfl | hv
    · exact List.mem_append_right _ List.mem_cons_self
    · exact List.mem_append_left _ (List.mem_reverse.mpr hv))⟩
  have e0 : (As.reverse ++ Value.ref (a' + 1) :: st).map (pv_cv ρ) = (As.map (pv_cv ρ)).reverse ++ .ref (ρ (a' + 1)) :: st.map (pv_cv ρ) := by
    rw [List.map_append, List.map_reverse]; rfl
  rw [e0]
  have hrun := va_runV (g := F0 m pc lz ((As.map (pv_cv ρ)).reverse ++ .ref (ρ (a' + 1)) :: st.map (pv_cv ρ))) (rest := st.map (pv_cv ρ)) (p := p) (e := e) (below := below) (meth := meth) (locs := locs) (H := H) (cells := cells) (slots := slots) (C := N.1.cls) (b := ρ (a' + 1)) (As := As.map (pv_cv ρ)) (n := As.length) ⟨hx, hb, hml, hown, hts⟩ (hct ρ) ⟨pv_callB hts hm.1 hl hd hdd hdl, hts _ hm.2.1, hts _ hm.2.2⟩
    ⟨pv_blind, pv_recv hK.2.2.1 henv hta hc, fun U hU hW => ⟨rfl, henv.warm hW, by rw [hU]; exact hK.2.2.1.moved hW.alike, hw1.2⟩⟩ rfl (by simp) hK.2.2.2.1.1 rfl (pv_cat8 hs) hdg ⟨by omega, by omega⟩
  exact pv_back (a := #[]) hrun hK.1 hkc hks hR hK.2.2.2.1 hw1.1 hK.2.2.2.2.2.1 hK.2.2.2.2.2.2.1 hK.2.2.2.2.2.2.2 k
theorem pv_invS {idx d' kc' ks' : Nat} {N : pv_M} {As : List Value} {Q' : pv_Q} (hdg : decode M.2.1 pc = .ok (.invokestatic idx, 3)) (hm : pv_mokS N As.length) (hl : Cond.methodLink M.1.cls idx N.1 ∈ pv_gt) (hs : (st.map fun v => v.category).sum ≤ 8) (hd : d' + 1 ≤ d) (hkc : kc' ≤ kc) (hks : ks' ≤ ks)
    (hct : pv_CT Γ d' kc' ks' N As ty h r g Q') (k : ∀ v ty' h' r' g', Q' v ty' h' r' g' → pv_E Γ d (kc - kc') (ks - ks') M (pc + 3) ls (v.toList ++ st) ty' h' r' g' Q) {stk : List Value} (hst : stk = As.reverse ++ st) : pv_E Γ d kc ks M pc ls stk ty h r g Q := by
  subst hst
  intro p e R s m args below meth c' H locs cells slots ρ lz Z hK
  obtain ⟨hx, hb, hml, hown, hr, hlk, hnm, hts, henv, hdd, hdl⟩ := id hK.1
  have hR := hK.2.1
  have hw1 : pv_wst ty st ∧ pv_wst ty As := ⟨fun v hv => hK.2.2.2.2.1 v (List.mem_append_right _ hv), fun v hv => hK.2.2.2.2.1 v (List.mem_append_left _ (List.mem_reverse.mpr hv))⟩
  have e0 : (As.reverse ++ st).map (pv_cv ρ) = (As.map (pv_cv ρ)).reverse ++ st.map (pv_cv ρ) := by
    rw [List.map_append, List.map_reverse]
  rw [e0]
  have hrun := va_runS (g := F0 m pc lz ((As.map (pv_cv ρ)).reverse ++ st.map (pv_cv ρ))) (rest := st.map (pv_cv ρ)) (p := p) (e := e) (below := below) (meth := meth) (locs := locs) (H := H) (cells := cells) (slots := slots) (As := As.map (pv_cv ρ)) (n := As.length) ⟨hx, hb, hml, hown, hts⟩ (hct ρ) ⟨pv_callB hts hm.1 hl hd hdd hdl, hts _ hm.2⟩
    ⟨pv_blind, fun U hU hW => ⟨rfl, henv.warm hW, by rw [hU]; exact hK.2.2.1.moved hW.alike, hw1.2⟩⟩ rfl (by simp) hK.2.2.2.1.1 rfl (pv_cat8 hs) hdg ⟨by omega, by omega⟩
  exact pv_back (a := #[]) hrun hK.1 hkc hks hR hK.2.2.2.1 hw1.1 hK.2.2.2.2.2.1 hK.2.2.2.2.2.2.1 hK.2.2.2.2.2.2.2 k
theorem pv_invI {idx a n c d' kc' ks' : Nat} {N : pv_M} {As : List Value} {Q' : pv_Q} (hdg : decode M.2.1 pc = .ok (.invokespecial idx, 3)) (hm : pv_mokI N As.length) (hl : Cond.methodLink M.1.cls idx N.1 ∈ pv_gt) (hta : ty a = some (c, n)) (hs : (st.map fun v => v.category).sum ≤ 8) (hd : d' + 1 ≤ d) (hkc : kc' ≤ kc) (hks : ks' ≤ ks)
    (hct : pv_CT Γ d' kc' ks' N (.ref a :: As) ty h r g Q') (k : ∀ v ty' h' r' g', Q' v ty' h' r' g' → pv_E Γ d (kc - kc') (ks - ks') M (pc + 3) ls (v.toList ++ st) ty' h' r' g' Q) {stk : List Value} (hst : stk = As.reverse ++ .ref a :: st) : pv_E Γ d kc ks M pc ls stk ty h r g Q := by
  subst hst
  intro p e R s m args below meth c' H locs cells slots ρ lz Z hK
  obtain ⟨hx, hb, hml, hown, hr, hlk, hnm, hts, henv, hdd, hdl⟩ := id hK.1
  have hR := hK.2.1
  obtain ⟨a', rfl⟩ := pv_nz hK.2.2.1 hta
  have hw1 : pv_wst ty st ∧ pv_wst ty (.ref (a' + 1) :: As) := ⟨fun v hv => hK.2.2.2.2.1 v (List.mem_append_right _ (List.mem_cons_of_mem _ hv)), fun v hv => hK.2.2.2.2.1 v (by
    rcases List.mem_cons.mp hv with rfl | hv
    · exact List.mem_append_right _ List.mem_cons_self
    · exact List.mem_append_left _ (List.mem_reverse.mpr hv))⟩
  have e0 : (As.reverse ++ Value.ref (a' + 1) :: st).map (pv_cv ρ) = (As.map (pv_cv ρ)).reverse ++ .ref (ρ (a' + 1)) :: st.map (pv_cv ρ) := by
    rw [List.map_append, List.map_reverse]; rfl
  rw [e0]
  have hcb := pv_callB (kc := kc') (ks := ks') hts hm.1 hl hd hdd hdl
  rw [hm.2.2.1] at hcb
  have hrun := va_runI (g := F0 m pc lz ((As.map (pv_cv ρ)).reverse ++ .ref (ρ (a' + 1)) :: st.map (pv_cv ρ))) (rest := st.map (pv_cv ρ)) (p := p) (e := e) (below := below) (meth := meth) (locs := locs) (H := H) (cells := cells) (slots := slots) (b := ρ (a' + 1)) (As := As.map (pv_cv ρ)) (n := As.length) ⟨hx, hb, hml, hown, hts⟩ (hct ρ) ⟨hcb, hm.2.1, hts _ hm.2.2.2⟩
    ⟨pv_blind, fun U hU hW => ⟨rfl, henv.warm hW, by rw [hU]; exact hK.2.2.1.moved hW.alike, hw1.2⟩⟩ rfl (by simp) hK.2.2.2.1.1 rfl (pv_cat8 hs) hdg ⟨by omega, by omega⟩
  exact pv_back (a := #[]) hrun hK.1 hkc hks hR hK.2.2.2.1 hw1.1 hK.2.2.2.2.2.1 hK.2.2.2.2.2.2.1 hK.2.2.2.2.2.2.2 k
/-- Object's own constructor -/
theorem pv_objI {idx a : Nat} (hdg : decode M.2.1 pc = .ok (.invokespecial idx, 3)) (hl : Cond.methodLink M.1.cls idx Lib.objectInit ∈ pv_gt) (hi : Cond.instanceMethod Lib.objectInit ∈ pv_gt) (hc : Cond.code Lib.objectInit ⟨#[0xb1]⟩ 1 none ∈ pv_gt) (ha : a ≠ 0) (hd : 1 ≤ d) (hs : (st.map fun v => v.category).sum ≤ 8) (k : pv_E Γ d kc ks M (pc + 3) ls st ty h r g Q) : pv_E Γ d kc ks M pc ls (.ref a :: st) ty h r g Q := by
  intro p e R s m args below meth c' H locs cells slots ρ lz Z hK
  obtain ⟨hx, hb, hml, hown, hr, hlk, hnm, hts, henv, hdd, hdl⟩ := id hK.1
  obtain ⟨a', rfl⟩ : ∃ x, a = x + 1 := ⟨a - 1, by omega⟩
  have h8 : 2 * (F0 m pc lz ((Value.ref (a' + 1) :: st).map (pv_cv ρ))).monitorRoom + ((st.map (pv_cv ρ)).map fun v => v.category).sum ≤ 8 := pv_cat8 hs
  exact W.objInit hx hb hown (hts _ hl) (hts _ hi) (hts _ hc) rfl (by rw [hml]; exact hK.2.2.2.1.1) rfl hdg (by omega) (by omega) (k _ _ _ _ _ _ _ _ _ _ _ _ _ ρ _ _ ⟨hK.1, hK.2.1, hK.2.2.1, hK.2.2.2.1, (pv_wst_c.mp hK.2.2.2.2.1).2, hK.2.2.2.2.2⟩)
/-- a contract out of its body -/
theorem pv_lvargs {vs : List Value} (hc : ∀ v ∈ vs, v.category = 1) : ∀ (k i : Nat) (v : Value), vs[i]? = some v → (k + i, v) ∈ lv_args k vs := by
  induction vs with
  | nil => intro k i v h; simp at h
  | cons x xs ih =>
    intro k i v h
    have hx := hc x List.mem_cons_self
    show (k + i, v) ∈ (k, x) :: lv_args (if x.category = 2 then k + 2 else k + 1) xs
    rw [if_neg (by omega)]
    cases i with
    | zero =>
      simp at h
      rw [h]
      exact List.mem_cons_self
    | succ i =>
      rw [List.getElem?_cons_succ] at h
      have := ih (fun v hv => hc v (List.mem_cons_of_mem _ hv)) (k + 1) i v h
      rw [show k + (i + 1) = k + 1 + i by omega]
      exact List.mem_cons_of_mem _ this
theorem pv_slen {vs : List Value} (hc : ∀ v ∈ vs, v.category = 1) : (lg_sl vs).length = vs.length := by
  induction vs with
  | nil => rfl
  | cons x xs ih =>
    have hx := hc x List.mem_cons_self
    have : lg_sl (x :: xs) = [.val x] ++ lg_sl xs := by
      show (if x.category = 2 then [Slot.val x, .second] else [.val x]) ++ lg_sl xs = _
      rw [if_neg (by omega)]
    rw [this, List.length_append, ih (fun v hv => hc v (List.mem_cons_of_mem _ hv))]
    simp; omega
theorem pv_ofE {As : List Value} (hy : plainName M.1.cls = true) (hcat : ∀ v ∈ As, v.category = 1) (hlen : As.length ≤ M.2.2.1) (hls : ∀ i v, pv_lAt ls i = some v → As[i]? = some v) (hE : pv_E Γ d kc ks M 0 ls [] ty h r g Q) : pv_CT Γ d kc ks M As ty h r g Q := by
  intro ρ
  refine Met.ofW (cc := M.2.1) (maxL := M.2.2.1) (ret := M.2.2.2) hy rfl ?_
  intro p e s m args below meth c s₁ B hml hv
  obtain ⟨rfl, henv, hrep, hwst⟩ := hv
  have hts := atoms_spec (ws := pv_ws M) B.pre
  have hcat' : ∀ v ∈ As.map (pv_cv ρ), v.category = 1 := by
    intro v hv
    obtain ⟨w, hw, rfl⟩ := List.mem_map.mp hv
    rw [pv_cv_cat]
    exact hcat w hw
  have hl := lv_entry (As.map (pv_cv ρ)) (n := M.2.2.1) (by rw [pv_slen hcat', List.length_map]; exact hlen)
  rw [lg_entry_eq]
  refine hE p e _ s m _ below meth c s.heap [] 0 0 ρ _ _ ⟨⟨B.exec, B.bytes, hml, findClass_of_methodNamed B.named, B.returns, B.notSynchronized, (name_of_methodNamed B.named B.method).1, fun w hw => hts w (List.mem_cons_of_mem _ hw), henv, Nat.le_refl d, Nat.le_refl _⟩, ⟨by show 0 + kc ≤ kc; omega, by show 0 + ks ≤ ks; omega⟩, hrep, ⟨hl.1, hl.2.1, fun i v hv => ?_⟩, (fun _ hv => absurd hv List.not_mem_nil), fun i v hv => hwst v (List.mem_of_getElem? (hls i v hv)), (fun _ hq => absurd hq List.not_mem_nil), ?_⟩
  · have h1 := hls i v hv
    have h2 := pv_lvargs hcat' 0 i (pv_cv ρ v) (by rw [List.getElem?_map, h1]; rfl)
    rw [Nat.zero_add] at h2
    exact hl.2.2 _ h2
  · intro H' locs' cells' slots' ρ' lz' pc' v ty' h' r' g' hQ hc1 hc2 hrep' hx hwv hlo hret
    have hq : ∀ t : State, t.heap = H' → s.WarmedH t.vm → pv_Qc Γ ρ ty Q (As.map (pv_cv ρ)).toArray s (.returned (v.map (pv_cv ρ'))) t := fun t ht hW => ⟨ρ', v, ty', h', r', g', rfl, hQ, by rw [ht]; exact hrep'.moved hW.alike, hx, hwv⟩
    have hlk := B.notSynchronized
    refine W.widen (k := kc) (n := ks) hc1 hc2 ?_
    cases v with
    | none => exact W.vret B.exec B.bytes (B.returns.trans hret.2) hq hlo hret.1 hlk
    | some v =>
      cases v with
      | int x =>
        obtain ⟨hd1, t, ht, hn⟩ := hret
        exact W.zret B.exec B.bytes (B.returns.trans ht) hn hq hlo hd1 hlk
      | long x => exact W.lret B.exec B.bytes (B.returns.trans hret.2) hq hlo hret.1 hlk
      | ref x =>
        obtain ⟨hd1, t, ht, hn⟩ := hret
        cases x with
        | zero => exact W.aret B.exec B.bytes (B.returns.trans ht) hn (Or.inl rfl) hq hlo hd1 hlk
        | succ n => exact W.aret B.exec B.bytes (B.returns.trans ht) hn (Or.inr ⟨_, rfl⟩) hq hlo hd1 hlk
      | _ => exact absurd hret id
end PVI
end
