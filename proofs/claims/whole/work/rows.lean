section
-- ===== PART A: goes FIRST, ahead of the names: the tables' words, and 'selects' of the private methods out of them =====
/-- a private method of a class that the tables say can be made, by its rows of tables_1 -/
def lw_okq (q : MethodName × Nat) : Prop := (q.1.cls ≠ "java/lang/invoke/MethodHandle" ∧ q.1.cls ≠ "java/lang/invoke/VarHandle") ∧ Cond.instantiable q.1.cls q.2 ∈ tables_1 ∧ Cond.privateMethod q.1 ∈ tables_1 ∧ Cond.instanceMethod q.1 ∈ tables_1
theorem lw_p0 : lw_okq (⟨"DayCords$Reader", "skipBlanks", "()V"⟩, 5) := ⟨⟨by decide +kernel, by decide +kernel⟩, List.mem_of_getElem? (i := 26) (by decide +kernel), List.mem_of_getElem? (i := 329) (by decide +kernel), List.mem_of_getElem? (i := 330) (by decide +kernel)⟩
theorem lw_p1 : lw_okq (⟨"DayCords$Reader", "readClause", "(LDayCords$Plan;)V"⟩, 5) := ⟨⟨by decide +kernel, by decide +kernel⟩, List.mem_of_getElem? (i := 26) (by decide +kernel), List.mem_of_getElem? (i := 333) (by decide +kernel), List.mem_of_getElem? (i := 334) (by decide +kernel)⟩
theorem lw_p2 : lw_okq (⟨"DayCords$Reader", "letterHere", "()I"⟩, 5) := ⟨⟨by decide +kernel, by decide +kernel⟩, List.mem_of_getElem? (i := 26) (by decide +kernel), List.mem_of_getElem? (i := 337) (by decide +kernel), List.mem_of_getElem? (i := 338) (by decide +kernel)⟩
theorem lw_p3 : lw_okq (⟨"DayCords$Reader", "blame", "(II)V"⟩, 5) := ⟨⟨by decide +kernel, by decide +kernel⟩, List.mem_of_getElem? (i := 26) (by decide +kernel), List.mem_of_getElem? (i := 341) (by decide +kernel), List.mem_of_getElem? (i := 342) (by decide +kernel)⟩
theorem lw_p4 : lw_okq (⟨"DayCords$Reader", "readRest", "(LDayCords$Plan;I)V"⟩, 5) := ⟨⟨by decide +kernel, by decide +kernel⟩, List.mem_of_getElem? (i := 26) (by decide +kernel), List.mem_of_getElem? (i := 348) (by decide +kernel), List.mem_of_getElem? (i := 349) (by decide +kernel)⟩
theorem lw_p5 : lw_okq (⟨"DayCords$Reader", "readNumber", "(II)I"⟩, 5) := ⟨⟨by decide +kernel, by decide +kernel⟩, List.mem_of_getElem? (i := 26) (by decide +kernel), List.mem_of_getElem? (i := 352) (by decide +kernel), List.mem_of_getElem? (i := 353) (by decide +kernel)⟩
theorem lw_p6 : lw_okq (⟨"DayCords$Reader", "readKinds", "(LDayCords$Plan;)V"⟩, 5) := ⟨⟨by decide +kernel, by decide +kernel⟩, List.mem_of_getElem? (i := 26) (by decide +kernel), List.mem_of_getElem? (i := 359) (by decide +kernel), List.mem_of_getElem? (i := 360) (by decide +kernel)⟩
theorem lw_p7 : lw_okq (⟨"DayCords$Reader", "readMark", "(I)V"⟩, 5) := ⟨⟨by decide +kernel, by decide +kernel⟩, List.mem_of_getElem? (i := 26) (by decide +kernel), List.mem_of_getElem? (i := 363) (by decide +kernel), List.mem_of_getElem? (i := 364) (by decide +kernel)⟩
theorem lw_p8 : lw_okq (⟨"DayCords$Line", "risesFrom", "(I)Z"⟩, 7) := ⟨⟨by decide +kernel, by decide +kernel⟩, List.mem_of_getElem? (i := 124) (by decide +kernel), List.mem_of_getElem? (i := 412) (by decide +kernel), List.mem_of_getElem? (i := 413) (by decide +kernel)⟩
theorem lw_p9 : lw_okq (⟨"DayCords$Sailor", "countWays", "(LDayCords$Plan;LDayCords$Line;)V"⟩, 1) := ⟨⟨by decide +kernel, by decide +kernel⟩, List.mem_of_getElem? (i := 219) (by decide +kernel), List.mem_of_getElem? (i := 429) (by decide +kernel), List.mem_of_getElem? (i := 430) (by decide +kernel)⟩
theorem lw_p10 : lw_okq (⟨"DayCords$Sailor", "firstWordOn", "(LDayCords$Plan;LDayCords$Line;I)I"⟩, 1) := ⟨⟨by decide +kernel, by decide +kernel⟩, List.mem_of_getElem? (i := 219) (by decide +kernel), List.mem_of_getElem? (i := 444) (by decide +kernel), List.mem_of_getElem? (i := 445) (by decide +kernel)⟩
theorem lw_p11 : lw_okq (⟨"DayCords$Line", "swapEnds", "(II)V"⟩, 7) := ⟨⟨by decide +kernel, by decide +kernel⟩, List.mem_of_getElem? (i := 124) (by decide +kernel), List.mem_of_getElem? (i := 510) (by decide +kernel), List.mem_of_getElem? (i := 511) (by decide +kernel)⟩
theorem lw_p12 : lw_okq (⟨"DayCords", "yearsRefused", "(I)I"⟩, 12) := ⟨⟨by decide +kernel, by decide +kernel⟩, List.mem_of_getElem? (i := 18) (by decide +kernel), List.mem_of_getElem? (i := 557) (by decide +kernel), List.mem_of_getElem? (i := 558) (by decide +kernel)⟩
theorem lw_p13 : lw_okq (⟨"DayCords", "chance", "()V"⟩, 12) := ⟨⟨by decide +kernel, by decide +kernel⟩, List.mem_of_getElem? (i := 18) (by decide +kernel), List.mem_of_getElem? (i := 571) (by decide +kernel), List.mem_of_getElem? (i := 572) (by decide +kernel)⟩
theorem lw_p14 : lw_okq (⟨"DayCords", "draw", "(I)I"⟩, 12) := ⟨⟨by decide +kernel, by decide +kernel⟩, List.mem_of_getElem? (i := 18) (by decide +kernel), List.mem_of_getElem? (i := 575) (by decide +kernel), List.mem_of_getElem? (i := 576) (by decide +kernel)⟩
theorem lw_p15 : lw_okq (⟨"DayCords$Turner", "takeRanks", "(LDayCords$Line;)V"⟩, 2) := ⟨⟨by decide +kernel, by decide +kernel⟩, List.mem_of_getElem? (i := 206) (by decide +kernel), List.mem_of_getElem? (i := 602) (by decide +kernel), List.mem_of_getElem? (i := 603) (by decide +kernel)⟩
def lw_privs_1 : List (MethodName × Nat) := [(⟨"DayCords$Reader", "skipBlanks", "()V"⟩, 5), (⟨"DayCords$Reader", "readClause", "(LDayCords$Plan;)V"⟩, 5), (⟨"DayCords$Reader", "letterHere", "()I"⟩, 5), (⟨"DayCords$Reader", "blame", "(II)V"⟩, 5), (⟨"DayCords$Reader", "readRest", "(LDayCords$Plan;I)V"⟩, 5), (⟨"DayCords$Reader", "readNumber", "(II)I"⟩, 5), (⟨"DayCords$Reader", "readKinds", "(LDayCords$Plan;)V"⟩, 5), (⟨"DayCords$Reader", "readMark", "(I)V"⟩, 5), (⟨"DayCords$Line", "risesFrom", "(I)Z"⟩, 7), (⟨"DayCords$Sailor", "countWays", "(LDayCords$Plan;LDayCords$Line;)V"⟩, 1), (⟨"DayCords$Sailor", "firstWordOn", "(LDayCords$Plan;LDayCords$Line;I)I"⟩, 1), (⟨"DayCords$Line", "swapEnds", "(II)V"⟩, 7), (⟨"DayCords", "yearsRefused", "(I)I"⟩, 12), (⟨"DayCords", "chance", "()V"⟩, 12), (⟨"DayCords", "draw", "(I)I"⟩, 12), (⟨"DayCords$Turner", "takeRanks", "(LDayCords$Line;)V"⟩, 2)]
theorem lw_r1 : ∀ q ∈ lw_privs_1, lw_okq q := List.forall_mem_cons.mpr ⟨lw_p0, List.forall_mem_cons.mpr ⟨lw_p1, List.forall_mem_cons.mpr ⟨lw_p2, List.forall_mem_cons.mpr ⟨lw_p3, List.forall_mem_cons.mpr ⟨lw_p4, List.forall_mem_cons.mpr ⟨lw_p5, List.forall_mem_cons.mpr ⟨lw_p6, List.forall_mem_cons.mpr ⟨lw_p7, List.forall_mem_cons.mpr ⟨lw_p8, List.forall_mem_cons.mpr ⟨lw_p9, List.forall_mem_cons.mpr ⟨lw_p10, List.forall_mem_cons.mpr ⟨lw_p11, List.forall_mem_cons.mpr ⟨lw_p12, List.forall_mem_cons.mpr ⟨lw_p13, List.forall_mem_cons.mpr ⟨lw_p14, List.forall_mem_cons.mpr ⟨lw_p15, fun _ h => absurd h List.not_mem_nil⟩⟩⟩⟩⟩⟩⟩⟩⟩⟩⟩⟩⟩⟩⟩⟩
theorem lw_p16 : lw_okq (⟨"DayCords$Turner", "countGaps", "()I"⟩, 2) := ⟨⟨by decide +kernel, by decide +kernel⟩, List.mem_of_getElem? (i := 206) (by decide +kernel), List.mem_of_getElem? (i := 606) (by decide +kernel), List.mem_of_getElem? (i := 607) (by decide +kernel)⟩
theorem lw_p17 : lw_okq (⟨"DayCords$Line", "risesWithout", "(I)Z"⟩, 7) := ⟨⟨by decide +kernel, by decide +kernel⟩, List.mem_of_getElem? (i := 124) (by decide +kernel), List.mem_of_getElem? (i := 634) (by decide +kernel), List.mem_of_getElem? (i := 635) (by decide +kernel)⟩
theorem lw_p18 : lw_okq (⟨"DayCords$Plan", "placesOfHooks", "(I)I"⟩, 11) := ⟨⟨by decide +kernel, by decide +kernel⟩, List.mem_of_getElem? (i := 53) (by decide +kernel), List.mem_of_getElem? (i := 670) (by decide +kernel), List.mem_of_getElem? (i := 671) (by decide +kernel)⟩
theorem lw_p19 : lw_okq (⟨"DayCords", "offSet", "()I"⟩, 12) := ⟨⟨by decide +kernel, by decide +kernel⟩, List.mem_of_getElem? (i := 18) (by decide +kernel), List.mem_of_getElem? (i := 680) (by decide +kernel), List.mem_of_getElem? (i := 681) (by decide +kernel)⟩
theorem lw_p20 : lw_okq (⟨"DayCords$Takers", "fillLeads", "(LDayCords$Plan;LDayCords$Line;)V"⟩, 1) := ⟨⟨by decide +kernel, by decide +kernel⟩, List.mem_of_getElem? (i := 229) (by decide +kernel), List.mem_of_getElem? (i := 692) (by decide +kernel), List.mem_of_getElem? (i := 693) (by decide +kernel)⟩
theorem lw_p21 : lw_okq (⟨"DayCords$Takers", "byFront", "(LDayCords$Plan;LDayCords$Line;)I"⟩, 1) := ⟨⟨by decide +kernel, by decide +kernel⟩, List.mem_of_getElem? (i := 229) (by decide +kernel), List.mem_of_getElem? (i := 698) (by decide +kernel), List.mem_of_getElem? (i := 699) (by decide +kernel)⟩
theorem lw_p22 : lw_okq (⟨"DayCords$Takers", "byBack", "(LDayCords$Plan;LDayCords$Line;)I"⟩, 1) := ⟨⟨by decide +kernel, by decide +kernel⟩, List.mem_of_getElem? (i := 229) (by decide +kernel), List.mem_of_getElem? (i := 702) (by decide +kernel), List.mem_of_getElem? (i := 703) (by decide +kernel)⟩
theorem lw_p23 : lw_okq (⟨"DayCordsModel", "reads", "()Z"⟩, 25) := ⟨⟨by decide +kernel, by decide +kernel⟩, List.mem_of_getElem? (i := 780) (by decide +kernel), List.mem_of_getElem? (i := 876) (by decide +kernel), List.mem_of_getElem? (i := 877) (by decide +kernel)⟩
theorem lw_p24 : lw_okq (⟨"DayCordsModel", "next0", "()I"⟩, 25) := ⟨⟨by decide +kernel, by decide +kernel⟩, List.mem_of_getElem? (i := 780) (by decide +kernel), List.mem_of_getElem? (i := 880) (by decide +kernel), List.mem_of_getElem? (i := 881) (by decide +kernel)⟩
theorem lw_p25 : lw_okq (⟨"DayCordsModel", "readsClause", "(I)Z"⟩, 25) := ⟨⟨by decide +kernel, by decide +kernel⟩, List.mem_of_getElem? (i := 780) (by decide +kernel), List.mem_of_getElem? (i := 884) (by decide +kernel), List.mem_of_getElem? (i := 885) (by decide +kernel)⟩
theorem lw_p26 : lw_okq (⟨"DayCordsModel", "faulty", "(I)Z"⟩, 25) := ⟨⟨by decide +kernel, by decide +kernel⟩, List.mem_of_getElem? (i := 780) (by decide +kernel), List.mem_of_getElem? (i := 888) (by decide +kernel), List.mem_of_getElem? (i := 889) (by decide +kernel)⟩
theorem lw_p27 : lw_okq (⟨"DayCordsModel", "number", "(III)Z"⟩, 25) := ⟨⟨by decide +kernel, by decide +kernel⟩, List.mem_of_getElem? (i := 780) (by decide +kernel), List.mem_of_getElem? (i := 892) (by decide +kernel), List.mem_of_getElem? (i := 893) (by decide +kernel)⟩
theorem lw_p28 : lw_okq (⟨"DayCordsModel", "ends", "()Z"⟩, 25) := ⟨⟨by decide +kernel, by decide +kernel⟩, List.mem_of_getElem? (i := 780) (by decide +kernel), List.mem_of_getElem? (i := 899) (by decide +kernel), List.mem_of_getElem? (i := 900) (by decide +kernel)⟩
theorem lw_p29 : lw_okq (⟨"DayCordsModel", "readsWord", "()Z"⟩, 25) := ⟨⟨by decide +kernel, by decide +kernel⟩, List.mem_of_getElem? (i := 780) (by decide +kernel), List.mem_of_getElem? (i := 903) (by decide +kernel), List.mem_of_getElem? (i := 904) (by decide +kernel)⟩
theorem lw_p30 : lw_okq (⟨"DayCordsModel", "onIt", "()I"⟩, 25) := ⟨⟨by decide +kernel, by decide +kernel⟩, List.mem_of_getElem? (i := 780) (by decide +kernel), List.mem_of_getElem? (i := 915) (by decide +kernel), List.mem_of_getElem? (i := 916) (by decide +kernel)⟩
theorem lw_p31 : lw_okq (⟨"DayCordsModel", "outs", "()I"⟩, 25) := ⟨⟨by decide +kernel, by decide +kernel⟩, List.mem_of_getElem? (i := 780) (by decide +kernel), List.mem_of_getElem? (i := 919) (by decide +kernel), List.mem_of_getElem? (i := 920) (by decide +kernel)⟩
def lw_privs_2 : List (MethodName × Nat) := [(⟨"DayCords$Turner", "countGaps", "()I"⟩, 2), (⟨"DayCords$Line", "risesWithout", "(I)Z"⟩, 7), (⟨"DayCords$Plan", "placesOfHooks", "(I)I"⟩, 11), (⟨"DayCords", "offSet", "()I"⟩, 12), (⟨"DayCords$Takers", "fillLeads", "(LDayCords$Plan;LDayCords$Line;)V"⟩, 1), (⟨"DayCords$Takers", "byFront", "(LDayCords$Plan;LDayCords$Line;)I"⟩, 1), (⟨"DayCords$Takers", "byBack", "(LDayCords$Plan;LDayCords$Line;)I"⟩, 1), (⟨"DayCordsModel", "reads", "()Z"⟩, 25), (⟨"DayCordsModel", "next0", "()I"⟩, 25), (⟨"DayCordsModel", "readsClause", "(I)Z"⟩, 25), (⟨"DayCordsModel", "faulty", "(I)Z"⟩, 25), (⟨"DayCordsModel", "number", "(III)Z"⟩, 25), (⟨"DayCordsModel", "ends", "()Z"⟩, 25), (⟨"DayCordsModel", "readsWord", "()Z"⟩, 25), (⟨"DayCordsModel", "onIt", "()I"⟩, 25), (⟨"DayCordsModel", "outs", "()I"⟩, 25)]
theorem lw_r2 : ∀ q ∈ lw_privs_2, lw_okq q := List.forall_mem_cons.mpr ⟨lw_p16, List.forall_mem_cons.mpr ⟨lw_p17, List.forall_mem_cons.mpr ⟨lw_p18, List.forall_mem_cons.mpr ⟨lw_p19, List.forall_mem_cons.mpr ⟨lw_p20, List.forall_mem_cons.mpr ⟨lw_p21, List.forall_mem_cons.mpr ⟨lw_p22, List.forall_mem_cons.mpr ⟨lw_p23, List.forall_mem_cons.mpr ⟨lw_p24, List.forall_mem_cons.mpr ⟨lw_p25, List.forall_mem_cons.mpr ⟨lw_p26, List.forall_mem_cons.mpr ⟨lw_p27, List.forall_mem_cons.mpr ⟨lw_p28, List.forall_mem_cons.mpr ⟨lw_p29, List.forall_mem_cons.mpr ⟨lw_p30, List.forall_mem_cons.mpr ⟨lw_p31, fun _ h => absurd h List.not_mem_nil⟩⟩⟩⟩⟩⟩⟩⟩⟩⟩⟩⟩⟩⟩⟩⟩
theorem lw_p32 : lw_okq (⟨"DayCordsModel", "isOut", "(I)Z"⟩, 25) := ⟨⟨by decide +kernel, by decide +kernel⟩, List.mem_of_getElem? (i := 780) (by decide +kernel), List.mem_of_getElem? (i := 923) (by decide +kernel), List.mem_of_getElem? (i := 924) (by decide +kernel)⟩
theorem lw_p33 : lw_okq (⟨"DayCordsModel", "crossed", "()I"⟩, 25) := ⟨⟨by decide +kernel, by decide +kernel⟩, List.mem_of_getElem? (i := 780) (by decide +kernel), List.mem_of_getElem? (i := 930) (by decide +kernel), List.mem_of_getElem? (i := 931) (by decide +kernel)⟩
theorem lw_p34 : lw_okq (⟨"DayCordsModel", "cutAt", "()I"⟩, 25) := ⟨⟨by decide +kernel, by decide +kernel⟩, List.mem_of_getElem? (i := 780) (by decide +kernel), List.mem_of_getElem? (i := 934) (by decide +kernel), List.mem_of_getElem? (i := 935) (by decide +kernel)⟩
theorem lw_p35 : lw_okq (⟨"DayCordsModel", "readings", "()I"⟩, 25) := ⟨⟨by decide +kernel, by decide +kernel⟩, List.mem_of_getElem? (i := 780) (by decide +kernel), List.mem_of_getElem? (i := 938) (by decide +kernel), List.mem_of_getElem? (i := 939) (by decide +kernel)⟩
theorem lw_p36 : lw_okq (⟨"DayCordsModel", "fits", "(II)Z"⟩, 25) := ⟨⟨by decide +kernel, by decide +kernel⟩, List.mem_of_getElem? (i := 780) (by decide +kernel), List.mem_of_getElem? (i := 942) (by decide +kernel), List.mem_of_getElem? (i := 943) (by decide +kernel)⟩
theorem lw_p37 : lw_okq (⟨"DayCordsModel", "longOf", "(I)I"⟩, 25) := ⟨⟨by decide +kernel, by decide +kernel⟩, List.mem_of_getElem? (i := 780) (by decide +kernel), List.mem_of_getElem? (i := 946) (by decide +kernel), List.mem_of_getElem? (i := 947) (by decide +kernel)⟩
theorem lw_p38 : lw_okq (⟨"DayCordsModel", "firstOf", "()I"⟩, 25) := ⟨⟨by decide +kernel, by decide +kernel⟩, List.mem_of_getElem? (i := 780) (by decide +kernel), List.mem_of_getElem? (i := 950) (by decide +kernel), List.mem_of_getElem? (i := 951) (by decide +kernel)⟩
theorem lw_p39 : lw_okq (⟨"DayCordsModel", "begun", "()I"⟩, 25) := ⟨⟨by decide +kernel, by decide +kernel⟩, List.mem_of_getElem? (i := 780) (by decide +kernel), List.mem_of_getElem? (i := 954) (by decide +kernel), List.mem_of_getElem? (i := 955) (by decide +kernel)⟩
theorem lw_p40 : lw_okq (⟨"DayCordsModel", "isFlag", "(I)Z"⟩, 25) := ⟨⟨by decide +kernel, by decide +kernel⟩, List.mem_of_getElem? (i := 780) (by decide +kernel), List.mem_of_getElem? (i := 962) (by decide +kernel), List.mem_of_getElem? (i := 963) (by decide +kernel)⟩
theorem lw_p41 : lw_okq (⟨"DayCordsModel", "placeOf", "(I)I"⟩, 25) := ⟨⟨by decide +kernel, by decide +kernel⟩, List.mem_of_getElem? (i := 780) (by decide +kernel), List.mem_of_getElem? (i := 967) (by decide +kernel), List.mem_of_getElem? (i := 968) (by decide +kernel)⟩
theorem lw_p42 : lw_okq (⟨"DayCordsModel", "reached", "(I)I"⟩, 25) := ⟨⟨by decide +kernel, by decide +kernel⟩, List.mem_of_getElem? (i := 780) (by decide +kernel), List.mem_of_getElem? (i := 979) (by decide +kernel), List.mem_of_getElem? (i := 980) (by decide +kernel)⟩
theorem lw_p43 : lw_okq (⟨"DayCordsModel", "keeps", "()V"⟩, 25) := ⟨⟨by decide +kernel, by decide +kernel⟩, List.mem_of_getElem? (i := 780) (by decide +kernel), List.mem_of_getElem? (i := 991) (by decide +kernel), List.mem_of_getElem? (i := 992) (by decide +kernel)⟩
theorem lw_p44 : lw_okq (⟨"DayCordsModel", "cuts", "(I)V"⟩, 25) := ⟨⟨by decide +kernel, by decide +kernel⟩, List.mem_of_getElem? (i := 780) (by decide +kernel), List.mem_of_getElem? (i := 999) (by decide +kernel), List.mem_of_getElem? (i := 1000) (by decide +kernel)⟩
theorem lw_p45 : lw_okq (⟨"DayCordsModel", "eats", "(I)V"⟩, 25) := ⟨⟨by decide +kernel, by decide +kernel⟩, List.mem_of_getElem? (i := 780) (by decide +kernel), List.mem_of_getElem? (i := 1008) (by decide +kernel), List.mem_of_getElem? (i := 1009) (by decide +kernel)⟩
theorem lw_p46 : lw_okq (⟨"DayCordsModel", "passes", "()V"⟩, 25) := ⟨⟨by decide +kernel, by decide +kernel⟩, List.mem_of_getElem? (i := 780) (by decide +kernel), List.mem_of_getElem? (i := 1031) (by decide +kernel), List.mem_of_getElem? (i := 1032) (by decide +kernel)⟩
theorem lw_p47 : lw_okq (⟨"DayCordsModel", "draws", "(I)I"⟩, 25) := ⟨⟨by decide +kernel, by decide +kernel⟩, List.mem_of_getElem? (i := 780) (by decide +kernel), List.mem_of_getElem? (i := 1039) (by decide +kernel), List.mem_of_getElem? (i := 1040) (by decide +kernel)⟩
def lw_privs_3 : List (MethodName × Nat) := [(⟨"DayCordsModel", "isOut", "(I)Z"⟩, 25), (⟨"DayCordsModel", "crossed", "()I"⟩, 25), (⟨"DayCordsModel", "cutAt", "()I"⟩, 25), (⟨"DayCordsModel", "readings", "()I"⟩, 25), (⟨"DayCordsModel", "fits", "(II)Z"⟩, 25), (⟨"DayCordsModel", "longOf", "(I)I"⟩, 25), (⟨"DayCordsModel", "firstOf", "()I"⟩, 25), (⟨"DayCordsModel", "begun", "()I"⟩, 25), (⟨"DayCordsModel", "isFlag", "(I)Z"⟩, 25), (⟨"DayCordsModel", "placeOf", "(I)I"⟩, 25), (⟨"DayCordsModel", "reached", "(I)I"⟩, 25), (⟨"DayCordsModel", "keeps", "()V"⟩, 25), (⟨"DayCordsModel", "cuts", "(I)V"⟩, 25), (⟨"DayCordsModel", "eats", "(I)V"⟩, 25), (⟨"DayCordsModel", "passes", "()V"⟩, 25), (⟨"DayCordsModel", "draws", "(I)I"⟩, 25)]
theorem lw_r3 : ∀ q ∈ lw_privs_3, lw_okq q := List.forall_mem_cons.mpr ⟨lw_p32, List.forall_mem_cons.mpr ⟨lw_p33, List.forall_mem_cons.mpr ⟨lw_p34, List.forall_mem_cons.mpr ⟨lw_p35, List.forall_mem_cons.mpr ⟨lw_p36, List.forall_mem_cons.mpr ⟨lw_p37, List.forall_mem_cons.mpr ⟨lw_p38, List.forall_mem_cons.mpr ⟨lw_p39, List.forall_mem_cons.mpr ⟨lw_p40, List.forall_mem_cons.mpr ⟨lw_p41, List.forall_mem_cons.mpr ⟨lw_p42, List.forall_mem_cons.mpr ⟨lw_p43, List.forall_mem_cons.mpr ⟨lw_p44, List.forall_mem_cons.mpr ⟨lw_p45, List.forall_mem_cons.mpr ⟨lw_p46, List.forall_mem_cons.mpr ⟨lw_p47, fun _ h => absurd h List.not_mem_nil⟩⟩⟩⟩⟩⟩⟩⟩⟩⟩⟩⟩⟩⟩⟩⟩
theorem lw_p48 : lw_okq (⟨"DayCordsModel", "measures", "(I)V"⟩, 25) := ⟨⟨by decide +kernel, by decide +kernel⟩, List.mem_of_getElem? (i := 780) (by decide +kernel), List.mem_of_getElem? (i := 1054) (by decide +kernel), List.mem_of_getElem? (i := 1055) (by decide +kernel)⟩
theorem lw_p49 : lw_okq (⟨"DayCordsModel", "isFar", "(II)V"⟩, 25) := ⟨⟨by decide +kernel, by decide +kernel⟩, List.mem_of_getElem? (i := 780) (by decide +kernel), List.mem_of_getElem? (i := 1059) (by decide +kernel), List.mem_of_getElem? (i := 1060) (by decide +kernel)⟩
theorem lw_p50 : lw_okq (⟨"DayCordsModel", "farAt", "(I)I"⟩, 25) := ⟨⟨by decide +kernel, by decide +kernel⟩, List.mem_of_getElem? (i := 780) (by decide +kernel), List.mem_of_getElem? (i := 1064) (by decide +kernel), List.mem_of_getElem? (i := 1065) (by decide +kernel)⟩
theorem lw_p51 : lw_okq (⟨"DayCordsModel", "orderOf", "(II[I)V"⟩, 25) := ⟨⟨by decide +kernel, by decide +kernel⟩, List.mem_of_getElem? (i := 780) (by decide +kernel), List.mem_of_getElem? (i := 1068) (by decide +kernel), List.mem_of_getElem? (i := 1069) (by decide +kernel)⟩
theorem lw_p52 : lw_okq (⟨"DayCordsModel", "feltAt", "(II)I"⟩, 25) := ⟨⟨by decide +kernel, by decide +kernel⟩, List.mem_of_getElem? (i := 780) (by decide +kernel), List.mem_of_getElem? (i := 1086) (by decide +kernel), List.mem_of_getElem? (i := 1087) (by decide +kernel)⟩
theorem lw_p53 : lw_okq (⟨"DayCordsModel", "heavyAt", "(I)I"⟩, 25) := ⟨⟨by decide +kernel, by decide +kernel⟩, List.mem_of_getElem? (i := 780) (by decide +kernel), List.mem_of_getElem? (i := 1106) (by decide +kernel), List.mem_of_getElem? (i := 1107) (by decide +kernel)⟩
theorem lw_p54 : lw_okq (⟨"DayCordsModel", "moreOf", "(II)I"⟩, 25) := ⟨⟨by decide +kernel, by decide +kernel⟩, List.mem_of_getElem? (i := 780) (by decide +kernel), List.mem_of_getElem? (i := 1110) (by decide +kernel), List.mem_of_getElem? (i := 1111) (by decide +kernel)⟩
theorem lw_p55 : lw_okq (⟨"DayCordsModel", "could", "()I"⟩, 25) := ⟨⟨by decide +kernel, by decide +kernel⟩, List.mem_of_getElem? (i := 780) (by decide +kernel), List.mem_of_getElem? (i := 1128) (by decide +kernel), List.mem_of_getElem? (i := 1129) (by decide +kernel)⟩
theorem lw_p56 : lw_okq (⟨"DayCordsModel", "isSo", "(III)Z"⟩, 25) := ⟨⟨by decide +kernel, by decide +kernel⟩, List.mem_of_getElem? (i := 780) (by decide +kernel), List.mem_of_getElem? (i := 1132) (by decide +kernel), List.mem_of_getElem? (i := 1133) (by decide +kernel)⟩
def lw_privs_4 : List (MethodName × Nat) := [(⟨"DayCordsModel", "measures", "(I)V"⟩, 25), (⟨"DayCordsModel", "isFar", "(II)V"⟩, 25), (⟨"DayCordsModel", "farAt", "(I)I"⟩, 25), (⟨"DayCordsModel", "orderOf", "(II[I)V"⟩, 25), (⟨"DayCordsModel", "feltAt", "(II)I"⟩, 25), (⟨"DayCordsModel", "heavyAt", "(I)I"⟩, 25), (⟨"DayCordsModel", "moreOf", "(II)I"⟩, 25), (⟨"DayCordsModel", "could", "()I"⟩, 25), (⟨"DayCordsModel", "isSo", "(III)Z"⟩, 25)]
theorem lw_r4 : ∀ q ∈ lw_privs_4, lw_okq q := List.forall_mem_cons.mpr ⟨lw_p48, List.forall_mem_cons.mpr ⟨lw_p49, List.forall_mem_cons.mpr ⟨lw_p50, List.forall_mem_cons.mpr ⟨lw_p51, List.forall_mem_cons.mpr ⟨lw_p52, List.forall_mem_cons.mpr ⟨lw_p53, List.forall_mem_cons.mpr ⟨lw_p54, List.forall_mem_cons.mpr ⟨lw_p55, List.forall_mem_cons.mpr ⟨lw_p56, fun _ h => absurd h List.not_mem_nil⟩⟩⟩⟩⟩⟩⟩⟩⟩
def lw_privs : List (MethodName × Nat) := lw_privs_1 ++ (lw_privs_2 ++ (lw_privs_3 ++ (lw_privs_4)))
def lw_tbl : List Cond := k2_sels lw_privs ++ tables_1
theorem lw_privs_ok : ∀ q ∈ lw_privs, lw_okq q := by
  show ∀ q ∈ lw_privs_1 ++ (lw_privs_2 ++ (lw_privs_3 ++ (lw_privs_4))), lw_okq q
  exact List.forall_mem_append.mpr ⟨lw_r1, List.forall_mem_append.mpr ⟨lw_r2, List.forall_mem_append.mpr ⟨lw_r3, lw_r4⟩⟩⟩
end
section
def RX0 : String := "DayCords$Book"
def TX0 : u_T := fun k => match k with
  | 0 => ("DayCords$Book", "places", "[I", true)
  | 1 => ("DayCords$Book", "flags", "[I", true)
  | _ => ("DayCords$Book", "count", "I", false)
def tyX0 : Nat → FieldType := fun k => match k with
  | 0 => .array .int
  | 1 => .array .int
  | _ => .int
abbrev wsX00 : List Cond := u_ws RX0 TX0 3
theorem nmX0 : ∀ a, a < 3 → ∀ b, b < 3 → a ≠ b → (TX0 a).2.1 ≠ (TX0 b).2.1 := by decide +kernel
theorem tyX0_ok : ∀ k, k < 3 → parseFieldDescriptor (TX0 k).2.2.1 = some (tyX0 k) := by decide +kernel
abbrev cX0_init : ByteArray := prog_2_method_1_code
def yX0_init : MethodName := ⟨RX0, "<init>", "()V"⟩
abbrev cX0_add : ByteArray := prog_2_method_2_code
def yX0_add : MethodName := ⟨RX0, "add", "(II)V"⟩
abbrev cX0_firstWrong : ByteArray := prog_2_method_3_code
def yX0_firstWrong : MethodName := ⟨RX0, "firstWrong", "(LDayCords$Line;)I"⟩
def RX1 : String := "DayCords$Image"
def TX1 : u_T := fun k => match k with
  | 0 => ("DayCords$Image", "lineThen", "LDayCords$Line;", true)
  | 1 => ("DayCords$Image", "seedThen", "I", false)
  | _ => ("DayCords$Image", "kept", "Z", false)
def tyX1 : Nat → FieldType := fun k => match k with
  | 0 => .object "DayCords$Line"
  | 1 => .int
  | _ => .boolean
abbrev wsX10 : List Cond := u_ws RX1 TX1 3
theorem nmX1 : ∀ a, a < 3 → ∀ b, b < 3 → a ≠ b → (TX1 a).2.1 ≠ (TX1 b).2.1 := by decide +kernel
theorem tyX1_ok : ∀ k, k < 3 → parseFieldDescriptor (TX1 k).2.2.1 = some (tyX1 k) := by decide +kernel
abbrev cX1_init : ByteArray := prog_3_method_1_code
def yX1_init : MethodName := ⟨RX1, "<init>", "()V"⟩
def RX2 : String := "DayCords$Line"
def TX2 : u_T := fun k => match k with
  | 0 => ("DayCords$Line", "order", "[I", true)
  | 1 => ("DayCords$Line", "faded", "[I", true)
  | 2 => ("DayCords$Line", "sewn", "[I", true)
  | 3 => ("DayCords$Line", "count", "I", false)
  | 4 => ("DayCords$Line", "wet", "I", false)
  | 5 => ("DayCords$Line", "wind", "I", false)
  | _ => ("DayCords$Line", "years", "I", false)
def tyX2 : Nat → FieldType := fun k => match k with
  | 0 => .array .int
  | 1 => .array .int
  | 2 => .array .int
  | 3 => .int
  | 4 => .int
  | 5 => .int
  | _ => .int
abbrev wsX20 : List Cond := u_ws RX2 TX2 7
theorem nmX2 : ∀ a, a < 7 → ∀ b, b < 7 → a ≠ b → (TX2 a).2.1 ≠ (TX2 b).2.1 := by decide +kernel
theorem tyX2_ok : ∀ k, k < 7 → parseFieldDescriptor (TX2 k).2.2.1 = some (tyX2 k) := by decide +kernel
abbrev cX2_init : ByteArray := prog_4_method_1_code
def yX2_init : MethodName := ⟨RX2, "<init>", "()V"⟩
abbrev cX2_hangAll : ByteArray := prog_4_method_2_code
def yX2_hangAll : MethodName := ⟨RX2, "hangAll", "(LDayCords$Plan;)V"⟩
abbrev cX2_copyFrom : ByteArray := prog_4_method_3_code
def yX2_copyFrom : MethodName := ⟨RX2, "copyFrom", "(LDayCords$Line;)V"⟩
abbrev cX2_flagAt : ByteArray := prog_4_method_4_code
def yX2_flagAt : MethodName := ⟨RX2, "flagAt", "(I)I"⟩
abbrev cX2_placeOf : ByteArray := prog_4_method_5_code
def yX2_placeOf : MethodName := ⟨RX2, "placeOf", "(I)I"⟩
abbrev cX2_flagsAt : ByteArray := prog_4_method_6_code
def yX2_flagsAt : MethodName := ⟨RX2, "flagsAt", "(I)I"⟩
abbrev cX2_placesOf : ByteArray := prog_4_method_7_code
def yX2_placesOf : MethodName := ⟨RX2, "placesOf", "(I)I"⟩
abbrev cX2_onSet : ByteArray := prog_4_method_8_code
def yX2_onSet : MethodName := ⟨RX2, "onSet", "()I"⟩
abbrev cX2_outSet : ByteArray := prog_4_method_9_code
def yX2_outSet : MethodName := ⟨RX2, "outSet", "(LDayCords$Plan;)I"⟩
abbrev cX2_isOut : ByteArray := prog_4_method_10_code
def yX2_isOut : MethodName := ⟨RX2, "isOut", "(LDayCords$Plan;I)Z"⟩
abbrev cX2_turnFront : ByteArray := prog_4_method_11_code
def yX2_turnFront : MethodName := ⟨RX2, "turnFront", "(I)V"⟩
abbrev cX2_cutAt : ByteArray := prog_4_method_12_code
def yX2_cutAt : MethodName := ⟨RX2, "cutAt", "(I)V"⟩
abbrev cX2_swapEnds : ByteArray := prog_4_method_13_code
def yX2_swapEnds : MethodName := ⟨RX2, "swapEnds", "(II)V"⟩
abbrev cX2_takeOff : ByteArray := prog_4_method_14_code
def yX2_takeOff : MethodName := ⟨RX2, "takeOff", "(I)V"⟩
abbrev cX2_sewOn : ByteArray := prog_4_method_15_code
def yX2_sewOn : MethodName := ⟨RX2, "sewOn", "(II)V"⟩
abbrev cX2_passYear : ByteArray := prog_4_method_16_code
def yX2_passYear : MethodName := ⟨RX2, "passYear", "(LDayCords$Plan;)V"⟩
abbrev cX2_rises : ByteArray := prog_4_method_17_code
def yX2_rises : MethodName := ⟨RX2, "rises", "()Z"⟩
abbrev cX2_rightCut : ByteArray := prog_4_method_18_code
def yX2_rightCut : MethodName := ⟨RX2, "rightCut", "()I"⟩
abbrev cX2_risesFrom : ByteArray := prog_4_method_19_code
def yX2_risesFrom : MethodName := ⟨RX2, "risesFrom", "(I)Z"⟩
abbrev cX2_crossed : ByteArray := prog_4_method_20_code
def yX2_crossed : MethodName := ⟨RX2, "crossed", "()I"⟩
abbrev cX2_looseSet : ByteArray := prog_4_method_21_code
def yX2_looseSet : MethodName := ⟨RX2, "looseSet", "()I"⟩
abbrev cX2_risesWithout : ByteArray := prog_4_method_22_code
def yX2_risesWithout : MethodName := ⟨RX2, "risesWithout", "(I)Z"⟩
abbrev cX2_pullAt : ByteArray := prog_4_method_23_code
def yX2_pullAt : MethodName := ⟨RX2, "pullAt", "(LDayCords$Plan;II)I"⟩
def RX3 : String := "DayCords$Looks"
def TX3 : u_T := fun k => match k with
  | 0 => ("DayCords$Looks", "asked", "[I", true)
  | 1 => ("DayCords$Looks", "answers", "[Z", true)
  | _ => ("DayCords$Looks", "count", "I", false)
def tyX3 : Nat → FieldType := fun k => match k with
  | 0 => .array .int
  | 1 => .array .boolean
  | _ => .int
abbrev wsX30 : List Cond := u_ws RX3 TX3 3
theorem nmX3 : ∀ a, a < 3 → ∀ b, b < 3 → a ≠ b → (TX3 a).2.1 ≠ (TX3 b).2.1 := by decide +kernel
theorem tyX3_ok : ∀ k, k < 3 → parseFieldDescriptor (TX3 k).2.2.1 = some (tyX3 k) := by decide +kernel
abbrev cX3_init : ByteArray := prog_5_method_1_code
def yX3_init : MethodName := ⟨RX3, "<init>", "()V"⟩
abbrev cX3_add : ByteArray := prog_5_method_2_code
def yX3_add : MethodName := ⟨RX3, "add", "(IZ)V"⟩
abbrev cX3_fitting : ByteArray := prog_5_method_3_code
def yX3_fitting : MethodName := ⟨RX3, "fitting", "(LDayCords$Plan;I)I"⟩
abbrev cX3_bestLook : ByteArray := prog_5_method_4_code
def yX3_bestLook : MethodName := ⟨RX3, "bestLook", "(LDayCords$Plan;I)I"⟩
abbrev cX3_answering : ByteArray := prog_5_method_5_code
def yX3_answering : MethodName := ⟨RX3, "answering", "(LDayCords$Plan;II)I"⟩
def RX4 : String := "DayCords$Past"
def TX4 : u_T := fun k => match k with
  | 0 => ("DayCords$Past", "lines", "[LDayCords$Line;", true)
  | 1 => ("DayCords$Past", "top", "I", false)
  | _ => ("DayCords$Past", "count", "I", false)
def tyX4 : Nat → FieldType := fun k => match k with
  | 0 => .array (.object "DayCords$Line")
  | 1 => .int
  | _ => .int
abbrev wsX40 : List Cond := u_ws RX4 TX4 3
theorem nmX4 : ∀ a, a < 3 → ∀ b, b < 3 → a ≠ b → (TX4 a).2.1 ≠ (TX4 b).2.1 := by decide +kernel
theorem tyX4_ok : ∀ k, k < 3 → parseFieldDescriptor (TX4 k).2.2.1 = some (tyX4 k) := by decide +kernel
abbrev cX4_init : ByteArray := prog_6_method_1_code
def yX4_init : MethodName := ⟨RX4, "<init>", "()V"⟩
abbrev cX4_forget : ByteArray := prog_6_method_2_code
def yX4_forget : MethodName := ⟨RX4, "forget", "()V"⟩
abbrev cX4_remember : ByteArray := prog_6_method_3_code
def yX4_remember : MethodName := ⟨RX4, "remember", "(LDayCords$Line;)V"⟩
abbrev cX4_bringBack : ByteArray := prog_6_method_4_code
def yX4_bringBack : MethodName := ⟨RX4, "bringBack", "(ILDayCords$Line;)V"⟩
def RX5 : String := "DayCords$Plan"
def TX5 : u_T := fun k => match k with
  | 0 => ("DayCords$Plan", "kinds", "[I", true)
  | 1 => ("DayCords$Plan", "heavies", "[I", true)
  | 2 => ("DayCords$Plan", "wordKinds", "[I", true)
  | 3 => ("DayCords$Plan", "wordLengths", "[I", true)
  | 4 => ("DayCords$Plan", "hookPlaces", "[I", true)
  | 5 => ("DayCords$Plan", "hookReaches", "[I", true)
  | 6 => ("DayCords$Plan", "present", "Z", false)
  | 7 => ("DayCords$Plan", "windTold", "I", false)
  | 8 => ("DayCords$Plan", "flags", "I", false)
  | 9 => ("DayCords$Plan", "words", "I", false)
  | _ => ("DayCords$Plan", "hooks", "I", false)
def tyX5 : Nat → FieldType := fun k => match k with
  | 0 => .array .int
  | 1 => .array .int
  | 2 => .array .int
  | 3 => .array .int
  | 4 => .array .int
  | 5 => .array .int
  | 6 => .boolean
  | 7 => .int
  | 8 => .int
  | 9 => .int
  | _ => .int
abbrev wsX50 : List Cond := u_ws RX5 TX5 11
theorem nmX5 : ∀ a, a < 11 → ∀ b, b < 11 → a ≠ b → (TX5 a).2.1 ≠ (TX5 b).2.1 := by decide +kernel
theorem tyX5_ok : ∀ k, k < 11 → parseFieldDescriptor (TX5 k).2.2.1 = some (tyX5 k) := by decide +kernel
abbrev cX5_init : ByteArray := prog_7_method_1_code
def yX5_init : MethodName := ⟨RX5, "<init>", "()V"⟩
abbrev cX5_clear : ByteArray := prog_7_method_2_code
def yX5_clear : MethodName := ⟨RX5, "clear", "()V"⟩
abbrev cX5_copyFrom : ByteArray := prog_7_method_3_code
def yX5_copyFrom : MethodName := ⟨RX5, "copyFrom", "(LDayCords$Plan;)V"⟩
abbrev cX5_hasFlag : ByteArray := prog_7_method_4_code
def yX5_hasFlag : MethodName := ⟨RX5, "hasFlag", "(I)Z"⟩
abbrev cX5_allFlags : ByteArray := prog_7_method_5_code
def yX5_allFlags : MethodName := ⟨RX5, "allFlags", "()I"⟩
abbrev cX5_wordKind : ByteArray := prog_7_method_6_code
def yX5_wordKind : MethodName := ⟨RX5, "wordKind", "(II)I"⟩
abbrev cX5_placesOfHook : ByteArray := prog_7_method_7_code
def yX5_placesOfHook : MethodName := ⟨RX5, "placesOfHook", "(I)I"⟩
abbrev cX5_fewestHooks : ByteArray := prog_7_method_8_code
def yX5_fewestHooks : MethodName := ⟨RX5, "fewestHooks", "(I)I"⟩
abbrev cX5_placesOfHooks : ByteArray := prog_7_method_9_code
def yX5_placesOfHooks : MethodName := ⟨RX5, "placesOfHooks", "(I)I"⟩
def RX6 : String := "DayCords$Reader"
def TX6 : u_T := fun k => match k with
  | 0 => ("DayCords$Reader", "letters", "[I", true)
  | 1 => ("DayCords$Reader", "length", "I", false)
  | 2 => ("DayCords$Reader", "faultKind", "I", false)
  | 3 => ("DayCords$Reader", "faultLetter", "I", false)
  | _ => ("DayCords$Reader", "position", "I", false)
def tyX6 : Nat → FieldType := fun k => match k with
  | 0 => .array .int
  | 1 => .int
  | 2 => .int
  | 3 => .int
  | _ => .int
abbrev wsX60 : List Cond := u_ws RX6 TX6 5
theorem nmX6 : ∀ a, a < 5 → ∀ b, b < 5 → a ≠ b → (TX6 a).2.1 ≠ (TX6 b).2.1 := by decide +kernel
theorem tyX6_ok : ∀ k, k < 5 → parseFieldDescriptor (TX6 k).2.2.1 = some (tyX6 k) := by decide +kernel
abbrev cX6_init : ByteArray := prog_8_method_1_code
def yX6_init : MethodName := ⟨RX6, "<init>", "()V"⟩
abbrev cX6_readInto : ByteArray := prog_8_method_2_code
def yX6_readInto : MethodName := ⟨RX6, "readInto", "(LDayCords$Plan;)V"⟩
abbrev cX6_readClause : ByteArray := prog_8_method_3_code
def yX6_readClause : MethodName := ⟨RX6, "readClause", "(LDayCords$Plan;)V"⟩
abbrev cX6_isFullFor : ByteArray := prog_8_method_4_code
def yX6_isFullFor : MethodName := ⟨RX6, "isFullFor", "(LDayCords$Plan;I)Z"⟩
abbrev cX6_readRest : ByteArray := prog_8_method_5_code
def yX6_readRest : MethodName := ⟨RX6, "readRest", "(LDayCords$Plan;I)V"⟩
abbrev cX6_readKinds : ByteArray := prog_8_method_6_code
def yX6_readKinds : MethodName := ⟨RX6, "readKinds", "(LDayCords$Plan;)V"⟩
abbrev cX6_readNumber : ByteArray := prog_8_method_7_code
def yX6_readNumber : MethodName := ⟨RX6, "readNumber", "(II)I"⟩
abbrev cX6_readMark : ByteArray := prog_8_method_8_code
def yX6_readMark : MethodName := ⟨RX6, "readMark", "(I)V"⟩
abbrev cX6_skipBlanks : ByteArray := prog_8_method_9_code
def yX6_skipBlanks : MethodName := ⟨RX6, "skipBlanks", "()V"⟩
abbrev cX6_letterHere : ByteArray := prog_8_method_10_code
def yX6_letterHere : MethodName := ⟨RX6, "letterHere", "()I"⟩
abbrev cX6_isFigure : ByteArray := prog_8_method_11_code
def yX6_isFigure : MethodName := ⟨RX6, "isFigure", "(I)Z"⟩
abbrev cX6_blame : ByteArray := prog_8_method_12_code
def yX6_blame : MethodName := ⟨RX6, "blame", "(II)V"⟩
def RX7 : String := "DayCords$Sailor"
def TX7 : u_T := fun k => match k with
  | _ => ("DayCords$Sailor", "ways", "[I", true)
def tyX7 : Nat → FieldType := fun k => match k with
  | _ => .array .int
abbrev wsX70 : List Cond := u_ws RX7 TX7 1
theorem nmX7 : ∀ a, a < 1 → ∀ b, b < 1 → a ≠ b → (TX7 a).2.1 ≠ (TX7 b).2.1 := by decide +kernel
theorem tyX7_ok : ∀ k, k < 1 → parseFieldDescriptor (TX7 k).2.2.1 = some (tyX7 k) := by decide +kernel
abbrev cX7_init : ByteArray := prog_9_method_1_code
def yX7_init : MethodName := ⟨RX7, "<init>", "()V"⟩
abbrev cX7_readings : ByteArray := prog_9_method_2_code
def yX7_readings : MethodName := ⟨RX7, "readings", "(LDayCords$Plan;LDayCords$Line;)I"⟩
abbrev cX7_firstReading : ByteArray := prog_9_method_3_code
def yX7_firstReading : MethodName := ⟨RX7, "firstReading", "(LDayCords$Plan;LDayCords$Line;)I"⟩
abbrev cX7_spelt : ByteArray := prog_9_method_4_code
def yX7_spelt : MethodName := ⟨RX7, "spelt", "(LDayCords$Plan;LDayCords$Line;)I"⟩
abbrev cX7_countWays : ByteArray := prog_9_method_5_code
def yX7_countWays : MethodName := ⟨RX7, "countWays", "(LDayCords$Plan;LDayCords$Line;)V"⟩
abbrev cX7_firstWordOn : ByteArray := prog_9_method_6_code
def yX7_firstWordOn : MethodName := ⟨RX7, "firstWordOn", "(LDayCords$Plan;LDayCords$Line;I)I"⟩
abbrev cX7_begins : ByteArray := prog_9_method_7_code
def yX7_begins : MethodName := ⟨RX7, "begins", "(LDayCords$Plan;LDayCords$Line;II)Z"⟩
def RX8 : String := "DayCords$Takers"
def TX8 : u_T := fun k => match k with
  | _ => ("DayCords$Takers", "leads", "[I", true)
def tyX8 : Nat → FieldType := fun k => match k with
  | _ => .array .int
abbrev wsX80 : List Cond := u_ws RX8 TX8 1
theorem nmX8 : ∀ a, a < 1 → ∀ b, b < 1 → a ≠ b → (TX8 a).2.1 ≠ (TX8 b).2.1 := by decide +kernel
theorem tyX8_ok : ∀ k, k < 1 → parseFieldDescriptor (TX8 k).2.2.1 = some (tyX8 k) := by decide +kernel
abbrev cX8_init : ByteArray := prog_10_method_1_code
def yX8_init : MethodName := ⟨RX8, "<init>", "()V"⟩
abbrev cX8_more : ByteArray := prog_10_method_2_code
def yX8_more : MethodName := ⟨RX8, "more", "(LDayCords$Plan;LDayCords$Line;)I"⟩
abbrev cX8_firstEnd : ByteArray := prog_10_method_3_code
def yX8_firstEnd : MethodName := ⟨RX8, "firstEnd", "(LDayCords$Plan;LDayCords$Line;)I"⟩
abbrev cX8_byFront : ByteArray := prog_10_method_4_code
def yX8_byFront : MethodName := ⟨RX8, "byFront", "(LDayCords$Plan;LDayCords$Line;)I"⟩
abbrev cX8_byBack : ByteArray := prog_10_method_5_code
def yX8_byBack : MethodName := ⟨RX8, "byBack", "(LDayCords$Plan;LDayCords$Line;)I"⟩
abbrev cX8_fillLeads : ByteArray := prog_10_method_6_code
def yX8_fillLeads : MethodName := ⟨RX8, "fillLeads", "(LDayCords$Plan;LDayCords$Line;)V"⟩
def RX9 : String := "DayCords$Turner"
def TX9 : u_T := fun k => match k with
  | 0 => ("DayCords$Turner", "ranks", "[I", true)
  | _ => ("DayCords$Turner", "size", "I", false)
def tyX9 : Nat → FieldType := fun k => match k with
  | 0 => .array .int
  | _ => .int
abbrev wsX90 : List Cond := u_ws RX9 TX9 2
theorem nmX9 : ∀ a, a < 2 → ∀ b, b < 2 → a ≠ b → (TX9 a).2.1 ≠ (TX9 b).2.1 := by decide +kernel
theorem tyX9_ok : ∀ k, k < 2 → parseFieldDescriptor (TX9 k).2.2.1 = some (tyX9 k) := by decide +kernel
abbrev cX9_init : ByteArray := prog_11_method_1_code
def yX9_init : MethodName := ⟨RX9, "<init>", "()V"⟩
abbrev cX9_fewest : ByteArray := prog_11_method_2_code
def yX9_fewest : MethodName := ⟨RX9, "fewest", "(LDayCords$Line;)I"⟩
abbrev cX9_firstTurn : ByteArray := prog_11_method_3_code
def yX9_firstTurn : MethodName := ⟨RX9, "firstTurn", "(LDayCords$Line;)I"⟩
abbrev cX9_takeRanks : ByteArray := prog_11_method_4_code
def yX9_takeRanks : MethodName := ⟨RX9, "takeRanks", "(LDayCords$Line;)V"⟩
abbrev cX9_countGaps : ByteArray := prog_11_method_5_code
def yX9_countGaps : MethodName := ⟨RX9, "countGaps", "()I"⟩
abbrev cX9_gapBetween : ByteArray := prog_11_method_6_code
def yX9_gapBetween : MethodName := ⟨RX9, "gapBetween", "(II)I"⟩
abbrev cX9_firstWithin : ByteArray := prog_11_method_7_code
def yX9_firstWithin : MethodName := ⟨RX9, "firstWithin", "([IIII)I"⟩
abbrev cX9_turnRanks : ByteArray := prog_11_method_8_code
def yX9_turnRanks : MethodName := ⟨RX9, "turnRanks", "([II)V"⟩
def RX10 : String := "DayCords"
def TX10 : u_T := fun k => match k with
  | 0 => ("DayCords", "reader", "LDayCords$Reader;", true)
  | 1 => ("DayCords", "draft", "LDayCords$Plan;", true)
  | 2 => ("DayCords", "plan", "LDayCords$Plan;", true)
  | 3 => ("DayCords", "line", "LDayCords$Line;", true)
  | 4 => ("DayCords", "past", "LDayCords$Past;", true)
  | 5 => ("DayCords", "images", "[LDayCords$Image;", true)
  | 6 => ("DayCords", "turner", "LDayCords$Turner;", true)
  | 7 => ("DayCords", "sailor", "LDayCords$Sailor;", true)
  | 8 => ("DayCords", "takers", "LDayCords$Takers;", true)
  | 9 => ("DayCords", "looks", "LDayCords$Looks;", true)
  | 10 => ("DayCords", "book", "LDayCords$Book;", true)
  | _ => ("DayCords", "seedNow", "I", false)
def tyX10 : Nat → FieldType := fun k => match k with
  | 0 => .object "DayCords$Reader"
  | 1 => .object "DayCords$Plan"
  | 2 => .object "DayCords$Plan"
  | 3 => .object "DayCords$Line"
  | 4 => .object "DayCords$Past"
  | 5 => .array (.object "DayCords$Image")
  | 6 => .object "DayCords$Turner"
  | 7 => .object "DayCords$Sailor"
  | 8 => .object "DayCords$Takers"
  | 9 => .object "DayCords$Looks"
  | 10 => .object "DayCords$Book"
  | _ => .int
abbrev wsX100 : List Cond := u_ws RX10 TX10 12
theorem nmX10 : ∀ a, a < 12 → ∀ b, b < 12 → a ≠ b → (TX10 a).2.1 ≠ (TX10 b).2.1 := by decide +kernel
theorem tyX10_ok : ∀ k, k < 12 → parseFieldDescriptor (TX10 k).2.2.1 = some (tyX10 k) := by decide +kernel
abbrev cX10_init : ByteArray := prog_1_method_1_code
def yX10_init : MethodName := ⟨RX10, "<init>", "()V"⟩
abbrev cX10_feed : ByteArray := prog_1_method_2_code
def yX10_feed : MethodName := ⟨RX10, "feed", "(I)I"⟩
abbrev cX10_cord : ByteArray := prog_1_method_3_code
def yX10_cord : MethodName := ⟨RX10, "cord", "()I"⟩
abbrev cX10_fault : ByteArray := prog_1_method_4_code
def yX10_fault : MethodName := ⟨RX10, "fault", "()I"⟩
abbrev cX10_told : ByteArray := prog_1_method_5_code
def yX10_told : MethodName := ⟨RX10, "told", "(I)I"⟩
abbrev cX10_flag : ByteArray := prog_1_method_6_code
def yX10_flag : MethodName := ⟨RX10, "flag", "(II)I"⟩
abbrev cX10_at : ByteArray := prog_1_method_7_code
def yX10_at : MethodName := ⟨RX10, "at", "(I)I"⟩
abbrev cX10_hook : ByteArray := prog_1_method_8_code
def yX10_hook : MethodName := ⟨RX10, "hook", "(II)I"⟩
abbrev cX10_word : ByteArray := prog_1_method_9_code
def yX10_word : MethodName := ⟨RX10, "word", "(II)I"⟩
abbrev cX10_turn : ByteArray := prog_1_method_10_code
def yX10_turn : MethodName := ⟨RX10, "turn", "(I)I"⟩
abbrev cX10_cut : ByteArray := prog_1_method_11_code
def yX10_cut : MethodName := ⟨RX10, "cut", "(I)I"⟩
abbrev cX10_eat : ByteArray := prog_1_method_12_code
def yX10_eat : MethodName := ⟨RX10, "eat", "(I)I"⟩
abbrev cX10_sew : ByteArray := prog_1_method_13_code
def yX10_sew : MethodName := ⟨RX10, "sew", "(II)I"⟩
abbrev cX10_rain : ByteArray := prog_1_method_14_code
def yX10_rain : MethodName := ⟨RX10, "rain", "(Z)I"⟩
abbrev cX10_wind : ByteArray := prog_1_method_15_code
def yX10_wind : MethodName := ⟨RX10, "wind", "(I)I"⟩
abbrev cX10_year : ByteArray := prog_1_method_16_code
def yX10_year : MethodName := ⟨RX10, "year", "(I)I"⟩
abbrev cX10_drift : ByteArray := prog_1_method_17_code
def yX10_drift : MethodName := ⟨RX10, "drift", "(I)I"⟩
abbrev cX10_undo : ByteArray := prog_1_method_18_code
def yX10_undo : MethodName := ⟨RX10, "undo", "(I)I"⟩
abbrev cX10_turnings : ByteArray := prog_1_method_19_code
def yX10_turnings : MethodName := ⟨RX10, "turnings", "(I)I"⟩
abbrev cX10_loose : ByteArray := prog_1_method_20_code
def yX10_loose : MethodName := ⟨RX10, "loose", "(I)I"⟩
abbrev cX10_felt : ByteArray := prog_1_method_21_code
def yX10_felt : MethodName := ⟨RX10, "felt", "(II)I"⟩
abbrev cX10_farthest : ByteArray := prog_1_method_22_code
def yX10_farthest : MethodName := ⟨RX10, "farthest", "(I)I"⟩
abbrev cX10_hooked : ByteArray := prog_1_method_23_code
def yX10_hooked : MethodName := ⟨RX10, "hooked", "(I)I"⟩
abbrev cX10_gap : ByteArray := prog_1_method_24_code
def yX10_gap : MethodName := ⟨RX10, "gap", "(I)I"⟩
abbrev cX10_ends : ByteArray := prog_1_method_25_code
def yX10_ends : MethodName := ⟨RX10, "ends", "(I)I"⟩
abbrev cX10_calm : ByteArray := prog_1_method_26_code
def yX10_calm : MethodName := ⟨RX10, "calm", "(II)I"⟩
abbrev cX10_old : ByteArray := prog_1_method_27_code
def yX10_old : MethodName := ⟨RX10, "old", "(IIZ)I"⟩
abbrev cX10_couldBe : ByteArray := prog_1_method_28_code
def yX10_couldBe : MethodName := ⟨RX10, "couldBe", "()I"⟩
abbrev cX10_next : ByteArray := prog_1_method_29_code
def yX10_next : MethodName := ⟨RX10, "next", "()I"⟩
abbrev cX10_write : ByteArray := prog_1_method_30_code
def yX10_write : MethodName := ⟨RX10, "write", "(II)I"⟩
abbrev cX10_judge : ByteArray := prog_1_method_31_code
def yX10_judge : MethodName := ⟨RX10, "judge", "()I"⟩
abbrev cX10_tear : ByteArray := prog_1_method_32_code
def yX10_tear : MethodName := ⟨RX10, "tear", "()I"⟩
abbrev cX10_seed : ByteArray := prog_1_method_33_code
def yX10_seed : MethodName := ⟨RX10, "seed", "(I)I"⟩
abbrev cX10_keep : ByteArray := prog_1_method_34_code
def yX10_keep : MethodName := ⟨RX10, "keep", "(I)I"⟩
abbrev cX10_goBack : ByteArray := prog_1_method_35_code
def yX10_goBack : MethodName := ⟨RX10, "goBack", "(I)I"⟩
abbrev cX10_offSet : ByteArray := prog_1_method_36_code
def yX10_offSet : MethodName := ⟨RX10, "offSet", "()I"⟩
abbrev cX10_yearsRefused : ByteArray := prog_1_method_37_code
def yX10_yearsRefused : MethodName := ⟨RX10, "yearsRefused", "(I)I"⟩
abbrev cX10_draw : ByteArray := prog_1_method_38_code
def yX10_draw : MethodName := ⟨RX10, "draw", "(I)I"⟩
abbrev cX10_chance : ByteArray := prog_1_method_39_code
def yX10_chance : MethodName := ⟨RX10, "chance", "()V"⟩
abbrev cX10_hasBit : ByteArray := prog_1_method_40_code
def yX10_hasBit : MethodName := ⟨RX10, "hasBit", "(II)Z"⟩
def RX11 : String := "DayCordsModel"
def TX11 : u_T := fun k => match k with
  | 0 => ("DayCordsModel", "text", "[I", true)
  | 1 => ("DayCordsModel", "typed", "I", false)
  | 2 => ("DayCordsModel", "told", "[I", true)
  | 3 => ("DayCordsModel", "draft", "[I", true)
  | 4 => ("DayCordsModel", "s", "[I", true)
  | 5 => ("DayCordsModel", "past", "[I", true)
  | 6 => ("DayCordsModel", "known", "I", false)
  | 7 => ("DayCordsModel", "images", "[I", true)
  | 8 => ("DayCordsModel", "kept", "[Z", true)
  | 9 => ("DayCordsModel", "drawn", "I", false)
  | 10 => ("DayCordsModel", "looks", "[I", true)
  | 11 => ("DayCordsModel", "looked", "I", false)
  | 12 => ("DayCordsModel", "book", "[I", true)
  | 13 => ("DayCordsModel", "entries", "I", false)
  | 14 => ("DayCordsModel", "pos", "I", false)
  | 15 => ("DayCordsModel", "wrongAt", "I", false)
  | 16 => ("DayCordsModel", "wrong", "I", false)
  | 17 => ("DayCordsModel", "ways", "[I", true)
  | 18 => ("DayCordsModel", "row", "[I", true)
  | 19 => ("DayCordsModel", "far", "[J", true)
  | 20 => ("DayCordsModel", "farOf", "I", false)
  | 21 => ("DayCordsModel", "lesser", "[I", true)
  | 22 => ("DayCordsModel", "one", "[I", true)
  | 23 => ("DayCordsModel", "other", "[I", true)
  | _ => ("DayCordsModel", "more", "[I", true)
def tyX11 : Nat → FieldType := fun k => match k with
  | 0 => .array .int
  | 1 => .int
  | 2 => .array .int
  | 3 => .array .int
  | 4 => .array .int
  | 5 => .array .int
  | 6 => .int
  | 7 => .array .int
  | 8 => .array .boolean
  | 9 => .int
  | 10 => .array .int
  | 11 => .int
  | 12 => .array .int
  | 13 => .int
  | 14 => .int
  | 15 => .int
  | 16 => .int
  | 17 => .array .int
  | 18 => .array .int
  | 19 => .array .long
  | 20 => .int
  | 21 => .array .int
  | 22 => .array .int
  | 23 => .array .int
  | _ => .array .int
abbrev wsX110 : List Cond := u_ws RX11 TX11 25
theorem nmX11 : ∀ a, a < 25 → ∀ b, b < 25 → a ≠ b → (TX11 a).2.1 ≠ (TX11 b).2.1 := by decide +kernel
theorem tyX11_ok : ∀ k, k < 25 → parseFieldDescriptor (TX11 k).2.2.1 = some (tyX11 k) := by decide +kernel
abbrev cX11_init : ByteArray := prog_13_method_1_code
def yX11_init : MethodName := ⟨RX11, "<init>", "()V"⟩
abbrev cX11_in : ByteArray := prog_13_method_3_code
def yX11_in : MethodName := ⟨RX11, "in", "(III)Z"⟩
abbrev cX11_has : ByteArray := prog_13_method_4_code
def yX11_has : MethodName := ⟨RX11, "has", "(II)Z"⟩
abbrev cX11_ones : ByteArray := prog_13_method_5_code
def yX11_ones : MethodName := ⟨RX11, "ones", "(I)I"⟩
abbrev cX11_isFlag : ByteArray := prog_13_method_6_code
def yX11_isFlag : MethodName := ⟨RX11, "isFlag", "(I)Z"⟩
abbrev cX11_feed : ByteArray := prog_13_method_7_code
def yX11_feed : MethodName := ⟨RX11, "feed", "(I)I"⟩
abbrev cX11_next0 : ByteArray := prog_13_method_8_code
def yX11_next0 : MethodName := ⟨RX11, "next0", "()I"⟩
abbrev cX11_isFigure : ByteArray := prog_13_method_9_code
def yX11_isFigure : MethodName := ⟨RX11, "isFigure", "(I)Z"⟩
abbrev cX11_faulty : ByteArray := prog_13_method_10_code
def yX11_faulty : MethodName := ⟨RX11, "faulty", "(I)Z"⟩
abbrev cX11_number : ByteArray := prog_13_method_11_code
def yX11_number : MethodName := ⟨RX11, "number", "(III)Z"⟩
abbrev cX11_ends : ByteArray := prog_13_method_12_code
def yX11_ends : MethodName := ⟨RX11, "ends", "()Z"⟩
abbrev cX11_readsWord : ByteArray := prog_13_method_13_code
def yX11_readsWord : MethodName := ⟨RX11, "readsWord", "()Z"⟩
abbrev cX11_readsClause : ByteArray := prog_13_method_14_code
def yX11_readsClause : MethodName := ⟨RX11, "readsClause", "(I)Z"⟩
abbrev cX11_reads : ByteArray := prog_13_method_15_code
def yX11_reads : MethodName := ⟨RX11, "reads", "()Z"⟩
abbrev cX11_cord : ByteArray := prog_13_method_16_code
def yX11_cord : MethodName := ⟨RX11, "cord", "()I"⟩
abbrev cX11_fault : ByteArray := prog_13_method_17_code
def yX11_fault : MethodName := ⟨RX11, "fault", "()I"⟩
abbrev cX11_placeOf : ByteArray := prog_13_method_18_code
def yX11_placeOf : MethodName := ⟨RX11, "placeOf", "(I)I"⟩
abbrev cX11_isOut : ByteArray := prog_13_method_19_code
def yX11_isOut : MethodName := ⟨RX11, "isOut", "(I)Z"⟩
abbrev cX11_onIt : ByteArray := prog_13_method_20_code
def yX11_onIt : MethodName := ⟨RX11, "onIt", "()I"⟩
abbrev cX11_outs : ByteArray := prog_13_method_21_code
def yX11_outs : MethodName := ⟨RX11, "outs", "()I"⟩
abbrev cX11_crossed : ByteArray := prog_13_method_22_code
def yX11_crossed : MethodName := ⟨RX11, "crossed", "()I"⟩
abbrev cX11_cutAt : ByteArray := prog_13_method_23_code
def yX11_cutAt : MethodName := ⟨RX11, "cutAt", "()I"⟩
abbrev cX11_longOf : ByteArray := prog_13_method_24_code
def yX11_longOf : MethodName := ⟨RX11, "longOf", "(I)I"⟩
abbrev cX11_fits : ByteArray := prog_13_method_25_code
def yX11_fits : MethodName := ⟨RX11, "fits", "(II)Z"⟩
abbrev cX11_readings : ByteArray := prog_13_method_26_code
def yX11_readings : MethodName := ⟨RX11, "readings", "()I"⟩
abbrev cX11_firstOf : ByteArray := prog_13_method_27_code
def yX11_firstOf : MethodName := ⟨RX11, "firstOf", "()I"⟩
abbrev cX11_begun : ByteArray := prog_13_method_28_code
def yX11_begun : MethodName := ⟨RX11, "begun", "()I"⟩
abbrev cX11_told : ByteArray := prog_13_method_29_code
def yX11_told : MethodName := ⟨RX11, "told", "(I)I"⟩
abbrev cX11_flag : ByteArray := prog_13_method_30_code
def yX11_flag : MethodName := ⟨RX11, "flag", "(II)I"⟩
abbrev cX11_at : ByteArray := prog_13_method_31_code
def yX11_at : MethodName := ⟨RX11, "at", "(I)I"⟩
abbrev cX11_reached : ByteArray := prog_13_method_32_code
def yX11_reached : MethodName := ⟨RX11, "reached", "(I)I"⟩
abbrev cX11_hook : ByteArray := prog_13_method_33_code
def yX11_hook : MethodName := ⟨RX11, "hook", "(II)I"⟩
abbrev cX11_word : ByteArray := prog_13_method_34_code
def yX11_word : MethodName := ⟨RX11, "word", "(II)I"⟩
abbrev cX11_keeps : ByteArray := prog_13_method_35_code
def yX11_keeps : MethodName := ⟨RX11, "keeps", "()V"⟩
abbrev cX11_turn : ByteArray := prog_13_method_36_code
def yX11_turn : MethodName := ⟨RX11, "turn", "(I)I"⟩
abbrev cX11_cuts : ByteArray := prog_13_method_37_code
def yX11_cuts : MethodName := ⟨RX11, "cuts", "(I)V"⟩
abbrev cX11_cut : ByteArray := prog_13_method_38_code
def yX11_cut : MethodName := ⟨RX11, "cut", "(I)I"⟩
abbrev cX11_eats : ByteArray := prog_13_method_39_code
def yX11_eats : MethodName := ⟨RX11, "eats", "(I)V"⟩
abbrev cX11_eat : ByteArray := prog_13_method_40_code
def yX11_eat : MethodName := ⟨RX11, "eat", "(I)I"⟩
abbrev cX11_sew : ByteArray := prog_13_method_41_code
def yX11_sew : MethodName := ⟨RX11, "sew", "(II)I"⟩
abbrev cX11_rain : ByteArray := prog_13_method_42_code
def yX11_rain : MethodName := ⟨RX11, "rain", "(Z)I"⟩
abbrev cX11_wind : ByteArray := prog_13_method_43_code
def yX11_wind : MethodName := ⟨RX11, "wind", "(I)I"⟩
abbrev cX11_passes : ByteArray := prog_13_method_44_code
def yX11_passes : MethodName := ⟨RX11, "passes", "()V"⟩
abbrev cX11_year : ByteArray := prog_13_method_45_code
def yX11_year : MethodName := ⟨RX11, "year", "(I)I"⟩
abbrev cX11_draws : ByteArray := prog_13_method_46_code
def yX11_draws : MethodName := ⟨RX11, "draws", "(I)I"⟩
abbrev cX11_drift : ByteArray := prog_13_method_47_code
def yX11_drift : MethodName := ⟨RX11, "drift", "(I)I"⟩
abbrev cX11_undo : ByteArray := prog_13_method_48_code
def yX11_undo : MethodName := ⟨RX11, "undo", "(I)I"⟩
abbrev cX11_farAt : ByteArray := prog_13_method_49_code
def yX11_farAt : MethodName := ⟨RX11, "farAt", "(I)I"⟩
abbrev cX11_isFar : ByteArray := prog_13_method_50_code
def yX11_isFar : MethodName := ⟨RX11, "isFar", "(II)V"⟩
abbrev cX11_numberOf : ByteArray := prog_13_method_51_code
def yX11_numberOf : MethodName := ⟨RX11, "numberOf", "([II)I"⟩
abbrev cX11_orderOf : ByteArray := prog_13_method_52_code
def yX11_orderOf : MethodName := ⟨RX11, "orderOf", "(II[I)V"⟩
abbrev cX11_turns : ByteArray := prog_13_method_53_code
def yX11_turns : MethodName := ⟨RX11, "turns", "([I[III)V"⟩
abbrev cX11_measures : ByteArray := prog_13_method_54_code
def yX11_measures : MethodName := ⟨RX11, "measures", "(I)V"⟩
abbrev cX11_turnings : ByteArray := prog_13_method_55_code
def yX11_turnings : MethodName := ⟨RX11, "turnings", "(I)I"⟩
abbrev cX11_loose : ByteArray := prog_13_method_56_code
def yX11_loose : MethodName := ⟨RX11, "loose", "(I)I"⟩
abbrev cX11_feltAt : ByteArray := prog_13_method_57_code
def yX11_feltAt : MethodName := ⟨RX11, "feltAt", "(II)I"⟩
abbrev cX11_felt : ByteArray := prog_13_method_58_code
def yX11_felt : MethodName := ⟨RX11, "felt", "(II)I"⟩
abbrev cX11_farthest : ByteArray := prog_13_method_59_code
def yX11_farthest : MethodName := ⟨RX11, "farthest", "(I)I"⟩
abbrev cX11_hooked : ByteArray := prog_13_method_60_code
def yX11_hooked : MethodName := ⟨RX11, "hooked", "(I)I"⟩
abbrev cX11_gap : ByteArray := prog_13_method_61_code
def yX11_gap : MethodName := ⟨RX11, "gap", "(I)I"⟩
abbrev cX11_heavyAt : ByteArray := prog_13_method_62_code
def yX11_heavyAt : MethodName := ⟨RX11, "heavyAt", "(I)I"⟩
abbrev cX11_moreOf : ByteArray := prog_13_method_63_code
def yX11_moreOf : MethodName := ⟨RX11, "moreOf", "(II)I"⟩
abbrev cX11_ends_ : ByteArray := prog_13_method_64_code
def yX11_ends_ : MethodName := ⟨RX11, "ends", "(I)I"⟩
abbrev cX11_calm : ByteArray := prog_13_method_65_code
def yX11_calm : MethodName := ⟨RX11, "calm", "(II)I"⟩
abbrev cX11_old : ByteArray := prog_13_method_66_code
def yX11_old : MethodName := ⟨RX11, "old", "(IIZ)I"⟩
abbrev cX11_isSo : ByteArray := prog_13_method_67_code
def yX11_isSo : MethodName := ⟨RX11, "isSo", "(III)Z"⟩
abbrev cX11_could : ByteArray := prog_13_method_68_code
def yX11_could : MethodName := ⟨RX11, "could", "()I"⟩
abbrev cX11_couldBe : ByteArray := prog_13_method_69_code
def yX11_couldBe : MethodName := ⟨RX11, "couldBe", "()I"⟩
abbrev cX11_next : ByteArray := prog_13_method_70_code
def yX11_next : MethodName := ⟨RX11, "next", "()I"⟩
abbrev cX11_write : ByteArray := prog_13_method_71_code
def yX11_write : MethodName := ⟨RX11, "write", "(II)I"⟩
abbrev cX11_judge : ByteArray := prog_13_method_72_code
def yX11_judge : MethodName := ⟨RX11, "judge", "()I"⟩
abbrev cX11_tear : ByteArray := prog_13_method_73_code
def yX11_tear : MethodName := ⟨RX11, "tear", "()I"⟩
abbrev cX11_seed : ByteArray := prog_13_method_74_code
def yX11_seed : MethodName := ⟨RX11, "seed", "(I)I"⟩
abbrev cX11_keep : ByteArray := prog_13_method_75_code
def yX11_keep : MethodName := ⟨RX11, "keep", "(I)I"⟩
abbrev cX11_goBack : ByteArray := prog_13_method_76_code
def yX11_goBack : MethodName := ⟨RX11, "goBack", "(I)I"⟩
def RJ6 : String := "java/lang/Integer"
def TJ6 : u_T := fun k => match k with
  | _ => ("", "", "", false)
def tyJ6 : Nat → FieldType := fun k => match k with
  | _ => .int
abbrev wsJ60 : List Cond := u_ws RJ6 TJ6 0
theorem nmJ6 : ∀ a, a < 0 → ∀ b, b < 0 → a ≠ b → (TJ6 a).2.1 ≠ (TJ6 b).2.1 := by decide +kernel
theorem tyJ6_ok : ∀ k, k < 0 → parseFieldDescriptor (TJ6 k).2.2.1 = some (tyJ6 k) := by decide +kernel
abbrev cJ6_bitCount_0f7a4 : ByteArray := prog_14_method_49_code
def yJ6_bitCount_0f7a4 : MethodName := ⟨RJ6, "bitCount", "(I)I"⟩
def RJ9 : String := "java/lang/Math"
def TJ9 : u_T := fun k => match k with
  | _ => ("", "", "", false)
def tyJ9 : Nat → FieldType := fun k => match k with
  | _ => .int
abbrev wsJ90 : List Cond := u_ws RJ9 TJ9 0
theorem nmJ9 : ∀ a, a < 0 → ∀ b, b < 0 → a ≠ b → (TJ9 a).2.1 ≠ (TJ9 b).2.1 := by decide +kernel
theorem tyJ9_ok : ∀ k, k < 0 → parseFieldDescriptor (TJ9 k).2.2.1 = some (tyJ9 k) := by decide +kernel
abbrev cJ9_floorMod_7cf53 : ByteArray := prog_15_method_50_code
def yJ9_floorMod_7cf53 : MethodName := ⟨RJ9, "floorMod", "(II)I"⟩
abbrev cJ9_max_7cf53 : ByteArray := prog_15_method_65_code
def yJ9_max_7cf53 : MethodName := ⟨RJ9, "max", "(II)I"⟩
abbrev cJ9_min_7cf53 : ByteArray := prog_15_method_69_code
def yJ9_min_7cf53 : MethodName := ⟨RJ9, "min", "(II)I"⟩
def RJ10 : String := "java/lang/System"
def TJ10 : u_T := fun k => match k with
  | _ => ("", "", "", false)
def tyJ10 : Nat → FieldType := fun k => match k with
  | _ => .int
abbrev wsJ100 : List Cond := u_ws RJ10 TJ10 0
theorem nmJ10 : ∀ a, a < 0 → ∀ b, b < 0 → a ≠ b → (TJ10 a).2.1 ≠ (TJ10 b).2.1 := by decide +kernel
theorem tyJ10_ok : ∀ k, k < 0 → parseFieldDescriptor (TJ10 k).2.2.1 = some (tyJ10 k) := by decide +kernel
def RJ7 : String := "java/util/Arrays"
def TJ7 : u_T := fun k => match k with
  | _ => ("", "", "", false)
def tyJ7 : Nat → FieldType := fun k => match k with
  | _ => .int
abbrev wsJ70 : List Cond := u_ws RJ7 TJ7 0
theorem nmJ7 : ∀ a, a < 0 → ∀ b, b < 0 → a ≠ b → (TJ7 a).2.1 ≠ (TJ7 b).2.1 := by decide +kernel
theorem tyJ7_ok : ∀ k, k < 0 → parseFieldDescriptor (TJ7 k).2.2.1 = some (tyJ7 k) := by decide +kernel
abbrev cJ7_fill_53178 : ByteArray := prog_17_method_103_code
def yJ7_fill_53178 : MethodName := ⟨RJ7, "fill", "([II)V"⟩
def RL : String := "DayCordsLaw"
abbrev cL_law : ByteArray := code
def yL_law : MethodName := ⟨RL, "law", "([I)Z"⟩
abbrev vwCl : List vw_C := [(RX0, TX0, 3), (RX1, TX1, 3), (RX2, TX2, 7), (RX3, TX3, 3), (RX4, TX4, 3), (RX5, TX5, 11), (RX6, TX6, 5), (RX7, TX7, 1), (RX8, TX8, 1), (RX9, TX9, 2), (RX10, TX10, 12), (RX11, TX11, 25)]
end
section
/-! THE LAYER OF NUMBERS: ints and longs as Int, cells by their numbers, one memory of numbers; a judgement AJ over the kit's W, and a rule an instruction -/
abbrev VV : Type := Int ⊕ (Int ⊕ Option (Option Nat))
abbrev vi (x : Int) : VV := .inl x
abbrev vl (x : Int) : VV := .inr (.inl x)
abbrev vr (j : Nat) : VV := .inr (.inr (some (some j)))
abbrev vsc : VV := .inr (.inr (some none))
abbrev vnl : VV := .inr (.inr none)
/-- the shape of a cell: a row of numbers (kind, length); a row of references; an object (class, fields: none is a number) -/
abbrev Sh : Type := (Nat × Nat) ⊕ ((Nat × List (Option Nat)) ⊕ (Nat × List (Option (Option Nat))))
abbrev Mem : Type := Nat → Nat → Int
/-- script's address, length, contents; the classes' tables; the row classes -/
abbrev CX : Type := Nat × Nat × (Nat → Int) × va_G × (Nat → ClassId)
abbrev MI : Type := MethodName × ByteArray × Nat × Option FieldType
def mu (g : Mem) (i k : Nat) (v : Int) : Mem := fun j q => if j = i ∧ q = k then v else g j q
abbrev R32 (x : Int) : Prop := -2147483648 ≤ x ∧ x < 2147483648
abbrev R64 (x : Int) : Prop := -9223372036854775808 ≤ x ∧ x < 9223372036854775808
def cv (b : Nat) (ρ : Nat → Nat) : VV → Value
  | .inl x => .int (Int32.ofInt x)
  | .inr (.inl x) => .long (Int64.ofInt x)
  | .inr (.inr none) => .null
  | .inr (.inr (some none)) => .ref b
  | .inr (.inr (some (some j))) => .ref (ρ j)
def wfv (n : Nat) : VV → Prop
  | .inl _ => True
  | .inr (.inl _) => True
  | .inr (.inr none) => True
  | .inr (.inr (some none)) => True
  | .inr (.inr (some (some j))) => j < n
def wfs (n : Nat) (l : List VV) : Prop := ∀ v ∈ l, wfv n v
def wfo (n : Nat) (l : List (Option VV)) : Prop := ∀ v : VV, some v ∈ l → wfv n v
def wfh (n : Nat) : Sh → Prop
  | .inl _ => True
  | .inr (.inl (_, rs)) => ∀ j : Nat, some j ∈ rs → j < n
  | .inr (.inr (_, fs)) => ∀ j : Nat, some (some j) ∈ fs → j < n
def wfz (Z : List Sh) : Prop := ∀ sh ∈ Z, wfh Z.length sh
def fvl (ρ : Nat → Nat) (x : Int) : Option (Option Nat) → Value
  | none => .int (Int32.ofInt x)
  | some none => .null
  | some (some j) => .ref (ρ j)
def ent (cA : Nat → ClassId) (ρ : Nat → Nat) (row : Nat → Int) : Sh → va_E
  | .inl (t, n) => if t = 2 then .inl (cA t, n, .inr (.inl (fun k => Int64.ofInt (row k)))) else .inl (cA t, n, .inl (fun k => Int32.ofInt (row k)))
  | .inr (.inl (t, rs)) => .inl (cA t, rs.length, .inr (.inr (.inr (.inr (fun k => (rs.getD k none).map ρ)))))
  | .inr (.inr (c, fs)) => .inr (c, fs.mapIdx (fun k f => fvl ρ (row k) f))
def wd (X : CX) (ρ : Nat → Nat) (Z : List Sh) (g : Mem) : va_W := Z.mapIdx (fun i sh => (ρ i, ent X.2.2.2.2 ρ (g i) sh))
def tysX (X : CX) : List (ClassId × FieldType) := [(X.2.2.2.2 0, .int), (X.2.2.2.2 1, .boolean), (X.2.2.2.2 2, .long), (X.2.2.2.2 3, .object "DayCords$Line"), (X.2.2.2.2 4, .object "DayCords$Image")]
def lcv (b : Nat) (ρ : Nat → Nat) (ls : List (Option VV)) : List (Nat × Value) := (List.range ls.length).filterMap (fun k => (ls.getD k none).map (fun v => (k, cv b ρ v)))
def gTbl : List Cond := lw_tbl.filter goodWord
def nTbl : List (String × Nat × MethodName × String) := lw_tbl.filterMap (fun w => match w with | .methodLinkNest a i x h => some (a, i, x, h) | _ => none)
def Agr (ρ0 : Nat → Nat) (n0 : Nat) (ρ : Nat → Nat) (n : Nat) : Prop := n0 ≤ n ∧ ∀ j : Nat, (j < n0 ∨ n ≤ j) → ρ j = ρ0 j
def RetAt (M : MI) (pc : Nat) (r : Option VV) : Prop := (decode M.2.1 pc = .ok (.ireturn, 1) ∧ ∃ v : Int, r = some (vi v) ∧ ∃ ty, M.2.2.2 = some ty ∧ (ty = .int ∨ (ty = .boolean ∧ (v = 0 ∨ v = 1)))) ∨ (decode M.2.1 pc = .ok (.return_, 1) ∧ r = none ∧ M.2.2.2 = none)
def RD (X : CX) (s : State) (A : Nat → Prop) (ρ0 : Nat → Nat) (n0 nL : Nat) (H : Heap) (locs : List Loc) (ρ : Nat → Nat) (arr : Array Slot) (ls : List (Option VV)) (st : List VV) (Z : List Sh) (g : Mem) : Prop :=
  va_P X.2.2.2.1 vwCl (wd X ρ Z g) H ∧ va_D A (wd X ρ Z g) ∧ va_S A s.heap H locs ∧ wfz Z ∧ wfo Z.length ls ∧ wfs Z.length st ∧ lv_has arr nL (lcv X.1 ρ ls) ∧ ls.length = nL ∧ Agr ρ0 n0 ρ Z.length
def RE (X : CX) (s : State) (A : Nat → Prop) (ρ0 : Nat → Nat) (n0 : Nat) (H : Heap) (locs : List Loc) (ρ : Nat → Nat) (r : Option VV) (Z : List Sh) (g : Mem) : Prop :=
  va_P X.2.2.2.1 vwCl (wd X ρ Z g) H ∧ va_D A (wd X ρ Z g) ∧ va_S A s.heap H locs ∧ wfz Z ∧ wfs Z.length r.toList ∧ Agr ρ0 n0 ρ Z.length
def NW (s : State) : Prop := (∀ q ∈ nTbl, va_Nw (.methodLinkNest q.1 q.2.1 q.2.2.1 q.2.2.2) s) ∧ va_AO "DayCords$Line" s ∧ va_AO "DayCords$Image" s
def RS (X : CX) (d : Nat) (M : MI) (mc ms : Nat) (Q : Option VV → List Sh → Mem → Prop) (p : Program) (l : Launch) (e : Env) (R : Room) (s : State) (m : MethodId) (args : Array Value) (below : List Frame) (meth : Method) (c : Code) (Qw : State → Prop) (A : Nat → Prop) (ρ0 : Nat → Nat) (n0 : Nat) : Prop :=
  p.tables.exec = Jvm.exec ∧ c.code = M.2.1 ∧ c.maxLocals = M.2.2.1 ∧ s.vm.findClass M.1.cls = some m.cls ∧ (∀ w ∈ gTbl, w.before args s = true) ∧ NW s ∧ va_K X.2.2.2.1 vwCl (tysX X) s ∧ meth.sig.returnType = M.2.2.2 ∧ meth.locks = false ∧ meth.name = M.1.name ∧
  (d ≤ R.frames ∧ 64 * d ≤ R.locals ∧ mc ≤ R.cells ∧ ms ≤ R.slots) ∧ (∀ q : Nat, s.heap.size ≤ q → A q) ∧ (M.1.name = "law" → va_X X.1 X.2.1 (fun j => Int32.ofInt (X.2.2.1 j)) s s.heap ∧ X.1 < s.heap.size ∧ ¬ A X.1) ∧
  (∀ (r : Option VV) (Z : List Sh) (g : Mem) (ρ : Nat → Nat) (H : Heap) (locs : List Loc) (k n pc : Nat) (arr : Array Slot), Q r Z g → RE X s A ρ0 n0 H locs ρ r Z g → k ≤ mc → n ≤ ms → RetAt M pc r → W p l e R s m args below meth c H locs k n Qw (F0 m pc arr (r.toList.map (cv X.1 ρ))))
def AJ (X : CX) (d : Nat) (M : MI) (mc ms : Nat) (Q : Option VV → List Sh → Mem → Prop) (k n pc : Nat) (ls : List (Option VV)) (st : List VV) (Z : List Sh) (g : Mem) : Prop :=
  ∀ (p : Program) (l : Launch) (e : Env) (R : Room) (s : State) (m : MethodId) (args : Array Value) (below : List Frame) (meth : Method) (c : Code) (Qw : State → Prop) (A : Nat → Prop) (ρ0 : Nat → Nat) (n0 : Nat), RS X d M mc ms Q p l e R s m args below meth c Qw A ρ0 n0 →
  ∀ (H : Heap) (locs : List Loc) (ρ : Nat → Nat) (arr : Array Slot), RD X s A ρ0 n0 M.2.2.1 H locs ρ arr ls st Z g → W p l e R s m args below meth c H locs k n Qw (F0 m pc arr (st.map (cv X.1 ρ)))
def Ent (X : CX) (d : Nat) (M : MI) (mc ms : Nat) (vs : List VV) (Z : List Sh) (g : Mem) (Q : Option VV → List Sh → Mem → Prop) : Prop := AJ X d M mc ms Q 0 0 0 (vs.map some ++ List.replicate (M.2.2.1 - vs.length) none) [] Z g
-- numbers
theorem i32_toInt {x : Int} (h : R32 x) : (Int32.ofInt x).toInt = x := by
  rw [Int32.toInt_ofInt]
  have e : x.bmod 4294967296 = x := by rw [Int.bmod_def]; omega
  exact e
theorem i64_toInt {x : Int} (h : R64 x) : (Int64.ofInt x).toInt = x := by
  rw [Int64.toInt_ofInt]
  have e : x.bmod 18446744073709551616 = x := by rw [Int.bmod_def]; omega
  exact e
theorem i32_lt {a b : Int} (ha : R32 a) (hb : R32 b) : Int32.ofInt a < Int32.ofInt b ↔ a < b := by rw [Int32.lt_iff_toInt_lt, i32_toInt ha, i32_toInt hb]
theorem i32_le {a b : Int} (ha : R32 a) (hb : R32 b) : Int32.ofInt a ≤ Int32.ofInt b ↔ a ≤ b := by rw [Int32.le_iff_toInt_le, i32_toInt ha, i32_toInt hb]
theorem i32_eq {a b : Int} (ha : R32 a) (hb : R32 b) : Int32.ofInt a = Int32.ofInt b ↔ a = b := by rw [← Int32.toInt_inj, i32_toInt ha, i32_toInt hb]
theorem i32_0 : (0 : Int32) = Int32.ofInt 0 := rfl
theorem i32_div {a b : Int} (ha : R32 a) (hb : R32 b) : Int32.ofInt a / Int32.ofInt b = Int32.ofInt (a.tdiv b) := by
  rw [← Int32.toInt_inj, Int32.toInt_div, i32_toInt ha, i32_toInt hb, Int32.toInt_ofInt]
theorem i64_div {a b : Int} (ha : R64 a) (hb : R64 b) : Int64.ofInt a / Int64.ofInt b = Int64.ofInt (a.tdiv b) := by
  rw [← Int64.toInt_inj, Int64.toInt_div, i64_toInt ha, i64_toInt hb, Int64.toInt_ofInt]
theorem i32_in {i : Int} {n : Nat} (h0 : 0 ≤ i) (h1 : i < n) (hn : n < 2147483648) : vp_in (Int32.ofInt i) n ∧ (Int32.ofInt i).toNatClampNeg = i.toNat := by
  have e : (Int32.ofInt i).toInt = i := i32_toInt ⟨by omega, by omega⟩
  refine ⟨vp_in_iff.mpr (by rw [e]; exact ⟨h0, h1⟩), ?_⟩
  show (Int32.ofInt i).toInt.toNat = _
  rw [e]
-- lists of locals
theorem mem_lcv {b : Nat} {ρ : Nat → Nat} {ls : List (Option VV)} {q : Nat × Value} : q ∈ lcv b ρ ls ↔ ∃ v, ls[q.1]? = some (some v) ∧ q.2 = cv b ρ v := by
  unfold lcv
  rw [List.mem_filterMap]
  constructor
  · rintro ⟨k, hk, h⟩
    have hk' := List.mem_range.mp hk
    rw [Option.map_eq_some_iff] at h
    obtain ⟨v, h1, rfl⟩ := h
    refine ⟨v, ?_, rfl⟩
    rw [List.getD_eq_getElem?_getD] at h1
    show ls[k]? = _
    rw [List.getElem?_eq_getElem hk'] at h1 ⊢
    exact congrArg some h1
  · rintro ⟨v, h1, h2⟩
    have hk := (List.getElem?_eq_some_iff.mp h1).1
    refine ⟨q.1, List.mem_range.mpr hk, ?_⟩
    rw [List.getD_eq_getElem?_getD, h1]
    obtain ⟨k, w⟩ := q
    cases h2
    rfl
theorem lv_mono {arr : Array Slot} {nL : Nat} {l l' : List (Nat × Value)} (h : lv_has arr nL l) (hs : ∀ q ∈ l', q ∈ l) : lv_has arr nL l' := ⟨h.1, h.2.1, fun q hq => h.2.2 q (hs q hq)⟩
theorem lv_get {arr : Array Slot} {nL b : Nat} {ρ : Nat → Nat} {ls : List (Option VV)} (h : lv_has arr nL (lcv b ρ ls)) {i : Nat} {v : VV} (hi : ls[i]? = some (some v)) : arr[i]? = some (.val (cv b ρ v)) := h.2.2 (i, cv b ρ v) (mem_lcv.mpr ⟨v, hi, rfl⟩)
def nol (ls : List (Option VV)) : Nat → Bool
  | 0 => true
  | j + 1 => match ls[j]? with
    | some (some (.inr (.inl _))) => false
    | _ => true
def oks (ls : List (Option VV)) (i : Nat) : Bool := nol ls i && Nat.ble (i + 1) ls.length
theorem oks_lt {ls : List (Option VV)} {i : Nat} (h : oks ls i = true) : i < ls.length := Nat.le_of_ble_eq_true (Bool.and_eq_true _ _ ▸ h).2
theorem nol_cat {b : Nat} {ρ : Nat → Nat} {ls : List (Option VV)} {j : Nat} {v : VV} (h : nol ls (j + 1) = true) (hv : ls[j]? = some (some v)) : (cv b ρ v).category ≠ 2 := by
  simp only [nol, hv] at h
  rcases v with x | x | _ | _ | x
  · simp [cv, Value.category]
  · simp at h
  · simp [cv, Value.category]
  · simp [cv, Value.category]
  · simp [cv, Value.category]
theorem lv_setv {b : Nat} {ρ : Nat → Nat} {ls : List (Option VV)} {i : Nat} {v : VV} {q : Nat × Value} (ho : oks ls i = true) (hq : q ∈ lcv b ρ (ls.set i (some v))) : q ∈ (i, cv b ρ v) :: (lcv b ρ ls).filter (fun q => !(q.1 == i) && !(q.1 + 1 == i && q.2.category == 2)) := by
  obtain ⟨w, h1, h2⟩ := mem_lcv.mp hq
  obtain ⟨k, u⟩ := q
  dsimp only at h1 h2
  subst h2
  have hno : nol ls i = true := (Bool.and_eq_true _ _ ▸ ho).1
  by_cases hk : k = i
  · subst hk
    rw [List.getElem?_set_self (oks_lt ho)] at h1
    cases h1
    exact List.mem_cons_self
  · rw [List.getElem?_set_ne (Ne.symm hk)] at h1
    refine List.mem_cons_of_mem _ (List.mem_filter.mpr ⟨mem_lcv.mpr ⟨w, h1, rfl⟩, ?_⟩)
    have hc : ¬ (k + 1 = i ∧ (cv b ρ w).category = 2) := by
      rintro ⟨e, hc⟩
      subst e
      exact nol_cat hno h1 hc
    simp only [Bool.and_eq_true, Bool.not_eq_true', beq_eq_false_iff_ne, ne_eq, Bool.and_eq_false_iff]
    refine ⟨hk, ?_⟩
    by_cases e : k + 1 = i
    · exact Or.inr fun z => hc ⟨e, z⟩
    · exact Or.inl e
theorem lv_setl {b : Nat} {ρ : Nat → Nat} {ls : List (Option VV)} {i : Nat} {v : VV} {q : Nat × Value} (ho : oks ls i = true) (hi : i + 1 < ls.length) (hq : q ∈ lcv b ρ ((ls.set i (some v)).set (i + 1) none)) : q ∈ (i, cv b ρ v) :: (lcv b ρ ls).filter (fun q => !(q.1 == i) && (!(q.1 == i + 1) && !(q.1 + 1 == i && q.2.category == 2))) := by
  obtain ⟨w, h1, h2⟩ := mem_lcv.mp hq
  obtain ⟨k, u⟩ := q
  dsimp only at h1 h2
  subst h2
  have hno : nol ls i = true := (Bool.and_eq_true _ _ ▸ ho).1
  by_cases hk1 : k = i + 1
  · subst hk1
    rw [List.getElem?_set_self (by rw [List.length_set]; exact hi)] at h1
    cases h1
  rw [List.getElem?_set_ne (Ne.symm hk1)] at h1
  by_cases hk : k = i
  · subst hk
    rw [List.getElem?_set_self (oks_lt ho)] at h1
    cases h1
    exact List.mem_cons_self
  · rw [List.getElem?_set_ne (Ne.symm hk)] at h1
    refine List.mem_cons_of_mem _ (List.mem_filter.mpr ⟨mem_lcv.mpr ⟨w, h1, rfl⟩, ?_⟩)
    have hc : ¬ (k + 1 = i ∧ (cv b ρ w).category = 2) := by
      rintro ⟨e, hc⟩
      subst e
      exact nol_cat hno h1 hc
    simp only [Bool.and_eq_true, Bool.not_eq_true', beq_eq_false_iff_ne, ne_eq, Bool.and_eq_false_iff]
    refine ⟨hk, hk1, ?_⟩
    by_cases e : k + 1 = i
    · exact Or.inr fun z => hc ⟨e, z⟩
    · exact Or.inl e
-- wf
theorem wfs_c {n : Nat} {st : List VV} {v : VV} (hv : wfv n v) (h : wfs n st) : wfs n (v :: st) := fun w hw => by
  rcases List.mem_cons.mp hw with rfl | hw
  · exact hv
  · exact h w hw
theorem wfs_t {n : Nat} {st : List VV} {v : VV} (h : wfs n (v :: st)) : wfs n st := fun w hw => h w (List.mem_cons_of_mem _ hw)
theorem wfs_h {n : Nat} {st : List VV} {v : VV} (h : wfs n (v :: st)) : wfv n v := h v List.mem_cons_self
theorem wfo_g {n : Nat} {ls : List (Option VV)} {i : Nat} {v : VV} (h : wfo n ls) (hi : ls[i]? = some (some v)) : wfv n v := h v (List.mem_of_getElem? hi)
theorem wfo_s {n : Nat} {ls : List (Option VV)} {i : Nat} {o : Option VV} (h : wfo n ls) (ho : ∀ v, o = some v → wfv n v) : wfo n (ls.set i o) := fun v hv => by
  rcases List.mem_or_eq_of_mem_set hv with h1 | h1
  · exact h v h1
  · exact ho v h1.symm
end
section
-- worlds
theorem wd_get {X : CX} {ρ : Nat → Nat} {Z : List Sh} {g : Mem} {i : Nat} {sh : Sh} (h : Z[i]? = some sh) : (wd X ρ Z g)[i]? = some (ρ i, ent X.2.2.2.2 ρ (g i) sh) := by
  unfold wd
  rw [List.getElem?_mapIdx, h]
  rfl
theorem wd_set {X : CX} {ρ : Nat → Nat} {Z : List Sh} {g g' : Mem} {i : Nat} {sh : Sh} {E : va_E} (h : Z[i]? = some sh) (ho : ∀ j, j ≠ i → g' j = g j) (he : ent X.2.2.2.2 ρ (g' i) sh = E) : (wd X ρ Z g).set i (ρ i, E) = wd X ρ Z g' := by
  apply List.ext_getElem?
  intro j
  by_cases hj : j = i
  · subst hj
    have hl : j < (wd X ρ Z g).length := (List.getElem?_eq_some_iff.mp (wd_get (X := X) (ρ := ρ) (g := g) h)).1
    rw [List.getElem?_set_self hl, wd_get h, he]
  · rw [List.getElem?_set_ne (Ne.symm hj)]
    unfold wd
    rw [List.getElem?_mapIdx, List.getElem?_mapIdx, ho j hj]
theorem mu_off {g : Mem} {i k : Nat} {v : Int} {j : Nat} (h : j ≠ i) : mu g i k v j = g j := by
  funext q
  simp [mu, h]
theorem mu_row (g : Mem) (i k : Nat) (v : Int) : mu g i k v i = fun q => if q = k then v else g i q := by
  funext q
  simp [mu]
theorem ent_put {cA : Nat → ClassId} {ρ : Nat → Nat} {row : Nat → Int} {c k : Nat} {fs : List (Option (Option Nat))} {v : Int} (hf : fs[k]? = some none) : ent cA ρ (fun q => if q = k then v else row q) (.inr (.inr (c, fs))) = .inr (c, (fs.mapIdx (fun k f => fvl ρ (row k) f)).set k (.int (Int32.ofInt v))) := by
  show Sum.inr (c, _) = _
  congr 2
  apply List.ext_getElem?
  intro j
  by_cases hj : j = k
  · subst hj
    have hl := (List.getElem?_eq_some_iff.mp hf).1
    rw [List.getElem?_set_self (by rw [List.length_mapIdx]; exact hl), List.getElem?_mapIdx, hf]
    simp [fvl]
  · rw [List.getElem?_set_ne (Ne.symm hj), List.getElem?_mapIdx, List.getElem?_mapIdx]
    cases fs[j]? with
    | none => rfl
    | some f => cases f <;> simp [fvl, hj]
-- the static part's words
section RSp
variable {X : CX} {d : Nat} {M : MI} {mc ms : Nat} {Q : Option VV → List Sh → Mem → Prop} {p : Program} {l : Launch} {e : Env} {R : Room} {s : State} {m : MethodId} {args : Array Value} {below : List Frame} {meth : Method} {c : Code} {Qw : State → Prop} {A : Nat → Prop} {ρ0 : Nat → Nat} {n0 : Nat}
theorem RS.ex (S : RS X d M mc ms Q p l e R s m args below meth c Qw A ρ0 n0) : p.tables.exec = Jvm.exec := S.1
theorem RS.co (S : RS X d M mc ms Q p l e R s m args below meth c Qw A ρ0 n0) : c.code = M.2.1 := S.2.1
theorem RS.ml (S : RS X d M mc ms Q p l e R s m args below meth c Qw A ρ0 n0) : c.maxLocals = M.2.2.1 := S.2.2.1
theorem RS.ow (S : RS X d M mc ms Q p l e R s m args below meth c Qw A ρ0 n0) : s.vm.findClass M.1.cls = some m.cls := S.2.2.2.1
theorem RS.ts (S : RS X d M mc ms Q p l e R s m args below meth c Qw A ρ0 n0) : ∀ w ∈ gTbl, w.before args s = true := S.2.2.2.2.1
theorem RS.nw (S : RS X d M mc ms Q p l e R s m args below meth c Qw A ρ0 n0) : NW s := S.2.2.2.2.2.1
theorem RS.K (S : RS X d M mc ms Q p l e R s m args below meth c Qw A ρ0 n0) : va_K X.2.2.2.1 vwCl (tysX X) s := S.2.2.2.2.2.2.1
theorem RS.rt (S : RS X d M mc ms Q p l e R s m args below meth c Qw A ρ0 n0) : meth.sig.returnType = M.2.2.2 := S.2.2.2.2.2.2.2.1
theorem RS.lk (S : RS X d M mc ms Q p l e R s m args below meth c Qw A ρ0 n0) : meth.locks = false := S.2.2.2.2.2.2.2.2.1
theorem RS.nm (S : RS X d M mc ms Q p l e R s m args below meth c Qw A ρ0 n0) : meth.name = M.1.name := S.2.2.2.2.2.2.2.2.2.1
theorem RS.rm (S : RS X d M mc ms Q p l e R s m args below meth c Qw A ρ0 n0) : d ≤ R.frames ∧ 64 * d ≤ R.locals ∧ mc ≤ R.cells ∧ ms ≤ R.slots := S.2.2.2.2.2.2.2.2.2.2.1
theorem RS.hA (S : RS X d M mc ms Q p l e R s m args below meth c Qw A ρ0 n0) : ∀ q : Nat, s.heap.size ≤ q → A q := S.2.2.2.2.2.2.2.2.2.2.2.1
theorem RS.sc (S : RS X d M mc ms Q p l e R s m args below meth c Qw A ρ0 n0) : M.1.name = "law" → va_X X.1 X.2.1 (fun j => Int32.ofInt (X.2.2.1 j)) s s.heap ∧ X.1 < s.heap.size ∧ ¬ A X.1 := S.2.2.2.2.2.2.2.2.2.2.2.2.1
end RSp
section RDp
variable {X : CX} {s : State} {A : Nat → Prop} {ρ0 : Nat → Nat} {n0 nL : Nat} {H : Heap} {locs : List Loc} {ρ : Nat → Nat} {arr : Array Slot} {ls : List (Option VV)} {st : List VV} {Z : List Sh} {g : Mem}
theorem RD.P (D : RD X s A ρ0 n0 nL H locs ρ arr ls st Z g) : va_P X.2.2.2.1 vwCl (wd X ρ Z g) H := D.1
theorem RD.D (D : RD X s A ρ0 n0 nL H locs ρ arr ls st Z g) : va_D A (wd X ρ Z g) := D.2.1
theorem RD.S (D : RD X s A ρ0 n0 nL H locs ρ arr ls st Z g) : va_S A s.heap H locs := D.2.2.1
theorem RD.z (D : RD X s A ρ0 n0 nL H locs ρ arr ls st Z g) : wfz Z := D.2.2.2.1
theorem RD.o (D : RD X s A ρ0 n0 nL H locs ρ arr ls st Z g) : wfo Z.length ls := D.2.2.2.2.1
theorem RD.sk (D : RD X s A ρ0 n0 nL H locs ρ arr ls st Z g) : wfs Z.length st := D.2.2.2.2.2.1
theorem RD.l (D : RD X s A ρ0 n0 nL H locs ρ arr ls st Z g) : lv_has arr nL (lcv X.1 ρ ls) := D.2.2.2.2.2.2.1
theorem RD.n (D : RD X s A ρ0 n0 nL H locs ρ arr ls st Z g) : ls.length = nL := D.2.2.2.2.2.2.2.1
theorem RD.ag (D : RD X s A ρ0 n0 nL H locs ρ arr ls st Z g) : Agr ρ0 n0 ρ Z.length := D.2.2.2.2.2.2.2.2
theorem RD.stk (D : RD X s A ρ0 n0 nL H locs ρ arr ls st Z g) {st' : List VV} (h : wfs Z.length st') : RD X s A ρ0 n0 nL H locs ρ arr ls st' Z g := ⟨D.P, D.D, D.S, D.z, D.o, h, D.l, D.n, D.ag⟩
theorem RD.loc (D : RD X s A ρ0 n0 nL H locs ρ arr ls st Z g) {st' : List VV} {arr' : Array Slot} {ls' : List (Option VV)} (h : wfs Z.length st') (ho : wfo Z.length ls') (hl : lv_has arr' nL (lcv X.1 ρ ls')) (hn : ls'.length = ls.length) : RD X s A ρ0 n0 nL H locs ρ arr' ls' st' Z g := ⟨D.P, D.D, D.S, D.z, ho, h, hl, hn.trans D.n, D.ag⟩
theorem RD.mem (D : RD X s A ρ0 n0 nL H locs ρ arr ls st Z g) {st' : List VV} {g' : Mem} {H' : Heap} {locs' : List Loc} (h : wfs Z.length st') (hP : va_P X.2.2.2.1 vwCl (wd X ρ Z g') H') (hD : va_D A (wd X ρ Z g')) (hS : va_S A s.heap H' locs') : RD X s A ρ0 n0 nL H' locs' ρ arr ls st' Z g' := ⟨hP, hD, hS, D.z, D.o, h, D.l, D.n, D.ag⟩
end RDp
section Rules
variable {X : CX} {d : Nat} {M : MI} {mc ms : Nat} {Q : Option VV → List Sh → Mem → Prop} {k n pc pc' : Nat} {ls : List (Option VV)} {st : List VV} {Z : List Sh} {g : Mem}
theorem r_iconst {z : Int} (hd : decode M.2.1 pc = .ok (.iconst z, 1)) (hp : pc + 1 = pc') (kk : AJ X d M mc ms Q k n pc' ls (vi z :: st) Z g) : AJ X d M mc ms Q k n pc ls st Z g := by
  intro p l e R s m args below meth c Qw A ρ0 n0 S H locs ρ arr D
  subst hp
  exact lv_iconst S.ex S.co hd rfl (kk p l e R s m args below meth c Qw A ρ0 n0 S H locs ρ arr (D.stk (wfs_c trivial D.sk)))
theorem r_bipush {z : Int} (hd : decode M.2.1 pc = .ok (.bipush z, 2)) (hp : pc + 2 = pc') (hz : (Int8.ofInt z).toInt32 = Int32.ofInt z) (kk : AJ X d M mc ms Q k n pc' ls (vi z :: st) Z g) : AJ X d M mc ms Q k n pc ls st Z g := by
  intro p l e R s m args below meth c Qw A ρ0 n0 S H locs ρ arr D
  subst hp
  exact lv_bipush S.ex S.co hd hz (kk p l e R s m args below meth c Qw A ρ0 n0 S H locs ρ arr (D.stk (wfs_c trivial D.sk)))
theorem r_sipush {z : Int} (hd : decode M.2.1 pc = .ok (.sipush z, 3)) (hp : pc + 3 = pc') (hz : (Int16.ofInt z).toInt32 = Int32.ofInt z) (kk : AJ X d M mc ms Q k n pc' ls (vi z :: st) Z g) : AJ X d M mc ms Q k n pc ls st Z g := by
  intro p l e R s m args below meth c Qw A ρ0 n0 S H locs ρ arr D
  subst hp
  exact lv_sipush S.ex S.co hd hz (kk p l e R s m args below meth c Qw A ρ0 n0 S H locs ρ arr (D.stk (wfs_c trivial D.sk)))
theorem r_ldc {i : Nat} {z : Int} (hd : decode M.2.1 pc = .ok (.ldc i, 2)) (hp : pc + 2 = pc') (hw : Cond.constant M.1.cls i (Int32.ofInt z) ∈ gTbl) (kk : AJ X d M mc ms Q k n pc' ls (vi z :: st) Z g) : AJ X d M mc ms Q k n pc ls st Z g := by
  intro p l e R s m args below meth c Qw A ρ0 n0 S H locs ρ arr D
  subst hp
  exact lv_ldc S.ex S.co S.ow (S.ts _ hw) hd (kk p l e R s m args below meth c Qw A ρ0 n0 S H locs ρ arr (D.stk (wfs_c trivial D.sk)))
theorem r_ldc_w {i : Nat} {z : Int} (hd : decode M.2.1 pc = .ok (.ldc_w i, 3)) (hp : pc + 3 = pc') (hw : Cond.constant M.1.cls i (Int32.ofInt z) ∈ gTbl) (kk : AJ X d M mc ms Q k n pc' ls (vi z :: st) Z g) : AJ X d M mc ms Q k n pc ls st Z g := by
  intro p l e R s m args below meth c Qw A ρ0 n0 S H locs ρ arr D
  subst hp
  exact lv_ldcw S.ex S.co S.ow (S.ts _ hw) hd (kk p l e R s m args below meth c Qw A ρ0 n0 S H locs ρ arr (D.stk (wfs_c trivial D.sk)))
theorem r_ldc2_w {i : Nat} {z : Int} (hd : decode M.2.1 pc = .ok (.ldc2_w i, 3)) (hp : pc + 3 = pc') (hw : Cond.constantLong M.1.cls i (Int64.ofInt z) ∈ gTbl) (kk : AJ X d M mc ms Q k n pc' ls (vl z :: st) Z g) : AJ X d M mc ms Q k n pc ls st Z g := by
  intro p l e R s m args below meth c Qw A ρ0 n0 S H locs ρ arr D
  subst hp
  exact lv_ldc2 S.ex S.co S.ow (S.ts _ hw) hd (kk p l e R s m args below meth c Qw A ρ0 n0 S H locs ρ arr (D.stk (wfs_c trivial D.sk)))
theorem r_iload_n {i : Fin 4} {x : Int} (hd : decode M.2.1 pc = .ok (.iload_n i, 1)) (hp : pc + 1 = pc') (hl : ls[i.val]? = some (some (vi x))) (kk : AJ X d M mc ms Q k n pc' ls (vi x :: st) Z g) : AJ X d M mc ms Q k n pc ls st Z g := by
  intro p l e R s m args below meth c Qw A ρ0 n0 S H locs ρ arr D
  subst hp
  exact lv_iload_n S.ex S.co hd rfl (lv_get D.l hl) (kk p l e R s m args below meth c Qw A ρ0 n0 S H locs ρ arr (D.stk (wfs_c trivial D.sk)))
theorem r_iload {i : Nat} {x : Int} (hd : decode M.2.1 pc = .ok (.iload i, 2)) (hp : pc + 2 = pc') (hl : ls[i]? = some (some (vi x))) (kk : AJ X d M mc ms Q k n pc' ls (vi x :: st) Z g) : AJ X d M mc ms Q k n pc ls st Z g := by
  intro p l e R s m args below meth c Qw A ρ0 n0 S H locs ρ arr D
  subst hp
  exact lv_iload S.ex S.co hd (lv_get D.l hl) (kk p l e R s m args below meth c Qw A ρ0 n0 S H locs ρ arr (D.stk (wfs_c trivial D.sk)))
theorem r_lload_n {i : Fin 4} {x : Int} (hd : decode M.2.1 pc = .ok (.lload_n i, 1)) (hp : pc + 1 = pc') (hl : ls[i.val]? = some (some (vl x))) (kk : AJ X d M mc ms Q k n pc' ls (vl x :: st) Z g) : AJ X d M mc ms Q k n pc ls st Z g := by
  intro p l e R s m args below meth c Qw A ρ0 n0 S H locs ρ arr D
  subst hp
  exact lv_lload_n S.ex S.co hd rfl (lv_get D.l hl) (kk p l e R s m args below meth c Qw A ρ0 n0 S H locs ρ arr (D.stk (wfs_c trivial D.sk)))
theorem r_aload_n {i : Fin 4} {x : Nat} (hd : decode M.2.1 pc = .ok (.aload_n i, 1)) (hp : pc + 1 = pc') (hl : ls[i.val]? = some (some (vr x))) (kk : AJ X d M mc ms Q k n pc' ls (vr x :: st) Z g) : AJ X d M mc ms Q k n pc ls st Z g := by
  intro p l e R s m args below meth c Qw A ρ0 n0 S H locs ρ arr D
  subst hp
  exact lv_aload_n S.ex S.co hd rfl (lv_get D.l hl) (kk p l e R s m args below meth c Qw A ρ0 n0 S H locs ρ arr (D.stk (wfs_c (wfo_g D.o hl) D.sk)))
theorem r_aload_s {i : Fin 4} (hd : decode M.2.1 pc = .ok (.aload_n i, 1)) (hp : pc + 1 = pc') (hl : ls[i.val]? = some (some vsc)) (kk : AJ X d M mc ms Q k n pc' ls (vsc :: st) Z g) : AJ X d M mc ms Q k n pc ls st Z g := by
  intro p l e R s m args below meth c Qw A ρ0 n0 S H locs ρ arr D
  subst hp
  exact lv_aload_n S.ex S.co hd rfl (lv_get D.l hl) (kk p l e R s m args below meth c Qw A ρ0 n0 S H locs ρ arr (D.stk (wfs_c trivial D.sk)))
theorem r_istore_n {i : Fin 4} {x : Int} (hd : decode M.2.1 pc = .ok (.istore_n i, 1)) (hp : pc + 1 = pc') (ho : oks ls i.val = true) (kk : AJ X d M mc ms Q k n pc' (ls.set i.val (some (vi x))) st Z g) : AJ X d M mc ms Q k n pc ls (vi x :: st) Z g := by
  intro p l e R s m args below meth c Qw A ρ0 n0 S H locs ρ arr D
  subst hp
  refine lv_istore_n S.ex S.co hd rfl D.l (by rw [← D.n]; exact oks_lt ho) rfl fun arr' h => ?_
  exact kk p l e R s m args below meth c Qw A ρ0 n0 S H locs ρ arr' (D.loc (wfs_t D.sk) (wfo_s D.o (fun v h => by cases h; trivial)) (lv_mono h fun q hq => lv_setv ho hq) (List.length_set ..))
theorem r_istore {i : Nat} {x : Int} (hd : decode M.2.1 pc = .ok (.istore i, 2)) (hp : pc + 2 = pc') (ho : oks ls i = true) (kk : AJ X d M mc ms Q k n pc' (ls.set i (some (vi x))) st Z g) : AJ X d M mc ms Q k n pc ls (vi x :: st) Z g := by
  intro p l e R s m args below meth c Qw A ρ0 n0 S H locs ρ arr D
  subst hp
  refine lv_istore S.ex S.co hd D.l (by rw [← D.n]; exact oks_lt ho) rfl fun arr' h => ?_
  exact kk p l e R s m args below meth c Qw A ρ0 n0 S H locs ρ arr' (D.loc (wfs_t D.sk) (wfo_s D.o (fun v h => by cases h; trivial)) (lv_mono h fun q hq => lv_setv ho hq) (List.length_set ..))
theorem r_astore_n {i : Fin 4} {x : Nat} (hd : decode M.2.1 pc = .ok (.astore_n i, 1)) (hp : pc + 1 = pc') (ho : oks ls i.val = true) (kk : AJ X d M mc ms Q k n pc' (ls.set i.val (some (vr x))) st Z g) : AJ X d M mc ms Q k n pc ls (vr x :: st) Z g := by
  intro p l e R s m args below meth c Qw A ρ0 n0 S H locs ρ arr D
  subst hp
  refine lv_astore_n S.ex S.co hd rfl D.l (by rw [← D.n]; exact oks_lt ho) rfl fun arr' h => ?_
  exact kk p l e R s m args below meth c Qw A ρ0 n0 S H locs ρ arr' (D.loc (wfs_t D.sk) (wfo_s D.o (fun v h => by cases h; exact wfs_h D.sk)) (lv_mono h fun q hq => lv_setv ho hq) (List.length_set ..))
theorem r_lstore_n {i : Fin 4} {x : Int} (hd : decode M.2.1 pc = .ok (.lstore_n i, 1)) (hp : pc + 1 = pc') (ho : oks ls i.val = true) (ho2 : Nat.ble (i.val + 2) ls.length = true) (kk : AJ X d M mc ms Q k n pc' ((ls.set i.val (some (vl x))).set (i.val + 1) none) st Z g) : AJ X d M mc ms Q k n pc ls (vl x :: st) Z g := by
  intro p l e R s m args below meth c Qw A ρ0 n0 S H locs ρ arr D
  subst hp
  have hi : i.val + 1 < ls.length := Nat.le_of_ble_eq_true ho2
  refine lv_lstore_n S.ex S.co hd rfl D.l (by rw [← D.n]; exact hi) rfl fun arr' h => ?_
  exact kk p l e R s m args below meth c Qw A ρ0 n0 S H locs ρ arr' (D.loc (wfs_t D.sk) (wfo_s (wfo_s D.o (fun v h => by cases h; trivial)) (fun v h => by cases h)) (lv_mono h fun q hq => lv_setl ho hi hq) (by rw [List.length_set, List.length_set]))
theorem r_iinc {i : Nat} {x z : Int} (hd : decode M.2.1 pc = .ok (.iinc i z, 3)) (hp : pc + 3 = pc') (hl : ls[i]? = some (some (vi x))) (ho : oks ls i = true) (kk : AJ X d M mc ms Q k n pc' (ls.set i (some (vi (x + z)))) st Z g) : AJ X d M mc ms Q k n pc ls st Z g := by
  intro p l e R s m args below meth c Qw A ρ0 n0 S H locs ρ arr D
  subst hp
  obtain ⟨kq, hkq⟩ := List.getElem?_of_mem (mem_lcv (b := X.1) (ρ := ρ) (q := (i, cv X.1 ρ (vi x))).mpr ⟨_, hl, rfl⟩)
  refine lv_iinc (v := Int32.ofInt (x + z)) S.ex S.co hd D.l hkq (by rw [Int32.ofInt_add]) (by rw [← D.n]; exact oks_lt ho) rfl fun arr' h => ?_
  exact kk p l e R s m args below meth c Qw A ρ0 n0 S H locs ρ arr' (D.loc D.sk (wfo_s D.o (fun v h => by cases h; trivial)) (lv_mono h fun q hq => lv_setv (v := vi (x + z)) ho hq) (List.length_set ..))
theorem r_iadd {a b : Int} (hd : decode M.2.1 pc = .ok (.iadd, 1)) (hp : pc + 1 = pc') (kk : AJ X d M mc ms Q k n pc' ls (vi (a + b) :: st) Z g) : AJ X d M mc ms Q k n pc ls (vi b :: vi a :: st) Z g := by
  intro p l e R s m args below meth c Qw A ρ0 n0 S H locs ρ arr D
  subst hp
  have h := kk p l e R s m args below meth c Qw A ρ0 n0 S H locs ρ arr (D.stk (wfs_c trivial (wfs_t (wfs_t D.sk))))
  refine lv_iadd S.ex S.co hd ?_
  rw [← Int32.ofInt_add]
  exact h
theorem r_isub {a b : Int} (hd : decode M.2.1 pc = .ok (.isub, 1)) (hp : pc + 1 = pc') (kk : AJ X d M mc ms Q k n pc' ls (vi (a - b) :: st) Z g) : AJ X d M mc ms Q k n pc ls (vi b :: vi a :: st) Z g := by
  intro p l e R s m args below meth c Qw A ρ0 n0 S H locs ρ arr D
  subst hp
  have h := kk p l e R s m args below meth c Qw A ρ0 n0 S H locs ρ arr (D.stk (wfs_c trivial (wfs_t (wfs_t D.sk))))
  refine lv_isub S.ex S.co hd ?_
  rw [← Int32.ofInt_sub]
  exact h
theorem r_imul {a b : Int} (hd : decode M.2.1 pc = .ok (.imul, 1)) (hp : pc + 1 = pc') (kk : AJ X d M mc ms Q k n pc' ls (vi (a * b) :: st) Z g) : AJ X d M mc ms Q k n pc ls (vi b :: vi a :: st) Z g := by
  intro p l e R s m args below meth c Qw A ρ0 n0 S H locs ρ arr D
  subst hp
  have h := kk p l e R s m args below meth c Qw A ρ0 n0 S H locs ρ arr (D.stk (wfs_c trivial (wfs_t (wfs_t D.sk))))
  refine lv_imul S.ex S.co hd ?_
  rw [← Int32.ofInt_mul]
  exact h
theorem r_idiv {a b : Int} (hd : decode M.2.1 pc = .ok (.idiv, 1)) (hp : pc + 1 = pc') (ha : R32 a) (hb : R32 b) (h0 : b ≠ 0) (kk : AJ X d M mc ms Q k n pc' ls (vi (a.tdiv b) :: st) Z g) : AJ X d M mc ms Q k n pc ls (vi b :: vi a :: st) Z g := by
  intro p l e R s m args below meth c Qw A ρ0 n0 S H locs ρ arr D
  subst hp
  have h := kk p l e R s m args below meth c Qw A ρ0 n0 S H locs ρ arr (D.stk (wfs_c trivial (wfs_t (wfs_t D.sk))))
  refine lv_idiv S.ex S.co hd (by rw [i32_0, i32_eq hb (by decide)]; exact h0) ?_
  rw [i32_div ha hb]
  exact h
theorem r_irem {a b : Int} (hd : decode M.2.1 pc = .ok (.irem, 1)) (hp : pc + 1 = pc') (ha : R32 a) (hb : R32 b) (h0 : b ≠ 0) (kk : AJ X d M mc ms Q k n pc' ls (vi (a.tmod b) :: st) Z g) : AJ X d M mc ms Q k n pc ls (vi b :: vi a :: st) Z g := by
  intro p l e R s m args below meth c Qw A ρ0 n0 S H locs ρ arr D
  subst hp
  have h := kk p l e R s m args below meth c Qw A ρ0 n0 S H locs ρ arr (D.stk (wfs_c trivial (wfs_t (wfs_t D.sk))))
  refine lv_irem S.ex S.co hd (by rw [i32_0, i32_eq hb (by decide)]; exact h0) ?_
  rw [i32_div ha hb, ← Int32.ofInt_mul, ← Int32.ofInt_sub]
  have e1 : a - a.tdiv b * b = a.tmod b := by
    have := Int.tmod_add_mul_tdiv a b
    rw [Int.mul_comm] at this
    omega
  rw [e1]
  exact h
end Rules
end
section
-- bit operations on numbers
def b_and (a b : Int) : Int := (Int32.ofInt a &&& Int32.ofInt b).toInt
def b_or (a b : Int) : Int := (Int32.ofInt a ||| Int32.ofInt b).toInt
def b_xor (a b : Int) : Int := (Int32.ofInt a ^^^ Int32.ofInt b).toInt
def b_shl (a b : Int) : Int := (Int32.ofInt a <<< (Int32.ofInt b &&& 31)).toInt
def b_shr (a b : Int) : Int := (Int32.ofInt a >>> (Int32.ofInt b &&& 31)).toInt
def b_ushr (a b : Int) : Int := ((Int32.ofInt a).toUInt32 >>> ((Int32.ofInt b).toUInt32 &&& Int32.toUInt32 31)).toInt32.toInt
def l_and (a b : Int) : Int := (Int64.ofInt a &&& Int64.ofInt b).toInt
def l_or (a b : Int) : Int := (Int64.ofInt a ||| Int64.ofInt b).toInt
def l_xor (a b : Int) : Int := (Int64.ofInt a ^^^ Int64.ofInt b).toInt
def l_shl (a b : Int) : Int := (Int64.ofInt a <<< ((Int32.ofInt b).toInt64 &&& 63)).toInt
def l_shr (a b : Int) : Int := (Int64.ofInt a >>> ((Int32.ofInt b).toInt64 &&& 63)).toInt
theorem i32_of (x : Int32) : Int32.ofInt x.toInt = x := Int32.ofInt_toInt x
theorem i64_of (x : Int64) : Int64.ofInt x.toInt = x := Int64.ofInt_toInt x
theorem i32_R (x : Int32) : R32 x.toInt := ⟨by have := Int32.le_toInt x; omega, by have := Int32.toInt_lt x; omega⟩
theorem i64_R (x : Int64) : R64 x.toInt := ⟨by have := Int64.le_toInt x; omega, by have := Int64.toInt_lt x; omega⟩
section Rules
variable {X : CX} {d : Nat} {M : MI} {mc ms : Nat} {Q : Option VV → List Sh → Mem → Prop} {k n pc pc' : Nat} {ls : List (Option VV)} {st : List VV} {Z : List Sh} {g : Mem}
theorem r_iand {a b : Int} (hd : decode M.2.1 pc = .ok (.iand, 1)) (hp : pc + 1 = pc') (kk : AJ X d M mc ms Q k n pc' ls (vi (b_and a b) :: st) Z g) : AJ X d M mc ms Q k n pc ls (vi b :: vi a :: st) Z g := by
  intro p l e R s m args below meth c Qw A ρ0 n0 S H locs ρ arr D
  subst hp
  have h := kk p l e R s m args below meth c Qw A ρ0 n0 S H locs ρ arr (D.stk (wfs_c trivial (wfs_t (wfs_t D.sk))))
  refine lv_iand S.ex S.co hd ?_
  rw [← i32_of (Int32.ofInt a &&& Int32.ofInt b)]
  exact h
theorem r_ior {a b : Int} (hd : decode M.2.1 pc = .ok (.ior, 1)) (hp : pc + 1 = pc') (kk : AJ X d M mc ms Q k n pc' ls (vi (b_or a b) :: st) Z g) : AJ X d M mc ms Q k n pc ls (vi b :: vi a :: st) Z g := by
  intro p l e R s m args below meth c Qw A ρ0 n0 S H locs ρ arr D
  subst hp
  have h := kk p l e R s m args below meth c Qw A ρ0 n0 S H locs ρ arr (D.stk (wfs_c trivial (wfs_t (wfs_t D.sk))))
  refine lv_ior S.ex S.co hd ?_
  rw [← i32_of (Int32.ofInt a ||| Int32.ofInt b)]
  exact h
theorem r_ixor {a b : Int} (hd : decode M.2.1 pc = .ok (.ixor, 1)) (hp : pc + 1 = pc') (kk : AJ X d M mc ms Q k n pc' ls (vi (b_xor a b) :: st) Z g) : AJ X d M mc ms Q k n pc ls (vi b :: vi a :: st) Z g := by
  intro p l e R s m args below meth c Qw A ρ0 n0 S H locs ρ arr D
  subst hp
  have h := kk p l e R s m args below meth c Qw A ρ0 n0 S H locs ρ arr (D.stk (wfs_c trivial (wfs_t (wfs_t D.sk))))
  refine lv_ixor S.ex S.co hd ?_
  rw [← i32_of (Int32.ofInt a ^^^ Int32.ofInt b)]
  exact h
theorem r_ishl {a b : Int} (hd : decode M.2.1 pc = .ok (.ishl, 1)) (hp : pc + 1 = pc') (kk : AJ X d M mc ms Q k n pc' ls (vi (b_shl a b) :: st) Z g) : AJ X d M mc ms Q k n pc ls (vi b :: vi a :: st) Z g := by
  intro p l e R s m args below meth c Qw A ρ0 n0 S H locs ρ arr D
  subst hp
  have h := kk p l e R s m args below meth c Qw A ρ0 n0 S H locs ρ arr (D.stk (wfs_c trivial (wfs_t (wfs_t D.sk))))
  refine lv_ishl S.ex S.co hd ?_
  rw [← i32_of (Int32.ofInt a <<< (Int32.ofInt b &&& 31))]
  exact h
theorem r_ishr {a b : Int} (hd : decode M.2.1 pc = .ok (.ishr, 1)) (hp : pc + 1 = pc') (kk : AJ X d M mc ms Q k n pc' ls (vi (b_shr a b) :: st) Z g) : AJ X d M mc ms Q k n pc ls (vi b :: vi a :: st) Z g := by
  intro p l e R s m args below meth c Qw A ρ0 n0 S H locs ρ arr D
  subst hp
  have h := kk p l e R s m args below meth c Qw A ρ0 n0 S H locs ρ arr (D.stk (wfs_c trivial (wfs_t (wfs_t D.sk))))
  refine lv_ishr S.ex S.co hd ?_
  rw [← i32_of (Int32.ofInt a >>> (Int32.ofInt b &&& 31))]
  exact h
theorem r_iushr {a b : Int} (hd : decode M.2.1 pc = .ok (.iushr, 1)) (hp : pc + 1 = pc') (kk : AJ X d M mc ms Q k n pc' ls (vi (b_ushr a b) :: st) Z g) : AJ X d M mc ms Q k n pc ls (vi b :: vi a :: st) Z g := by
  intro p l e R s m args below meth c Qw A ρ0 n0 S H locs ρ arr D
  subst hp
  have h := kk p l e R s m args below meth c Qw A ρ0 n0 S H locs ρ arr (D.stk (wfs_c trivial (wfs_t (wfs_t D.sk))))
  exact lv_iushr S.ex S.co hd (i32_of _).symm h
theorem r_land {a b : Int} (hd : decode M.2.1 pc = .ok (.land, 1)) (hp : pc + 1 = pc') (kk : AJ X d M mc ms Q k n pc' ls (vl (l_and a b) :: st) Z g) : AJ X d M mc ms Q k n pc ls (vl b :: vl a :: st) Z g := by
  intro p l e R s m args below meth c Qw A ρ0 n0 S H locs ρ arr D
  subst hp
  have h := kk p l e R s m args below meth c Qw A ρ0 n0 S H locs ρ arr (D.stk (wfs_c trivial (wfs_t (wfs_t D.sk))))
  refine lv_land S.ex S.co hd ?_
  rw [← i64_of (Int64.ofInt a &&& Int64.ofInt b)]
  exact h
theorem r_lor {a b : Int} (hd : decode M.2.1 pc = .ok (.lor, 1)) (hp : pc + 1 = pc') (kk : AJ X d M mc ms Q k n pc' ls (vl (l_or a b) :: st) Z g) : AJ X d M mc ms Q k n pc ls (vl b :: vl a :: st) Z g := by
  intro p l e R s m args below meth c Qw A ρ0 n0 S H locs ρ arr D
  subst hp
  have h := kk p l e R s m args below meth c Qw A ρ0 n0 S H locs ρ arr (D.stk (wfs_c trivial (wfs_t (wfs_t D.sk))))
  refine lv_lor S.ex S.co hd ?_
  rw [← i64_of (Int64.ofInt a ||| Int64.ofInt b)]
  exact h
theorem r_lxor {a b : Int} (hd : decode M.2.1 pc = .ok (.lxor, 1)) (hp : pc + 1 = pc') (kk : AJ X d M mc ms Q k n pc' ls (vl (l_xor a b) :: st) Z g) : AJ X d M mc ms Q k n pc ls (vl b :: vl a :: st) Z g := by
  intro p l e R s m args below meth c Qw A ρ0 n0 S H locs ρ arr D
  subst hp
  have h := kk p l e R s m args below meth c Qw A ρ0 n0 S H locs ρ arr (D.stk (wfs_c trivial (wfs_t (wfs_t D.sk))))
  refine lv_lxor S.ex S.co hd ?_
  rw [← i64_of (Int64.ofInt a ^^^ Int64.ofInt b)]
  exact h
theorem r_ladd {a b : Int} (hd : decode M.2.1 pc = .ok (.ladd, 1)) (hp : pc + 1 = pc') (kk : AJ X d M mc ms Q k n pc' ls (vl (a + b) :: st) Z g) : AJ X d M mc ms Q k n pc ls (vl b :: vl a :: st) Z g := by
  intro p l e R s m args below meth c Qw A ρ0 n0 S H locs ρ arr D
  subst hp
  have h := kk p l e R s m args below meth c Qw A ρ0 n0 S H locs ρ arr (D.stk (wfs_c trivial (wfs_t (wfs_t D.sk))))
  refine lv_ladd S.ex S.co hd ?_
  rw [← Int64.ofInt_add]
  exact h
theorem r_lmul {a b : Int} (hd : decode M.2.1 pc = .ok (.lmul, 1)) (hp : pc + 1 = pc') (kk : AJ X d M mc ms Q k n pc' ls (vl (a * b) :: st) Z g) : AJ X d M mc ms Q k n pc ls (vl b :: vl a :: st) Z g := by
  intro p l e R s m args below meth c Qw A ρ0 n0 S H locs ρ arr D
  subst hp
  have h := kk p l e R s m args below meth c Qw A ρ0 n0 S H locs ρ arr (D.stk (wfs_c trivial (wfs_t (wfs_t D.sk))))
  refine lv_lmul S.ex S.co hd ?_
  rw [← Int64.ofInt_mul]
  exact h
theorem r_ldiv {a b : Int} (hd : decode M.2.1 pc = .ok (.ldiv, 1)) (hp : pc + 1 = pc') (ha : R64 a) (hb : R64 b) (h0 : b ≠ 0) (kk : AJ X d M mc ms Q k n pc' ls (vl (a.tdiv b) :: st) Z g) : AJ X d M mc ms Q k n pc ls (vl b :: vl a :: st) Z g := by
  intro p l e R s m args below meth c Qw A ρ0 n0 S H locs ρ arr D
  subst hp
  have h := kk p l e R s m args below meth c Qw A ρ0 n0 S H locs ρ arr (D.stk (wfs_c trivial (wfs_t (wfs_t D.sk))))
  refine lv_ldiv S.ex S.co hd (fun q => h0 ?_) ?_
  · have := Int64.toInt_inj.mpr q
    rw [i64_toInt hb] at this
    exact this
  · rw [i64_div ha hb]
    exact h
theorem r_lshl {a b : Int} (hd : decode M.2.1 pc = .ok (.lshl, 1)) (hp : pc + 1 = pc') (kk : AJ X d M mc ms Q k n pc' ls (vl (l_shl a b) :: st) Z g) : AJ X d M mc ms Q k n pc ls (vi b :: vl a :: st) Z g := by
  intro p l e R s m args below meth c Qw A ρ0 n0 S H locs ρ arr D
  subst hp
  have h := kk p l e R s m args below meth c Qw A ρ0 n0 S H locs ρ arr (D.stk (wfs_c trivial (wfs_t (wfs_t D.sk))))
  exact lv_lshl S.ex S.co hd (i64_of _).symm h
theorem r_lshr {a b : Int} (hd : decode M.2.1 pc = .ok (.lshr, 1)) (hp : pc + 1 = pc') (kk : AJ X d M mc ms Q k n pc' ls (vl (l_shr a b) :: st) Z g) : AJ X d M mc ms Q k n pc ls (vi b :: vl a :: st) Z g := by
  intro p l e R s m args below meth c Qw A ρ0 n0 S H locs ρ arr D
  subst hp
  have h := kk p l e R s m args below meth c Qw A ρ0 n0 S H locs ρ arr (D.stk (wfs_c trivial (wfs_t (wfs_t D.sk))))
  exact lv_lshr S.ex S.co hd (i64_of _).symm h
theorem r_i2l {a : Int} (hd : decode M.2.1 pc = .ok (.i2l, 1)) (hp : pc + 1 = pc') (ha : R32 a) (kk : AJ X d M mc ms Q k n pc' ls (vl a :: st) Z g) : AJ X d M mc ms Q k n pc ls (vi a :: st) Z g := by
  intro p l e R s m args below meth c Qw A ρ0 n0 S H locs ρ arr D
  subst hp
  have h := kk p l e R s m args below meth c Qw A ρ0 n0 S H locs ρ arr (D.stk (wfs_c trivial (wfs_t D.sk)))
  refine lv_i2l S.ex S.co hd ?_ h
  rw [← Int64.toInt_inj, i64_toInt ⟨by omega, by omega⟩, Int32.toInt_toInt64, i32_toInt ha]
theorem r_l2i {a : Int} (hd : decode M.2.1 pc = .ok (.l2i, 1)) (hp : pc + 1 = pc') (kk : AJ X d M mc ms Q k n pc' ls (vi a :: st) Z g) : AJ X d M mc ms Q k n pc ls (vl a :: st) Z g := by
  intro p l e R s m args below meth c Qw A ρ0 n0 S H locs ρ arr D
  subst hp
  have h := kk p l e R s m args below meth c Qw A ρ0 n0 S H locs ρ arr (D.stk (wfs_c trivial (wfs_t D.sk)))
  refine lv_l2i S.ex S.co hd ?_ h
  rw [Int64.toInt32_ofInt]
theorem cv_cat1 {b : Nat} {ρ : Nat → Nat} {v : VV} (h : (match v with | .inr (.inl _) => false | _ => true) = true) : (cv b ρ v).category = 1 := by
  rcases v with x | x | _ | _ | x
  · simp [cv, Value.category]
  · simp at h
  · simp [cv, Value.category]
  · simp [cv, Value.category]
  · simp [cv, Value.category]
theorem r_dup {v : VV} (hd : decode M.2.1 pc = .ok (.dup, 1)) (hp : pc + 1 = pc') (hv : (match v with | .inr (.inl _) => false | _ => true) = true) (kk : AJ X d M mc ms Q k n pc' ls (v :: v :: st) Z g) : AJ X d M mc ms Q k n pc ls (v :: st) Z g := by
  intro p l e R s m args below meth c Qw A ρ0 n0 S H locs ρ arr D
  subst hp
  exact lv_dup S.ex S.co hd (cv_cat1 hv) (kk p l e R s m args below meth c Qw A ρ0 n0 S H locs ρ arr (D.stk (wfs_c (wfs_h D.sk) D.sk)))
theorem r_dup2 {v w : VV} (hd : decode M.2.1 pc = .ok (.dup2, 1)) (hp : pc + 1 = pc') (hv : (match v with | .inr (.inl _) => false | _ => true) = true) (hw : (match w with | .inr (.inl _) => false | _ => true) = true) (kk : AJ X d M mc ms Q k n pc' ls (v :: w :: v :: w :: st) Z g) : AJ X d M mc ms Q k n pc ls (v :: w :: st) Z g := by
  intro p l e R s m args below meth c Qw A ρ0 n0 S H locs ρ arr D
  subst hp
  exact lv_dup2_11 S.ex S.co hd (cv_cat1 hv) (cv_cat1 hw) (kk p l e R s m args below meth c Qw A ρ0 n0 S H locs ρ arr (D.stk (wfs_c (wfs_h D.sk) (wfs_c (wfs_h (wfs_t D.sk)) D.sk))))
theorem r_goto {off : Int} {tgt : Nat} (hd : decode M.2.1 pc = .ok (.goto off, 3)) (ht : (pc : Int) + off = (tgt : Int)) (kk : AJ X d M mc ms Q k n tgt ls st Z g) : AJ X d M mc ms Q k n pc ls st Z g := by
  intro p l e R s m args below meth c Qw A ρ0 n0 S H locs ρ arr D
  exact lv_goto S.ex S.co hd ht (kk p l e R s m args below meth c Qw A ρ0 n0 S H locs ρ arr D)
theorem r_if_eq {a off : Int} {tgt : Nat} (hd : decode M.2.1 pc = .ok (.ifCond .eq off, 3)) (ht : (pc : Int) + off = (tgt : Int)) (hp : pc + 3 = pc') (ha : R32 a) (kt : a = 0 → AJ X d M mc ms Q k n tgt ls st Z g) (kf : ¬ (a = 0) → AJ X d M mc ms Q k n pc' ls st Z g) : AJ X d M mc ms Q k n pc ls (vi a :: st) Z g := by
  intro p l e R s m args below meth c Qw A ρ0 n0 S H locs ρ arr D
  subst hp
  have D' := D.stk (wfs_t D.sk)
  refine lv_if_eq S.ex S.co hd ht (fun q => kt ?_ p l e R s m args below meth c Qw A ρ0 n0 S H locs ρ arr D') (fun q => kf ?_ p l e R s m args below meth c Qw A ρ0 n0 S H locs ρ arr D')
  · exact (i32_eq ha (by decide)).mp q
  · exact fun h => q ((i32_eq ha (by decide)).mpr h)
theorem r_icmp_eq {a b off : Int} {tgt : Nat} (hd : decode M.2.1 pc = .ok (.if_icmp .eq off, 3)) (ht : (pc : Int) + off = (tgt : Int)) (hp : pc + 3 = pc') (ha : R32 a) (hb : R32 b) (kt : a = b → AJ X d M mc ms Q k n tgt ls st Z g) (kf : ¬ (a = b) → AJ X d M mc ms Q k n pc' ls st Z g) : AJ X d M mc ms Q k n pc ls (vi b :: vi a :: st) Z g := by
  intro p l e R s m args below meth c Qw A ρ0 n0 S H locs ρ arr D
  subst hp
  have D' := D.stk (wfs_t (wfs_t D.sk))
  refine lv_icmp_eq S.ex S.co hd ht (fun q => kt ?_ p l e R s m args below meth c Qw A ρ0 n0 S H locs ρ arr D') (fun q => kf ?_ p l e R s m args below meth c Qw A ρ0 n0 S H locs ρ arr D')
  · exact (i32_eq ha hb).mp q
  · exact fun h => q ((i32_eq ha hb).mpr h)
theorem r_if_ne {a off : Int} {tgt : Nat} (hd : decode M.2.1 pc = .ok (.ifCond .ne off, 3)) (ht : (pc : Int) + off = (tgt : Int)) (hp : pc + 3 = pc') (ha : R32 a) (kt : a ≠ 0 → AJ X d M mc ms Q k n tgt ls st Z g) (kf : a = 0 → AJ X d M mc ms Q k n pc' ls st Z g) : AJ X d M mc ms Q k n pc ls (vi a :: st) Z g := by
  intro p l e R s m args below meth c Qw A ρ0 n0 S H locs ρ arr D
  subst hp
  have D' := D.stk (wfs_t D.sk)
  refine lv_if_ne S.ex S.co hd ht (fun q => kt ?_ p l e R s m args below meth c Qw A ρ0 n0 S H locs ρ arr D') (fun q => kf ?_ p l e R s m args below meth c Qw A ρ0 n0 S H locs ρ arr D')
  · exact fun h => q (by rw [h]; rfl)
  · exact (i32_eq ha (by decide)).mp q
theorem r_icmp_ne {a b off : Int} {tgt : Nat} (hd : decode M.2.1 pc = .ok (.if_icmp .ne off, 3)) (ht : (pc : Int) + off = (tgt : Int)) (hp : pc + 3 = pc') (ha : R32 a) (hb : R32 b) (kt : a ≠ b → AJ X d M mc ms Q k n tgt ls st Z g) (kf : a = b → AJ X d M mc ms Q k n pc' ls st Z g) : AJ X d M mc ms Q k n pc ls (vi b :: vi a :: st) Z g := by
  intro p l e R s m args below meth c Qw A ρ0 n0 S H locs ρ arr D
  subst hp
  have D' := D.stk (wfs_t (wfs_t D.sk))
  refine lv_icmp_ne S.ex S.co hd ht (fun q => kt ?_ p l e R s m args below meth c Qw A ρ0 n0 S H locs ρ arr D') (fun q => kf ?_ p l e R s m args below meth c Qw A ρ0 n0 S H locs ρ arr D')
  · exact fun h => q (by rw [h])
  · exact (i32_eq ha hb).mp q
theorem r_if_lt {a off : Int} {tgt : Nat} (hd : decode M.2.1 pc = .ok (.ifCond .lt off, 3)) (ht : (pc : Int) + off = (tgt : Int)) (hp : pc + 3 = pc') (ha : R32 a) (kt : a < 0 → AJ X d M mc ms Q k n tgt ls st Z g) (kf : ¬ (a < 0) → AJ X d M mc ms Q k n pc' ls st Z g) : AJ X d M mc ms Q k n pc ls (vi a :: st) Z g := by
  intro p l e R s m args below meth c Qw A ρ0 n0 S H locs ρ arr D
  subst hp
  have D' := D.stk (wfs_t D.sk)
  refine lv_if_lt S.ex S.co hd ht (fun q => kt ?_ p l e R s m args below meth c Qw A ρ0 n0 S H locs ρ arr D') (fun q => kf ?_ p l e R s m args below meth c Qw A ρ0 n0 S H locs ρ arr D')
  · exact (i32_lt ha (by decide)).mp q
  · exact fun h => q ((i32_lt ha (by decide)).mpr h)
theorem r_icmp_lt {a b off : Int} {tgt : Nat} (hd : decode M.2.1 pc = .ok (.if_icmp .lt off, 3)) (ht : (pc : Int) + off = (tgt : Int)) (hp : pc + 3 = pc') (ha : R32 a) (hb : R32 b) (kt : a < b → AJ X d M mc ms Q k n tgt ls st Z g) (kf : ¬ (a < b) → AJ X d M mc ms Q k n pc' ls st Z g) : AJ X d M mc ms Q k n pc ls (vi b :: vi a :: st) Z g := by
  intro p l e R s m args below meth c Qw A ρ0 n0 S H locs ρ arr D
  subst hp
  have D' := D.stk (wfs_t (wfs_t D.sk))
  refine lv_icmp_lt S.ex S.co hd ht (fun q => kt ?_ p l e R s m args below meth c Qw A ρ0 n0 S H locs ρ arr D') (fun q => kf ?_ p l e R s m args below meth c Qw A ρ0 n0 S H locs ρ arr D')
  · exact (i32_lt ha hb).mp q
  · exact fun h => q ((i32_lt ha hb).mpr h)
theorem r_if_ge {a off : Int} {tgt : Nat} (hd : decode M.2.1 pc = .ok (.ifCond .ge off, 3)) (ht : (pc : Int) + off = (tgt : Int)) (hp : pc + 3 = pc') (ha : R32 a) (kt : 0 ≤ a → AJ X d M mc ms Q k n tgt ls st Z g) (kf : ¬ (0 ≤ a) → AJ X d M mc ms Q k n pc' ls st Z g) : AJ X d M mc ms Q k n pc ls (vi a :: st) Z g := by
  intro p l e R s m args below meth c Qw A ρ0 n0 S H locs ρ arr D
  subst hp
  have D' := D.stk (wfs_t D.sk)
  refine lv_if_ge S.ex S.co hd ht (fun q => kt ?_ p l e R s m args below meth c Qw A ρ0 n0 S H locs ρ arr D') (fun q => kf ?_ p l e R s m args below meth c Qw A ρ0 n0 S H locs ρ arr D')
  · exact (i32_le (by decide) ha).mp q
  · exact fun h => q ((i32_le (by decide) ha).mpr h)
theorem r_icmp_ge {a b off : Int} {tgt : Nat} (hd : decode M.2.1 pc = .ok (.if_icmp .ge off, 3)) (ht : (pc : Int) + off = (tgt : Int)) (hp : pc + 3 = pc') (ha : R32 a) (hb : R32 b) (kt : b ≤ a → AJ X d M mc ms Q k n tgt ls st Z g) (kf : ¬ (b ≤ a) → AJ X d M mc ms Q k n pc' ls st Z g) : AJ X d M mc ms Q k n pc ls (vi b :: vi a :: st) Z g := by
  intro p l e R s m args below meth c Qw A ρ0 n0 S H locs ρ arr D
  subst hp
  have D' := D.stk (wfs_t (wfs_t D.sk))
  refine lv_icmp_ge S.ex S.co hd ht (fun q => kt ?_ p l e R s m args below meth c Qw A ρ0 n0 S H locs ρ arr D') (fun q => kf ?_ p l e R s m args below meth c Qw A ρ0 n0 S H locs ρ arr D')
  · exact (i32_le hb ha).mp q
  · exact fun h => q ((i32_le hb ha).mpr h)
theorem r_if_gt {a off : Int} {tgt : Nat} (hd : decode M.2.1 pc = .ok (.ifCond .gt off, 3)) (ht : (pc : Int) + off = (tgt : Int)) (hp : pc + 3 = pc') (ha : R32 a) (kt : 0 < a → AJ X d M mc ms Q k n tgt ls st Z g) (kf : ¬ (0 < a) → AJ X d M mc ms Q k n pc' ls st Z g) : AJ X d M mc ms Q k n pc ls (vi a :: st) Z g := by
  intro p l e R s m args below meth c Qw A ρ0 n0 S H locs ρ arr D
  subst hp
  have D' := D.stk (wfs_t D.sk)
  refine lv_if_gt S.ex S.co hd ht (fun q => kt ?_ p l e R s m args below meth c Qw A ρ0 n0 S H locs ρ arr D') (fun q => kf ?_ p l e R s m args below meth c Qw A ρ0 n0 S H locs ρ arr D')
  · exact (i32_lt (by decide) ha).mp q
  · exact fun h => q ((i32_lt (by decide) ha).mpr h)
theorem r_icmp_gt {a b off : Int} {tgt : Nat} (hd : decode M.2.1 pc = .ok (.if_icmp .gt off, 3)) (ht : (pc : Int) + off = (tgt : Int)) (hp : pc + 3 = pc') (ha : R32 a) (hb : R32 b) (kt : b < a → AJ X d M mc ms Q k n tgt ls st Z g) (kf : ¬ (b < a) → AJ X d M mc ms Q k n pc' ls st Z g) : AJ X d M mc ms Q k n pc ls (vi b :: vi a :: st) Z g := by
  intro p l e R s m args below meth c Qw A ρ0 n0 S H locs ρ arr D
  subst hp
  have D' := D.stk (wfs_t (wfs_t D.sk))
  refine lv_icmp_gt S.ex S.co hd ht (fun q => kt ?_ p l e R s m args below meth c Qw A ρ0 n0 S H locs ρ arr D') (fun q => kf ?_ p l e R s m args below meth c Qw A ρ0 n0 S H locs ρ arr D')
  · exact (i32_lt hb ha).mp q
  · exact fun h => q ((i32_lt hb ha).mpr h)
theorem r_if_le {a off : Int} {tgt : Nat} (hd : decode M.2.1 pc = .ok (.ifCond .le off, 3)) (ht : (pc : Int) + off = (tgt : Int)) (hp : pc + 3 = pc') (ha : R32 a) (kt : a ≤ 0 → AJ X d M mc ms Q k n tgt ls st Z g) (kf : ¬ (a ≤ 0) → AJ X d M mc ms Q k n pc' ls st Z g) : AJ X d M mc ms Q k n pc ls (vi a :: st) Z g := by
  intro p l e R s m args below meth c Qw A ρ0 n0 S H locs ρ arr D
  subst hp
  have D' := D.stk (wfs_t D.sk)
  refine lv_if_le S.ex S.co hd ht (fun q => kt ?_ p l e R s m args below meth c Qw A ρ0 n0 S H locs ρ arr D') (fun q => kf ?_ p l e R s m args below meth c Qw A ρ0 n0 S H locs ρ arr D')
  · exact (i32_le ha (by decide)).mp q
  · exact fun h => q ((i32_le ha (by decide)).mpr h)
theorem r_icmp_le {a b off : Int} {tgt : Nat} (hd : decode M.2.1 pc = .ok (.if_icmp .le off, 3)) (ht : (pc : Int) + off = (tgt : Int)) (hp : pc + 3 = pc') (ha : R32 a) (hb : R32 b) (kt : a ≤ b → AJ X d M mc ms Q k n tgt ls st Z g) (kf : ¬ (a ≤ b) → AJ X d M mc ms Q k n pc' ls st Z g) : AJ X d M mc ms Q k n pc ls (vi b :: vi a :: st) Z g := by
  intro p l e R s m args below meth c Qw A ρ0 n0 S H locs ρ arr D
  subst hp
  have D' := D.stk (wfs_t (wfs_t D.sk))
  refine lv_icmp_le S.ex S.co hd ht (fun q => kt ?_ p l e R s m args below meth c Qw A ρ0 n0 S H locs ρ arr D') (fun q => kf ?_ p l e R s m args below meth c Qw A ρ0 n0 S H locs ρ arr D')
  · exact (i32_le ha hb).mp q
  · exact fun h => q ((i32_le ha hb).mpr h)
end Rules
end
section
/-- a class's tables, and a field of it as a site names it -/
def cF (c : Nat) (C : String) (T : u_T) (N : Nat) (ty : Nat → FieldType) : Prop := vwCl[c]? = some (C, T, N) ∧ (∀ w ∈ u_ws C T N, w ∈ gTbl) ∧ (∀ k, k < N → parseFieldDescriptor (T k).2.2.1 = some (ty k)) ∧ (∀ a, a < N → ∀ b, b < N → a ≠ b → (T a).2.1 ≠ (T b).2.1) ∧ ∀ k, k < N → (T k).1 = C
def fS (own : String) (idx c k : Nat) (ty : FieldType) (fin : Bool) : Prop := ∃ (C : String) (T : u_T) (N : Nat) (tyf : Nat → FieldType), cF c C T N tyf ∧ k < N ∧ Cond.fieldLink own idx C (T k).2.1 (T k).2.2.1 ∈ gTbl ∧ tyf k = ty ∧ (T k).2.2.2 = fin
theorem ent_get {cA : Nat → ClassId} {ρ : Nat → Nat} {row : Nat → Int} {k : Nat} {fs : List (Option (Option Nat))} {f : Option (Option Nat)} (hf : fs[k]? = some f) : (fs.mapIdx (fun k f => fvl ρ (row k) f))[k]? = some (fvl ρ (row k) f) := by
  rw [List.getElem?_mapIdx, hf]
  rfl
theorem fits_iz {ty : FieldType} {v : Int} (h : ty = .int ∨ (ty = .boolean ∧ (v = 0 ∨ v = 1))) : narrow ty (.int (Int32.ofInt v)) = .int (Int32.ofInt v) ∧ fits ty (.int (Int32.ofInt v)) = true := by
  rcases h with rfl | ⟨rfl, rfl | rfl⟩
  · exact ⟨rfl, rfl⟩
  · exact ⟨rfl, rfl⟩
  · exact ⟨rfl, rfl⟩
theorem wfz_get {Z : List Sh} {i c : Nat} {fs : List (Option (Option Nat))} {j k : Nat} (hz : wfz Z) (h : Z[i]? = some (.inr (.inr (c, fs)))) (hf : fs[k]? = some (some (some j))) : j < Z.length := hz _ (List.mem_of_getElem? h) j (List.mem_of_getElem? hf)
theorem wfz_getq {Z : List Sh} {i t : Nat} {rs : List (Option Nat)} {j k : Nat} (hz : wfz Z) (h : Z[i]? = some (.inr (.inl (t, rs)))) (hf : rs[k]? = some (some j)) : j < Z.length := hz _ (List.mem_of_getElem? h) j (List.mem_of_getElem? hf)
section Rules
variable {X : CX} {d : Nat} {M : MI} {mc ms : Nat} {Q : Option VV → List Sh → Mem → Prop} {k n pc pc' : Nat} {ls : List (Option VV)} {st : List VV} {Z : List Sh} {g g' : Mem}
theorem r_getf {idx c0 kf i : Nat} {ty : FieldType} {fin : Bool} {fs : List (Option (Option Nat))} {x : Int} (hd : decode M.2.1 pc = .ok (.getfield idx, 3)) (hp : pc + 3 = pc') (hs : fS M.1.cls idx c0 kf ty fin) (hz : Z[i]? = some (.inr (.inr (c0, fs)))) (hf : fs[kf]? = some none) (hv : g i kf = x) (kk : AJ X d M mc ms Q k n pc' ls (vi x :: st) Z g) : AJ X d M mc ms Q k n pc ls (vr i :: st) Z g := by
  intro p l e R s m args below meth c Qw A ρ0 n0 S H locs ρ arr D
  subst hp
  subst hv
  obtain ⟨C, T, N, tyf, ⟨h1, h2, h3, h4, h5⟩, h6, h7, h8, h9⟩ := hs
  have h := kk p l e R s m args below meth c Qw A ρ0 n0 S H locs ρ arr (D.stk (wfs_c trivial (wfs_t D.sk)))
  exact va_get S.ex S.co S.ts h2 S.ow S.K D.P i (wd_get hz) h1 kf h6 (S.ts _ h7) (fun x hx => by rw [h5 kf h6] at hx; exact hx) (ent_get (cA := X.2.2.2.2) hf) hd h
theorem r_getr {idx c0 kf i j : Nat} {ty : FieldType} {fin : Bool} {fs : List (Option (Option Nat))} (hd : decode M.2.1 pc = .ok (.getfield idx, 3)) (hp : pc + 3 = pc') (hs : fS M.1.cls idx c0 kf ty fin) (hz : Z[i]? = some (.inr (.inr (c0, fs)))) (hf : fs[kf]? = some (some (some j))) (kk : AJ X d M mc ms Q k n pc' ls (vr j :: st) Z g) : AJ X d M mc ms Q k n pc ls (vr i :: st) Z g := by
  intro p l e R s m args below meth c Qw A ρ0 n0 S H locs ρ arr D
  subst hp
  obtain ⟨C, T, N, tyf, ⟨h1, h2, h3, h4, h5⟩, h6, h7, h8, h9⟩ := hs
  have h := kk p l e R s m args below meth c Qw A ρ0 n0 S H locs ρ arr (D.stk (wfs_c (show j < Z.length from wfz_get D.z hz hf) (wfs_t D.sk)))
  exact va_get S.ex S.co S.ts h2 S.ow S.K D.P i (wd_get hz) h1 kf h6 (S.ts _ h7) (fun x hx => by rw [h5 kf h6] at hx; exact hx) (ent_get (cA := X.2.2.2.2) hf) hd h
theorem r_putf {idx c0 kf i : Nat} {ty : FieldType} {fs : List (Option (Option Nat))} {v : Int} (hd : decode M.2.1 pc = .ok (.putfield idx, 3)) (hp : pc + 3 = pc') (hs : fS M.1.cls idx c0 kf ty false) (hz : Z[i]? = some (.inr (.inr (c0, fs)))) (hf : fs[kf]? = some none) (ht : ty = .int ∨ (ty = .boolean ∧ (v = 0 ∨ v = 1))) (hg : mu g i kf v = g') (kk : AJ X d M mc ms Q k n pc' ls st Z g') : AJ X d M mc ms Q k n pc ls (vi v :: vr i :: st) Z g := by
  intro p l e R s m args below meth c Qw A ρ0 n0 S H locs ρ arr D
  subst hp
  subst hg
  obtain ⟨C, T, N, tyf, ⟨h1, h2, h3, h4, h5⟩, h6, h7, rfl, h9⟩ := hs
  obtain ⟨hn, hfit⟩ := fits_iz ht
  have ew : (wd X ρ Z g).set i (ρ i, .inr (c0, (fs.mapIdx (fun k f => fvl ρ (g i k) f)).set kf (cv X.1 ρ (vi v)))) = wd X ρ Z (mu g i kf v) := wd_set hz (fun j hj => mu_off hj) (by rw [mu_row]; exact ent_put hf)
  refine va_put S.ex S.co S.ts h2 tyf h3 h4 S.ow S.K D.P D.D D.S i (wd_get hz) h1 kf h6 (S.ts _ h7) (fun x hx => by rw [h5 kf h6] at hx; exact hx) h9 (h3 kf h6) hn hfit (by rw [List.length_mapIdx]; exact (List.getElem?_eq_some_iff.mp hf).1) hd (fun H1 locs1 hP hD hS => ?_)
  rw [ew] at hP hD
  exact kk p l e R s m args below meth c Qw A ρ0 n0 S H1 locs1 ρ arr (D.mem (wfs_t (wfs_t D.sk)) hP hD hS)
theorem tys0 (X : CX) : (tysX X)[0]? = some (X.2.2.2.2 0, .int) := rfl
theorem tys1 (X : CX) : (tysX X)[1]? = some (X.2.2.2.2 1, .boolean) := rfl
theorem tys2 (X : CX) : (tysX X)[2]? = some (X.2.2.2.2 2, .long) := rfl
theorem r_iaload {i len : Nat} {j x : Int} (hd : decode M.2.1 pc = .ok (.iaload, 1)) (hp : pc + 1 = pc') (hz : Z[i]? = some (.inl (0, len))) (hl : len < 2147483648) (h0 : 0 ≤ j) (h1 : j < len) (hv : g i j.toNat = x) (kk : AJ X d M mc ms Q k n pc' ls (vi x :: st) Z g) : AJ X d M mc ms Q k n pc ls (vi j :: vr i :: st) Z g := by
  intro p l e R s m args below meth c Qw A ρ0 n0 S H locs ρ arr D
  subst hp
  subst hv
  obtain ⟨q1, q2⟩ := i32_in h0 h1 hl
  have h := kk p l e R s m args below meth c Qw A ρ0 n0 S H locs ρ arr (D.stk (wfs_c trivial (wfs_t (wfs_t D.sk))))
  refine va_iald S.ex S.co S.K D.P i 0 (wd_get hz) (tys0 X) q1 hd ?_
  rw [q2]
  exact h
theorem r_baload {i len : Nat} {j x : Int} (hd : decode M.2.1 pc = .ok (.baload, 1)) (hp : pc + 1 = pc') (hz : Z[i]? = some (.inl (1, len))) (hl : len < 2147483648) (h0 : 0 ≤ j) (h1 : j < len) (hv : g i j.toNat = x) (kk : AJ X d M mc ms Q k n pc' ls (vi x :: st) Z g) : AJ X d M mc ms Q k n pc ls (vi j :: vr i :: st) Z g := by
  intro p l e R s m args below meth c Qw A ρ0 n0 S H locs ρ arr D
  subst hp
  subst hv
  obtain ⟨q1, q2⟩ := i32_in h0 h1 hl
  have h := kk p l e R s m args below meth c Qw A ρ0 n0 S H locs ρ arr (D.stk (wfs_c trivial (wfs_t (wfs_t D.sk))))
  refine va_zald S.ex S.co S.K D.P i 1 (wd_get hz) (tys1 X) q1 hd ?_
  rw [q2]
  exact h
theorem r_laload {i len : Nat} {j x : Int} (hd : decode M.2.1 pc = .ok (.laload, 1)) (hp : pc + 1 = pc') (hz : Z[i]? = some (.inl (2, len))) (hl : len < 2147483648) (h0 : 0 ≤ j) (h1 : j < len) (hv : g i j.toNat = x) (kk : AJ X d M mc ms Q k n pc' ls (vl x :: st) Z g) : AJ X d M mc ms Q k n pc ls (vi j :: vr i :: st) Z g := by
  intro p l e R s m args below meth c Qw A ρ0 n0 S H locs ρ arr D
  subst hp
  subst hv
  obtain ⟨q1, q2⟩ := i32_in h0 h1 hl
  have h := kk p l e R s m args below meth c Qw A ρ0 n0 S H locs ρ arr (D.stk (wfs_c trivial (wfs_t (wfs_t D.sk))))
  refine va_lald S.ex S.co S.K D.P i 2 (wd_get hz) (tys2 X) q1 hd ?_
  rw [q2]
  exact h
theorem r_aaload {i t r : Nat} {C : String} {j : Int} {rs : List (Option Nat)} (hd : decode M.2.1 pc = .ok (.aaload, 1)) (hp : pc + 1 = pc') (hz : Z[i]? = some (.inr (.inl (t, rs)))) (ht : ∀ X : CX, (tysX X)[t]? = some (X.2.2.2.2 t, .object C)) (hl : rs.length < 2147483648) (h0 : 0 ≤ j) (hr : rs[j.toNat]? = some (some r)) (kk : AJ X d M mc ms Q k n pc' ls (vr r :: st) Z g) : AJ X d M mc ms Q k n pc ls (vi j :: vr i :: st) Z g := by
  intro p l e R s m args below meth c Qw A ρ0 n0 S H locs ρ arr D
  subst hp
  have h1 := (List.getElem?_eq_some_iff.mp hr).1
  obtain ⟨q1, q2⟩ := i32_in h0 (show j < (rs.length : Int) by omega) hl
  have h := kk p l e R s m args below meth c Qw A ρ0 n0 S H locs ρ arr (D.stk (wfs_c (show r < Z.length from wfz_getq D.z hz hr) (wfs_t (wfs_t D.sk))))
  refine va_aldq S.ex S.co S.K D.P i t (wd_get hz) (ht X) q1 hd ?_
  rw [q2, List.getD_eq_getElem?_getD, hr]
  exact h
theorem upd_mu (g : Mem) (i k : Nat) (v : Int) : upd (fun q => Int32.ofInt (g i q)) k (Int32.ofInt v) = fun q => Int32.ofInt (mu g i k v i q) := by
  funext q
  by_cases h : q = k <;> simp [upd, mu, h]
theorem updL_mu (g : Mem) (i k : Nat) (v : Int) : vp_updL (fun q => Int64.ofInt (g i q)) k (Int64.ofInt v) = fun q => Int64.ofInt (mu g i k v i q) := by
  funext q
  by_cases h : q = k <;> simp [vp_updL, mu, h]
theorem r_iastore {i len : Nat} {j x : Int} (hd : decode M.2.1 pc = .ok (.iastore, 1)) (hp : pc + 1 = pc') (hz : Z[i]? = some (.inl (0, len))) (hl : len < 2147483648) (h0 : 0 ≤ j) (h1 : j < len) (hg : mu g i j.toNat x = g') (kk : AJ X d M mc ms Q k n pc' ls st Z g') : AJ X d M mc ms Q k n pc ls (vi x :: vi j :: vr i :: st) Z g := by
  intro p l e R s m args below meth c Qw A ρ0 n0 S H locs ρ arr D
  subst hp
  subst hg
  obtain ⟨q1, q2⟩ := i32_in h0 h1 hl
  refine va_iast S.ex S.co S.K D.P D.D D.S i 0 (wd_get hz) (tys0 X) q1 hd (fun H1 locs1 hP hD hS => ?_)
  have ew : (wd X ρ Z g).set i (ρ i, .inl (X.2.2.2.2 0, len, .inl (fun q => Int32.ofInt (mu g i j.toNat x i q)))) = wd X ρ Z (mu g i j.toNat x) := wd_set hz (fun j hj => mu_off hj) rfl
  rw [q2, upd_mu, ew] at hP hD
  exact kk p l e R s m args below meth c Qw A ρ0 n0 S H1 locs1 ρ arr (D.mem (wfs_t (wfs_t (wfs_t D.sk))) hP hD hS)
theorem r_bastore {i len : Nat} {j x : Int} (hd : decode M.2.1 pc = .ok (.bastore, 1)) (hp : pc + 1 = pc') (hz : Z[i]? = some (.inl (1, len))) (hl : len < 2147483648) (h0 : 0 ≤ j) (h1 : j < len) (hx : x = 0 ∨ x = 1) (hg : mu g i j.toNat x = g') (kk : AJ X d M mc ms Q k n pc' ls st Z g') : AJ X d M mc ms Q k n pc ls (vi x :: vi j :: vr i :: st) Z g := by
  intro p l e R s m args below meth c Qw A ρ0 n0 S H locs ρ arr D
  subst hp
  subst hg
  obtain ⟨q1, q2⟩ := i32_in h0 h1 hl
  have hb : vp_nar .boolean (Int32.ofInt x) = Int32.ofInt x := by rcases hx with rfl | rfl <;> rfl
  refine va_zast S.ex S.co S.K D.P D.D D.S i 1 (wd_get hz) (tys1 X) q1 hd (fun H1 locs1 hP hD hS => ?_)
  have ew : (wd X ρ Z g).set i (ρ i, .inl (X.2.2.2.2 1, len, .inl (fun q => Int32.ofInt (mu g i j.toNat x i q)))) = wd X ρ Z (mu g i j.toNat x) := wd_set hz (fun j hj => mu_off hj) rfl
  rw [q2, hb, upd_mu, ew] at hP hD
  exact kk p l e R s m args below meth c Qw A ρ0 n0 S H1 locs1 ρ arr (D.mem (wfs_t (wfs_t (wfs_t D.sk))) hP hD hS)
theorem r_lastore {i len : Nat} {j x : Int} (hd : decode M.2.1 pc = .ok (.lastore, 1)) (hp : pc + 1 = pc') (hz : Z[i]? = some (.inl (2, len))) (hl : len < 2147483648) (h0 : 0 ≤ j) (h1 : j < len) (hg : mu g i j.toNat x = g') (kk : AJ X d M mc ms Q k n pc' ls st Z g') : AJ X d M mc ms Q k n pc ls (vl x :: vi j :: vr i :: st) Z g := by
  intro p l e R s m args below meth c Qw A ρ0 n0 S H locs ρ arr D
  subst hp
  subst hg
  obtain ⟨q1, q2⟩ := i32_in h0 h1 hl
  refine va_last S.ex S.co S.K D.P D.D D.S i 2 (wd_get hz) (tys2 X) q1 hd (fun H1 locs1 hP hD hS => ?_)
  have ew : (wd X ρ Z g).set i (ρ i, .inl (X.2.2.2.2 2, len, .inr (.inl (fun q => Int64.ofInt (mu g i j.toNat x i q))))) = wd X ρ Z (mu g i j.toNat x) := wd_set hz (fun j hj => mu_off hj) rfl
  rw [q2, updL_mu, ew] at hP hD
  exact kk p l e R s m args below meth c Qw A ρ0 n0 S H1 locs1 ρ arr (D.mem (wfs_t (wfs_t (wfs_t D.sk))) hP hD hS)
theorem r_alen {i t len : Nat} (hd : decode M.2.1 pc = .ok (.arraylength, 1)) (hp : pc + 1 = pc') (hz : Z[i]? = some (.inl (t, len))) (ht : t = 0 ∨ t = 1 ∨ t = 2) (kk : AJ X d M mc ms Q k n pc' ls (vi len :: st) Z g) : AJ X d M mc ms Q k n pc ls (vr i :: st) Z g := by
  intro p l e R s m args below meth c Qw A ρ0 n0 S H locs ρ arr D
  subst hp
  have h := kk p l e R s m args below meth c Qw A ρ0 n0 S H locs ρ arr (D.stk (wfs_c trivial (wfs_t D.sk)))
  have el : Int32.ofNat len = Int32.ofInt len := rfl
  rcases ht with rfl | rfl | rfl
  · exact va_alen S.ex S.co S.K D.P i 0 (wd_get hz) (tys0 X) el hd h
  · exact va_alen S.ex S.co S.K D.P i 1 (wd_get hz) (tys1 X) el hd h
  · exact va_alen S.ex S.co S.K D.P i 2 (wd_get hz) (tys2 X) el hd h
theorem r_slen (hn : M.1.name = "law") (hd : decode M.2.1 pc = .ok (.arraylength, 1)) (hp : pc + 1 = pc') (kk : AJ X d M mc ms Q k n pc' ls (vi X.2.1 :: st) Z g) : AJ X d M mc ms Q k n pc ls (vsc :: st) Z g := by
  intro p l e R s m args below meth c Qw A ρ0 n0 S H locs ρ arr D
  subst hp
  have h := kk p l e R s m args below meth c Qw A ρ0 n0 S H locs ρ arr (D.stk (wfs_c trivial (wfs_t D.sk)))
  obtain ⟨hX, hb, hA⟩ := S.sc hn
  exact va_slen S.ex S.co hX hb hA D.S hd h
theorem r_sald {j x : Int} (hn : M.1.name = "law") (hd : decode M.2.1 pc = .ok (.iaload, 1)) (hp : pc + 1 = pc') (hl : X.2.1 < 2147483648) (h0 : 0 ≤ j) (h1 : j < X.2.1) (hv : X.2.2.1 j.toNat = x) (kk : AJ X d M mc ms Q k n pc' ls (vi x :: st) Z g) : AJ X d M mc ms Q k n pc ls (vi j :: vsc :: st) Z g := by
  intro p l e R s m args below meth c Qw A ρ0 n0 S H locs ρ arr D
  subst hp
  subst hv
  obtain ⟨q1, q2⟩ := i32_in h0 h1 hl
  have h := kk p l e R s m args below meth c Qw A ρ0 n0 S H locs ρ arr (D.stk (wfs_c trivial (wfs_t (wfs_t D.sk))))
  obtain ⟨hX, hb, hA⟩ := S.sc hn
  refine va_sld S.ex S.co hX hb hA D.S q1 hd ?_
  rw [q2]
  exact h
theorem r_tabI {a dflt lo hi off : Int} {offs : Array Int} {len tgt : Nat} (hd : decode M.2.1 pc = .ok (.tableswitch dflt lo hi offs, len)) (ha : R32 a) (h1 : lo ≤ a) (h2 : a ≤ hi) (ho : offs[(a - lo).toNat]? = some off) (ht : (pc : Int) + off = (tgt : Int)) (kk : AJ X d M mc ms Q k n tgt ls st Z g) : AJ X d M mc ms Q k n pc ls (vi a :: st) Z g := by
  intro p l e R s m args below meth c Qw A ρ0 n0 S H locs ρ arr D
  have h := kk p l e R s m args below meth c Qw A ρ0 n0 S H locs ρ arr (D.stk (wfs_t D.sk))
  exact lv_tableIn S.ex S.co hd (by rw [i32_toInt ha]; omega) (by rw [i32_toInt ha]; omega) (by rw [i32_toInt ha]; exact ho) ht h
theorem r_tabO {a dflt lo hi : Int} {offs : Array Int} {len tgt : Nat} (hd : decode M.2.1 pc = .ok (.tableswitch dflt lo hi offs, len)) (ha : R32 a) (h1 : a < lo ∨ hi < a) (ht : (pc : Int) + dflt = (tgt : Int)) (kk : AJ X d M mc ms Q k n tgt ls st Z g) : AJ X d M mc ms Q k n pc ls (vi a :: st) Z g := by
  intro p l e R s m args below meth c Qw A ρ0 n0 S H locs ρ arr D
  have h := kk p l e R s m args below meth c Qw A ρ0 n0 S H locs ρ arr (D.stk (wfs_t D.sk))
  exact lv_tableOut S.ex S.co hd (by rw [i32_toInt ha]; omega) ht h
theorem r_look {a dflt off : Int} {ps : Array (Int × Int)} {len tgt : Nat} (hd : decode M.2.1 pc = .ok (.lookupswitch dflt ps, len)) (hs : (ps.toList.zip (ps.toList.drop 1)).all (fun (a, next) => a.1 < next.1) = true) (ha : R32 a) (ho : Op.lookupswitch.offset ps.toList dflt a = off) (ht : (pc : Int) + off = (tgt : Int)) (kk : AJ X d M mc ms Q k n tgt ls st Z g) : AJ X d M mc ms Q k n pc ls (vi a :: st) Z g := by
  intro p l e R s m args below meth c Qw A ρ0 n0 S H locs ρ arr D
  have h := kk p l e R s m args below meth c Qw A ρ0 n0 S H locs ρ arr (D.stk (wfs_t D.sk))
  exact lv_lookup S.ex S.co hd hs (by rw [i32_toInt ha]; exact ho) ht h
theorem r_ret {v : Int} {ty : FieldType} (hd : decode M.2.1 pc = .ok (.ireturn, 1)) (hr : M.2.2.2 = some ty) (ht : ty = .int ∨ (ty = .boolean ∧ (v = 0 ∨ v = 1))) (hk : k ≤ mc) (hn : n ≤ ms) (hq : Q (some (vi v)) Z g) : AJ X d M mc ms Q k n pc ls [vi v] Z g := by
  intro p l e R s m args below meth c Qw A ρ0 n0 S H locs ρ arr D
  exact S.2.2.2.2.2.2.2.2.2.2.2.2.2 (some (vi v)) Z g ρ H locs k n pc arr hq ⟨D.P, D.D, D.S, D.z, D.sk, D.ag⟩ hk hn (Or.inl ⟨hd, v, rfl, ty, hr, ht⟩)
theorem r_retv (hd : decode M.2.1 pc = .ok (.return_, 1)) (hr : M.2.2.2 = none) (hk : k ≤ mc) (hn : n ≤ ms) (hq : Q none Z g) : AJ X d M mc ms Q k n pc ls [] Z g := by
  intro p l e R s m args below meth c Qw A ρ0 n0 S H locs ρ arr D
  exact S.2.2.2.2.2.2.2.2.2.2.2.2.2 none Z g ρ H locs k n pc arr hq ⟨D.P, D.D, D.S, D.z, D.sk, D.ag⟩ hk hn (Or.inr ⟨hd, rfl, hr⟩)
end Rules
end
section
-- calls
theorem lv_args_in {b : Nat} {ρ : Nat → Nat} : ∀ (vs : List VV) (i : Nat), (∀ v ∈ vs, (cv b ρ v).category = 1) → ∀ (k : Nat) (v : VV), vs[k]? = some v → (i + k, cv b ρ v) ∈ lv_args i (vs.map (cv b ρ))
  | [], _, _, k, v, h => by simp at h
  | w :: vs, i, hc, k, v, h => by
    have h1 : (cv b ρ w).category = 1 := hc w List.mem_cons_self
    simp only [List.map_cons, lv_args, h1]
    rw [if_neg (by decide)]
    cases k with
    | zero =>
      rw [List.getElem?_cons_zero] at h
      cases h
      exact List.mem_cons_self
    | succ k =>
      rw [List.getElem?_cons_succ] at h
      have := lv_args_in vs (i + 1) (fun v hv => hc v (List.mem_cons_of_mem _ hv)) k v h
      rw [show i + 1 + k = i + (k + 1) by omega] at this
      exact List.mem_cons_of_mem _ this
theorem lg_sl_len {b : Nat} {ρ : Nat → Nat} : ∀ (vs : List VV), (∀ v ∈ vs, (cv b ρ v).category = 1) → (lg_sl (vs.map (cv b ρ))).length = vs.length
  | [], _ => rfl
  | w :: vs, hc => by
    have h1 : (cv b ρ w).category = 1 := hc w List.mem_cons_self
    have := lg_sl_len vs (fun v hv => hc v (List.mem_cons_of_mem _ hv))
    unfold lg_sl at this ⊢
    simp only [List.map_cons, List.flatMap_cons, h1, List.length_append, this]
    rw [if_neg (by decide)]
    simp
    omega
theorem ent_ls {vs : List VV} {k N : Nat} {v : VV} (h : (vs.map some ++ List.replicate N (none : Option VV))[k]? = some (some v)) : vs[k]? = some v := by
  by_cases hk : k < vs.length
  · rw [List.getElem?_append_left (by rw [List.length_map]; exact hk), List.getElem?_map] at h
    cases hv : vs[k]? with
    | none => rw [hv] at h; cases h
    | some w => rw [hv] at h; cases h; rfl
  · rw [List.getElem?_append_right (by rw [List.length_map]; omega)] at h
    have := List.mem_of_getElem? h
    rw [List.mem_replicate] at this
    cases this.2
def cat1 (vs : List VV) : Bool := vs.all (fun v => match v with | .inr (.inl _) => false | _ => true)
theorem cat1_of {vs : List VV} (h : cat1 vs = true) (b : Nat) (ρ : Nat → Nat) : ∀ v ∈ vs, (cv b ρ v).category = 1 := fun v hv => cv_cat1 (List.all_eq_true.mp h v hv)
def PC (X : CX) (ρ : Nat → Nat) (vs : List VV) (Z : List Sh) (g : Mem) (sz : Nat) : State → Prop := fun U => NW U ∧ va_K X.2.2.2.1 vwCl (tysX X) U ∧ va_P X.2.2.2.1 vwCl (wd X ρ Z g) U.heap ∧ va_D (fun _ => True) (wd X ρ Z g) ∧ wfz Z ∧ wfs Z.length vs ∧ U.heap.size = sz
def QC (X : CX) (ρ : Nat → Nat) (Z : List Sh) (g : Mem) (sz : Nat) (Q : Option VV → List Sh → Mem → Prop) : Array Value → State → Outcome → State → Prop := fun _ st oc t =>
  (∃ (r : Option VV) (Z' : List Sh) (g' : Mem) (ρ' : Nat → Nat), oc = .returned (r.map (cv X.1 ρ')) ∧ Q r Z' g' ∧ va_P X.2.2.2.1 vwCl (wd X ρ' Z' g') t.heap ∧ va_D (va_A (wd X ρ Z g) sz) (wd X ρ' Z' g') ∧ wfz Z' ∧ wfs Z'.length r.toList ∧ Agr ρ Z.length ρ' Z'.length) ∧ va_F (va_A (wd X ρ Z g) sz) st t
theorem ret_W {X : CX} {M : MI} {mc ms : Nat} {p : Program} {l : Launch} {e : Env} {R : Room} {s : State} {m : MethodId} {args : Array Value} {below : List Frame} {meth : Method} {c : Code} {H : Heap} {locs : List Loc} {k n pc : Nat} {arr : Array Slot} {r : Option VV} {ρ : Nat → Nat} {Qc : Array Value → State → Outcome → State → Prop} {free : Addr → Prop}
    (hx : p.tables.exec = Jvm.exec) (hb : c.code = M.2.1) (hr : meth.sig.returnType = M.2.2.2) (hlk : meth.locks = false) (hk : k ≤ mc) (hn : n ≤ ms) (ha : RetAt M pc r) (hq : ∀ t : State, t.heap = H → s.WarmedH t.vm → Qc args s (.returned (r.map (cv X.1 ρ))) t) (hf : ∀ q ∈ locs, free q.base) :
    W p l e R s m args below meth c H locs k n (MQ below Qc args s mc ms free) (F0 m pc arr (r.toList.map (cv X.1 ρ))) := by
  refine W.widen hk hn ?_
  rcases ha with ⟨hd, v, rfl, ty, ht, h⟩ | ⟨hd, rfl, ht⟩
  · exact W.zret hx hb (hr.trans ht) (fits_iz h).1 hq hf hd hlk
  · exact W.vret hx hb (hr.trans ht) hq hf hd hlk
theorem met_of {X : CX} {d : Nat} {M : MI} {mc ms : Nat} {vs : List VV} {Z : List Sh} {g : Mem} {Q : Option VV → List Sh → Mem → Prop} (l : Launch) (he : Ent X d M mc ms vs Z g Q) (hpn : plainName M.1.cls = true) (hlaw : M.1.name ≠ "law") (hc : cat1 vs = true) (hle : vs.length ≤ M.2.2.1) (ρ : Nat → Nat) (sz : Nat) :
    Met l M.1 (.code M.1 M.2.1 M.2.2.1 M.2.2.2 :: gTbl) { frames := d, cells := mc, slots := ms, locals := 64 * d } (va_Pc (vs.map (cv X.1 ρ)) (PC X ρ vs Z g sz)) (QC X ρ Z g sz Q) mc ms (va_A (wd X ρ Z g) sz) := by
  refine Met.ofW (cc := M.2.1) (maxL := M.2.2.1) (ret := M.2.2.2) hpn rfl ?_
  intro p e s m args below meth c s₁ B hml hv
  obtain ⟨rfl, hNW, hK, hP, hD0, hz, hs, hsz⟩ := hv
  have hts := atoms_spec (ws := .code M.1 M.2.1 M.2.2.1 M.2.2.2 :: gTbl) B.pre
  have hcc := cat1_of hc X.1 ρ
  have hll := lg_sl_len vs hcc
  have hl := lv_entry (vs.map (cv X.1 ρ)) (n := M.2.2.1) (by rw [hll]; exact hle)
  rw [lg_entry_eq]
  subst hsz
  refine he p l e _ s m _ below meth c _ (va_A (wd X ρ Z g) s.heap.size) ρ Z.length ⟨B.exec, B.bytes, hml, findClass_of_methodNamed B.named, fun w hw => hts w (List.mem_cons_of_mem _ hw), hNW, hK, B.returns, B.notSynchronized, (name_of_methodNamed B.named B.method).1, ⟨Nat.le_refl _, Nat.le_refl _, Nat.le_refl _, Nat.le_refl _⟩, fun q h => Or.inr h, fun h => absurd h hlaw, ?_⟩ s.heap [] ρ _ ⟨hP, hD0.self, va_S.rf, hz, ?_, fun v hv => (by cases hv), lv_mono hl ?_, ?_, ⟨Nat.le_refl _, fun _ _ => rfl⟩⟩
  · intro r Z' g' ρ' H' locs' k' n' pc' arr' hq hE hk hn ha
    obtain ⟨e1, e2, e3, e4, e5, e6⟩ := hE
    exact ret_W B.exec B.bytes B.returns B.notSynchronized hk hn ha (fun t ht hW => ⟨⟨r, Z', g', ρ', rfl, hq, by rw [ht]; exact e1, e2, e4, e5, e6⟩, e3.F ht⟩) e3.2.2
  · intro v hv
    rcases List.mem_append.mp hv with h | h
    · obtain ⟨w, hw, e⟩ := List.mem_map.mp h
      cases e
      exact hs v hw
    · rw [List.mem_replicate] at h
      cases h.2
  · intro q hq
    obtain ⟨v, h1, h2⟩ := mem_lcv.mp hq
    have := lv_args_in vs 0 hcc q.1 v (ent_ls h1)
    rw [Nat.zero_add] at this
    obtain ⟨a, b⟩ := q
    cases h2
    exact this
  · rw [List.length_append, List.length_map, List.length_replicate]
    omega
theorem cv_agr {b n n' : Nat} {ρ ρ' : Nat → Nat} (h : Agr ρ n ρ' n') {v : VV} (hv : wfv n v) : cv b ρ' v = cv b ρ v := by
  rcases v with x | x | _ | _ | x
  · rfl
  · rfl
  · rfl
  · rfl
  · show Value.ref (ρ' x) = Value.ref (ρ x)
    rw [h.2 x (Or.inl hv)]
theorem map_agr {b n n' : Nat} {ρ ρ' : Nat → Nat} (h : Agr ρ n ρ' n') {st : List VV} (hs : wfs n st) : st.map (cv b ρ') = st.map (cv b ρ) := List.map_congr_left fun v hv => cv_agr h (hs v hv)
theorem wfv_le {n n' : Nat} (h : n ≤ n') {v : VV} (hv : wfv n v) : wfv n' v := by
  rcases v with x | x | _ | _ | x
  · trivial
  · trivial
  · trivial
  · trivial
  · exact Nat.lt_of_lt_of_le hv h
theorem wd_A {X : CX} {ρ : Nat → Nat} {Z : List Sh} {g : Mem} {A : Nat → Prop} {H0 H : Heap} {locs : List Loc} (hD : va_D A (wd X ρ Z g)) (hS : va_S A H0 H locs) (hA : ∀ q : Nat, H0.size ≤ q → A q) : ∀ q, va_A (wd X ρ Z g) H.size q → A q := by
  intro q h
  rcases h with ⟨k, e, h⟩ | h
  · exact hD.2 k (q, e) h
  · exact hA q (Nat.le_trans hS.1 h)
section CallEnd
variable {X : CX} {d : Nat} {M : MI} {mc ms : Nat} {Q : Option VV → List Sh → Mem → Prop} {k n pc pc' mc' ms' : Nat} {ls : List (Option VV)} {st sta : List VV} {Z : List Sh} {g : Mem}
variable {p : Program} {l : Launch} {e : Env} {R : Room} {s : State} {m : MethodId} {args : Array Value} {below : List Frame} {meth : Method} {c : Code} {Qw : State → Prop} {A : Nat → Prop} {ρ0 : Nat → Nat} {n0 : Nat} {H : Heap} {locs : List Loc} {ρ : Nat → Nat} {arr : Array Slot} {st0 : List Value} {a : Array Value}
theorem call_end (S : RS X d M mc ms Q p l e R s m args below meth c Qw A ρ0 n0) (D : RD X s A ρ0 n0 M.2.2.1 H locs ρ arr ls sta Z g) (hst : wfs Z.length st) (hp : pc + 3 = pc')
    (hr : va_Run p l e R s m args below meth c H locs k n mc' ms' (F0 m pc arr st0) (st.map (cv X.1 ρ)) (QC X ρ Z g H.size (fun r Z' g' => AJ X d M mc ms Q (k + mc') (n + ms') pc' ls (r.toList ++ st) Z' g') a) (va_A (wd X ρ Z g) H.size)) : W p l e R s m args below meth c H locs k n Qw (F0 m pc arr st0) := by
  subst hp
  have hFA := wd_A D.D D.S S.hA
  intro T hT XX
  obtain ⟨v, st₀, t, T', L, h0, X', hL, e1, e2, ⟨⟨r, Z', g', ρ', hv, hq, hP, hD, hz, hs, hag⟩, hF⟩, stp⟩ := hr T hT XX
  obtain ⟨hz1, hk1⟩ := hF
  rw [h0] at hz1 hk1
  have hv' : v = r.map (cv X.1 ρ') := by injection hv
  subst hv'
  have hle : Z.length ≤ Z'.length := hag.1
  have elc : lcv X.1 ρ' ls = lcv X.1 ρ ls := by
    unfold lcv
    congr 1
    funext q
    cases hx : ls.getD q none with
    | none => rfl
    | some v =>
      have : some v ∈ ls := by
        rw [List.getD_eq_getElem?_getD] at hx
        cases h2 : ls[q]? with
        | none => rw [h2] at hx; cases hx
        | some w => rw [h2] at hx; cases hx; exact List.mem_of_getElem? h2
      show some (q, cv X.1 ρ' v) = some (q, cv X.1 ρ v)
      rw [cv_agr hag (D.o v this)]
  obtain ⟨t2, a1, b1⟩ := hq p l e R s m args below meth c Qw A ρ0 n0 S T'.heap (locs ++ L) ρ' arr ⟨by rw [e1]; exact hP, hD.weaken (fun _ q _ h => hFA q.1 h),
    ⟨Nat.le_trans D.S.1 (by rw [e1]; exact hz1), fun q h1 h2 => by rw [e1, hk1 q (Nat.lt_of_lt_of_le h1 D.S.1) (fun z => h2 (hFA q z))]; exact D.S.2.1 q h1 h2, fun q hq => by
      rcases List.mem_append.mp hq with h | h
      · exact D.S.2.2 q h
      · exact hFA _ (hL q h)⟩, hz, fun v hv => wfv_le hle (D.o v hv), fun v hv => by
      rcases List.mem_append.mp hv with h | h
      · exact hs v h
      · exact wfv_le hle (hst v h), by rw [elc]; exact D.l, D.n, ⟨Nat.le_trans D.ag.1 hle, fun j hj => by
      rcases hj with h | h
      · rw [hag.2 j (Or.inl (Nat.lt_of_lt_of_le h D.ag.1)), D.ag.2 j (Or.inl h)]
      · rw [hag.2 j (Or.inr h), D.ag.2 j (Or.inr (Nat.le_trans hle h))]⟩⟩ T' rfl X'
  refine ⟨t2, stp t2 ?_, b1⟩
  rw [List.map_append, map_agr hag hst] at a1
  have er : (r.map (cv X.1 ρ')).toList = r.toList.map (cv X.1 ρ') := by cases r <;> rfl
  show Steps p.tables e below (T'.setTop { method := m, pc := pc + 3, locals := arr, stack := (r.map (cv X.1 ρ')).toList ++ st.map (cv X.1 ρ), locked := none }) t2
  rw [er]
  exact a1
end CallEnd
/-- what the tables say of a method: its code, that it can be called; n: its parameters -/
def mB (M : MI) (n : Nat) : Prop := Cond.code M.1 M.2.1 M.2.2.1 M.2.2.2 ∈ gTbl ∧ Cond.initialized M.1.cls ∈ gTbl ∧ M.1.cls ≠ "java/lang/invoke/MethodHandle" ∧ M.1.cls ≠ "java/lang/invoke/VarHandle" ∧ (parseMethodDescriptor M.1.desc).map (fun d => d.parameters.length) = some n ∧ M.2.2.1 ≤ 40 ∧ M.1.name ≠ "law" ∧ plainName M.1.cls = true
def mV (M : MI) (n : Nat) : Prop := mB M n ∧ Cond.instanceMethod M.1 ∈ gTbl ∧ Cond.selects M.1.cls M.1 M.1 ∈ gTbl
def mS (M : MI) (n : Nat) : Prop := mB M n ∧ Cond.static M.1 ∈ gTbl
def mI (M : MI) (n : Nat) : Prop := mB M n ∧ Cond.instanceMethod M.1 ∈ gTbl ∧ M.1.name = "<init>"
theorem g_good : GoodIn gTbl gTbl := fun w hw => ⟨hw, good_of_word (List.mem_filter.mp hw).2⟩
theorem g_goodM {M : MI} (h : Cond.code M.1 M.2.1 M.2.2.1 M.2.2.2 ∈ gTbl) : GoodIn gTbl (.code M.1 M.2.1 M.2.2.1 M.2.2.2 :: gTbl) := fun w hw => by
  rcases List.mem_cons.mp hw with rfl | hw
  · exact g_good _ h
  · exact g_good _ hw
theorem NW.warm {s U : State} (hW : s.WarmedH U.vm) (h : NW s) : NW U := ⟨fun q hq => va_Nw.warmM hW (h.1 q hq), va_AO.moved hW.alike h.2.1, va_AO.moved hW.alike h.2.2⟩
theorem NW.same {U V : State} (h : U.vm = V.vm) (hn : NW U) : NW V := ⟨fun q hq => va_Nw.same rfl h (hn.1 q hq), va_AO.moved (by rw [h]; exact Vm.Alike.refl _) hn.2.1, va_AO.moved (by rw [h]; exact Vm.Alike.refl _) hn.2.2⟩
theorem PC_blind {X : CX} {ρ : Nat → Nat} {vs : List VV} {Z : List Sh} {g : Mem} {sz : Nat} {av : List Value} : FrameBlind (va_Pc av (PC X ρ vs Z g sz)) := by
  intro a U gf mk q
  obtain ⟨q0, q1, qK, qP, qD, qz, qs, qsz⟩ := q
  exact ⟨q0, q1.same rfl, va_K.moved (u := U) (U := U.calling gf mk a) (Vm.Alike.refl U.vm) qK, qP, qD, qz, qs, qsz⟩
theorem PC_at {X : CX} {s : State} {A : Nat → Prop} {ρ0 : Nat → Nat} {n0 nL : Nat} {H : Heap} {locs : List Loc} {ρ : Nat → Nat} {arr : Array Slot} {ls : List (Option VV)} {sta vs : List VV} {Z : List Sh} {g : Mem} (hn : NW s) (hK : va_K X.2.2.2.1 vwCl (tysX X) s) (D : RD X s A ρ0 n0 nL H locs ρ arr ls sta Z g) (hvs : wfs Z.length vs) (U : State) (hU : U.heap = H) (hW : s.WarmedH U.vm) : PC X ρ vs Z g H.size U :=
  ⟨hn.warm hW, va_K.moved hW.alike hK, by rw [hU]; exact D.P, D.D.weaken (fun _ _ _ _ => trivial), D.z, hvs, by rw [hU]⟩
theorem cat_le {b : Nat} {ρ : Nat → Nat} {st : List VV} (h : Nat.ble (st.map (fun v => match v with | .inr (.inl _) => 2 | _ => 1)).sum 8 = true) : ((st.map (cv b ρ)).map fun v => v.category).sum ≤ 8 := by
  have e : (st.map (cv b ρ)).map (fun v => v.category) = st.map (fun v => match v with | .inr (.inl _) => 2 | _ => 1) := by
    rw [List.map_map]
    refine List.map_congr_left fun v _ => ?_
    rcases v with x | x | _ | _ | x <;> rfl
  rw [e]
  exact Nat.le_of_ble_eq_true h
section CallRules
variable {X : CX} {d : Nat} {M M' : MI} {mc ms mc' ms' : Nat} {Q : Option VV → List Sh → Mem → Prop} {k n pc pc' : Nat} {ls : List (Option VV)} {st vs : List VV} {Z : List Sh} {g : Mem}
/-- a call on an object: the arguments vs behind the receiver i, the last on top -/
theorem r_cV {idx i c0 : Nat} {fs : List (Option (Option Nat))} (hd : decode M.2.1 pc = .ok (.invokevirtual idx, 3)) (hp : pc + 3 = pc') (hm : mV M' vs.length) (hl : Cond.methodLink M.1.cls idx M'.1 ∈ gTbl) (hz : Z[i]? = some (.inr (.inr (c0, fs)))) (hcn : (vwCl[c0]?).map (fun q => q.1) = some M'.1.cls) (hc : cat1 vs = true) (hle : vs.length < M'.2.2.1) (hw : Nat.ble (st.map (fun v => match v with | .inr (.inl _) => 2 | _ => 1)).sum 8 = true) (hk : k + mc' ≤ mc) (hn : n + ms' ≤ ms) {sta : List VV} (hs : sta = vs.reverse ++ vr i :: st)
    (he : Ent X d M' mc' ms' (vr i :: vs) Z g (fun r Z' g' => AJ X (d + 1) M mc ms Q (k + mc') (n + ms') pc' ls (r.toList ++ st) Z' g')) : AJ X (d + 1) M mc ms Q k n pc ls sta Z g := by
  intro p l e R s m args below meth c Qw A ρ0 n0 S H locs ρ arr D
  subst hs
  obtain ⟨⟨q1, q2, q3, q4, q5, q6, q7, q8⟩, q9, q10⟩ := hm
  obtain ⟨r1, r2, r3, r4⟩ := S.rm
  have wst : wfs Z.length st := fun v hv => D.sk v (List.mem_append_right _ (List.mem_cons_of_mem _ hv))
  have wvs : wfs Z.length (vr i :: vs) := fun v hv => by
    rcases List.mem_cons.mp hv with rfl | hv
    · exact D.sk _ (List.mem_append_right _ List.mem_cons_self)
    · exact D.sk v (List.mem_append_left _ (List.mem_reverse.mpr hv))
  obtain ⟨q, hq, hqn⟩ := Option.map_eq_some_iff.mp hcn
  have hrec := va_recv S.K D.P hq (wd_get hz)
  rw [hqn] at hrec
  have hM := met_of l he q8 q7 (by simpa [cat1] using hc) (by simp; omega) ρ H.size
  refine call_end (mc' := mc') (ms' := ms') S D wst hp (va_runV (As := vs.map (cv X.1 ρ)) (rest := st.map (cv X.1 ρ)) ⟨S.ex, S.co, S.ml, S.ow, S.ts⟩ hM (C := M'.1.cls) ⟨callB_of (bytes := M'.2.1) (maxL := M'.2.2.1) (ret := M'.2.2.2) vs.length S.ts (g_goodM q1) rfl rfl rfl (S.ts _ q2) (S.ts _ hl) ⟨q3, q4, q5⟩ ⟨by show d + 1 ≤ _; omega, by show 8 + (M'.2.2.1 + 11) + 64 * d ≤ _; omega⟩, S.ts _ q9, S.ts _ q10⟩ ⟨PC_blind, hrec, fun U hU hW => ⟨rfl, PC_at S.nw S.K D wvs U hU hW⟩⟩ rfl (by rw [List.length_map]) (by rw [← S.ml]; exact D.l.1.trans S.ml.symm) ?_ (lv_room (cat_le hw)) hd ⟨by omega, by omega⟩)
  show List.map (cv X.1 ρ) (vs.reverse ++ vr i :: st) = _
  rw [List.map_append, List.map_reverse]
  rfl
/-- a static call, of the class itself or of another -/
theorem r_cS {idx : Nat} (hd : decode M.2.1 pc = .ok (.invokestatic idx, 3)) (hp : pc + 3 = pc') (hm : mS M' vs.length) (hl : Cond.methodLink M.1.cls idx M'.1 ∈ gTbl) (hc : cat1 vs = true) (hle : vs.length ≤ M'.2.2.1) (hw : Nat.ble (st.map (fun v => match v with | .inr (.inl _) => 2 | _ => 1)).sum 8 = true) (hk : k + mc' ≤ mc) (hn : n + ms' ≤ ms) {sta : List VV} (hs : sta = vs.reverse ++ st)
    (he : Ent X d M' mc' ms' vs Z g (fun r Z' g' => AJ X (d + 1) M mc ms Q (k + mc') (n + ms') pc' ls (r.toList ++ st) Z' g')) : AJ X (d + 1) M mc ms Q k n pc ls sta Z g := by
  intro p l e R s m args below meth c Qw A ρ0 n0 S H locs ρ arr D
  subst hs
  obtain ⟨⟨q1, q2, q3, q4, q5, q6, q7, q8⟩, q9⟩ := hm
  obtain ⟨r1, r2, r3, r4⟩ := S.rm
  have wst : wfs Z.length st := fun v hv => D.sk v (List.mem_append_right _ hv)
  have wvs : wfs Z.length vs := fun v hv => D.sk v (List.mem_append_left _ (List.mem_reverse.mpr hv))
  have hM := met_of l he q8 q7 hc hle ρ H.size
  refine call_end (mc' := mc') (ms' := ms') S D wst hp (va_runS (As := vs.map (cv X.1 ρ)) (rest := st.map (cv X.1 ρ)) ⟨S.ex, S.co, S.ml, S.ow, S.ts⟩ hM ⟨callB_of (bytes := M'.2.1) (maxL := M'.2.2.1) (ret := M'.2.2.2) vs.length S.ts (g_goodM q1) rfl rfl rfl (S.ts _ q2) (S.ts _ hl) ⟨q3, q4, q5⟩ ⟨by show d + 1 ≤ _; omega, by show 8 + (M'.2.2.1 + 11) + 64 * d ≤ _; omega⟩, S.ts _ q9⟩ ⟨PC_blind, fun U hU hW => ⟨rfl, PC_at S.nw S.K D wvs U hU hW⟩⟩ rfl (by rw [List.length_map]) (by rw [← S.ml]; exact D.l.1.trans S.ml.symm) ?_ (lv_room (cat_le hw)) hd ⟨by omega, by omega⟩)
  show List.map (cv X.1 ρ) (vs.reverse ++ st) = _
  rw [List.map_append, List.map_reverse]
/-- a static call of a nest mate's private method -/
theorem r_cSN {idx : Nat} {host : String} (hd : decode M.2.1 pc = .ok (.invokestatic idx, 3)) (hp : pc + 3 = pc') (hm : mS M' vs.length) (hl : (M.1.cls, idx, M'.1, host) ∈ nTbl) (hc : cat1 vs = true) (hle : vs.length ≤ M'.2.2.1) (hw : Nat.ble (st.map (fun v => match v with | .inr (.inl _) => 2 | _ => 1)).sum 8 = true) (hk : k + mc' ≤ mc) (hn : n + ms' ≤ ms) {sta : List VV} (hs : sta = vs.reverse ++ st)
    (he : Ent X d M' mc' ms' vs Z g (fun r Z' g' => AJ X (d + 1) M mc ms Q (k + mc') (n + ms') pc' ls (r.toList ++ st) Z' g')) : AJ X (d + 1) M mc ms Q k n pc ls sta Z g := by
  intro p l e R s m args below meth c Qw A ρ0 n0 S H locs ρ arr D
  subst hs
  obtain ⟨⟨q1, q2, q3, q4, q5, q6, q7, q8⟩, q9⟩ := hm
  obtain ⟨r1, r2, r3, r4⟩ := S.rm
  have wst : wfs Z.length st := fun v hv => D.sk v (List.mem_append_right _ hv)
  have wvs : wfs Z.length vs := fun v hv => D.sk v (List.mem_append_left _ (List.mem_reverse.mpr hv))
  have hM := met_of l he q8 q7 hc hle ρ H.size
  refine call_end (mc' := mc') (ms' := ms') S D wst hp (va_runSN (As := vs.map (cv X.1 ρ)) (rest := st.map (cv X.1 ρ)) ⟨S.ex, S.co, S.ml, S.ow, S.ts⟩ hM ⟨va_cnB (bytes := M'.2.1) (maxL := M'.2.2.1) (ret := M'.2.2.2) vs.length S.ts (g_goodM q1) rfl rfl rfl (S.nw.1 _ hl) (S.ts _ q2) ⟨q3, q4, q5⟩ ⟨by show d + 1 ≤ _; omega, by show 8 + (M'.2.2.1 + 11) + 64 * d ≤ _; omega⟩, S.ts _ q9, trivial⟩ ⟨PC_blind, fun U hU hW => ⟨rfl, PC_at S.nw S.K D wvs U hU hW⟩⟩ rfl (by rw [List.length_map]) (by rw [← S.ml]; exact D.l.1.trans S.ml.symm) ?_ (lv_room (cat_le hw)) hd ⟨by omega, by omega⟩)
  show List.map (cv X.1 ρ) (vs.reverse ++ st) = _
  rw [List.map_append, List.map_reverse]
/-- a constructor, of a nest mate -/
theorem r_cIN {idx i : Nat} {host : String} (hd : decode M.2.1 pc = .ok (.invokespecial idx, 3)) (hp : pc + 3 = pc') (hm : mI M' 0) (hl : (M.1.cls, idx, M'.1, host) ∈ nTbl) (hle : 0 < M'.2.2.1) (hr : M'.2.2.2 = none) (hw : Nat.ble (st.map (fun v => match v with | .inr (.inl _) => 2 | _ => 1)).sum 8 = true) (hk : k + mc' ≤ mc) (hn : n + ms' ≤ ms)
    (he : Ent X d M' mc' ms' [vr i] Z g (fun r Z' g' => AJ X (d + 1) M mc ms Q (k + mc') (n + ms') pc' ls (r.toList ++ st) Z' g')) : AJ X (d + 1) M mc ms Q k n pc ls (vr i :: st) Z g := by
  intro p l e R s m args below meth c Qw A ρ0 n0 S H locs ρ arr D
  obtain ⟨y, cc, mL, rt⟩ := M'
  have hr' : rt = none := hr
  subst hr'
  obtain ⟨⟨q1, q2, q3, q4, q5, q6, q7, q8⟩, q9, q10⟩ := hm
  dsimp only at q1 q2 q3 q4 q5 q6 q7 q8 q9 q10 hl hle he
  obtain ⟨r1, r2, r3, r4⟩ := S.rm
  have wst : wfs Z.length st := wfs_t D.sk
  have wvs : wfs Z.length [vr i] := fun v hv => by rw [List.mem_singleton.mp hv]; exact wfs_h D.sk
  have hM := met_of l he q8 q7 rfl hle ρ H.size
  exact call_end (mc' := mc') (ms' := ms') S D wst hp (va_runIN (As := []) (rest := st.map (cv X.1 ρ)) ⟨S.ex, S.co, S.ml, S.ow, S.ts⟩ hM ⟨va_cnB (bytes := cc) (maxL := mL) (ret := none) 0 S.ts (g_goodM (M := (y, cc, mL, none)) q1) rfl rfl rfl (S.nw.1 _ hl) (S.ts _ q2) ⟨q3, q4, q5⟩ ⟨by show d + 1 ≤ _; omega, by show 8 + (mL + 11) + 64 * d ≤ _; omega⟩, q10, S.ts _ q9⟩ ⟨PC_blind, fun U hU hW => ⟨rfl, PC_at S.nw S.K D wvs U hU hW⟩⟩ rfl rfl (by rw [← S.ml]; exact D.l.1.trans S.ml.symm) rfl (lv_room (cat_le hw)) hd ⟨by omega, by omega⟩)
/-- a constructor, by an ordinary link -/
theorem r_cI {idx i : Nat} (hd : decode M.2.1 pc = .ok (.invokespecial idx, 3)) (hp : pc + 3 = pc') (hm : mI M' 0) (hl : Cond.methodLink M.1.cls idx M'.1 ∈ gTbl) (hle : 0 < M'.2.2.1) (hr : M'.2.2.2 = none) (hw : Nat.ble (st.map (fun v => match v with | .inr (.inl _) => 2 | _ => 1)).sum 8 = true) (hk : k + mc' ≤ mc) (hn : n + ms' ≤ ms)
    (he : Ent X d M' mc' ms' [vr i] Z g (fun r Z' g' => AJ X (d + 1) M mc ms Q (k + mc') (n + ms') pc' ls (r.toList ++ st) Z' g')) : AJ X (d + 1) M mc ms Q k n pc ls (vr i :: st) Z g := by
  intro p l e R s m args below meth c Qw A ρ0 n0 S H locs ρ arr D
  obtain ⟨y, cc, mL, rt⟩ := M'
  have hr' : rt = none := hr
  subst hr'
  obtain ⟨⟨q1, q2, q3, q4, q5, q6, q7, q8⟩, q9, q10⟩ := hm
  dsimp only at q1 q2 q3 q4 q5 q6 q7 q8 q9 q10 hl hle he
  obtain ⟨r1, r2, r3, r4⟩ := S.rm
  have wst : wfs Z.length st := wfs_t D.sk
  have wvs : wfs Z.length [vr i] := fun v hv => by rw [List.mem_singleton.mp hv]; exact wfs_h D.sk
  have hM := met_of l he q8 q7 rfl hle ρ H.size
  exact call_end (mc' := mc') (ms' := ms') S D wst hp (va_runI (As := []) (rest := st.map (cv X.1 ρ)) ⟨S.ex, S.co, S.ml, S.ow, S.ts⟩ hM ⟨callB_of (bytes := cc) (maxL := mL) (ret := none) 0 S.ts (g_goodM (M := (y, cc, mL, none)) q1) rfl rfl rfl (S.ts _ q2) (S.ts _ hl) ⟨q3, q4, q5⟩ ⟨by show d + 1 ≤ _; omega, by show 8 + (mL + 11) + 64 * d ≤ _; omega⟩, q10, S.ts _ q9⟩ ⟨PC_blind, fun U hU hW => ⟨rfl, PC_at S.nw S.K D wvs U hU hW⟩⟩ rfl rfl (by rw [← S.ml]; exact D.l.1.trans S.ml.symm) rfl (lv_room (cat_le hw)) hd ⟨by omega, by omega⟩)
end CallRules
end
